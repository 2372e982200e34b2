section GAME
variable {d : Nat} {h : zr_H} {Q : zr_K} {A : Nat → Nat} {R S g : Nat} {b w : Int64} {P : List (Int64 × Int64)} {I : Nat → Int32}
def ltr (b w : Int64) (I : Nat → Int32) (p : Nat) : Int32 := if nI p = I 7 then 120 else if co b w p = 1 then 98 else if co b w p = 2 then 119 else 111
theorem k_ltr (v : vM h A R S b w P I g) {p : Nat} (hp : p < R * S) (hQ : Q (.inl (some (.int (ltr b w I p)))) h) : zr_E (d + 2) 34 [.ref (A 0), .int (nI p)] h Q := by
  obtain ⟨hM, hB, hG, hg, -⟩ := id v
  have hn := g_n hg
  have n1 : narrow .char (.int 120) = .int 120 := by rfl
  have n2 : narrow .char (.int 98) = .int 98 := by rfl
  have n3 : narrow .char (.int 119) = .int 119 := by rfl
  have n4 : narrow .char (.int 111) = .int 111 := by rfl
  unfold ltr at hQ
  rw [ze_34]
  simp only [zs_34_0, zs_34_1, zs_34_1u, zs_34_2, zs_34_5, zs_34_8, zs_34_10, zs_34_11, zs_34_11u, zs_34_12, zs_34_15, zs_34_16, zt_34_16, zs_34_19_1, zs_34_19_2, zs_34_19, zs_34_44, zs_34_46, zs_34_47, zs_34_49, zs_34_50, zs_34_52, zc_isO, zr_fld_mk, zc_isA, zc_len, zr_elt_mk, zr_kill_i, zr_kill_l, zr_kill_r, zr_kill_u, zr_kill_f, zr_kill_n, zc_cat, zr_cat_i, zr_cat_l, zr_cat_r, zr_cat_f, zr_cat_d, zr_cat_u, beq_self_eq_true, Nat.zero_le, Nat.le_refl, Nat.reduceSub, Nat.reduceAdd, Nat.reduceLeDiff, csl_f, csr_f, cn_f, lg_cmp_eq, lg_cmp_le, lg_cmp_lt, lg_cmp_ge, lg_cmp_gt, nI_1, zr_up_self, zp_O, zr_fup_self, zr_fup_ne, ne_eq, Nat.reduceEqDiff, not_false_eq_true, pk_mul, hM, zm_I, zm_0, zm_7, hB, zb_O, n1]
  refine ⟨fun z => ?_, fun z => ?_⟩
  · rw [if_neg z] at hQ
    refine k_co hB (by omega) ?_
    have hc : co b w p = 0 ∨ co b w p = 1 ∨ co b w p = 2 := by unfold co; split; exact Or.inr (Or.inl rfl); split; exact Or.inr (Or.inr rfl); exact Or.inl rfl
    rcases hc with e | e | e
    · rw [e] at hQ ⊢
      rw [show nI 0 = 0 from rfl]
      have x0 : Op.lookupswitch.offset [(1, 25), (2, 28)] (31) (0 : Int32).toInt = 31 := by decide
      simp only [zs_34_0, zs_34_1, zs_34_1u, zs_34_2, zs_34_5, zs_34_8, zs_34_10, zs_34_11, zs_34_11u, zs_34_12, zs_34_15, zs_34_16, zt_34_16, zs_34_19_1, zs_34_19_2, zs_34_19, zs_34_44, zs_34_46, zs_34_47, zs_34_49, zs_34_50, zs_34_52, zc_isO, zr_fld_mk, zc_isA, zc_len, zr_elt_mk, zr_kill_i, zr_kill_l, zr_kill_r, zr_kill_u, zr_kill_f, zr_kill_n, zc_cat, zr_cat_i, zr_cat_l, zr_cat_r, zr_cat_f, zr_cat_d, zr_cat_u, beq_self_eq_true, Nat.zero_le, Nat.le_refl, Nat.reduceSub, Nat.reduceAdd, Nat.reduceLeDiff, csl_f, csr_f, cn_f, lg_cmp_eq, lg_cmp_le, lg_cmp_lt, lg_cmp_ge, lg_cmp_gt, nI_1, zr_up_self, zp_O, zr_fup_self, zr_fup_ne, ne_eq, Nat.reduceEqDiff, not_false_eq_true, pk_mul, n1, n2, n3, n4, x0]
      exact hQ
    · rw [e] at hQ ⊢
      rw [show nI 1 = 1 from rfl]
      simp only [zs_34_0, zs_34_1, zs_34_1u, zs_34_2, zs_34_5, zs_34_8, zs_34_10, zs_34_11, zs_34_11u, zs_34_12, zs_34_15, zs_34_16, zt_34_16, zs_34_19_1, zs_34_19_2, zs_34_19, zs_34_44, zs_34_46, zs_34_47, zs_34_49, zs_34_50, zs_34_52, zc_isO, zr_fld_mk, zc_isA, zc_len, zr_elt_mk, zr_kill_i, zr_kill_l, zr_kill_r, zr_kill_u, zr_kill_f, zr_kill_n, zc_cat, zr_cat_i, zr_cat_l, zr_cat_r, zr_cat_f, zr_cat_d, zr_cat_u, beq_self_eq_true, Nat.zero_le, Nat.le_refl, Nat.reduceSub, Nat.reduceAdd, Nat.reduceLeDiff, csl_f, csr_f, cn_f, lg_cmp_eq, lg_cmp_le, lg_cmp_lt, lg_cmp_ge, lg_cmp_gt, nI_1, zr_up_self, zp_O, zr_fup_self, zr_fup_ne, ne_eq, Nat.reduceEqDiff, not_false_eq_true, pk_mul, n1, n2, n3, n4]
      exact hQ
    · rw [e] at hQ ⊢
      rw [show nI 2 = 2 from rfl]
      simp only [zs_34_0, zs_34_1, zs_34_1u, zs_34_2, zs_34_5, zs_34_8, zs_34_10, zs_34_11, zs_34_11u, zs_34_12, zs_34_15, zs_34_16, zt_34_16, zs_34_19_1, zs_34_19_2, zs_34_19, zs_34_44, zs_34_46, zs_34_47, zs_34_49, zs_34_50, zs_34_52, zc_isO, zr_fld_mk, zc_isA, zc_len, zr_elt_mk, zr_kill_i, zr_kill_l, zr_kill_r, zr_kill_u, zr_kill_f, zr_kill_n, zc_cat, zr_cat_i, zr_cat_l, zr_cat_r, zr_cat_f, zr_cat_d, zr_cat_u, beq_self_eq_true, Nat.zero_le, Nat.le_refl, Nat.reduceSub, Nat.reduceAdd, Nat.reduceLeDiff, csl_f, csr_f, cn_f, lg_cmp_eq, lg_cmp_le, lg_cmp_lt, lg_cmp_ge, lg_cmp_gt, nI_1, zr_up_self, zp_O, zr_fup_self, zr_fup_ne, ne_eq, Nat.reduceEqDiff, not_false_eq_true, pk_mul, n1, n2, n3, n4]
      exact hQ
  · rw [if_pos z] at hQ
    exact hQ
theorem k_bnew {q g : Nat} (hp : h q = some (zr_dfl 0)) (hG : h g = some (zg R S)) (hQ : Q (.inl none) (zr_up h q (zbd g 0 0))) : zr_E (d + 1) 0 [.ref q, .ref g] h Q := by
  rw [dfl_eq] at hp
  rw [ze_0]
  simp only [zs_0_0, zs_0_0u, zs_0_1, zs_0_4, zs_0_4u, zs_0_5, zs_0_5u, zs_0_6, zs_0_10, zs_0_11, zs_0_14, zs_0_14u, zs_0_15, zs_0_16, zs_0_19, zc_isO, zr_fld_mk, zc_isA, zc_len, zr_elt_mk, zr_kill_i, zr_kill_l, zr_kill_r, zr_kill_u, zr_kill_f, zr_kill_n, zc_cat, zr_cat_i, zr_cat_l, zr_cat_r, zr_cat_f, zr_cat_d, zr_cat_u, beq_self_eq_true, Nat.zero_le, Nat.le_refl, Nat.reduceSub, Nat.reduceAdd, Nat.reduceLeDiff, csl_f, csr_f, cn_f, lg_cmp_eq, lg_cmp_le, lg_cmp_lt, lg_cmp_ge, lg_cmp_gt, nI_1, zr_up_self, zp_O, zr_fup_self, zr_fup_ne, ne_eq, Nat.reduceEqDiff, not_false_eq_true, pk_mul, hp, hG, zg_O]
  rw [zr_putO_mk hp]
  simp only [zs_0_0, zs_0_0u, zs_0_1, zs_0_4, zs_0_4u, zs_0_5, zs_0_5u, zs_0_6, zs_0_9, zs_0_9u, zs_0_10, zs_0_11, zs_0_14, zs_0_14u, zs_0_15, zs_0_16, zs_0_19, zc_isO, zr_fld_mk, zc_isA, zc_len, zr_elt_mk, zr_kill_i, zr_kill_l, zr_kill_r, zr_kill_u, zr_kill_f, zr_kill_n, zc_cat, zr_cat_i, zr_cat_l, zr_cat_r, zr_cat_f, zr_cat_d, zr_cat_u, beq_self_eq_true, Nat.zero_le, Nat.le_refl, Nat.reduceSub, Nat.reduceAdd, Nat.reduceLeDiff, csl_f, csr_f, cn_f, lg_cmp_eq, lg_cmp_le, lg_cmp_lt, lg_cmp_ge, lg_cmp_gt, nI_1, zr_up_self, zp_O, zr_fup_self, zr_fup_ne, ne_eq, Nat.reduceEqDiff, not_false_eq_true, pk_mul]
  have e : (Sum.inl (0, zr_fup (zr_fup (zr_fup (dv 0) 0 (.ref g)) 1 (.long 0)) 2 (.long 0)) : zr_C) = zbd g 0 0 := by
    unfold zbd
    congr 2
    funext k
    match k with
    | 0 => rfl
    | 1 => rfl
    | 2 => rfl
    | k + 3 => simp [zr_fup, zbV]
  rw [e]
  exact hQ
def inI : Nat → Int32 := fun k => if k = 2 then 1 else if k = 7 then -1 else 0
theorem zm_dv {ib ip : Nat} {J : Nat → Int32} {V : Nat → Value} (h0 : V 0 = .ref ib) (h1 : V 1 = .ref ip) (h2 : ∀ k, 2 ≤ k → k ≤ 9 → V k = .int (J k)) (h3 : ∀ k, 10 ≤ k → V k = dv 1 k) : (Sum.inl (1, V) : zr_C) = zgm ib ip J := by
  unfold zgm
  congr 2
  funext k
  match k with
  | 0 => exact h0
  | 1 => exact h1
  | 2 => exact h2 2 (by omega) (by omega)
  | 3 => exact h2 3 (by omega) (by omega)
  | 4 => exact h2 4 (by omega) (by omega)
  | 5 => exact h2 5 (by omega) (by omega)
  | 6 => exact h2 6 (by omega) (by omega)
  | 7 => exact h2 7 (by omega) (by omega)
  | 8 => exact h2 8 (by omega) (by omega)
  | 9 => exact h2 9 (by omega) (by omega)
  | k + 10 => exact h3 (k + 10) (by omega)
/-- a new game -/
theorem k_gnew {q : Nat} (hq : h q = some (zr_dfl 1)) (hQ : ∀ (A : Nat → Nat) (g : Nat) (h' : zr_H), A 0 = q → (∀ i, 1 ≤ i → i < 5 → h (A i) = none) → h g = none → fx (g :: xA A) h h' → vM h' A 1 3 0 0 [(0, 0)] (bgI (fI (fI (fI (fun _ => 0) 2 1) 8 0) 9 0)) g → Q (.inl none) h') : zr_E (d + 5) 26 [.ref q] h Q := by
  rw [dfl_eq] at hq
  rw [ze_26]
  simp only [zs_26_0, zs_26_0u, zs_26_1, zs_26_4, zs_26_4u, zs_26_8, zs_26_8i, zs_26_12, zs_26_12i, zs_26_13, zs_26_14, zs_26_15, zt_26_15, zs_26_18, zt_26_18, zs_26_21, zs_26_24, zs_26_24u, zs_26_28, zs_26_28i, zs_26_29, zt_26_29, zs_26_32, zs_26_35, zs_26_35u, zs_26_36, zs_26_37, zs_26_40, zs_26_40u, zs_26_41, zs_26_42, zs_26_45, zs_26_45u, zs_26_46, zs_26_47, zs_26_50, zs_26_50u, zs_26_51, zs_26_51u, zs_26_52, zs_26_55, zs_26_58, zs_26_59, zs_26_60, zt_26_60, zs_26_63, zc_isO, zr_fld_mk, zc_isA, zc_len, zr_elt_mk, zr_kill_i, zr_kill_l, zr_kill_r, zr_kill_u, zr_kill_f, zr_kill_n, zc_cat, zr_cat_i, zr_cat_l, zr_cat_r, zr_cat_f, zr_cat_d, zr_cat_u, beq_self_eq_true, Nat.zero_le, Nat.le_refl, Nat.reduceSub, Nat.reduceAdd, Nat.reduceLeDiff, csl_f, csr_f, cn_f, lg_cmp_eq, lg_cmp_le, lg_cmp_lt, lg_cmp_ge, lg_cmp_gt, nI_1, zr_up_self, zp_O, zr_fup_self, zr_fup_ne, ne_eq, Nat.reduceEqDiff, not_false_eq_true, pk_mul, hq]
  refine zs_26_5 (by decide) (by decide) (fun ib h1 => ?_)
  rw [dfl_eq]
  have n1 : q ≠ ib := fun e => by rw [e, h1] at hq; cases hq
  have q1 : zr_up h ib (.inl (0, dv 0)) q = some (.inl (1, dv 1)) := by rw [zr_up_ne _ _ n1]; exact hq
  have b1 : zr_up h ib (.inl (0, dv 0)) ib = some (.inl (0, dv 0)) := zr_up_self _ _ _
  have f1 : fx [ib] h (zr_up h ib (.inl (0, dv 0))) := fx_up (by simp)
  generalize zr_up h ib (.inl (0, dv 0)) = h2 at q1 b1 f1 ⊢
  simp only [zs_26_0, zs_26_0u, zs_26_1, zs_26_4, zs_26_4u, zs_26_8, zs_26_8i, zs_26_12, zs_26_12i, zs_26_13, zs_26_14, zs_26_15, zt_26_15, zs_26_18, zt_26_18, zs_26_21, zs_26_24, zs_26_24u, zs_26_28, zs_26_28i, zs_26_29, zt_26_29, zs_26_32, zs_26_35, zs_26_35u, zs_26_36, zs_26_37, zs_26_40, zs_26_40u, zs_26_41, zs_26_42, zs_26_45, zs_26_45u, zs_26_46, zs_26_47, zs_26_50, zs_26_50u, zs_26_51, zs_26_51u, zs_26_52, zs_26_55, zs_26_58, zs_26_59, zs_26_60, zt_26_60, zs_26_63, zc_isO, zr_fld_mk, zc_isA, zc_len, zr_elt_mk, zr_kill_i, zr_kill_l, zr_kill_r, zr_kill_u, zr_kill_f, zr_kill_n, zc_cat, zr_cat_i, zr_cat_l, zr_cat_r, zr_cat_f, zr_cat_d, zr_cat_u, beq_self_eq_true, Nat.zero_le, Nat.le_refl, Nat.reduceSub, Nat.reduceAdd, Nat.reduceLeDiff, csl_f, csr_f, cn_f, lg_cmp_eq, lg_cmp_le, lg_cmp_lt, lg_cmp_ge, lg_cmp_gt, nI_1, zr_up_self, zp_O, zr_fup_self, zr_fup_ne, ne_eq, Nat.reduceEqDiff, not_false_eq_true, pk_mul]
  refine zs_26_9 (by decide) (by decide) (fun g h3 => ?_)
  rw [dfl_eq]
  have n2 : q ≠ g := fun e => by rw [e, h3] at q1; cases q1
  have n3 : ib ≠ g := fun e => by rw [e, h3] at b1; cases b1
  have g0 : h g = none := by rw [← f1 g (by simp; exact Ne.symm n3)]; exact h3
  have q2 : zr_up h2 g (.inl (2, dv 2)) q = some (.inl (1, dv 1)) := by rw [zr_up_ne _ _ n2]; exact q1
  have b2 : zr_up h2 g (.inl (2, dv 2)) ib = some (.inl (0, dv 0)) := by rw [zr_up_ne _ _ n3]; exact b1
  have g2 : zr_up h2 g (.inl (2, dv 2)) g = some (zr_dfl 2) := zr_up_self _ _ _
  have f2 : fx [ib, g] h (zr_up h2 g (.inl (2, dv 2))) := fx_trans (fx_sub f1 (by simp)) (fx_up (by simp))
  generalize zr_up h2 g (.inl (2, dv 2)) = h4 at q2 b2 g2 f2 ⊢
  simp only [zs_26_0, zs_26_0u, zs_26_1, zs_26_4, zs_26_4u, zs_26_8, zs_26_8i, zs_26_12, zs_26_12i, zs_26_13, zs_26_14, zs_26_15, zt_26_15, zs_26_21, zs_26_24, zs_26_24u, zs_26_28, zs_26_28i, zs_26_29, zt_26_29, zs_26_32, zs_26_35, zs_26_35u, zs_26_36, zs_26_37, zs_26_40, zs_26_40u, zs_26_41, zs_26_42, zs_26_45, zs_26_45u, zs_26_46, zs_26_47, zs_26_50, zs_26_50u, zs_26_51, zs_26_51u, zs_26_52, zs_26_55, zs_26_58, zs_26_59, zs_26_60, zt_26_60, zs_26_63, zc_isO, zr_fld_mk, zc_isA, zc_len, zr_elt_mk, zr_kill_i, zr_kill_l, zr_kill_r, zr_kill_u, zr_kill_f, zr_kill_n, zc_cat, zr_cat_i, zr_cat_l, zr_cat_r, zr_cat_f, zr_cat_d, zr_cat_u, beq_self_eq_true, Nat.zero_le, Nat.le_refl, Nat.reduceSub, Nat.reduceAdd, Nat.reduceLeDiff, csl_f, csr_f, cn_f, lg_cmp_eq, lg_cmp_le, lg_cmp_lt, lg_cmp_ge, lg_cmp_gt, nI_1, zr_up_self, zp_O, zr_fup_self, zr_fup_ne, ne_eq, Nat.reduceEqDiff, not_false_eq_true, pk_mul]
  refine k_grid (R := 1) (S := 3) (d := d + 3) ⟨⟨by omega, by omega⟩, by omega, by omega⟩ g2 ?_
  have q3 : zr_up h4 g (zg 1 3) q = some (.inl (1, dv 1)) := by rw [zr_up_ne _ _ n2]; exact q2
  have b3 : zr_up h4 g (zg 1 3) ib = some (zr_dfl 0) := by rw [zr_up_ne _ _ n3]; exact b2
  have g3 : zr_up h4 g (zg 1 3) g = some (zg 1 3) := zr_up_self _ _ _
  have f3 : fx [ib, g] h (zr_up h4 g (zg 1 3)) := fx_trans f2 (fx_up (by simp))
  generalize zr_up h4 g (zg 1 3) = h5 at q3 b3 g3 f3 ⊢
  simp only [zs_26_0, zs_26_0u, zs_26_1, zs_26_4, zs_26_4u, zs_26_8, zs_26_8i, zs_26_12, zs_26_12i, zs_26_13, zs_26_14, zs_26_15, zt_26_15, zs_26_18, zt_26_18, zs_26_24, zs_26_24u, zs_26_28, zs_26_28i, zs_26_29, zt_26_29, zs_26_32, zs_26_35, zs_26_35u, zs_26_36, zs_26_37, zs_26_40, zs_26_40u, zs_26_41, zs_26_42, zs_26_45, zs_26_45u, zs_26_46, zs_26_47, zs_26_50, zs_26_50u, zs_26_51, zs_26_51u, zs_26_52, zs_26_55, zs_26_58, zs_26_59, zs_26_60, zt_26_60, zs_26_63, zc_isO, zr_fld_mk, zc_isA, zc_len, zr_elt_mk, zr_kill_i, zr_kill_l, zr_kill_r, zr_kill_u, zr_kill_f, zr_kill_n, zc_cat, zr_cat_i, zr_cat_l, zr_cat_r, zr_cat_f, zr_cat_d, zr_cat_u, beq_self_eq_true, Nat.zero_le, Nat.le_refl, Nat.reduceSub, Nat.reduceAdd, Nat.reduceLeDiff, csl_f, csr_f, cn_f, lg_cmp_eq, lg_cmp_le, lg_cmp_lt, lg_cmp_ge, lg_cmp_gt, nI_1, zr_up_self, zp_O, zr_fup_self, zr_fup_ne, ne_eq, Nat.reduceEqDiff, not_false_eq_true, pk_mul]
  refine k_bnew (d := d + 3) b3 g3 ?_
  have q4 : zr_up h5 ib (zbd g 0 0) q = some (.inl (1, dv 1)) := by rw [zr_up_ne _ _ n1]; exact q3
  have b4 : zr_up h5 ib (zbd g 0 0) ib = some (zbd g 0 0) := zr_up_self _ _ _
  have g4 : zr_up h5 ib (zbd g 0 0) g = some (zg 1 3) := by rw [zr_up_ne _ _ (Ne.symm n3)]; exact g3
  have f4 : fx [ib, g] h (zr_up h5 ib (zbd g 0 0)) := fx_trans f3 (fx_up (by simp))
  generalize zr_up h5 ib (zbd g 0 0) = h6 at q4 b4 g4 f4 ⊢
  simp only [zs_26_0, zs_26_0u, zs_26_1, zs_26_4, zs_26_4u, zs_26_8, zs_26_8i, zs_26_12, zs_26_12i, zs_26_13, zs_26_14, zs_26_15, zt_26_15, zs_26_18, zt_26_18, zs_26_21, zs_26_28, zs_26_28i, zs_26_29, zt_26_29, zs_26_32, zs_26_35, zs_26_35u, zs_26_36, zs_26_37, zs_26_40, zs_26_40u, zs_26_41, zs_26_42, zs_26_45, zs_26_45u, zs_26_46, zs_26_47, zs_26_50, zs_26_50u, zs_26_51, zs_26_51u, zs_26_52, zs_26_55, zs_26_58, zs_26_59, zs_26_60, zt_26_60, zs_26_63, zc_isO, zr_fld_mk, zc_isA, zc_len, zr_elt_mk, zr_kill_i, zr_kill_l, zr_kill_r, zr_kill_u, zr_kill_f, zr_kill_n, zc_cat, zr_cat_i, zr_cat_l, zr_cat_r, zr_cat_f, zr_cat_d, zr_cat_u, beq_self_eq_true, Nat.zero_le, Nat.le_refl, Nat.reduceSub, Nat.reduceAdd, Nat.reduceLeDiff, csl_f, csr_f, cn_f, lg_cmp_eq, lg_cmp_le, lg_cmp_lt, lg_cmp_ge, lg_cmp_gt, nI_1, zr_up_self, zp_O, zr_fup_self, zr_fup_ne, ne_eq, Nat.reduceEqDiff, not_false_eq_true, pk_mul, q4, b4, zb_O]
  rw [zr_putO_mk q4]
  have q5 : zr_up h6 q (.inl (1, zr_fup (dv 1) 0 (.ref ib))) q = some (.inl (1, zr_fup (dv 1) 0 (.ref ib))) := zr_up_self _ _ _
  have b5 : zr_up h6 q (.inl (1, zr_fup (dv 1) 0 (.ref ib))) ib = some (zbd g 0 0) := by rw [zr_up_ne _ _ (Ne.symm n1)]; exact b4
  have g5 : zr_up h6 q (.inl (1, zr_fup (dv 1) 0 (.ref ib))) g = some (zg 1 3) := by rw [zr_up_ne _ _ (Ne.symm n2)]; exact g4
  have f5 : fx [q, ib, g] h (zr_up h6 q (.inl (1, zr_fup (dv 1) 0 (.ref ib)))) := fx_trans (fx_sub f4 (fun j hj => List.mem_cons_of_mem _ hj)) (fx_up (by simp))
  generalize zr_up h6 q (.inl (1, zr_fup (dv 1) 0 (.ref ib))) = h7 at q5 b5 g5 f5 ⊢
  simp only [zs_26_0, zs_26_0u, zs_26_1, zs_26_4, zs_26_4u, zs_26_8, zs_26_8i, zs_26_12, zs_26_12i, zs_26_13, zs_26_14, zs_26_15, zt_26_15, zs_26_18, zt_26_18, zs_26_21, zs_26_24, zs_26_24u, zs_26_28, zs_26_28i, zs_26_29, zt_26_29, zs_26_32, zs_26_35, zs_26_35u, zs_26_36, zs_26_37, zs_26_40, zs_26_40u, zs_26_41, zs_26_42, zs_26_45, zs_26_45u, zs_26_46, zs_26_47, zs_26_50, zs_26_50u, zs_26_51, zs_26_51u, zs_26_52, zs_26_55, zs_26_58, zs_26_59, zs_26_60, zt_26_60, zs_26_63, zc_isO, zr_fld_mk, zc_isA, zc_len, zr_elt_mk, zr_kill_i, zr_kill_l, zr_kill_r, zr_kill_u, zr_kill_f, zr_kill_n, zc_cat, zr_cat_i, zr_cat_l, zr_cat_r, zr_cat_f, zr_cat_d, zr_cat_u, beq_self_eq_true, Nat.zero_le, Nat.le_refl, Nat.reduceSub, Nat.reduceAdd, Nat.reduceLeDiff, csl_f, csr_f, cn_f, lg_cmp_eq, lg_cmp_le, lg_cmp_lt, lg_cmp_ge, lg_cmp_gt, nI_1, zr_up_self, zp_O, zr_fup_self, zr_fup_ne, ne_eq, Nat.reduceEqDiff, not_false_eq_true, pk_mul]
  refine zs_26_25 (by decide) (by decide) (fun ip h8 => ?_)
  have n4 : q ≠ ip := fun e => by rw [e, h8] at q5; cases q5
  have n5 : ib ≠ ip := fun e => by rw [e, h8] at b5; cases b5
  have n6 : g ≠ ip := fun e => by rw [e, h8] at g5; cases g5
  have ip0 : h ip = none := by rw [← f5 ip (by simp; exact ⟨Ne.symm n4, Ne.symm n5, Ne.symm n6⟩)]; exact h8
  have q6 : zr_up h7 ip (zr_dfl 4) q = some (.inl (1, zr_fup (dv 1) 0 (.ref ib))) := by rw [zr_up_ne _ _ n4]; exact q5
  have b6 : zr_up h7 ip (zr_dfl 4) ib = some (zbd g 0 0) := by rw [zr_up_ne _ _ n5]; exact b5
  have g6 : zr_up h7 ip (zr_dfl 4) g = some (zg 1 3) := by rw [zr_up_ne _ _ n6]; exact g5
  have p6 : zr_up h7 ip (zr_dfl 4) ip = some (zr_dfl 4) := zr_up_self _ _ _
  have f6 : fx [ip, q, ib, g] h (zr_up h7 ip (zr_dfl 4)) := fx_trans (fx_sub f5 (fun j hj => List.mem_cons_of_mem _ hj)) (fx_up (by simp))
  generalize zr_up h7 ip (zr_dfl 4) = h9 at q6 b6 g6 p6 f6 ⊢
  have c1 : 2 ≤ 5 - 1 - 1 - 1 := by decide
  have c2 : 60 ≤ 72 - 3 - 6 - 3 := by decide
  simp only [zs_26_0, zs_26_0u, zs_26_1, zs_26_4, zs_26_4u, zs_26_8, zs_26_8i, zs_26_12, zs_26_12i, zs_26_13, zs_26_14, zs_26_15, zt_26_15, zs_26_18, zt_26_18, zs_26_21, zs_26_24, zs_26_24u, zs_26_28, zs_26_28i, zs_26_29, zt_26_29, zs_26_35, zs_26_35u, zs_26_36, zs_26_37, zs_26_40, zs_26_40u, zs_26_41, zs_26_42, zs_26_45, zs_26_45u, zs_26_46, zs_26_47, zs_26_50, zs_26_50u, zs_26_51, zs_26_51u, zs_26_52, zs_26_55, zs_26_58, zs_26_59, zs_26_60, zt_26_60, zs_26_63, zc_isO, zr_fld_mk, zc_isA, zc_len, zr_elt_mk, zr_kill_i, zr_kill_l, zr_kill_r, zr_kill_u, zr_kill_f, zr_kill_n, zc_cat, zr_cat_i, zr_cat_l, zr_cat_r, zr_cat_f, zr_cat_d, zr_cat_u, beq_self_eq_true, Nat.zero_le, Nat.le_refl, Nat.reduceSub, Nat.reduceAdd, Nat.reduceLeDiff, csl_f, csr_f, cn_f, lg_cmp_eq, lg_cmp_le, lg_cmp_lt, lg_cmp_ge, lg_cmp_gt, nI_1, zr_up_self, zp_O, zr_fup_self, zr_fup_ne, ne_eq, Nat.reduceEqDiff, not_false_eq_true, pk_mul, c1, c2]
  refine k_pnew (d := d + 3) p6 (fun pb pw h10 e1 e2 f7 v7 => ?_)
  have m1 : ∀ {j : Nat}, h9 j = none → j ≠ q ∧ j ≠ ib ∧ j ≠ g ∧ j ≠ ip := fun e => ⟨fun z => (by rw [z, q6] at e; cases e), fun z => (by rw [z, b6] at e; cases e), fun z => (by rw [z, g6] at e; cases e), fun z => (by rw [z, p6] at e; cases e)⟩
  have mb := m1 e1
  have mw := m1 e2
  have pb0 : h pb = none := by rw [← f6 pb (by simp; exact ⟨mb.2.2.2, mb.1, mb.2.1, mb.2.2.1⟩)]; exact e1
  have pw0 : h pw = none := by rw [← f6 pw (by simp; exact ⟨mw.2.2.2, mw.1, mw.2.1, mw.2.2.1⟩)]; exact e2
  have q7 := fx_get f7 (by simp; exact ⟨n4, Ne.symm mb.1, Ne.symm mw.1⟩) q6
  have b7 := fx_get f7 (by simp; exact ⟨n5, Ne.symm mb.2.1, Ne.symm mw.2.1⟩) b6
  have g7 := fx_get f7 (by simp; exact ⟨n6, Ne.symm mb.2.2.1, Ne.symm mw.2.2.1⟩) g6
  have f8 : fx [g, q, ib, ip, pb, pw] h h10 := fx_trans (fx_sub f6 (fun j hj => by simp at hj ⊢; rcases hj with e | e | e | e <;> simp [e])) (fx_sub f7 (fun j hj => by simp at hj ⊢; rcases hj with e | e | e <;> simp [e]))
  simp only [zs_26_0, zs_26_0u, zs_26_1, zs_26_4, zs_26_4u, zs_26_8, zs_26_8i, zs_26_12, zs_26_12i, zs_26_13, zs_26_14, zs_26_15, zt_26_15, zs_26_18, zt_26_18, zs_26_21, zs_26_24, zs_26_24u, zs_26_28, zs_26_28i, zs_26_29, zt_26_29, zs_26_32, zs_26_36, zs_26_37, zs_26_40, zs_26_40u, zs_26_41, zs_26_42, zs_26_45, zs_26_45u, zs_26_46, zs_26_47, zs_26_50, zs_26_50u, zs_26_51, zs_26_51u, zs_26_52, zs_26_55, zs_26_58, zs_26_59, zs_26_60, zt_26_60, zs_26_63, zc_isO, zr_fld_mk, zc_isA, zc_len, zr_elt_mk, zr_kill_i, zr_kill_l, zr_kill_r, zr_kill_u, zr_kill_f, zr_kill_n, zc_cat, zr_cat_i, zr_cat_l, zr_cat_r, zr_cat_f, zr_cat_d, zr_cat_u, beq_self_eq_true, Nat.zero_le, Nat.le_refl, Nat.reduceSub, Nat.reduceAdd, Nat.reduceLeDiff, csl_f, csr_f, cn_f, lg_cmp_eq, lg_cmp_le, lg_cmp_lt, lg_cmp_ge, lg_cmp_gt, nI_1, zr_up_self, zp_O, zr_fup_self, zr_fup_ne, ne_eq, Nat.reduceEqDiff, not_false_eq_true, pk_mul, q7, v7.1, zp_I]
  rw [zr_putO_mk q7]
  have q8 : zr_up h10 q (.inl (1, zr_fup (zr_fup (dv 1) 0 (.ref ib)) 1 (.ref ip))) q = some (zgm ib ip (fun _ => 0)) := by
    rw [zr_up_self]
    refine congrArg some (zm_dv rfl rfl (fun k a c => ?_) (fun k a => ?_))
    · have : k = 2 ∨ k = 3 ∨ k = 4 ∨ k = 5 ∨ k = 6 ∨ k = 7 ∨ k = 8 ∨ k = 9 := by omega
      rcases this with e | e | e | e | e | e | e | e <;> subst e <;> rfl
    · simp only [zr_fup]
      rw [if_neg (by omega), if_neg (by omega)]
  have b8 : zr_up h10 q (.inl (1, zr_fup (zr_fup (dv 1) 0 (.ref ib)) 1 (.ref ip))) ib = some (zbd g 0 0) := by rw [zr_up_ne _ _ (Ne.symm n1)]; exact b7
  have g8 : zr_up h10 q (.inl (1, zr_fup (zr_fup (dv 1) 0 (.ref ib)) 1 (.ref ip))) g = some (zg 1 3) := by rw [zr_up_ne _ _ (Ne.symm n2)]; exact g7
  have v8 := vP_fx v7 (fx_up (h := h10) (X := [q]) (q := q) (c := .inl (1, zr_fup (zr_fup (dv 1) 0 (.ref ib)) 1 (.ref ip))) (by simp)) (by simp; exact Ne.symm n4) (by simp; exact mb.1) (by simp; exact mw.1)
  have f9 : fx [g, q, ib, ip, pb, pw] h (zr_up h10 q (.inl (1, zr_fup (zr_fup (dv 1) 0 (.ref ib)) 1 (.ref ip)))) := fx_trans f8 (fx_up (by simp))
  generalize zr_up h10 q (.inl (1, zr_fup (zr_fup (dv 1) 0 (.ref ib)) 1 (.ref ip))) = h11 at q8 b8 g8 v8 f9 ⊢
  let A : Nat → Nat := fun i => match i with
    | 0 => q
    | 1 => ib
    | 2 => ip
    | 3 => pb
    | _ => pw
  have vA : vM h11 A 1 3 0 0 [] (fun _ => 0) g := ⟨q8, b8, g8, ⟨⟨by omega, by omega⟩, by omega, by omega⟩, _, _, v8, fun k hk => by simp at hk⟩
  have hA : ∀ i, 1 ≤ i → i < 5 → h (A i) = none := by
    intro i h1' h5'
    have : i = 1 ∨ i = 2 ∨ i = 3 ∨ i = 4 := by omega
    rcases this with e | e | e | e <;> subst e
    · exact h1
    · exact ip0
    · exact pb0
    · exact pw0
  have f9 : fx (g :: xA A) h h11 := f9
  have hQ := hQ A g
  change zr_Z (d + 4) 26 Q 35 [some (.ref (A 0))] [] h11 _ _
  have hA0 : A 0 = q := rfl
  generalize A = B at vA hA f9 hQ hA0 ⊢
  simp only [zs_26_0, zs_26_0u, zs_26_1, zs_26_4, zs_26_4u, zs_26_8, zs_26_8i, zs_26_12, zs_26_12i, zs_26_13, zs_26_14, zs_26_15, zt_26_15, zs_26_18, zt_26_18, zs_26_21, zs_26_24, zs_26_24u, zs_26_28, zs_26_28i, zs_26_29, zt_26_29, zs_26_32, zs_26_35, zs_26_35u, zs_26_36, zs_26_37, zs_26_41, zs_26_42, zs_26_45, zs_26_45u, zs_26_46, zs_26_47, zs_26_50, zs_26_50u, zs_26_51, zs_26_51u, zs_26_52, zs_26_55, zs_26_58, zs_26_59, zs_26_60, zt_26_60, zs_26_63, zc_isO, zr_fld_mk, zc_isA, zc_len, zr_elt_mk, zr_kill_i, zr_kill_l, zr_kill_r, zr_kill_u, zr_kill_f, zr_kill_n, zc_cat, zr_cat_i, zr_cat_l, zr_cat_r, zr_cat_f, zr_cat_d, zr_cat_u, beq_self_eq_true, Nat.zero_le, Nat.le_refl, Nat.reduceSub, Nat.reduceAdd, Nat.reduceLeDiff, csl_f, csr_f, cn_f, lg_cmp_eq, lg_cmp_le, lg_cmp_lt, lg_cmp_ge, lg_cmp_gt, nI_1, zr_up_self, zp_O, zr_fup_self, zr_fup_ne, ne_eq, Nat.reduceEqDiff, not_false_eq_true, pk_mul, vA.1, zm_I]
  rw [putM vA.1 (by omega) (by omega)]
  obtain ⟨v2, x2⟩ := vM_I vA (fI (fun _ => 0) 2 1)
  have x2 := fx_trans f9 (fx_sub x2 (fun j hj => List.mem_cons_of_mem _ hj))
  generalize zr_up h11 (B 0) _ = h12 at v2 x2 ⊢
  simp only [zs_26_0, zs_26_0u, zs_26_1, zs_26_4, zs_26_4u, zs_26_8, zs_26_8i, zs_26_12, zs_26_12i, zs_26_13, zs_26_14, zs_26_15, zt_26_15, zs_26_18, zt_26_18, zs_26_21, zs_26_24, zs_26_24u, zs_26_28, zs_26_28i, zs_26_29, zt_26_29, zs_26_32, zs_26_35, zs_26_35u, zs_26_36, zs_26_37, zs_26_40, zs_26_40u, zs_26_41, zs_26_42, zs_26_46, zs_26_47, zs_26_50, zs_26_50u, zs_26_51, zs_26_51u, zs_26_52, zs_26_55, zs_26_58, zs_26_59, zs_26_60, zt_26_60, zs_26_63, zc_isO, zr_fld_mk, zc_isA, zc_len, zr_elt_mk, zr_kill_i, zr_kill_l, zr_kill_r, zr_kill_u, zr_kill_f, zr_kill_n, zc_cat, zr_cat_i, zr_cat_l, zr_cat_r, zr_cat_f, zr_cat_d, zr_cat_u, beq_self_eq_true, Nat.zero_le, Nat.le_refl, Nat.reduceSub, Nat.reduceAdd, Nat.reduceLeDiff, csl_f, csr_f, cn_f, lg_cmp_eq, lg_cmp_le, lg_cmp_lt, lg_cmp_ge, lg_cmp_gt, nI_1, zr_up_self, zp_O, zr_fup_self, zr_fup_ne, ne_eq, Nat.reduceEqDiff, not_false_eq_true, pk_mul, v2.1, zm_I]
  rw [putM v2.1 (by omega) (by omega)]
  obtain ⟨v3, x3⟩ := vM_I v2 (fI (fI (fun _ => 0) 2 1) 8 0)
  have x3 := fx_trans x2 (fx_sub x3 (fun j hj => List.mem_cons_of_mem _ hj))
  generalize zr_up h12 (B 0) _ = h13 at v3 x3 ⊢
  simp only [zs_26_0, zs_26_0u, zs_26_1, zs_26_4, zs_26_4u, zs_26_8, zs_26_8i, zs_26_12, zs_26_12i, zs_26_13, zs_26_14, zs_26_15, zt_26_15, zs_26_18, zt_26_18, zs_26_21, zs_26_24, zs_26_24u, zs_26_28, zs_26_28i, zs_26_29, zt_26_29, zs_26_32, zs_26_35, zs_26_35u, zs_26_36, zs_26_37, zs_26_40, zs_26_40u, zs_26_41, zs_26_42, zs_26_45, zs_26_45u, zs_26_46, zs_26_47, zs_26_51, zs_26_51u, zs_26_52, zs_26_55, zs_26_58, zs_26_59, zs_26_60, zt_26_60, zs_26_63, zc_isO, zr_fld_mk, zc_isA, zc_len, zr_elt_mk, zr_kill_i, zr_kill_l, zr_kill_r, zr_kill_u, zr_kill_f, zr_kill_n, zc_cat, zr_cat_i, zr_cat_l, zr_cat_r, zr_cat_f, zr_cat_d, zr_cat_u, beq_self_eq_true, Nat.zero_le, Nat.le_refl, Nat.reduceSub, Nat.reduceAdd, Nat.reduceLeDiff, csl_f, csr_f, cn_f, lg_cmp_eq, lg_cmp_le, lg_cmp_lt, lg_cmp_ge, lg_cmp_gt, nI_1, zr_up_self, zp_O, zr_fup_self, zr_fup_ne, ne_eq, Nat.reduceEqDiff, not_false_eq_true, pk_mul, v3.1, zm_I]
  rw [putM v3.1 (by omega) (by omega)]
  obtain ⟨v4, x4⟩ := vM_I v3 (fI (fI (fI (fun _ => 0) 2 1) 8 0) 9 0)
  have x4 := fx_trans x3 (fx_sub x4 (fun j hj => List.mem_cons_of_mem _ hj))
  generalize zr_up h13 (B 0) _ = h14 at v4 x4 ⊢
  simp only [zs_26_0, zs_26_0u, zs_26_1, zs_26_4, zs_26_4u, zs_26_8, zs_26_8i, zs_26_12, zs_26_12i, zs_26_13, zs_26_14, zs_26_15, zt_26_15, zs_26_18, zt_26_18, zs_26_21, zs_26_24, zs_26_24u, zs_26_28, zs_26_28i, zs_26_29, zt_26_29, zs_26_32, zs_26_35, zs_26_35u, zs_26_36, zs_26_37, zs_26_40, zs_26_40u, zs_26_41, zs_26_42, zs_26_45, zs_26_45u, zs_26_46, zs_26_47, zs_26_50, zs_26_50u, zs_26_51, zs_26_51u, zs_26_52, zs_26_55, zs_26_58, zs_26_59, zs_26_60, zt_26_60, zs_26_63, zc_isO, zr_fld_mk, zc_isA, zc_len, zr_elt_mk, zr_kill_i, zr_kill_l, zr_kill_r, zr_kill_u, zr_kill_f, zr_kill_n, zc_cat, zr_cat_i, zr_cat_l, zr_cat_r, zr_cat_f, zr_cat_d, zr_cat_u, beq_self_eq_true, Nat.zero_le, Nat.le_refl, Nat.reduceSub, Nat.reduceAdd, Nat.reduceLeDiff, csl_f, csr_f, cn_f, lg_cmp_eq, lg_cmp_le, lg_cmp_lt, lg_cmp_ge, lg_cmp_gt, nI_1, zr_up_self, zp_O, zr_fup_self, zr_fup_ne, ne_eq, Nat.reduceEqDiff, not_false_eq_true, pk_mul, v4.1, zm_I, zm_0, v4.2.1, zb_O, zb_0]
  refine k_beg v4 v4.2.2.1 v4.2.2.2.1 (fun h' f5 v5 => ?_)
  simp only [zs_26_0, zs_26_0u, zs_26_1, zs_26_4, zs_26_4u, zs_26_8, zs_26_8i, zs_26_12, zs_26_12i, zs_26_13, zs_26_14, zs_26_15, zt_26_15, zs_26_18, zt_26_18, zs_26_21, zs_26_24, zs_26_24u, zs_26_28, zs_26_28i, zs_26_29, zt_26_29, zs_26_32, zs_26_35, zs_26_35u, zs_26_36, zs_26_37, zs_26_40, zs_26_40u, zs_26_41, zs_26_42, zs_26_45, zs_26_45u, zs_26_46, zs_26_47, zs_26_50, zs_26_50u, zs_26_51, zs_26_51u, zs_26_52, zs_26_55, zs_26_58, zs_26_59, zs_26_60, zt_26_60, zs_26_63, zc_isO, zr_fld_mk, zc_isA, zc_len, zr_elt_mk, zr_kill_i, zr_kill_l, zr_kill_r, zr_kill_u, zr_kill_f, zr_kill_n, zc_cat, zr_cat_i, zr_cat_l, zr_cat_r, zr_cat_f, zr_cat_d, zr_cat_u, beq_self_eq_true, Nat.zero_le, Nat.le_refl, Nat.reduceSub, Nat.reduceAdd, Nat.reduceLeDiff, csl_f, csr_f, cn_f, lg_cmp_eq, lg_cmp_le, lg_cmp_lt, lg_cmp_ge, lg_cmp_gt, nI_1, zr_up_self, zp_O, zr_fup_self, zr_fup_ne, ne_eq, Nat.reduceEqDiff, not_false_eq_true, pk_mul]
  exact hQ h' hA0 hA g0 (fx_trans x4 (fx_sub f5 (fun j hj => List.mem_cons_of_mem _ hj))) v5
end GAME
