/-! THE MODEL: changes of a number -/
theorem fI_comm (I : Nat → Int32) {i j : Nat} (h : i ≠ j) (a c : Int32) : fI (fI I i a) j c = fI (fI I j c) i a := by
  funext k
  unfold fI
  by_cases e : k = j
  · rw [if_pos e, if_neg (fun z => h (z.symm.trans e)), if_pos e]
  · rw [if_neg e]
    by_cases e2 : k = i
    · rw [if_pos e2, if_pos e2]
    · rw [if_neg e2, if_neg e2, if_neg e]
section MODEL
variable {d : Nat} {h h' : zr_H} {Q : zr_K} {m : Nat} {E : Nat → Nat} {K : Nat → Int32} {L : Nat → Int64} {G : gm} {H : List gm} {T : Nat → Option gm} {n l : Nat} {e : Int32} {bf wf : Nat → Int32} {f ff fk fs : Nat → Int64} {R S : Nat} {b w : Int64} {P : List (Int64 × Int64)} {I : Nat → Int32}
theorem fu_s {α : Type} (f : Nat → α) (i : Nat) (v : α) : vu f i v i = v := vu_s f i v
/-- a number of the row -/
theorem rG_I (r : rG f R S b w P I) {k : Nat} (hk : k = 2 ∨ k = 4 ∨ k = 7 ∨ k = 8 ∨ k = 9) {x : Int32} : rG (vu f k x.toInt64) R S b w P (fI I k x) := by
  obtain ⟨a0, a1, a2, a3, a4, a5, a6, a7, a8, a9, a10, a11, a12, a13⟩ := r
  have s : ∀ j, j ≠ k → vu f k x.toInt64 j = f j := fun j hj => vu_n _ _ hj
  have t : ∀ j, j ≠ k → fI I k x j = I j := fun j hj => fI_n _ _ hj
  have g : ∀ j, f j = (I j).toInt64 → vu f k x.toInt64 j = (fI I k x j).toInt64 := fun j hj => by
    by_cases e : j = k
    · subst e; rw [vu_s, fI_s]
    · rw [s j e, t j e]; exact hj
  unfold rG
  rw [s 0 (by omega), s 1 (by omega), s 3 (by omega), s 5 (by omega), s 6 (by omega), s 10 (by omega), s 11 (by omega), s 12 (by omega), t 3 (by omega), t 5 (by omega), t 6 (by omega)]
  refine ⟨a0, a1, g 2 a2, a3, g 4 a4, a5, a6, g 7 a7, g 8 a8, g 9 a9, a10, a11, a12, fun j hj => ?_⟩
  rw [s _ (by omega), s _ (by omega)]
  exact a13 j hj
theorem rG_J (r : rG f R S b w P I) {k : Nat} (hk : k = 3 ∨ k = 5 ∨ k = 6) {x : Int32} {y : Int64} (hy : y.toInt32 = x) : rG (vu f k y) R S b w P (fI I k x) := by
  obtain ⟨a0, a1, a2, a3, a4, a5, a6, a7, a8, a9, a10, a11, a12, a13⟩ := r
  have s : ∀ j, j ≠ k → vu f k y j = f j := fun j hj => vu_n _ _ hj
  have t : ∀ j, j ≠ k → fI I k x j = I j := fun j hj => fI_n _ _ hj
  have g : ∀ j, (f j).toInt32 = I j → (vu f k y j).toInt32 = fI I k x j := fun j hj => by
    by_cases e : j = k
    · subst e; rw [vu_s, fI_s]; exact hy
    · rw [s j e, t j e]; exact hj
  unfold rG
  rw [s 0 (by omega), s 1 (by omega), s 2 (by omega), s 4 (by omega), s 7 (by omega), s 8 (by omega), s 9 (by omega), s 10 (by omega), s 11 (by omega), s 12 (by omega), t 2 (by omega), t 4 (by omega), t 7 (by omega), t 8 (by omega), t 9 (by omega)]
  refine ⟨a0, a1, a2, g 3 a3, a4, g 5 a5, g 6 a6, a7, a8, a9, a10, a11, a12, fun j hj => ?_⟩
  rw [s _ (by omega), s _ (by omega)]
  exact a13 j hj
theorem rm2_at {f : Nat → Int64} {l x : Nat} (h1 : 13 ≤ x) (h2 : x < 13 + 2 * min l 29) : rm2 f l x = if l = 30 then f (x + 2) else f x := by
  unfold rm2 rm1
  rw [if_neg (by omega), if_neg (by omega), if_neg (by omega)]
  by_cases z : l = 30
  · rw [if_pos (by omega), if_pos z]
  · rw [if_neg (by omega), if_neg (by omega), if_neg z]
/-- new positions: those of rm2 -/
theorem rG_rem (r : rG f R S b w P I) (hl : P.length ≤ 30) : rG (rm2 f P.length) R S b w (((b, w) :: P).take 30) I := by
  obtain ⟨a0, a1, a2, a3, a4, a5, a6, a7, a8, a9, a10, a11, a12, a13⟩ := r
  have s : ∀ j, j < 13 → j ≠ 10 → rm2 f P.length j = f j := fun j hj h10 => by
    unfold rm2 rm1
    rw [if_neg h10, if_neg (by omega), if_neg (by omega), if_neg (by omega), if_neg h10]
  have e10 : rm2 f P.length 10 = lN (((b, w) :: P).take 30).length := by
    unfold rm2
    rw [if_pos rfl, List.length_take, List.length_cons]
    congr 1
    omega
  unfold rG
  rw [s 0 (by omega) (by omega), s 1 (by omega) (by omega), s 2 (by omega) (by omega), s 3 (by omega) (by omega), s 4 (by omega) (by omega), s 5 (by omega) (by omega), s 6 (by omega) (by omega), s 7 (by omega) (by omega), s 8 (by omega) (by omega), s 9 (by omega) (by omega), e10, s 11 (by omega) (by omega), s 12 (by omega) (by omega)]
  refine ⟨a0, a1, a2, a3, a4, a5, a6, a7, a8, a9, rfl, a11, a12, fun j hj => ?_⟩
  rw [List.length_take, List.length_cons] at hj ⊢
  by_cases jt : j = min P.length 29
  · have i0 : min 30 (P.length + 1) - 1 - j = 0 := by omega
    rw [i0, jt]
    unfold rm2
    rw [if_neg (by omega), if_pos rfl, if_neg (by omega), if_neg (by omega), if_pos rfl, a11, a12]
    rfl
  · rw [List.getElem?_take, if_pos (by omega), show min 30 (P.length + 1) - 1 - j = (min 30 (P.length + 1) - 1 - j - 1) + 1 by omega, List.getElem?_cons_succ]
    rw [rm2_at (by omega) (by omega), rm2_at (by omega) (by omega)]
    by_cases z : P.length = 30
    · rw [if_pos z, if_pos z]
      have := a13 (j + 1) (by omega)
      rw [show min 30 (P.length + 1) - 1 - j - 1 = P.length - 1 - (j + 1) by omega, this, show 13 + 2 * (j + 1) = 13 + 2 * j + 2 by omega, show 14 + 2 * (j + 1) = 14 + 2 * j + 2 by omega]
    · rw [if_neg z, if_neg z]
      have := a13 j (by omega)
      rw [show min 30 (P.length + 1) - 1 - j - 1 = P.length - 1 - j by omega, this]
theorem rG_forg (r : rG f R S b w P I) : rG (rm2 (fun j => if j = 10 then 0 else f j) 0) R S b w [(b, w)] I := by
  obtain ⟨a0, a1, a2, a3, a4, a5, a6, a7, a8, a9, a10, a11, a12, a13⟩ := r
  have r0 : rG (fun j => if j = 10 then 0 else f j) R S b w [] I := ⟨a0, a1, a2, a3, a4, a5, a6, a7, a8, a9, rfl, a11, a12, fun k hk => by simp at hk⟩
  exact rG_rem r0 (by simp)
/-- what is kept, the number of the row changed behind it -/
theorem mM_set (v : ms h m E K L f ff fk fs (fun j => .int (bI (T j).isSome)) (fun k => .int (bf k)) (fun k => .int (wf k))) {k : Nat} (hk : k < 73) {y : Int64} : ms (zr_putA h (E 0) k (.long y)) m E K L (vu f k y) ff fk fs (fun j => .int (bI (T j).isSome)) (fun k => .int (bf k)) (fun k => .int (wf k)) ∧ fx (MX m E) h (zr_putA h (E 0) k (.long y)) :=
  ms_f v (fun _ _ => rfl)
theorem k_msturn {y : Int32} (v : mM h m E K L (R, S, b, w, P, I) H T n e l bf wf) (q1 : ¬ (y = 1 ∨ y = 2) → mQM h m E Q [1] (R, S, b, w, P, I) H T n e l bf wf (.inr 1))
    (hQ : (y = 1 ∨ y = 2) → mQM h m E Q [1] (R, S, b, w, P, fI (fI (fI I 2 y) 7 (-1)) 4 0) (((R, S, b, w, P, I) :: H).take 8) T n e l bf wf (.inl (I 2))) : zr_E (d + 3) 187 [.ref m, .int y] h Q := by
  obtain ⟨f, v0⟩ := mM_q v
  rw [ze_187]
  simp only [zs_187_0, zs_187_0u, zs_187_1, zs_187_2, zt_187_2, zs_187_8, zs_187_9, zs_187_12, zs_187_13, zs_187_16, zs_187_16u, zs_187_17, zs_187_20, zs_187_23, zs_187_24, zs_187_25, zs_187_25u, zs_187_26, zt_187_26, zs_187_29, zs_187_29u, zs_187_30, zs_187_33, zs_187_34, zs_187_35, zs_187_36, zs_187_37, zs_187_37u, zs_187_38, zs_187_41, zs_187_42, zs_187_43, zs_187_44, zs_187_45, zs_187_45u, zs_187_46, zs_187_49, zs_187_51, zs_187_54, zs_187_55, zs_187_55u, zs_187_56, zs_187_59, zs_187_60, zs_187_61, zs_187_62, zs_187_63, zc_isO, zr_fld_mk, zc_isA, zc_len, zr_elt_mk, zr_kill_i, zr_kill_l, zr_kill_r, zr_kill_u, zr_kill_f, zr_kill_n, zc_cat, zr_cat_i, zr_cat_l, zr_cat_r, zr_cat_f, zr_cat_d, zr_cat_u, beq_self_eq_true, Nat.zero_le, Nat.le_refl, Nat.reduceSub, Nat.reduceAdd, Nat.reduceLeDiff, csl_f, csr_f, cn_f, lg_cmp_eq, lg_cmp_le, lg_cmp_lt, lg_cmp_ge, lg_cmp_gt, nI_1, zr_up_self, zp_O, zr_fup_self, zr_fup_ne, ne_eq, Nat.reduceEqDiff, not_false_eq_true, pk_mul, v0.1, zy_I]
  refine k_isc (d := d) (fun e => ?_) (fun e => ?_)
  rotate_left
  · have q1 := mQ_of v (q1 e)
    simp only [zs_187_0, zs_187_0u, zs_187_1, zs_187_2, zt_187_2, zs_187_5, zs_187_9, zs_187_13, zs_187_16, zs_187_16u, zs_187_17, zs_187_20, zs_187_23, zs_187_24, zs_187_25, zs_187_25u, zs_187_26, zt_187_26, zs_187_29, zs_187_29u, zs_187_30, zs_187_33, zs_187_34, zs_187_35, zs_187_36, zs_187_37, zs_187_37u, zs_187_38, zs_187_41, zs_187_42, zs_187_43, zs_187_44, zs_187_45, zs_187_45u, zs_187_46, zs_187_49, zs_187_51, zs_187_54, zs_187_55, zs_187_55u, zs_187_56, zs_187_59, zs_187_60, zs_187_61, zs_187_62, zs_187_63, zc_isO, zr_fld_mk, zc_isA, zc_len, zr_elt_mk, zr_kill_i, zr_kill_l, zr_kill_r, zr_kill_u, zr_kill_f, zr_kill_n, zc_cat, zr_cat_i, zr_cat_l, zr_cat_r, zr_cat_f, zr_cat_d, zr_cat_u, beq_self_eq_true, Nat.zero_le, Nat.le_refl, Nat.reduceSub, Nat.reduceAdd, Nat.reduceLeDiff, csl_f, csr_f, cn_f, lg_cmp_eq, lg_cmp_le, lg_cmp_lt, lg_cmp_ge, lg_cmp_gt, nI_1, zr_up_self, zp_O, zr_fup_self, zr_fup_ne, ne_eq, Nat.reduceEqDiff, not_false_eq_true, pk_mul]
    refine ⟨fun _ => ?_, fun y => absurd trivial y⟩
    simp only [zs_187_0, zs_187_0u, zs_187_1, zs_187_2, zt_187_2, zs_187_5, zs_187_8, zs_187_9, zs_187_12, zs_187_13, zs_187_17, zs_187_20, zs_187_23, zs_187_24, zs_187_25, zs_187_25u, zs_187_26, zt_187_26, zs_187_29, zs_187_29u, zs_187_30, zs_187_33, zs_187_34, zs_187_35, zs_187_36, zs_187_37, zs_187_37u, zs_187_38, zs_187_41, zs_187_42, zs_187_43, zs_187_44, zs_187_45, zs_187_45u, zs_187_46, zs_187_49, zs_187_51, zs_187_54, zs_187_55, zs_187_55u, zs_187_56, zs_187_59, zs_187_60, zs_187_61, zs_187_62, zs_187_63, zc_isO, zr_fld_mk, zc_isA, zc_len, zr_elt_mk, zr_kill_i, zr_kill_l, zr_kill_r, zr_kill_u, zr_kill_f, zr_kill_n, zc_cat, zr_cat_i, zr_cat_l, zr_cat_r, zr_cat_f, zr_cat_d, zr_cat_u, beq_self_eq_true, Nat.zero_le, Nat.le_refl, Nat.reduceSub, Nat.reduceAdd, Nat.reduceLeDiff, csl_f, csr_f, cn_f, lg_cmp_eq, lg_cmp_le, lg_cmp_lt, lg_cmp_ge, lg_cmp_gt, nI_1, zr_up_self, zp_O, zr_fup_self, zr_fup_ne, ne_eq, Nat.reduceEqDiff, not_false_eq_true, pk_mul, v0.1, zy_I]
    rw [putY v0.1 (by omega)]
    have v2 := mq_up v0 (fI K 6 1) L
    have e6 : fI K 6 1 6 = 1 := fI_s _ _ _
    simp only [zs_187_0, zs_187_0u, zs_187_1, zs_187_2, zt_187_2, zs_187_5, zs_187_8, zs_187_9, zs_187_12, zs_187_13, zs_187_16, zs_187_16u, zs_187_17, zs_187_20, zs_187_24, zs_187_26, zt_187_26, zs_187_29, zs_187_29u, zs_187_30, zs_187_33, zs_187_34, zs_187_35, zs_187_36, zs_187_37, zs_187_37u, zs_187_38, zs_187_41, zs_187_42, zs_187_43, zs_187_44, zs_187_45, zs_187_45u, zs_187_46, zs_187_49, zs_187_51, zs_187_54, zs_187_55, zs_187_55u, zs_187_56, zs_187_59, zs_187_60, zs_187_61, zs_187_62, zs_187_63, zc_isO, zr_fld_mk, zc_isA, zc_len, zr_elt_mk, zr_kill_i, zr_kill_l, zr_kill_r, zr_kill_u, zr_kill_f, zr_kill_n, zc_cat, zr_cat_i, zr_cat_l, zr_cat_r, zr_cat_f, zr_cat_d, zr_cat_u, beq_self_eq_true, Nat.zero_le, Nat.le_refl, Nat.reduceSub, Nat.reduceAdd, Nat.reduceLeDiff, csl_f, csr_f, cn_f, lg_cmp_eq, lg_cmp_le, lg_cmp_lt, lg_cmp_ge, lg_cmp_gt, nI_1, zr_up_self, zp_O, zr_fup_self, zr_fup_ne, ne_eq, Nat.reduceEqDiff, not_false_eq_true, pk_mul, zy_I, zy_6, e6]
    refine ⟨fun y => absurd y (by decide), fun _ => ?_⟩
    simp only [zs_187_0, zs_187_0u, zs_187_1, zs_187_2, zt_187_2, zs_187_5, zs_187_8, zs_187_9, zs_187_12, zs_187_13, zs_187_16, zs_187_16u, zs_187_17, zs_187_20, zs_187_23, zs_187_24, zs_187_25, zs_187_25u, zs_187_26, zt_187_26, zs_187_29, zs_187_29u, zs_187_30, zs_187_33, zs_187_34, zs_187_35, zs_187_36, zs_187_37, zs_187_37u, zs_187_38, zs_187_41, zs_187_42, zs_187_43, zs_187_44, zs_187_45, zs_187_45u, zs_187_46, zs_187_49, zs_187_51, zs_187_54, zs_187_55, zs_187_55u, zs_187_56, zs_187_59, zs_187_60, zs_187_61, zs_187_62, zs_187_63, zc_isO, zr_fld_mk, zc_isA, zc_len, zr_elt_mk, zr_kill_i, zr_kill_l, zr_kill_r, zr_kill_u, zr_kill_f, zr_kill_n, zc_cat, zr_cat_i, zr_cat_l, zr_cat_r, zr_cat_f, zr_cat_d, zr_cat_u, beq_self_eq_true, Nat.zero_le, Nat.le_refl, Nat.reduceSub, Nat.reduceAdd, Nat.reduceLeDiff, csl_f, csr_f, cn_f, lg_cmp_eq, lg_cmp_le, lg_cmp_lt, lg_cmp_ge, lg_cmp_gt, nI_1, zr_up_self, zp_O, zr_fup_self, zr_fup_ne, ne_eq, Nat.reduceEqDiff, not_false_eq_true, pk_mul]
    exact mQ_e q1 0 L
  have hQ := hQ e
  simp only [zs_187_0, zs_187_0u, zs_187_1, zs_187_2, zt_187_2, zs_187_5, zs_187_9, zs_187_13, zs_187_16, zs_187_16u, zs_187_17, zs_187_20, zs_187_23, zs_187_24, zs_187_25, zs_187_25u, zs_187_26, zt_187_26, zs_187_29, zs_187_29u, zs_187_30, zs_187_33, zs_187_34, zs_187_35, zs_187_36, zs_187_37, zs_187_37u, zs_187_38, zs_187_41, zs_187_42, zs_187_43, zs_187_44, zs_187_45, zs_187_45u, zs_187_46, zs_187_49, zs_187_51, zs_187_54, zs_187_55, zs_187_55u, zs_187_56, zs_187_59, zs_187_60, zs_187_61, zs_187_62, zs_187_63, zc_isO, zr_fld_mk, zc_isA, zc_len, zr_elt_mk, zr_kill_i, zr_kill_l, zr_kill_r, zr_kill_u, zr_kill_f, zr_kill_n, zc_cat, zr_cat_i, zr_cat_l, zr_cat_r, zr_cat_f, zr_cat_d, zr_cat_u, beq_self_eq_true, Nat.zero_le, Nat.le_refl, Nat.reduceSub, Nat.reduceAdd, Nat.reduceLeDiff, csl_f, csr_f, cn_f, lg_cmp_eq, lg_cmp_le, lg_cmp_lt, lg_cmp_ge, lg_cmp_gt, nI_1, zr_up_self, zp_O, zr_fup_self, zr_fup_ne, ne_eq, Nat.reduceEqDiff, not_false_eq_true, pk_mul]
  refine ⟨fun y => absurd y (by decide), fun _ => ?_⟩
  simp only [zs_187_0, zs_187_0u, zs_187_1, zs_187_2, zt_187_2, zs_187_5, zs_187_8, zs_187_9, zs_187_12, zs_187_13, zs_187_17, zs_187_20, zs_187_23, zs_187_24, zs_187_25, zs_187_25u, zs_187_26, zt_187_26, zs_187_29, zs_187_29u, zs_187_30, zs_187_33, zs_187_34, zs_187_35, zs_187_36, zs_187_37, zs_187_37u, zs_187_38, zs_187_41, zs_187_42, zs_187_43, zs_187_44, zs_187_45, zs_187_45u, zs_187_46, zs_187_49, zs_187_51, zs_187_54, zs_187_55, zs_187_55u, zs_187_56, zs_187_59, zs_187_60, zs_187_61, zs_187_62, zs_187_63, zc_isO, zr_fld_mk, zc_isA, zc_len, zr_elt_mk, zr_kill_i, zr_kill_l, zr_kill_r, zr_kill_u, zr_kill_f, zr_kill_n, zc_cat, zr_cat_i, zr_cat_l, zr_cat_r, zr_cat_f, zr_cat_d, zr_cat_u, beq_self_eq_true, Nat.zero_le, Nat.le_refl, Nat.reduceSub, Nat.reduceAdd, Nat.reduceLeDiff, csl_f, csr_f, cn_f, lg_cmp_eq, lg_cmp_le, lg_cmp_lt, lg_cmp_ge, lg_cmp_gt, nI_1, zr_up_self, zp_O, zr_fup_self, zr_fup_ne, ne_eq, Nat.reduceEqDiff, not_false_eq_true, pk_mul, v0.1, zy_I]
  rw [putY v0.1 (by omega)]
  obtain ⟨v1, f1⟩ := mM_up v (K2 := fI K 6 0) (L2 := L) (fI_n _ _ (by omega)) (fI_n _ _ (by omega)) (fI_n _ _ (by omega)) (fI_n _ _ (by omega))
  have e6 : fI K 6 0 6 = 0 := fI_s _ _ _
  generalize zr_up h m (zym E (fI K 6 0) L) = h1 at *
  obtain ⟨_, w1⟩ := mM_q v1
  simp only [zs_187_0, zs_187_0u, zs_187_1, zs_187_2, zt_187_2, zs_187_5, zs_187_8, zs_187_9, zs_187_12, zs_187_13, zs_187_16, zs_187_16u, zs_187_17, zs_187_20, zs_187_24, zs_187_26, zt_187_26, zs_187_29, zs_187_29u, zs_187_30, zs_187_33, zs_187_34, zs_187_35, zs_187_36, zs_187_37, zs_187_37u, zs_187_38, zs_187_41, zs_187_42, zs_187_43, zs_187_44, zs_187_45, zs_187_45u, zs_187_46, zs_187_49, zs_187_51, zs_187_54, zs_187_55, zs_187_55u, zs_187_56, zs_187_59, zs_187_60, zs_187_61, zs_187_62, zs_187_63, zc_isO, zr_fld_mk, zc_isA, zc_len, zr_elt_mk, zr_kill_i, zr_kill_l, zr_kill_r, zr_kill_u, zr_kill_f, zr_kill_n, zc_cat, zr_cat_i, zr_cat_l, zr_cat_r, zr_cat_f, zr_cat_d, zr_cat_u, beq_self_eq_true, Nat.zero_le, Nat.le_refl, Nat.reduceSub, Nat.reduceAdd, Nat.reduceLeDiff, csl_f, csr_f, cn_f, lg_cmp_eq, lg_cmp_le, lg_cmp_lt, lg_cmp_ge, lg_cmp_gt, nI_1, zr_up_self, zp_O, zr_fup_self, zr_fup_ne, ne_eq, Nat.reduceEqDiff, not_false_eq_true, pk_mul, w1.1, zy_I, zy_6, e6]
  refine ⟨fun _ => ?_, fun y => absurd (by decide) y⟩
  simp only [zs_187_0, zs_187_0u, zs_187_1, zs_187_2, zt_187_2, zs_187_5, zs_187_8, zs_187_9, zs_187_12, zs_187_13, zs_187_16, zs_187_16u, zs_187_17, zs_187_20, zs_187_23, zs_187_24, zs_187_25, zs_187_25u, zs_187_26, zt_187_26, zs_187_29, zs_187_29u, zs_187_30, zs_187_33, zs_187_34, zs_187_35, zs_187_36, zs_187_37, zs_187_37u, zs_187_38, zs_187_41, zs_187_42, zs_187_43, zs_187_44, zs_187_45, zs_187_45u, zs_187_46, zs_187_49, zs_187_51, zs_187_54, zs_187_55, zs_187_55u, zs_187_56, zs_187_59, zs_187_60, zs_187_61, zs_187_62, zs_187_63, zc_isO, zr_fld_mk, zc_isA, zc_len, zr_elt_mk, zr_kill_i, zr_kill_l, zr_kill_r, zr_kill_u, zr_kill_f, zr_kill_n, zc_cat, zr_cat_i, zr_cat_l, zr_cat_r, zr_cat_f, zr_cat_d, zr_cat_u, beq_self_eq_true, Nat.zero_le, Nat.le_refl, Nat.reduceSub, Nat.reduceAdd, Nat.reduceLeDiff, csl_f, csr_f, cn_f, lg_cmp_eq, lg_cmp_le, lg_cmp_lt, lg_cmp_ge, lg_cmp_gt, nI_1, zr_up_self, zp_O, zr_fup_self, zr_fup_ne, ne_eq, Nat.reduceEqDiff, not_false_eq_true, pk_mul, w1.1, zy_I]
  refine k_mkeepM (d := d + 1) v1 (fun h2 K2 eK v2 f2 => ?_)
  have f2 := fx_trans f1 f2
  obtain ⟨f, ff, fk, fs, v2, r, g, hk, ht, hl, k5, k8, k16, k23⟩ := v2
  have e2 : f 2 = (I 2).toInt64 := r.2.2.1
  obtain ⟨a1, a2, a3, a4⟩ := ms_a v2 (k := 2) (by omega) (y := 2) rfl
  rw [e2] at a3
  simp only [zs_187_0, zs_187_0u, zs_187_1, zs_187_2, zt_187_2, zs_187_5, zs_187_8, zs_187_9, zs_187_12, zs_187_13, zs_187_16, zs_187_16u, zs_187_17, zs_187_20, zs_187_23, zs_187_24, zs_187_25, zs_187_25u, zs_187_26, zt_187_26, zs_187_29, zs_187_29u, zs_187_30, zs_187_33, zs_187_34, zs_187_35, zs_187_36, zs_187_38, zs_187_41, zs_187_42, zs_187_43, zs_187_44, zs_187_45, zs_187_45u, zs_187_46, zs_187_49, zs_187_51, zs_187_54, zs_187_55, zs_187_55u, zs_187_56, zs_187_59, zs_187_60, zs_187_61, zs_187_62, zs_187_63, zc_isO, zr_fld_mk, zc_isA, zc_len, zr_elt_mk, zr_kill_i, zr_kill_l, zr_kill_r, zr_kill_u, zr_kill_f, zr_kill_n, zc_cat, zr_cat_i, zr_cat_l, zr_cat_r, zr_cat_f, zr_cat_d, zr_cat_u, beq_self_eq_true, Nat.zero_le, Nat.le_refl, Nat.reduceSub, Nat.reduceAdd, Nat.reduceLeDiff, csl_f, csr_f, cn_f, lg_cmp_eq, lg_cmp_le, lg_cmp_lt, lg_cmp_ge, lg_cmp_gt, nI_1, zr_up_self, zp_O, zr_fup_self, zr_fup_ne, ne_eq, Nat.reduceEqDiff, not_false_eq_true, pk_mul, v2.1, zy_I, zy_0, a1, a2, a3, l2i_i]
  simp only [zs_187_0, zs_187_0u, zs_187_1, zs_187_2, zt_187_2, zs_187_5, zs_187_8, zs_187_9, zs_187_12, zs_187_13, zs_187_16, zs_187_16u, zs_187_17, zs_187_20, zs_187_23, zs_187_24, zs_187_25, zs_187_25u, zs_187_26, zt_187_26, zs_187_29, zs_187_29u, zs_187_30, zs_187_33, zs_187_34, zs_187_35, zs_187_36, zs_187_37, zs_187_37u, zs_187_38, zs_187_41, zs_187_42, zs_187_43, zs_187_44, zs_187_46, zs_187_49, zs_187_51, zs_187_54, zs_187_55, zs_187_55u, zs_187_56, zs_187_59, zs_187_60, zs_187_61, zs_187_62, zs_187_63, zc_isO, zr_fld_mk, zc_isA, zc_len, zr_elt_mk, zr_kill_i, zr_kill_l, zr_kill_r, zr_kill_u, zr_kill_f, zr_kill_n, zc_cat, zr_cat_i, zr_cat_l, zr_cat_r, zr_cat_f, zr_cat_d, zr_cat_u, beq_self_eq_true, Nat.zero_le, Nat.le_refl, Nat.reduceSub, Nat.reduceAdd, Nat.reduceLeDiff, csl_f, csr_f, cn_f, lg_cmp_eq, lg_cmp_le, lg_cmp_lt, lg_cmp_ge, lg_cmp_gt, nI_1, zr_up_self, zp_O, zr_fup_self, zr_fup_ne, ne_eq, Nat.reduceEqDiff, not_false_eq_true, pk_mul, v2.1, zy_I, zy_0, a1, a2, a4]
  obtain ⟨v3, f3⟩ := mM_set v2 (k := 2) (by omega) (y := y.toInt64)
  generalize zr_putA h2 (E 0) 2 (.long y.toInt64) = h3 at *
  obtain ⟨a1, a2, -, a4⟩ := ms_a v3 (k := 7) (by omega) (y := 7) rfl
  simp only [zs_187_0, zs_187_0u, zs_187_1, zs_187_2, zt_187_2, zs_187_5, zs_187_8, zs_187_9, zs_187_12, zs_187_13, zs_187_16, zs_187_16u, zs_187_17, zs_187_20, zs_187_23, zs_187_24, zs_187_25, zs_187_25u, zs_187_26, zt_187_26, zs_187_29, zs_187_29u, zs_187_30, zs_187_33, zs_187_34, zs_187_35, zs_187_36, zs_187_37, zs_187_37u, zs_187_38, zs_187_41, zs_187_42, zs_187_43, zs_187_44, zs_187_45, zs_187_45u, zs_187_46, zs_187_49, zs_187_51, zs_187_54, zs_187_56, zs_187_59, zs_187_60, zs_187_61, zs_187_62, zs_187_63, zc_isO, zr_fld_mk, zc_isA, zc_len, zr_elt_mk, zr_kill_i, zr_kill_l, zr_kill_r, zr_kill_u, zr_kill_f, zr_kill_n, zc_cat, zr_cat_i, zr_cat_l, zr_cat_r, zr_cat_f, zr_cat_d, zr_cat_u, beq_self_eq_true, Nat.zero_le, Nat.le_refl, Nat.reduceSub, Nat.reduceAdd, Nat.reduceLeDiff, csl_f, csr_f, cn_f, lg_cmp_eq, lg_cmp_le, lg_cmp_lt, lg_cmp_ge, lg_cmp_gt, nI_1, zr_up_self, zp_O, zr_fup_self, zr_fup_ne, ne_eq, Nat.reduceEqDiff, not_false_eq_true, pk_mul, v3.1, zy_I, zy_0, a1, a2, a4]
  obtain ⟨v4, f4⟩ := mM_set v3 (k := 7) (by omega) (y := (-1 : Int32).toInt64)
  change zr_Z _ _ _ _ _ _ (zr_putA h3 (E 0) 7 (.long (-1 : Int32).toInt64)) _ _
  generalize zr_putA h3 (E 0) 7 (.long (-1 : Int32).toInt64) = h4 at *
  obtain ⟨a1, a2, -, a4⟩ := ms_a v4 (k := 4) (by omega) (y := 4) rfl
  simp only [zs_187_0, zs_187_0u, zs_187_1, zs_187_2, zt_187_2, zs_187_5, zs_187_8, zs_187_9, zs_187_12, zs_187_13, zs_187_16, zs_187_16u, zs_187_17, zs_187_20, zs_187_23, zs_187_24, zs_187_25, zs_187_25u, zs_187_26, zt_187_26, zs_187_29, zs_187_29u, zs_187_30, zs_187_33, zs_187_34, zs_187_35, zs_187_36, zs_187_37, zs_187_37u, zs_187_38, zs_187_41, zs_187_42, zs_187_43, zs_187_44, zs_187_45, zs_187_45u, zs_187_46, zs_187_49, zs_187_51, zs_187_54, zs_187_55, zs_187_55u, zs_187_56, zs_187_59, zs_187_60, zs_187_61, zs_187_63, zc_isO, zr_fld_mk, zc_isA, zc_len, zr_elt_mk, zr_kill_i, zr_kill_l, zr_kill_r, zr_kill_u, zr_kill_f, zr_kill_n, zc_cat, zr_cat_i, zr_cat_l, zr_cat_r, zr_cat_f, zr_cat_d, zr_cat_u, beq_self_eq_true, Nat.zero_le, Nat.le_refl, Nat.reduceSub, Nat.reduceAdd, Nat.reduceLeDiff, csl_f, csr_f, cn_f, lg_cmp_eq, lg_cmp_le, lg_cmp_lt, lg_cmp_ge, lg_cmp_gt, nI_1, zr_up_self, zp_O, zr_fup_self, zr_fup_ne, ne_eq, Nat.reduceEqDiff, not_false_eq_true, pk_mul, v4.1, zy_I, zy_0, a1, a2, a4]
  obtain ⟨v5, f5⟩ := mM_set v4 (k := 4) (by omega) (y := (0 : Int32).toInt64)
  change zr_Z _ _ _ _ _ _ (zr_putA h4 (E 0) 4 (.long (0 : Int32).toInt64)) _ _
  generalize zr_putA h4 (E 0) 4 (.long (0 : Int32).toInt64) = h5 at *
  have r5 := rG_I (rG_I (rG_I r (k := 2) (x := y) (by omega)) (k := 7) (x := -1) (by omega)) (k := 4) (x := 0) (by omega)
  have g5 : gI R S b w P (fI (fI (fI I 2 y) 7 (-1)) 4 0) := by
    obtain ⟨g1, g2, g3, g4, g5, g6, g7, g8, g9, g10⟩ := g
    exact ⟨g1, g2, g3, g4, g5, e, Or.inl rfl, Or.inl rfl, g9, g10⟩
  simp only [zs_187_0, zs_187_0u, zs_187_1, zs_187_2, zt_187_2, zs_187_5, zs_187_8, zs_187_9, zs_187_12, zs_187_13, zs_187_16, zs_187_16u, zs_187_17, zs_187_20, zs_187_23, zs_187_24, zs_187_25, zs_187_25u, zs_187_26, zt_187_26, zs_187_29, zs_187_29u, zs_187_30, zs_187_33, zs_187_34, zs_187_35, zs_187_36, zs_187_37, zs_187_37u, zs_187_38, zs_187_41, zs_187_42, zs_187_43, zs_187_44, zs_187_45, zs_187_45u, zs_187_46, zs_187_49, zs_187_51, zs_187_54, zs_187_55, zs_187_55u, zs_187_56, zs_187_59, zs_187_60, zs_187_61, zs_187_62, zs_187_63, zc_isO, zr_fld_mk, zc_isA, zc_len, zr_elt_mk, zr_kill_i, zr_kill_l, zr_kill_r, zr_kill_u, zr_kill_f, zr_kill_n, zc_cat, zr_cat_i, zr_cat_l, zr_cat_r, zr_cat_f, zr_cat_d, zr_cat_u, beq_self_eq_true, Nat.zero_le, Nat.le_refl, Nat.reduceSub, Nat.reduceAdd, Nat.reduceLeDiff, csl_f, csr_f, cn_f, lg_cmp_eq, lg_cmp_le, lg_cmp_lt, lg_cmp_ge, lg_cmp_gt, nI_1, zr_up_self, zp_O, zr_fup_self, zr_fup_ne, ne_eq, Nat.reduceEqDiff, not_false_eq_true, pk_mul]
  exact hQ _ h5 K2 L ⟨by rw [eK 6 (by omega)]; exact e6, rfl⟩ ⟨_, ff, fk, fs, v5, r5, g5, hk, ht, hl, k5, k8, k16, k23⟩ (fx_trans f2 (fx_trans f3 (fx_trans f4 f5)))
theorem k_msrule {y : Int32} (v : mM h m E K L (R, S, b, w, P, I) H T n e l bf wf) (q1 : ¬ (0 ≤ y ∧ y ≤ 1) → mQM h m E Q [1] (R, S, b, w, P, I) H T n e l bf wf (.inr 1))
    (hQ : (0 ≤ y ∧ y ≤ 1) → mQM h m E Q [1] (R, S, b, w, [(b, w)], fI I 8 y) (((R, S, b, w, P, I) :: H).take 8) T n e l bf wf (.inl (I 8))) : zr_E (d + 3) 188 [.ref m, .int y] h Q := by
  obtain ⟨f, v0⟩ := mM_q v
  have z1 : (1 : Int64) = (1 : Int32).toInt64 := rfl
  rw [ze_188]
  simp only [zs_188_0, zs_188_0u, zs_188_1, zs_188_2, zs_188_3, zs_188_4, zs_188_5, zt_188_5, zs_188_11, zs_188_12, zs_188_15, zs_188_16, zs_188_19, zs_188_19u, zs_188_20, zs_188_23, zs_188_26, zs_188_27, zs_188_28, zs_188_28u, zs_188_29, zt_188_29, zs_188_32, zs_188_32u, zs_188_33, zs_188_36, zs_188_38, zs_188_39, zs_188_40, zs_188_41, zs_188_41u, zs_188_42, zs_188_45, zs_188_47, zs_188_48, zs_188_49, zs_188_50, zs_188_50u, zs_188_51, zt_188_51, zs_188_54, zs_188_55, zc_isO, zr_fld_mk, zc_isA, zc_len, zr_elt_mk, zr_kill_i, zr_kill_l, zr_kill_r, zr_kill_u, zr_kill_f, zr_kill_n, zc_cat, zr_cat_i, zr_cat_l, zr_cat_r, zr_cat_f, zr_cat_d, zr_cat_u, beq_self_eq_true, Nat.zero_le, Nat.le_refl, Nat.reduceSub, Nat.reduceAdd, Nat.reduceLeDiff, csl_f, csr_f, cn_f, lg_cmp_eq, lg_cmp_le, lg_cmp_lt, lg_cmp_ge, lg_cmp_gt, nI_1, zr_up_self, zp_O, zr_fup_self, zr_fup_ne, ne_eq, Nat.reduceEqDiff, not_false_eq_true, pk_mul, v0.1, zy_I]
  rw [z1, z0_l]
  refine k_isin (d := d + 1) (fun e => ?_) (fun e => ?_)
  rotate_left
  · rw [i_l] at e
    have q1 := mQ_of v (q1 e)
    simp only [zs_188_0, zs_188_0u, zs_188_1, zs_188_2, zs_188_3, zs_188_4, zs_188_5, zt_188_5, zs_188_8, zs_188_12, zs_188_16, zs_188_19, zs_188_19u, zs_188_20, zs_188_23, zs_188_26, zs_188_27, zs_188_28, zs_188_28u, zs_188_29, zt_188_29, zs_188_32, zs_188_32u, zs_188_33, zs_188_36, zs_188_38, zs_188_39, zs_188_40, zs_188_41, zs_188_41u, zs_188_42, zs_188_45, zs_188_47, zs_188_48, zs_188_49, zs_188_50, zs_188_50u, zs_188_51, zt_188_51, zs_188_54, zs_188_55, zc_isO, zr_fld_mk, zc_isA, zc_len, zr_elt_mk, zr_kill_i, zr_kill_l, zr_kill_r, zr_kill_u, zr_kill_f, zr_kill_n, zc_cat, zr_cat_i, zr_cat_l, zr_cat_r, zr_cat_f, zr_cat_d, zr_cat_u, beq_self_eq_true, Nat.zero_le, Nat.le_refl, Nat.reduceSub, Nat.reduceAdd, Nat.reduceLeDiff, csl_f, csr_f, cn_f, lg_cmp_eq, lg_cmp_le, lg_cmp_lt, lg_cmp_ge, lg_cmp_gt, nI_1, zr_up_self, zp_O, zr_fup_self, zr_fup_ne, ne_eq, Nat.reduceEqDiff, not_false_eq_true, pk_mul]
    refine ⟨fun _ => ?_, fun y => absurd trivial y⟩
    simp only [zs_188_0, zs_188_0u, zs_188_1, zs_188_2, zs_188_3, zs_188_4, zs_188_5, zt_188_5, zs_188_8, zs_188_11, zs_188_12, zs_188_15, zs_188_16, zs_188_20, zs_188_23, zs_188_26, zs_188_27, zs_188_28, zs_188_28u, zs_188_29, zt_188_29, zs_188_32, zs_188_32u, zs_188_33, zs_188_36, zs_188_38, zs_188_39, zs_188_40, zs_188_41, zs_188_41u, zs_188_42, zs_188_45, zs_188_47, zs_188_48, zs_188_49, zs_188_50, zs_188_50u, zs_188_51, zt_188_51, zs_188_54, zs_188_55, zc_isO, zr_fld_mk, zc_isA, zc_len, zr_elt_mk, zr_kill_i, zr_kill_l, zr_kill_r, zr_kill_u, zr_kill_f, zr_kill_n, zc_cat, zr_cat_i, zr_cat_l, zr_cat_r, zr_cat_f, zr_cat_d, zr_cat_u, beq_self_eq_true, Nat.zero_le, Nat.le_refl, Nat.reduceSub, Nat.reduceAdd, Nat.reduceLeDiff, csl_f, csr_f, cn_f, lg_cmp_eq, lg_cmp_le, lg_cmp_lt, lg_cmp_ge, lg_cmp_gt, nI_1, zr_up_self, zp_O, zr_fup_self, zr_fup_ne, ne_eq, Nat.reduceEqDiff, not_false_eq_true, pk_mul, v0.1, zy_I]
    rw [putY v0.1 (by omega)]
    have v2 := mq_up v0 (fI K 6 1) L
    have e6 : fI K 6 1 6 = 1 := fI_s _ _ _
    simp only [zs_188_0, zs_188_0u, zs_188_1, zs_188_2, zs_188_3, zs_188_4, zs_188_5, zt_188_5, zs_188_8, zs_188_11, zs_188_12, zs_188_15, zs_188_16, zs_188_19, zs_188_19u, zs_188_20, zs_188_23, zs_188_27, zs_188_29, zt_188_29, zs_188_32, zs_188_32u, zs_188_33, zs_188_36, zs_188_38, zs_188_39, zs_188_40, zs_188_41, zs_188_41u, zs_188_42, zs_188_45, zs_188_47, zs_188_48, zs_188_49, zs_188_50, zs_188_50u, zs_188_51, zt_188_51, zs_188_54, zs_188_55, zc_isO, zr_fld_mk, zc_isA, zc_len, zr_elt_mk, zr_kill_i, zr_kill_l, zr_kill_r, zr_kill_u, zr_kill_f, zr_kill_n, zc_cat, zr_cat_i, zr_cat_l, zr_cat_r, zr_cat_f, zr_cat_d, zr_cat_u, beq_self_eq_true, Nat.zero_le, Nat.le_refl, Nat.reduceSub, Nat.reduceAdd, Nat.reduceLeDiff, csl_f, csr_f, cn_f, lg_cmp_eq, lg_cmp_le, lg_cmp_lt, lg_cmp_ge, lg_cmp_gt, nI_1, zr_up_self, zp_O, zr_fup_self, zr_fup_ne, ne_eq, Nat.reduceEqDiff, not_false_eq_true, pk_mul, zy_I, zy_6, e6]
    refine ⟨fun y => absurd y (by decide), fun _ => ?_⟩
    simp only [zs_188_0, zs_188_0u, zs_188_1, zs_188_2, zs_188_3, zs_188_4, zs_188_5, zt_188_5, zs_188_8, zs_188_11, zs_188_12, zs_188_15, zs_188_16, zs_188_19, zs_188_19u, zs_188_20, zs_188_23, zs_188_26, zs_188_27, zs_188_28, zs_188_28u, zs_188_29, zt_188_29, zs_188_32, zs_188_32u, zs_188_33, zs_188_36, zs_188_38, zs_188_39, zs_188_40, zs_188_41, zs_188_41u, zs_188_42, zs_188_45, zs_188_47, zs_188_48, zs_188_49, zs_188_50, zs_188_50u, zs_188_51, zt_188_51, zs_188_54, zs_188_55, zc_isO, zr_fld_mk, zc_isA, zc_len, zr_elt_mk, zr_kill_i, zr_kill_l, zr_kill_r, zr_kill_u, zr_kill_f, zr_kill_n, zc_cat, zr_cat_i, zr_cat_l, zr_cat_r, zr_cat_f, zr_cat_d, zr_cat_u, beq_self_eq_true, Nat.zero_le, Nat.le_refl, Nat.reduceSub, Nat.reduceAdd, Nat.reduceLeDiff, csl_f, csr_f, cn_f, lg_cmp_eq, lg_cmp_le, lg_cmp_lt, lg_cmp_ge, lg_cmp_gt, nI_1, zr_up_self, zp_O, zr_fup_self, zr_fup_ne, ne_eq, Nat.reduceEqDiff, not_false_eq_true, pk_mul]
    exact mQ_e q1 0 L
  rw [i_l] at e
  have hQ := hQ e
  simp only [zs_188_0, zs_188_0u, zs_188_1, zs_188_2, zs_188_3, zs_188_4, zs_188_5, zt_188_5, zs_188_8, zs_188_12, zs_188_16, zs_188_19, zs_188_19u, zs_188_20, zs_188_23, zs_188_26, zs_188_27, zs_188_28, zs_188_28u, zs_188_29, zt_188_29, zs_188_32, zs_188_32u, zs_188_33, zs_188_36, zs_188_38, zs_188_39, zs_188_40, zs_188_41, zs_188_41u, zs_188_42, zs_188_45, zs_188_47, zs_188_48, zs_188_49, zs_188_50, zs_188_50u, zs_188_51, zt_188_51, zs_188_54, zs_188_55, zc_isO, zr_fld_mk, zc_isA, zc_len, zr_elt_mk, zr_kill_i, zr_kill_l, zr_kill_r, zr_kill_u, zr_kill_f, zr_kill_n, zc_cat, zr_cat_i, zr_cat_l, zr_cat_r, zr_cat_f, zr_cat_d, zr_cat_u, beq_self_eq_true, Nat.zero_le, Nat.le_refl, Nat.reduceSub, Nat.reduceAdd, Nat.reduceLeDiff, csl_f, csr_f, cn_f, lg_cmp_eq, lg_cmp_le, lg_cmp_lt, lg_cmp_ge, lg_cmp_gt, nI_1, zr_up_self, zp_O, zr_fup_self, zr_fup_ne, ne_eq, Nat.reduceEqDiff, not_false_eq_true, pk_mul]
  refine ⟨fun y => absurd y (by decide), fun _ => ?_⟩
  simp only [zs_188_0, zs_188_0u, zs_188_1, zs_188_2, zs_188_3, zs_188_4, zs_188_5, zt_188_5, zs_188_8, zs_188_11, zs_188_12, zs_188_15, zs_188_16, zs_188_20, zs_188_23, zs_188_26, zs_188_27, zs_188_28, zs_188_28u, zs_188_29, zt_188_29, zs_188_32, zs_188_32u, zs_188_33, zs_188_36, zs_188_38, zs_188_39, zs_188_40, zs_188_41, zs_188_41u, zs_188_42, zs_188_45, zs_188_47, zs_188_48, zs_188_49, zs_188_50, zs_188_50u, zs_188_51, zt_188_51, zs_188_54, zs_188_55, zc_isO, zr_fld_mk, zc_isA, zc_len, zr_elt_mk, zr_kill_i, zr_kill_l, zr_kill_r, zr_kill_u, zr_kill_f, zr_kill_n, zc_cat, zr_cat_i, zr_cat_l, zr_cat_r, zr_cat_f, zr_cat_d, zr_cat_u, beq_self_eq_true, Nat.zero_le, Nat.le_refl, Nat.reduceSub, Nat.reduceAdd, Nat.reduceLeDiff, csl_f, csr_f, cn_f, lg_cmp_eq, lg_cmp_le, lg_cmp_lt, lg_cmp_ge, lg_cmp_gt, nI_1, zr_up_self, zp_O, zr_fup_self, zr_fup_ne, ne_eq, Nat.reduceEqDiff, not_false_eq_true, pk_mul, v0.1, zy_I]
  rw [putY v0.1 (by omega)]
  obtain ⟨v1, f1⟩ := mM_up v (K2 := fI K 6 0) (L2 := L) (fI_n _ _ (by omega)) (fI_n _ _ (by omega)) (fI_n _ _ (by omega)) (fI_n _ _ (by omega))
  have e6 : fI K 6 0 6 = 0 := fI_s _ _ _
  generalize zr_up h m (zym E (fI K 6 0) L) = h1 at *
  obtain ⟨_, w1⟩ := mM_q v1
  simp only [zs_188_0, zs_188_0u, zs_188_1, zs_188_2, zs_188_3, zs_188_4, zs_188_5, zt_188_5, zs_188_8, zs_188_11, zs_188_12, zs_188_15, zs_188_16, zs_188_19, zs_188_19u, zs_188_20, zs_188_23, zs_188_27, zs_188_29, zt_188_29, zs_188_32, zs_188_32u, zs_188_33, zs_188_36, zs_188_38, zs_188_39, zs_188_40, zs_188_41, zs_188_41u, zs_188_42, zs_188_45, zs_188_47, zs_188_48, zs_188_49, zs_188_50, zs_188_50u, zs_188_51, zt_188_51, zs_188_54, zs_188_55, zc_isO, zr_fld_mk, zc_isA, zc_len, zr_elt_mk, zr_kill_i, zr_kill_l, zr_kill_r, zr_kill_u, zr_kill_f, zr_kill_n, zc_cat, zr_cat_i, zr_cat_l, zr_cat_r, zr_cat_f, zr_cat_d, zr_cat_u, beq_self_eq_true, Nat.zero_le, Nat.le_refl, Nat.reduceSub, Nat.reduceAdd, Nat.reduceLeDiff, csl_f, csr_f, cn_f, lg_cmp_eq, lg_cmp_le, lg_cmp_lt, lg_cmp_ge, lg_cmp_gt, nI_1, zr_up_self, zp_O, zr_fup_self, zr_fup_ne, ne_eq, Nat.reduceEqDiff, not_false_eq_true, pk_mul, w1.1, zy_I, zy_6, e6]
  refine ⟨fun _ => ?_, fun y => absurd (by decide) y⟩
  simp only [zs_188_0, zs_188_0u, zs_188_1, zs_188_2, zs_188_3, zs_188_4, zs_188_5, zt_188_5, zs_188_8, zs_188_11, zs_188_12, zs_188_15, zs_188_16, zs_188_19, zs_188_19u, zs_188_20, zs_188_23, zs_188_26, zs_188_27, zs_188_28, zs_188_28u, zs_188_29, zt_188_29, zs_188_32, zs_188_32u, zs_188_33, zs_188_36, zs_188_38, zs_188_39, zs_188_40, zs_188_41, zs_188_41u, zs_188_42, zs_188_45, zs_188_47, zs_188_48, zs_188_49, zs_188_50, zs_188_50u, zs_188_51, zt_188_51, zs_188_54, zs_188_55, zc_isO, zr_fld_mk, zc_isA, zc_len, zr_elt_mk, zr_kill_i, zr_kill_l, zr_kill_r, zr_kill_u, zr_kill_f, zr_kill_n, zc_cat, zr_cat_i, zr_cat_l, zr_cat_r, zr_cat_f, zr_cat_d, zr_cat_u, beq_self_eq_true, Nat.zero_le, Nat.le_refl, Nat.reduceSub, Nat.reduceAdd, Nat.reduceLeDiff, csl_f, csr_f, cn_f, lg_cmp_eq, lg_cmp_le, lg_cmp_lt, lg_cmp_ge, lg_cmp_gt, nI_1, zr_up_self, zp_O, zr_fup_self, zr_fup_ne, ne_eq, Nat.reduceEqDiff, not_false_eq_true, pk_mul, w1.1, zy_I]
  refine k_mkeepM (d := d + 1) v1 (fun h2 K2 eK v2 f2 => ?_)
  have f2 := fx_trans f1 f2
  obtain ⟨f, ff, fk, fs, v2, r, g, hk, ht, hl, k5, k8, k16, k23⟩ := v2
  have e2 : f 8 = (I 8).toInt64 := r.2.2.2.2.2.2.2.2.1
  obtain ⟨a1, a2, a3, a4⟩ := ms_a v2 (k := 8) (by omega) (y := 8) rfl
  rw [e2] at a3
  simp only [zs_188_0, zs_188_0u, zs_188_1, zs_188_2, zs_188_3, zs_188_4, zs_188_5, zt_188_5, zs_188_8, zs_188_11, zs_188_12, zs_188_15, zs_188_16, zs_188_19, zs_188_19u, zs_188_20, zs_188_23, zs_188_26, zs_188_27, zs_188_28, zs_188_28u, zs_188_29, zt_188_29, zs_188_32, zs_188_32u, zs_188_33, zs_188_36, zs_188_38, zs_188_39, zs_188_40, zs_188_42, zs_188_45, zs_188_47, zs_188_48, zs_188_49, zs_188_50, zs_188_50u, zs_188_51, zt_188_51, zs_188_54, zs_188_55, zc_isO, zr_fld_mk, zc_isA, zc_len, zr_elt_mk, zr_kill_i, zr_kill_l, zr_kill_r, zr_kill_u, zr_kill_f, zr_kill_n, zc_cat, zr_cat_i, zr_cat_l, zr_cat_r, zr_cat_f, zr_cat_d, zr_cat_u, beq_self_eq_true, Nat.zero_le, Nat.le_refl, Nat.reduceSub, Nat.reduceAdd, Nat.reduceLeDiff, csl_f, csr_f, cn_f, lg_cmp_eq, lg_cmp_le, lg_cmp_lt, lg_cmp_ge, lg_cmp_gt, nI_1, zr_up_self, zp_O, zr_fup_self, zr_fup_ne, ne_eq, Nat.reduceEqDiff, not_false_eq_true, pk_mul, v2.1, zy_I, zy_0, a1, a2, a3, l2i_i]
  simp only [zs_188_0, zs_188_0u, zs_188_1, zs_188_2, zs_188_3, zs_188_4, zs_188_5, zt_188_5, zs_188_8, zs_188_11, zs_188_12, zs_188_15, zs_188_16, zs_188_19, zs_188_19u, zs_188_20, zs_188_23, zs_188_26, zs_188_27, zs_188_28, zs_188_28u, zs_188_29, zt_188_29, zs_188_32, zs_188_32u, zs_188_33, zs_188_36, zs_188_38, zs_188_39, zs_188_40, zs_188_41, zs_188_41u, zs_188_42, zs_188_45, zs_188_47, zs_188_48, zs_188_49, zs_188_51, zt_188_51, zs_188_54, zs_188_55, zc_isO, zr_fld_mk, zc_isA, zc_len, zr_elt_mk, zr_kill_i, zr_kill_l, zr_kill_r, zr_kill_u, zr_kill_f, zr_kill_n, zc_cat, zr_cat_i, zr_cat_l, zr_cat_r, zr_cat_f, zr_cat_d, zr_cat_u, beq_self_eq_true, Nat.zero_le, Nat.le_refl, Nat.reduceSub, Nat.reduceAdd, Nat.reduceLeDiff, csl_f, csr_f, cn_f, lg_cmp_eq, lg_cmp_le, lg_cmp_lt, lg_cmp_ge, lg_cmp_gt, nI_1, zr_up_self, zp_O, zr_fup_self, zr_fup_ne, ne_eq, Nat.reduceEqDiff, not_false_eq_true, pk_mul, v2.1, zy_I, zy_0, a1, a2, a4]
  obtain ⟨v3, f3⟩ := mM_set v2 (k := 8) (by omega) (y := y.toInt64)
  generalize zr_putA h2 (E 0) 8 (.long y.toInt64) = h3 at *
  simp only [zs_188_0, zs_188_0u, zs_188_1, zs_188_2, zs_188_3, zs_188_4, zs_188_5, zt_188_5, zs_188_8, zs_188_11, zs_188_12, zs_188_15, zs_188_16, zs_188_19, zs_188_19u, zs_188_20, zs_188_23, zs_188_26, zs_188_27, zs_188_28, zs_188_28u, zs_188_29, zt_188_29, zs_188_32, zs_188_32u, zs_188_33, zs_188_36, zs_188_38, zs_188_39, zs_188_40, zs_188_41, zs_188_41u, zs_188_42, zs_188_45, zs_188_47, zs_188_48, zs_188_49, zs_188_50, zs_188_50u, zs_188_51, zt_188_51, zs_188_54, zs_188_55, zc_isO, zr_fld_mk, zc_isA, zc_len, zr_elt_mk, zr_kill_i, zr_kill_l, zr_kill_r, zr_kill_u, zr_kill_f, zr_kill_n, zc_cat, zr_cat_i, zr_cat_l, zr_cat_r, zr_cat_f, zr_cat_d, zr_cat_u, beq_self_eq_true, Nat.zero_le, Nat.le_refl, Nat.reduceSub, Nat.reduceAdd, Nat.reduceLeDiff, csl_f, csr_f, cn_f, lg_cmp_eq, lg_cmp_le, lg_cmp_lt, lg_cmp_ge, lg_cmp_gt, nI_1, zr_up_self, zp_O, zr_fup_self, zr_fup_ne, ne_eq, Nat.reduceEqDiff, not_false_eq_true, pk_mul, v3.1, zy_I]
  refine k_mforg (d := d) v3 (fun h4 v4 f4 => ?_)
  have r4 := rG_forg (rG_I r (k := 8) (x := y) (by omega))
  have g4 : gI R S b w [(b, w)] (fI I 8 y) := by
    obtain ⟨g1, g2, g3, g4, g5, g6, g7, g8, g9, g10⟩ := g
    refine ⟨g1, g2, g3, g4, g5, g6, g7, g8, ?_, by simp⟩
    show y = 0 ∨ y = 1
    obtain ⟨j, hj, ej⟩ := nI_of (x := y) (fun u => absurd e.1 (Int32.not_le.mpr u))
    subst ej
    have : j ≤ 1 := by
      rcases Nat.lt_or_ge 1 j with u | u
      · exact absurd e.2 (nI_ge (a := 1) u hj)
      · exact u
    have : j = 0 ∨ j = 1 := by omega
    rcases this with u | u <;> subst u
    · exact Or.inl rfl
    · exact Or.inr rfl
  simp only [zs_188_0, zs_188_0u, zs_188_1, zs_188_2, zs_188_3, zs_188_4, zs_188_5, zt_188_5, zs_188_8, zs_188_11, zs_188_12, zs_188_15, zs_188_16, zs_188_19, zs_188_19u, zs_188_20, zs_188_23, zs_188_26, zs_188_27, zs_188_28, zs_188_28u, zs_188_29, zt_188_29, zs_188_32, zs_188_32u, zs_188_33, zs_188_36, zs_188_38, zs_188_39, zs_188_40, zs_188_41, zs_188_41u, zs_188_42, zs_188_45, zs_188_47, zs_188_48, zs_188_49, zs_188_50, zs_188_50u, zs_188_51, zt_188_51, zs_188_54, zs_188_55, zc_isO, zr_fld_mk, zc_isA, zc_len, zr_elt_mk, zr_kill_i, zr_kill_l, zr_kill_r, zr_kill_u, zr_kill_f, zr_kill_n, zc_cat, zr_cat_i, zr_cat_l, zr_cat_r, zr_cat_f, zr_cat_d, zr_cat_u, beq_self_eq_true, Nat.zero_le, Nat.le_refl, Nat.reduceSub, Nat.reduceAdd, Nat.reduceLeDiff, csl_f, csr_f, cn_f, lg_cmp_eq, lg_cmp_le, lg_cmp_lt, lg_cmp_ge, lg_cmp_gt, nI_1, zr_up_self, zp_O, zr_fup_self, zr_fup_ne, ne_eq, Nat.reduceEqDiff, not_false_eq_true, pk_mul]
  exact hQ _ h4 K2 L ⟨by rw [eK 6 (by omega)]; exact e6, rfl⟩ ⟨_, ff, fk, fs, v4, r4, g4, hk, ht, hl, k5, k8, k16, k23⟩ (fx_trans f2 (fx_trans f3 f4))
theorem k_msbonus {y : Int32} (v : mM h m E K L (R, S, b, w, P, I) H T n e l bf wf) (q1 : ¬ (-99 ≤ y ∧ y ≤ 99) → mQM h m E Q [1] (R, S, b, w, P, I) H T n e l bf wf (.inr 1))
    (hQ : (-99 ≤ y ∧ y ≤ 99) → mQM h m E Q [1] (R, S, b, w, P, fI I 9 y) (((R, S, b, w, P, I) :: H).take 8) T n e l bf wf (.inl (I 9))) : zr_E (d + 2) 189 [.ref m, .int y] h Q := by
  obtain ⟨f, v0⟩ := mM_q v
  have z1 : (-99 : Int64) = (-99 : Int32).toInt64 := rfl
  have z2 : (99 : Int64) = (99 : Int32).toInt64 := rfl
  rw [ze_189]
  simp only [zs_189_0, zs_189_0u, zs_189_1, zs_189_2, zs_189_3, zs_189_6, zs_189_9, zt_189_9, zs_189_15, zs_189_16, zs_189_19, zs_189_20, zs_189_23, zs_189_23u, zs_189_24, zs_189_27, zs_189_30, zs_189_31, zs_189_32, zs_189_32u, zs_189_33, zt_189_33, zs_189_36, zs_189_36u, zs_189_37, zs_189_40, zs_189_42, zs_189_43, zs_189_44, zs_189_45, zs_189_45u, zs_189_46, zs_189_49, zs_189_51, zs_189_52, zs_189_53, zs_189_54, zs_189_55, zc_isO, zr_fld_mk, zc_isA, zc_len, zr_elt_mk, zr_kill_i, zr_kill_l, zr_kill_r, zr_kill_u, zr_kill_f, zr_kill_n, zc_cat, zr_cat_i, zr_cat_l, zr_cat_r, zr_cat_f, zr_cat_d, zr_cat_u, beq_self_eq_true, Nat.zero_le, Nat.le_refl, Nat.reduceSub, Nat.reduceAdd, Nat.reduceLeDiff, csl_f, csr_f, cn_f, lg_cmp_eq, lg_cmp_le, lg_cmp_lt, lg_cmp_ge, lg_cmp_gt, nI_1, zr_up_self, zp_O, zr_fup_self, zr_fup_ne, ne_eq, Nat.reduceEqDiff, not_false_eq_true, pk_mul, v0.1, zy_I]
  rw [z1, z2]
  refine k_isin (d := d) (fun e => ?_) (fun e => ?_)
  rotate_left
  · rw [i_l] at e
    have q1 := mQ_of v (q1 e)
    simp only [zs_189_0, zs_189_0u, zs_189_1, zs_189_2, zs_189_3, zs_189_6, zs_189_9, zt_189_9, zs_189_12, zs_189_16, zs_189_20, zs_189_23, zs_189_23u, zs_189_24, zs_189_27, zs_189_30, zs_189_31, zs_189_32, zs_189_32u, zs_189_33, zt_189_33, zs_189_36, zs_189_36u, zs_189_37, zs_189_40, zs_189_42, zs_189_43, zs_189_44, zs_189_45, zs_189_45u, zs_189_46, zs_189_49, zs_189_51, zs_189_52, zs_189_53, zs_189_54, zs_189_55, zc_isO, zr_fld_mk, zc_isA, zc_len, zr_elt_mk, zr_kill_i, zr_kill_l, zr_kill_r, zr_kill_u, zr_kill_f, zr_kill_n, zc_cat, zr_cat_i, zr_cat_l, zr_cat_r, zr_cat_f, zr_cat_d, zr_cat_u, beq_self_eq_true, Nat.zero_le, Nat.le_refl, Nat.reduceSub, Nat.reduceAdd, Nat.reduceLeDiff, csl_f, csr_f, cn_f, lg_cmp_eq, lg_cmp_le, lg_cmp_lt, lg_cmp_ge, lg_cmp_gt, nI_1, zr_up_self, zp_O, zr_fup_self, zr_fup_ne, ne_eq, Nat.reduceEqDiff, not_false_eq_true, pk_mul]
    refine ⟨fun _ => ?_, fun y => absurd trivial y⟩
    simp only [zs_189_0, zs_189_0u, zs_189_1, zs_189_2, zs_189_3, zs_189_6, zs_189_9, zt_189_9, zs_189_12, zs_189_15, zs_189_16, zs_189_19, zs_189_20, zs_189_24, zs_189_27, zs_189_30, zs_189_31, zs_189_32, zs_189_32u, zs_189_33, zt_189_33, zs_189_36, zs_189_36u, zs_189_37, zs_189_40, zs_189_42, zs_189_43, zs_189_44, zs_189_45, zs_189_45u, zs_189_46, zs_189_49, zs_189_51, zs_189_52, zs_189_53, zs_189_54, zs_189_55, zc_isO, zr_fld_mk, zc_isA, zc_len, zr_elt_mk, zr_kill_i, zr_kill_l, zr_kill_r, zr_kill_u, zr_kill_f, zr_kill_n, zc_cat, zr_cat_i, zr_cat_l, zr_cat_r, zr_cat_f, zr_cat_d, zr_cat_u, beq_self_eq_true, Nat.zero_le, Nat.le_refl, Nat.reduceSub, Nat.reduceAdd, Nat.reduceLeDiff, csl_f, csr_f, cn_f, lg_cmp_eq, lg_cmp_le, lg_cmp_lt, lg_cmp_ge, lg_cmp_gt, nI_1, zr_up_self, zp_O, zr_fup_self, zr_fup_ne, ne_eq, Nat.reduceEqDiff, not_false_eq_true, pk_mul, v0.1, zy_I]
    rw [putY v0.1 (by omega)]
    have v2 := mq_up v0 (fI K 6 1) L
    have e6 : fI K 6 1 6 = 1 := fI_s _ _ _
    simp only [zs_189_0, zs_189_0u, zs_189_1, zs_189_2, zs_189_3, zs_189_6, zs_189_9, zt_189_9, zs_189_12, zs_189_15, zs_189_16, zs_189_19, zs_189_20, zs_189_23, zs_189_23u, zs_189_24, zs_189_27, zs_189_31, zs_189_33, zt_189_33, zs_189_36, zs_189_36u, zs_189_37, zs_189_40, zs_189_42, zs_189_43, zs_189_44, zs_189_45, zs_189_45u, zs_189_46, zs_189_49, zs_189_51, zs_189_52, zs_189_53, zs_189_54, zs_189_55, zc_isO, zr_fld_mk, zc_isA, zc_len, zr_elt_mk, zr_kill_i, zr_kill_l, zr_kill_r, zr_kill_u, zr_kill_f, zr_kill_n, zc_cat, zr_cat_i, zr_cat_l, zr_cat_r, zr_cat_f, zr_cat_d, zr_cat_u, beq_self_eq_true, Nat.zero_le, Nat.le_refl, Nat.reduceSub, Nat.reduceAdd, Nat.reduceLeDiff, csl_f, csr_f, cn_f, lg_cmp_eq, lg_cmp_le, lg_cmp_lt, lg_cmp_ge, lg_cmp_gt, nI_1, zr_up_self, zp_O, zr_fup_self, zr_fup_ne, ne_eq, Nat.reduceEqDiff, not_false_eq_true, pk_mul, zy_I, zy_6, e6]
    refine ⟨fun y => absurd y (by decide), fun _ => ?_⟩
    simp only [zs_189_0, zs_189_0u, zs_189_1, zs_189_2, zs_189_3, zs_189_6, zs_189_9, zt_189_9, zs_189_12, zs_189_15, zs_189_16, zs_189_19, zs_189_20, zs_189_23, zs_189_23u, zs_189_24, zs_189_27, zs_189_30, zs_189_31, zs_189_32, zs_189_32u, zs_189_33, zt_189_33, zs_189_36, zs_189_36u, zs_189_37, zs_189_40, zs_189_42, zs_189_43, zs_189_44, zs_189_45, zs_189_45u, zs_189_46, zs_189_49, zs_189_51, zs_189_52, zs_189_53, zs_189_54, zs_189_55, zc_isO, zr_fld_mk, zc_isA, zc_len, zr_elt_mk, zr_kill_i, zr_kill_l, zr_kill_r, zr_kill_u, zr_kill_f, zr_kill_n, zc_cat, zr_cat_i, zr_cat_l, zr_cat_r, zr_cat_f, zr_cat_d, zr_cat_u, beq_self_eq_true, Nat.zero_le, Nat.le_refl, Nat.reduceSub, Nat.reduceAdd, Nat.reduceLeDiff, csl_f, csr_f, cn_f, lg_cmp_eq, lg_cmp_le, lg_cmp_lt, lg_cmp_ge, lg_cmp_gt, nI_1, zr_up_self, zp_O, zr_fup_self, zr_fup_ne, ne_eq, Nat.reduceEqDiff, not_false_eq_true, pk_mul]
    exact mQ_e q1 0 L
  rw [i_l] at e
  have hQ := hQ e
  simp only [zs_189_0, zs_189_0u, zs_189_1, zs_189_2, zs_189_3, zs_189_6, zs_189_9, zt_189_9, zs_189_12, zs_189_16, zs_189_20, zs_189_23, zs_189_23u, zs_189_24, zs_189_27, zs_189_30, zs_189_31, zs_189_32, zs_189_32u, zs_189_33, zt_189_33, zs_189_36, zs_189_36u, zs_189_37, zs_189_40, zs_189_42, zs_189_43, zs_189_44, zs_189_45, zs_189_45u, zs_189_46, zs_189_49, zs_189_51, zs_189_52, zs_189_53, zs_189_54, zs_189_55, zc_isO, zr_fld_mk, zc_isA, zc_len, zr_elt_mk, zr_kill_i, zr_kill_l, zr_kill_r, zr_kill_u, zr_kill_f, zr_kill_n, zc_cat, zr_cat_i, zr_cat_l, zr_cat_r, zr_cat_f, zr_cat_d, zr_cat_u, beq_self_eq_true, Nat.zero_le, Nat.le_refl, Nat.reduceSub, Nat.reduceAdd, Nat.reduceLeDiff, csl_f, csr_f, cn_f, lg_cmp_eq, lg_cmp_le, lg_cmp_lt, lg_cmp_ge, lg_cmp_gt, nI_1, zr_up_self, zp_O, zr_fup_self, zr_fup_ne, ne_eq, Nat.reduceEqDiff, not_false_eq_true, pk_mul]
  refine ⟨fun y => absurd y (by decide), fun _ => ?_⟩
  simp only [zs_189_0, zs_189_0u, zs_189_1, zs_189_2, zs_189_3, zs_189_6, zs_189_9, zt_189_9, zs_189_12, zs_189_15, zs_189_16, zs_189_19, zs_189_20, zs_189_24, zs_189_27, zs_189_30, zs_189_31, zs_189_32, zs_189_32u, zs_189_33, zt_189_33, zs_189_36, zs_189_36u, zs_189_37, zs_189_40, zs_189_42, zs_189_43, zs_189_44, zs_189_45, zs_189_45u, zs_189_46, zs_189_49, zs_189_51, zs_189_52, zs_189_53, zs_189_54, zs_189_55, zc_isO, zr_fld_mk, zc_isA, zc_len, zr_elt_mk, zr_kill_i, zr_kill_l, zr_kill_r, zr_kill_u, zr_kill_f, zr_kill_n, zc_cat, zr_cat_i, zr_cat_l, zr_cat_r, zr_cat_f, zr_cat_d, zr_cat_u, beq_self_eq_true, Nat.zero_le, Nat.le_refl, Nat.reduceSub, Nat.reduceAdd, Nat.reduceLeDiff, csl_f, csr_f, cn_f, lg_cmp_eq, lg_cmp_le, lg_cmp_lt, lg_cmp_ge, lg_cmp_gt, nI_1, zr_up_self, zp_O, zr_fup_self, zr_fup_ne, ne_eq, Nat.reduceEqDiff, not_false_eq_true, pk_mul, v0.1, zy_I]
  rw [putY v0.1 (by omega)]
  obtain ⟨v1, f1⟩ := mM_up v (K2 := fI K 6 0) (L2 := L) (fI_n _ _ (by omega)) (fI_n _ _ (by omega)) (fI_n _ _ (by omega)) (fI_n _ _ (by omega))
  have e6 : fI K 6 0 6 = 0 := fI_s _ _ _
  generalize zr_up h m (zym E (fI K 6 0) L) = h1 at *
  obtain ⟨_, w1⟩ := mM_q v1
  simp only [zs_189_0, zs_189_0u, zs_189_1, zs_189_2, zs_189_3, zs_189_6, zs_189_9, zt_189_9, zs_189_12, zs_189_15, zs_189_16, zs_189_19, zs_189_20, zs_189_23, zs_189_23u, zs_189_24, zs_189_27, zs_189_31, zs_189_33, zt_189_33, zs_189_36, zs_189_36u, zs_189_37, zs_189_40, zs_189_42, zs_189_43, zs_189_44, zs_189_45, zs_189_45u, zs_189_46, zs_189_49, zs_189_51, zs_189_52, zs_189_53, zs_189_54, zs_189_55, zc_isO, zr_fld_mk, zc_isA, zc_len, zr_elt_mk, zr_kill_i, zr_kill_l, zr_kill_r, zr_kill_u, zr_kill_f, zr_kill_n, zc_cat, zr_cat_i, zr_cat_l, zr_cat_r, zr_cat_f, zr_cat_d, zr_cat_u, beq_self_eq_true, Nat.zero_le, Nat.le_refl, Nat.reduceSub, Nat.reduceAdd, Nat.reduceLeDiff, csl_f, csr_f, cn_f, lg_cmp_eq, lg_cmp_le, lg_cmp_lt, lg_cmp_ge, lg_cmp_gt, nI_1, zr_up_self, zp_O, zr_fup_self, zr_fup_ne, ne_eq, Nat.reduceEqDiff, not_false_eq_true, pk_mul, w1.1, zy_I, zy_6, e6]
  refine ⟨fun _ => ?_, fun y => absurd (by decide) y⟩
  simp only [zs_189_0, zs_189_0u, zs_189_1, zs_189_2, zs_189_3, zs_189_6, zs_189_9, zt_189_9, zs_189_12, zs_189_15, zs_189_16, zs_189_19, zs_189_20, zs_189_23, zs_189_23u, zs_189_24, zs_189_27, zs_189_30, zs_189_31, zs_189_32, zs_189_32u, zs_189_33, zt_189_33, zs_189_36, zs_189_36u, zs_189_37, zs_189_40, zs_189_42, zs_189_43, zs_189_44, zs_189_45, zs_189_45u, zs_189_46, zs_189_49, zs_189_51, zs_189_52, zs_189_53, zs_189_54, zs_189_55, zc_isO, zr_fld_mk, zc_isA, zc_len, zr_elt_mk, zr_kill_i, zr_kill_l, zr_kill_r, zr_kill_u, zr_kill_f, zr_kill_n, zc_cat, zr_cat_i, zr_cat_l, zr_cat_r, zr_cat_f, zr_cat_d, zr_cat_u, beq_self_eq_true, Nat.zero_le, Nat.le_refl, Nat.reduceSub, Nat.reduceAdd, Nat.reduceLeDiff, csl_f, csr_f, cn_f, lg_cmp_eq, lg_cmp_le, lg_cmp_lt, lg_cmp_ge, lg_cmp_gt, nI_1, zr_up_self, zp_O, zr_fup_self, zr_fup_ne, ne_eq, Nat.reduceEqDiff, not_false_eq_true, pk_mul, w1.1, zy_I]
  refine k_mkeepM (d := d) v1 (fun h2 K2 eK v2 f2 => ?_)
  have f2 := fx_trans f1 f2
  obtain ⟨f, ff, fk, fs, v2, r, g, hk, ht, hl, k5, k8, k16, k23⟩ := v2
  have e2 : f 9 = (I 9).toInt64 := r.2.2.2.2.2.2.2.2.2.1
  obtain ⟨a1, a2, a3, a4⟩ := ms_a v2 (k := 9) (by omega) (y := 9) rfl
  rw [e2] at a3
  simp only [zs_189_0, zs_189_0u, zs_189_1, zs_189_2, zs_189_3, zs_189_6, zs_189_9, zt_189_9, zs_189_12, zs_189_15, zs_189_16, zs_189_19, zs_189_20, zs_189_23, zs_189_23u, zs_189_24, zs_189_27, zs_189_30, zs_189_31, zs_189_32, zs_189_32u, zs_189_33, zt_189_33, zs_189_36, zs_189_36u, zs_189_37, zs_189_40, zs_189_42, zs_189_43, zs_189_44, zs_189_46, zs_189_49, zs_189_51, zs_189_52, zs_189_53, zs_189_54, zs_189_55, zc_isO, zr_fld_mk, zc_isA, zc_len, zr_elt_mk, zr_kill_i, zr_kill_l, zr_kill_r, zr_kill_u, zr_kill_f, zr_kill_n, zc_cat, zr_cat_i, zr_cat_l, zr_cat_r, zr_cat_f, zr_cat_d, zr_cat_u, beq_self_eq_true, Nat.zero_le, Nat.le_refl, Nat.reduceSub, Nat.reduceAdd, Nat.reduceLeDiff, csl_f, csr_f, cn_f, lg_cmp_eq, lg_cmp_le, lg_cmp_lt, lg_cmp_ge, lg_cmp_gt, nI_1, zr_up_self, zp_O, zr_fup_self, zr_fup_ne, ne_eq, Nat.reduceEqDiff, not_false_eq_true, pk_mul, v2.1, zy_I, zy_0, a1, a2, a3, l2i_i]
  simp only [zs_189_0, zs_189_0u, zs_189_1, zs_189_2, zs_189_3, zs_189_6, zs_189_9, zt_189_9, zs_189_12, zs_189_15, zs_189_16, zs_189_19, zs_189_20, zs_189_23, zs_189_23u, zs_189_24, zs_189_27, zs_189_30, zs_189_31, zs_189_32, zs_189_32u, zs_189_33, zt_189_33, zs_189_36, zs_189_36u, zs_189_37, zs_189_40, zs_189_42, zs_189_43, zs_189_44, zs_189_45, zs_189_45u, zs_189_46, zs_189_49, zs_189_51, zs_189_52, zs_189_53, zs_189_55, zc_isO, zr_fld_mk, zc_isA, zc_len, zr_elt_mk, zr_kill_i, zr_kill_l, zr_kill_r, zr_kill_u, zr_kill_f, zr_kill_n, zc_cat, zr_cat_i, zr_cat_l, zr_cat_r, zr_cat_f, zr_cat_d, zr_cat_u, beq_self_eq_true, Nat.zero_le, Nat.le_refl, Nat.reduceSub, Nat.reduceAdd, Nat.reduceLeDiff, csl_f, csr_f, cn_f, lg_cmp_eq, lg_cmp_le, lg_cmp_lt, lg_cmp_ge, lg_cmp_gt, nI_1, zr_up_self, zp_O, zr_fup_self, zr_fup_ne, ne_eq, Nat.reduceEqDiff, not_false_eq_true, pk_mul, v2.1, zy_I, zy_0, a1, a2, a4]
  obtain ⟨v3, f3⟩ := mM_set v2 (k := 9) (by omega) (y := y.toInt64)
  generalize zr_putA h2 (E 0) 9 (.long y.toInt64) = h3 at *
  have r3 := rG_I r (k := 9) (x := y) (by omega)
  simp only [zs_189_0, zs_189_0u, zs_189_1, zs_189_2, zs_189_3, zs_189_6, zs_189_9, zt_189_9, zs_189_12, zs_189_15, zs_189_16, zs_189_19, zs_189_20, zs_189_23, zs_189_23u, zs_189_24, zs_189_27, zs_189_30, zs_189_31, zs_189_32, zs_189_32u, zs_189_33, zt_189_33, zs_189_36, zs_189_36u, zs_189_37, zs_189_40, zs_189_42, zs_189_43, zs_189_44, zs_189_45, zs_189_45u, zs_189_46, zs_189_49, zs_189_51, zs_189_52, zs_189_53, zs_189_54, zs_189_55, zc_isO, zr_fld_mk, zc_isA, zc_len, zr_elt_mk, zr_kill_i, zr_kill_l, zr_kill_r, zr_kill_u, zr_kill_f, zr_kill_n, zc_cat, zr_cat_i, zr_cat_l, zr_cat_r, zr_cat_f, zr_cat_d, zr_cat_u, beq_self_eq_true, Nat.zero_le, Nat.le_refl, Nat.reduceSub, Nat.reduceAdd, Nat.reduceLeDiff, csl_f, csr_f, cn_f, lg_cmp_eq, lg_cmp_le, lg_cmp_lt, lg_cmp_ge, lg_cmp_gt, nI_1, zr_up_self, zp_O, zr_fup_self, zr_fup_ne, ne_eq, Nat.reduceEqDiff, not_false_eq_true, pk_mul]
  exact hQ _ h3 K2 L ⟨by rw [eK 6 (by omega)]; exact e6, rfl⟩ ⟨_, ff, fk, fs, v3, r3, g, hk, ht, hl, k5, k8, k16, k23⟩ (fx_trans f2 f3)
end MODEL
