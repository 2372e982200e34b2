section POS
variable {Q : zr_K}
theorem dfl_eq (ci : Nat) : zr_dfl ci = .inl (ci, dv ci) := rfl
theorem k_pnew {d p : Nat} {h : zr_H} (hp : h p = some (zr_dfl 4)) (hQ : ∀ pb pw h', h pb = none → h pw = none → fx [p, pb, pw] h h' → vP h' p pb pw (fun _ => 0) (fun _ => 0) 0 → Q (.inl none) h') : zr_E (d + 1) 49 [.ref p] h Q := by
  rw [dfl_eq] at hp
  rw [ze_49]
  simp only [zs_49_0, zs_49_0u, zs_49_1, zs_49_4, zs_49_4u, zs_49_5, zs_49_9, zs_49_12, zs_49_12u, zs_49_13, zs_49_17, zs_49_20, zs_49_20u, zs_49_21, zs_49_22, zs_49_25, zc_isO, zr_fld_mk, zc_isA, zc_len, zr_elt_mk, zr_kill_i, zr_kill_l, zr_kill_r, zr_kill_u, zr_kill_f, zr_kill_n, zc_cat, zr_cat_i, zr_cat_l, zr_cat_r, zr_cat_f, zr_cat_d, zr_cat_u, beq_self_eq_true, Nat.zero_le, Nat.le_refl, Nat.reduceSub, Nat.reduceAdd, Nat.reduceLeDiff, csl_f, csr_f, cn_f, lg_cmp_eq, lg_cmp_le, lg_cmp_lt, lg_cmp_ge, lg_cmp_gt, nI_1, zr_up_self, zp_O, zr_fup_self, zr_fup_ne, ne_eq, Nat.reduceEqDiff, not_false_eq_true, pk_mul, hp]
  refine zs_49_7 (by decide) (by decide) (fun pb h1 => ?_)
  have n1 : p ≠ pb := fun e => by rw [e, h1] at hp; cases hp
  have hp1 : zr_up h pb (.inr (1, 30, fun _ => defaultValue (zr_at 1))) p = some (.inl (4, dv 4)) := by rw [zr_up_ne _ _ n1]; exact hp
  have hb1 : zr_up h pb (.inr (1, 30, fun _ => defaultValue (zr_at 1))) pb = some (.inr (1, 30, fun _ => defaultValue (zr_at 1))) := zr_up_self _ _ _
  have f1 : fx [p, pb] h (zr_up h pb (.inr (1, 30, fun _ => defaultValue (zr_at 1)))) := fx_up (by simp)
  generalize zr_up h pb (.inr (1, 30, fun _ => defaultValue (zr_at 1))) = h2 at hp1 hb1 f1 ⊢
  simp only [zs_49_0, zs_49_0u, zs_49_1, zs_49_4, zs_49_4u, zs_49_5, zs_49_9, zs_49_13, zs_49_17, zs_49_20, zs_49_20u, zs_49_21, zs_49_22, zs_49_25, zc_isO, zr_fld_mk, zc_isA, zc_len, zr_elt_mk, zr_kill_i, zr_kill_l, zr_kill_r, zr_kill_u, zr_kill_f, zr_kill_n, zc_cat, zr_cat_i, zr_cat_l, zr_cat_r, zr_cat_f, zr_cat_d, zr_cat_u, beq_self_eq_true, Nat.zero_le, Nat.le_refl, Nat.reduceSub, Nat.reduceAdd, Nat.reduceLeDiff, csl_f, csr_f, cn_f, lg_cmp_eq, lg_cmp_le, lg_cmp_lt, lg_cmp_ge, lg_cmp_gt, nI_1, zr_up_self, zp_O, zr_fup_self, zr_fup_ne, ne_eq, Nat.reduceEqDiff, not_false_eq_true, pk_mul, hp1, hb1]
  rw [zr_putO_mk hp1]
  have hp2 : zr_up h2 p (.inl (4, zr_fup (dv 4) 0 (.ref pb))) p = some (.inl (4, zr_fup (dv 4) 0 (.ref pb))) := zr_up_self _ _ _
  have hb2 : zr_up h2 p (.inl (4, zr_fup (dv 4) 0 (.ref pb))) pb = some (.inr (1, 30, fun _ => defaultValue (zr_at 1))) := by rw [zr_up_ne _ _ (Ne.symm n1)]; exact hb1
  have f2 : fx [p, pb] h (zr_up h2 p (.inl (4, zr_fup (dv 4) 0 (.ref pb)))) := fx_trans f1 (fx_up (by simp))
  generalize zr_up h2 p (.inl (4, zr_fup (dv 4) 0 (.ref pb))) = h3 at hp2 hb2 f2 ⊢
  simp only [zs_49_0, zs_49_0u, zs_49_1, zs_49_4, zs_49_4u, zs_49_5, zs_49_9, zs_49_12, zs_49_12u, zs_49_13, zs_49_17, zs_49_20, zs_49_20u, zs_49_21, zs_49_22, zs_49_25, zc_isO, zr_fld_mk, zc_isA, zc_len, zr_elt_mk, zr_kill_i, zr_kill_l, zr_kill_r, zr_kill_u, zr_kill_f, zr_kill_n, zc_cat, zr_cat_i, zr_cat_l, zr_cat_r, zr_cat_f, zr_cat_d, zr_cat_u, beq_self_eq_true, Nat.zero_le, Nat.le_refl, Nat.reduceSub, Nat.reduceAdd, Nat.reduceLeDiff, csl_f, csr_f, cn_f, lg_cmp_eq, lg_cmp_le, lg_cmp_lt, lg_cmp_ge, lg_cmp_gt, nI_1, zr_up_self, zp_O, zr_fup_self, zr_fup_ne, ne_eq, Nat.reduceEqDiff, not_false_eq_true, pk_mul, hp2, hb2]
  refine zs_49_15 (by decide) (by decide) (fun pw h4 => ?_)
  have n2 : p ≠ pw := fun e => by rw [e, h4] at hp2; cases hp2
  have n3 : pb ≠ pw := fun e => by rw [e, h4] at hb2; cases hb2
  have h5 : h pw = none := by rw [← f2 pw (by simp; exact ⟨Ne.symm n2, Ne.symm n3⟩)]; exact h4
  have hp3 : zr_up h3 pw (.inr (1, 30, fun _ => defaultValue (zr_at 1))) p = some (.inl (4, zr_fup (dv 4) 0 (.ref pb))) := by rw [zr_up_ne _ _ n2]; exact hp2
  have hb3 : zr_up h3 pw (.inr (1, 30, fun _ => defaultValue (zr_at 1))) pb = some (.inr (1, 30, fun _ => defaultValue (zr_at 1))) := by rw [zr_up_ne _ _ n3]; exact hb2
  have hw3 : zr_up h3 pw (.inr (1, 30, fun _ => defaultValue (zr_at 1))) pw = some (.inr (1, 30, fun _ => defaultValue (zr_at 1))) := zr_up_self _ _ _
  have f3 : fx [p, pb, pw] h (zr_up h3 pw (.inr (1, 30, fun _ => defaultValue (zr_at 1)))) := fx_trans (fx_sub f2 (fun j hj => by simp at hj ⊢; rcases hj with e | e <;> simp [e])) (fx_up mem_3)
  generalize zr_up h3 pw (.inr (1, 30, fun _ => defaultValue (zr_at 1))) = h6 at hp3 hb3 hw3 f3 ⊢
  simp only [zs_49_0, zs_49_0u, zs_49_1, zs_49_4, zs_49_4u, zs_49_5, zs_49_9, zs_49_12, zs_49_12u, zs_49_13, zs_49_17, zs_49_21, zs_49_22, zs_49_25, zc_isO, zr_fld_mk, zc_isA, zc_len, zr_elt_mk, zr_kill_i, zr_kill_l, zr_kill_r, zr_kill_u, zr_kill_f, zr_kill_n, zc_cat, zr_cat_i, zr_cat_l, zr_cat_r, zr_cat_f, zr_cat_d, zr_cat_u, beq_self_eq_true, Nat.zero_le, Nat.le_refl, Nat.reduceSub, Nat.reduceAdd, Nat.reduceLeDiff, csl_f, csr_f, cn_f, lg_cmp_eq, lg_cmp_le, lg_cmp_lt, lg_cmp_ge, lg_cmp_gt, nI_1, zr_up_self, zp_O, zr_fup_self, zr_fup_ne, ne_eq, Nat.reduceEqDiff, not_false_eq_true, pk_mul, hp3, hw3]
  rw [zr_putO_mk hp3]
  have hp4 : zr_up h6 p (.inl (4, zr_fup (zr_fup (dv 4) 0 (.ref pb)) 1 (.ref pw))) p = some (.inl (4, zr_fup (zr_fup (dv 4) 0 (.ref pb)) 1 (.ref pw))) := zr_up_self _ _ _
  have hb4 : zr_up h6 p (.inl (4, zr_fup (zr_fup (dv 4) 0 (.ref pb)) 1 (.ref pw))) pb = some (.inr (1, 30, fun _ => defaultValue (zr_at 1))) := by rw [zr_up_ne _ _ (Ne.symm n1)]; exact hb3
  have hw4 : zr_up h6 p (.inl (4, zr_fup (zr_fup (dv 4) 0 (.ref pb)) 1 (.ref pw))) pw = some (.inr (1, 30, fun _ => defaultValue (zr_at 1))) := by rw [zr_up_ne _ _ (Ne.symm n2)]; exact hw3
  have f4 : fx [p, pb, pw] h (zr_up h6 p (.inl (4, zr_fup (zr_fup (dv 4) 0 (.ref pb)) 1 (.ref pw)))) := fx_trans f3 (fx_up mem_1)
  generalize zr_up h6 p (.inl (4, zr_fup (zr_fup (dv 4) 0 (.ref pb)) 1 (.ref pw))) = h7 at hp4 hb4 hw4 f4 ⊢
  simp only [zs_49_0, zs_49_0u, zs_49_1, zs_49_4, zs_49_4u, zs_49_5, zs_49_9, zs_49_12, zs_49_12u, zs_49_13, zs_49_17, zs_49_20, zs_49_20u, zs_49_21, zs_49_22, zs_49_25, zc_isO, zr_fld_mk, zc_isA, zc_len, zr_elt_mk, zr_kill_i, zr_kill_l, zr_kill_r, zr_kill_u, zr_kill_f, zr_kill_n, zc_cat, zr_cat_i, zr_cat_l, zr_cat_r, zr_cat_f, zr_cat_d, zr_cat_u, beq_self_eq_true, Nat.zero_le, Nat.le_refl, Nat.reduceSub, Nat.reduceAdd, Nat.reduceLeDiff, csl_f, csr_f, cn_f, lg_cmp_eq, lg_cmp_le, lg_cmp_lt, lg_cmp_ge, lg_cmp_gt, nI_1, zr_up_self, zp_O, zr_fup_self, zr_fup_ne, ne_eq, Nat.reduceEqDiff, not_false_eq_true, pk_mul, hp4]
  rw [zr_putO_mk hp4]
  have e : (Sum.inl (4, zr_fup (zr_fup (zr_fup (dv 4) 0 (.ref pb)) 1 (.ref pw)) 2 (.int 0)) : zr_C) = zps pb pw (nI 0) := by
    unfold zps
    congr 2
    funext k
    match k with
    | 0 => rfl
    | 1 => rfl
    | 2 => rfl
    | k + 3 => simp [zr_fup, zpV]
  rw [e]
  refine hQ pb pw _ h1 h5 (fx_trans f4 (fx_up mem_1)) ⟨zr_up_self _ _ _, ⟨_, ?_, fun _ _ => rfl⟩, ⟨_, ?_, fun _ _ => rfl⟩, by omega, n3⟩
  · rw [zr_up_ne _ _ (Ne.symm n1)]; exact hb4
  · rw [zr_up_ne _ _ (Ne.symm n2)]; exact hw4
end POS
