/-! THE MODEL: a new one -/
def mnE (a0 a1 a2 a3 a4 a5 a6 : Nat) : Nat → Nat := fun k => if k = 0 then a0 else if k = 1 then a1 else if k = 2 then a2 else if k = 3 then a3 else if k = 4 then a4 else if k = 7 then a5 else if k = 22 then a6 else 0
def mnK : Nat → Int32 := fun k => if k = 16 then -1 else 0
section NEW
variable {d : Nat} {h : zr_H} {Q : zr_K} {q : Nat}
theorem mn_G : gI 1 3 0 0 [(0, 0)] (bgI (fI (fI (fI (fun _ => 0) 2 1) 8 0) 9 0)) := by
  have hg : vG 1 3 := ⟨⟨by omega, by omega⟩, by omega, by omega⟩
  have w0 : wi (1 * 3) (0 : Int64) := fun i hi => by
    rw [tb_0] at hi
    cases hi
  have s0 : ∀ t, sk 1 3 0 t = 0 := fun t => (sk_free hg w0).mpr (fun i _ hi => by
    rw [tb_0] at hi
    cases hi)
  refine ⟨hg, w0, w0, fun i hi => tb_0 i, fun z => ?_, Or.inl rfl, Or.inl rfl, Or.inl rfl, Or.inl rfl, by simp⟩
  rcases z with z | z <;> exact z (s0 _)
theorem mn_r : rG fr0 1 3 0 0 [] (bgI (fI (fI (fI (fun _ => 0) 2 1) 8 0) 9 0)) := ⟨rfl, rfl, rfl, rfl, rfl, rfl, rfl, rfl, rfl, rfl, rfl, rfl, rfl, fun k hk => by simp at hk⟩
theorem mn_V {a0 a1 a2 a3 a4 a5 a6 : Nat} : zr_fup (zr_fup (zr_fup (zr_fup (zr_fup (zr_fup (zr_fup (zr_fup (dv 7) 0 (.ref a0)) 1 (.ref a1)) 2 (.ref a2)) 3 (.ref a3)) 4 (.ref a4)) 7 (.ref a5)) 16 (.int (-1))) 22 (.ref a6) = zyV (mnE a0 a1 a2 a3 a4 a5 a6) mnK (fun _ => 0) := by
  funext k
  match k with
  | 0 => rfl
  | 1 => rfl
  | 2 => rfl
  | 3 => rfl
  | 4 => rfl
  | 5 => rfl
  | 6 => rfl
  | 7 => rfl
  | 8 => rfl
  | 9 => rfl
  | 10 => rfl
  | 11 => rfl
  | 12 => rfl
  | 13 => rfl
  | 14 => rfl
  | 15 => rfl
  | 16 => rfl
  | 17 => rfl
  | 18 => rfl
  | 19 => rfl
  | 20 => rfl
  | 21 => rfl
  | 22 => rfl
  | 23 => rfl
  | k + 24 =>
    show _ = dv 7 (k + 24)
    unfold zr_fup
    rw [if_neg (by omega), if_neg (by omega), if_neg (by omega), if_neg (by omega), if_neg (by omega), if_neg (by omega), if_neg (by omega), if_neg (by omega)]
theorem k_mnew (hq : h q = some (zr_dfl 7)) (hQ : ∀ E K L h', mM h' q E K L nwG [] (fun _ => none) 0 (-1) 0 (fun _ => 0) (fun _ => 0) → (∀ a, a ∈ MX q E → a ≠ q → h a = none) → fx (MX q E) h h' → Q (.inl none) h') : zr_E (d + 3) 120 [.ref q] h Q := by
  rw [dfl_eq] at hq
  rw [ze_120]
  simp only [zs_120_0, zs_120_0u, zs_120_1, zs_120_4, zs_120_4u, zs_120_5, zs_120_9, zs_120_12, zs_120_12u, zs_120_13, zs_120_17, zs_120_20, zs_120_20u, zs_120_21, zs_120_26, zs_120_29, zs_120_29u, zs_120_30, zs_120_35, zs_120_38, zs_120_38u, zs_120_39, zs_120_42, zs_120_45, zs_120_45u, zs_120_46, zs_120_51, zs_120_54, zs_120_54u, zs_120_55, zs_120_56, zs_120_59, zs_120_59u, zs_120_60, zs_120_64, zs_120_67, zs_120_67u, zs_120_68, zt_120_68, zs_120_71, zs_120_71u, zs_120_72, zs_120_72u, zs_120_73, zs_120_76, zs_120_77, zt_120_77, zs_120_80, zs_120_80u, zs_120_81, zt_120_81, zs_120_84, zc_isO, zr_fld_mk, zc_isA, zc_len, zr_elt_mk, zr_kill_i, zr_kill_l, zr_kill_r, zr_kill_u, zr_kill_f, zr_kill_n, zc_cat, zr_cat_i, zr_cat_l, zr_cat_r, zr_cat_f, zr_cat_d, zr_cat_u, beq_self_eq_true, Nat.zero_le, Nat.le_refl, Nat.reduceSub, Nat.reduceAdd, Nat.reduceLeDiff, csl_f, csr_f, cn_f, lg_cmp_eq, lg_cmp_le, lg_cmp_lt, lg_cmp_ge, lg_cmp_gt, nI_1, zr_up_self, zp_O, zr_fup_self, zr_fup_ne, ne_eq, Nat.reduceEqDiff, not_false_eq_true, pk_mul, hq]
  refine zs_120_7 (by decide) (by decide) (fun a0 n0 => ?_)
  have e0 : a0 ≠ q := fun e => by rw [e, hq] at n0; cases n0
  have m0 : h a0 = none := n0
  have p0 : (zr_up h a0 (.inr (1, 73, fun _ => defaultValue (zr_at 1)))) q = some (.inl (7, dv 7)) := by rw [zr_up_ne _ _ (Ne.symm e0)]; exact hq
  have B0 : (zr_up h a0 (.inr (1, 73, fun _ => defaultValue (zr_at 1)))) a0 = some (.inr (1, 73, fun _ => defaultValue (zr_at 1))) := zr_up_self _ _ _
  have g0 : fx [q, a0] h (zr_up h a0 (.inr (1, 73, fun _ => defaultValue (zr_at 1)))) := fx_up (by simp)
  generalize zr_up h a0 (.inr (1, 73, fun _ => defaultValue (zr_at 1))) = g0h at *
  simp only [zs_120_0, zs_120_0u, zs_120_1, zs_120_4, zs_120_4u, zs_120_5, zs_120_9, zs_120_13, zs_120_17, zs_120_20, zs_120_20u, zs_120_21, zs_120_26, zs_120_29, zs_120_29u, zs_120_30, zs_120_35, zs_120_38, zs_120_38u, zs_120_39, zs_120_42, zs_120_45, zs_120_45u, zs_120_46, zs_120_51, zs_120_54, zs_120_54u, zs_120_55, zs_120_56, zs_120_59, zs_120_59u, zs_120_60, zs_120_64, zs_120_67, zs_120_67u, zs_120_68, zt_120_68, zs_120_71, zs_120_71u, zs_120_72, zs_120_72u, zs_120_73, zs_120_76, zs_120_77, zt_120_77, zs_120_80, zs_120_80u, zs_120_81, zt_120_81, zs_120_84, zc_isO, zr_fld_mk, zc_isA, zc_len, zr_elt_mk, zr_kill_i, zr_kill_l, zr_kill_r, zr_kill_u, zr_kill_f, zr_kill_n, zc_cat, zr_cat_i, zr_cat_l, zr_cat_r, zr_cat_f, zr_cat_d, zr_cat_u, beq_self_eq_true, Nat.zero_le, Nat.le_refl, Nat.reduceSub, Nat.reduceAdd, Nat.reduceLeDiff, csl_f, csr_f, cn_f, lg_cmp_eq, lg_cmp_le, lg_cmp_lt, lg_cmp_ge, lg_cmp_gt, nI_1, zr_up_self, zp_O, zr_fup_self, zr_fup_ne, ne_eq, Nat.reduceEqDiff, not_false_eq_true, pk_mul, p0]
  rw [zr_putO_mk p0]
  have q1 : (zr_up g0h q (.inl (7, zr_fup (dv 7) 0 (.ref a0)))) q = some (.inl (7, zr_fup (dv 7) 0 (.ref a0))) := zr_up_self _ _ _
  have A0 : (zr_up g0h q (.inl (7, zr_fup (dv 7) 0 (.ref a0)))) a0 = _ := (zr_up_ne _ _ e0).trans B0
  have fx0 : fx [q, a0] h (zr_up g0h q (.inl (7, zr_fup (dv 7) 0 (.ref a0)))) := fx_trans g0 (fx_up (by simp))
  generalize zr_up g0h q (.inl (7, zr_fup (dv 7) 0 (.ref a0))) = h1 at *
  generalize hV1 : zr_fup (dv 7) 0 (.ref a0) = V1 at *
  simp only [zs_120_0, zs_120_0u, zs_120_1, zs_120_4, zs_120_4u, zs_120_5, zs_120_9, zs_120_12, zs_120_12u, zs_120_13, zs_120_17, zs_120_20, zs_120_20u, zs_120_21, zs_120_26, zs_120_29, zs_120_29u, zs_120_30, zs_120_35, zs_120_38, zs_120_38u, zs_120_39, zs_120_42, zs_120_45, zs_120_45u, zs_120_46, zs_120_51, zs_120_54, zs_120_54u, zs_120_55, zs_120_56, zs_120_59, zs_120_59u, zs_120_60, zs_120_64, zs_120_67, zs_120_67u, zs_120_68, zt_120_68, zs_120_71, zs_120_71u, zs_120_72, zs_120_72u, zs_120_73, zs_120_76, zs_120_77, zt_120_77, zs_120_80, zs_120_80u, zs_120_81, zt_120_81, zs_120_84, zc_isO, zr_fld_mk, zc_isA, zc_len, zr_elt_mk, zr_kill_i, zr_kill_l, zr_kill_r, zr_kill_u, zr_kill_f, zr_kill_n, zc_cat, zr_cat_i, zr_cat_l, zr_cat_r, zr_cat_f, zr_cat_d, zr_cat_u, beq_self_eq_true, Nat.zero_le, Nat.le_refl, Nat.reduceSub, Nat.reduceAdd, Nat.reduceLeDiff, csl_f, csr_f, cn_f, lg_cmp_eq, lg_cmp_le, lg_cmp_lt, lg_cmp_ge, lg_cmp_gt, nI_1, zr_up_self, zp_O, zr_fup_self, zr_fup_ne, ne_eq, Nat.reduceEqDiff, not_false_eq_true, pk_mul, q1]
  refine zs_120_15 (by decide) (by decide) (fun a1 n1 => ?_)
  have e1 : a1 ≠ q := fun e => by rw [e, q1] at n1; cases n1
  have d0_1 : a0 ≠ a1 := fun e => by rw [← e, A0] at n1; cases n1
  have m1 : h a1 = none := by rw [← fx0 a1 (by simp; exact ⟨e1, Ne.symm d0_1⟩)]; exact n1
  have p1 : (zr_up h1 a1 (.inr (1, 73, fun _ => defaultValue (zr_at 1)))) q = some (.inl (7, V1)) := by rw [zr_up_ne _ _ (Ne.symm e1)]; exact q1
  have B0 : (zr_up h1 a1 (.inr (1, 73, fun _ => defaultValue (zr_at 1)))) a0 = _ := (zr_up_ne _ _ d0_1).trans A0
  have B1 : (zr_up h1 a1 (.inr (1, 73, fun _ => defaultValue (zr_at 1)))) a1 = some (.inr (1, 73, fun _ => defaultValue (zr_at 1))) := zr_up_self _ _ _
  have g1 : fx [q, a0, a1] h (zr_up h1 a1 (.inr (1, 73, fun _ => defaultValue (zr_at 1)))) := fx_trans (fx_sub fx0 (fun j hj => by simp at hj ⊢; omega)) (fx_up (by simp))
  generalize zr_up h1 a1 (.inr (1, 73, fun _ => defaultValue (zr_at 1))) = g1h at *
  simp only [zs_120_0, zs_120_0u, zs_120_1, zs_120_4, zs_120_4u, zs_120_5, zs_120_9, zs_120_12, zs_120_12u, zs_120_13, zs_120_17, zs_120_21, zs_120_26, zs_120_29, zs_120_29u, zs_120_30, zs_120_35, zs_120_38, zs_120_38u, zs_120_39, zs_120_42, zs_120_45, zs_120_45u, zs_120_46, zs_120_51, zs_120_54, zs_120_54u, zs_120_55, zs_120_56, zs_120_59, zs_120_59u, zs_120_60, zs_120_64, zs_120_67, zs_120_67u, zs_120_68, zt_120_68, zs_120_71, zs_120_71u, zs_120_72, zs_120_72u, zs_120_73, zs_120_76, zs_120_77, zt_120_77, zs_120_80, zs_120_80u, zs_120_81, zt_120_81, zs_120_84, zc_isO, zr_fld_mk, zc_isA, zc_len, zr_elt_mk, zr_kill_i, zr_kill_l, zr_kill_r, zr_kill_u, zr_kill_f, zr_kill_n, zc_cat, zr_cat_i, zr_cat_l, zr_cat_r, zr_cat_f, zr_cat_d, zr_cat_u, beq_self_eq_true, Nat.zero_le, Nat.le_refl, Nat.reduceSub, Nat.reduceAdd, Nat.reduceLeDiff, csl_f, csr_f, cn_f, lg_cmp_eq, lg_cmp_le, lg_cmp_lt, lg_cmp_ge, lg_cmp_gt, nI_1, zr_up_self, zp_O, zr_fup_self, zr_fup_ne, ne_eq, Nat.reduceEqDiff, not_false_eq_true, pk_mul, p1]
  rw [zr_putO_mk p1]
  have q2 : (zr_up g1h q (.inl (7, zr_fup V1 1 (.ref a1)))) q = some (.inl (7, zr_fup V1 1 (.ref a1))) := zr_up_self _ _ _
  have A0 : (zr_up g1h q (.inl (7, zr_fup V1 1 (.ref a1)))) a0 = _ := (zr_up_ne _ _ e0).trans B0
  have A1 : (zr_up g1h q (.inl (7, zr_fup V1 1 (.ref a1)))) a1 = _ := (zr_up_ne _ _ e1).trans B1
  have fx1 : fx [q, a0, a1] h (zr_up g1h q (.inl (7, zr_fup V1 1 (.ref a1)))) := fx_trans g1 (fx_up (by simp))
  generalize zr_up g1h q (.inl (7, zr_fup V1 1 (.ref a1))) = h2 at *
  generalize hV2 : zr_fup V1 1 (.ref a1) = V2 at *
  simp only [zs_120_0, zs_120_0u, zs_120_1, zs_120_4, zs_120_4u, zs_120_5, zs_120_9, zs_120_12, zs_120_12u, zs_120_13, zs_120_17, zs_120_20, zs_120_20u, zs_120_21, zs_120_26, zs_120_29, zs_120_29u, zs_120_30, zs_120_35, zs_120_38, zs_120_38u, zs_120_39, zs_120_42, zs_120_45, zs_120_45u, zs_120_46, zs_120_51, zs_120_54, zs_120_54u, zs_120_55, zs_120_56, zs_120_59, zs_120_59u, zs_120_60, zs_120_64, zs_120_67, zs_120_67u, zs_120_68, zt_120_68, zs_120_71, zs_120_71u, zs_120_72, zs_120_72u, zs_120_73, zs_120_76, zs_120_77, zt_120_77, zs_120_80, zs_120_80u, zs_120_81, zt_120_81, zs_120_84, zc_isO, zr_fld_mk, zc_isA, zc_len, zr_elt_mk, zr_kill_i, zr_kill_l, zr_kill_r, zr_kill_u, zr_kill_f, zr_kill_n, zc_cat, zr_cat_i, zr_cat_l, zr_cat_r, zr_cat_f, zr_cat_d, zr_cat_u, beq_self_eq_true, Nat.zero_le, Nat.le_refl, Nat.reduceSub, Nat.reduceAdd, Nat.reduceLeDiff, csl_f, csr_f, cn_f, lg_cmp_eq, lg_cmp_le, lg_cmp_lt, lg_cmp_ge, lg_cmp_gt, nI_1, zr_up_self, zp_O, zr_fup_self, zr_fup_ne, ne_eq, Nat.reduceEqDiff, not_false_eq_true, pk_mul, q2]
  refine zs_120_24 (by decide) (by decide) (fun a2 n2 => ?_)
  have e2 : a2 ≠ q := fun e => by rw [e, q2] at n2; cases n2
  have d0_2 : a0 ≠ a2 := fun e => by rw [← e, A0] at n2; cases n2
  have d1_2 : a1 ≠ a2 := fun e => by rw [← e, A1] at n2; cases n2
  have m2 : h a2 = none := by rw [← fx1 a2 (by simp; exact ⟨e2, Ne.symm d0_2, Ne.symm d1_2⟩)]; exact n2
  have p2 : (zr_up h2 a2 (.inr (1, 584, fun _ => defaultValue (zr_at 1)))) q = some (.inl (7, V2)) := by rw [zr_up_ne _ _ (Ne.symm e2)]; exact q2
  have B0 : (zr_up h2 a2 (.inr (1, 584, fun _ => defaultValue (zr_at 1)))) a0 = _ := (zr_up_ne _ _ d0_2).trans A0
  have B1 : (zr_up h2 a2 (.inr (1, 584, fun _ => defaultValue (zr_at 1)))) a1 = _ := (zr_up_ne _ _ d1_2).trans A1
  have B2 : (zr_up h2 a2 (.inr (1, 584, fun _ => defaultValue (zr_at 1)))) a2 = some (.inr (1, 584, fun _ => defaultValue (zr_at 1))) := zr_up_self _ _ _
  have g2 : fx [q, a0, a1, a2] h (zr_up h2 a2 (.inr (1, 584, fun _ => defaultValue (zr_at 1)))) := fx_trans (fx_sub fx1 (fun j hj => by simp at hj ⊢; omega)) (fx_up (by simp))
  generalize zr_up h2 a2 (.inr (1, 584, fun _ => defaultValue (zr_at 1))) = g2h at *
  simp only [zs_120_0, zs_120_0u, zs_120_1, zs_120_4, zs_120_4u, zs_120_5, zs_120_9, zs_120_12, zs_120_12u, zs_120_13, zs_120_17, zs_120_20, zs_120_20u, zs_120_21, zs_120_26, zs_120_30, zs_120_35, zs_120_38, zs_120_38u, zs_120_39, zs_120_42, zs_120_45, zs_120_45u, zs_120_46, zs_120_51, zs_120_54, zs_120_54u, zs_120_55, zs_120_56, zs_120_59, zs_120_59u, zs_120_60, zs_120_64, zs_120_67, zs_120_67u, zs_120_68, zt_120_68, zs_120_71, zs_120_71u, zs_120_72, zs_120_72u, zs_120_73, zs_120_76, zs_120_77, zt_120_77, zs_120_80, zs_120_80u, zs_120_81, zt_120_81, zs_120_84, zc_isO, zr_fld_mk, zc_isA, zc_len, zr_elt_mk, zr_kill_i, zr_kill_l, zr_kill_r, zr_kill_u, zr_kill_f, zr_kill_n, zc_cat, zr_cat_i, zr_cat_l, zr_cat_r, zr_cat_f, zr_cat_d, zr_cat_u, beq_self_eq_true, Nat.zero_le, Nat.le_refl, Nat.reduceSub, Nat.reduceAdd, Nat.reduceLeDiff, csl_f, csr_f, cn_f, lg_cmp_eq, lg_cmp_le, lg_cmp_lt, lg_cmp_ge, lg_cmp_gt, nI_1, zr_up_self, zp_O, zr_fup_self, zr_fup_ne, ne_eq, Nat.reduceEqDiff, not_false_eq_true, pk_mul, p2]
  rw [zr_putO_mk p2]
  have q3 : (zr_up g2h q (.inl (7, zr_fup V2 2 (.ref a2)))) q = some (.inl (7, zr_fup V2 2 (.ref a2))) := zr_up_self _ _ _
  have A0 : (zr_up g2h q (.inl (7, zr_fup V2 2 (.ref a2)))) a0 = _ := (zr_up_ne _ _ e0).trans B0
  have A1 : (zr_up g2h q (.inl (7, zr_fup V2 2 (.ref a2)))) a1 = _ := (zr_up_ne _ _ e1).trans B1
  have A2 : (zr_up g2h q (.inl (7, zr_fup V2 2 (.ref a2)))) a2 = _ := (zr_up_ne _ _ e2).trans B2
  have fx2 : fx [q, a0, a1, a2] h (zr_up g2h q (.inl (7, zr_fup V2 2 (.ref a2)))) := fx_trans g2 (fx_up (by simp))
  generalize zr_up g2h q (.inl (7, zr_fup V2 2 (.ref a2))) = h3 at *
  generalize hV3 : zr_fup V2 2 (.ref a2) = V3 at *
  simp only [zs_120_0, zs_120_0u, zs_120_1, zs_120_4, zs_120_4u, zs_120_5, zs_120_9, zs_120_12, zs_120_12u, zs_120_13, zs_120_17, zs_120_20, zs_120_20u, zs_120_21, zs_120_26, zs_120_29, zs_120_29u, zs_120_30, zs_120_35, zs_120_38, zs_120_38u, zs_120_39, zs_120_42, zs_120_45, zs_120_45u, zs_120_46, zs_120_51, zs_120_54, zs_120_54u, zs_120_55, zs_120_56, zs_120_59, zs_120_59u, zs_120_60, zs_120_64, zs_120_67, zs_120_67u, zs_120_68, zt_120_68, zs_120_71, zs_120_71u, zs_120_72, zs_120_72u, zs_120_73, zs_120_76, zs_120_77, zt_120_77, zs_120_80, zs_120_80u, zs_120_81, zt_120_81, zs_120_84, zc_isO, zr_fld_mk, zc_isA, zc_len, zr_elt_mk, zr_kill_i, zr_kill_l, zr_kill_r, zr_kill_u, zr_kill_f, zr_kill_n, zc_cat, zr_cat_i, zr_cat_l, zr_cat_r, zr_cat_f, zr_cat_d, zr_cat_u, beq_self_eq_true, Nat.zero_le, Nat.le_refl, Nat.reduceSub, Nat.reduceAdd, Nat.reduceLeDiff, csl_f, csr_f, cn_f, lg_cmp_eq, lg_cmp_le, lg_cmp_lt, lg_cmp_ge, lg_cmp_gt, nI_1, zr_up_self, zp_O, zr_fup_self, zr_fup_ne, ne_eq, Nat.reduceEqDiff, not_false_eq_true, pk_mul, q3]
  refine zs_120_33 (by decide) (by decide) (fun a3 n3 => ?_)
  have e3 : a3 ≠ q := fun e => by rw [e, q3] at n3; cases n3
  have d0_3 : a0 ≠ a3 := fun e => by rw [← e, A0] at n3; cases n3
  have d1_3 : a1 ≠ a3 := fun e => by rw [← e, A1] at n3; cases n3
  have d2_3 : a2 ≠ a3 := fun e => by rw [← e, A2] at n3; cases n3
  have m3 : h a3 = none := by rw [← fx2 a3 (by simp; exact ⟨e3, Ne.symm d0_3, Ne.symm d1_3, Ne.symm d2_3⟩)]; exact n3
  have p3 : (zr_up h3 a3 (.inr (1, 146, fun _ => defaultValue (zr_at 1)))) q = some (.inl (7, V3)) := by rw [zr_up_ne _ _ (Ne.symm e3)]; exact q3
  have B0 : (zr_up h3 a3 (.inr (1, 146, fun _ => defaultValue (zr_at 1)))) a0 = _ := (zr_up_ne _ _ d0_3).trans A0
  have B1 : (zr_up h3 a3 (.inr (1, 146, fun _ => defaultValue (zr_at 1)))) a1 = _ := (zr_up_ne _ _ d1_3).trans A1
  have B2 : (zr_up h3 a3 (.inr (1, 146, fun _ => defaultValue (zr_at 1)))) a2 = _ := (zr_up_ne _ _ d2_3).trans A2
  have B3 : (zr_up h3 a3 (.inr (1, 146, fun _ => defaultValue (zr_at 1)))) a3 = some (.inr (1, 146, fun _ => defaultValue (zr_at 1))) := zr_up_self _ _ _
  have g3 : fx [q, a0, a1, a2, a3] h (zr_up h3 a3 (.inr (1, 146, fun _ => defaultValue (zr_at 1)))) := fx_trans (fx_sub fx2 (fun j hj => by simp at hj ⊢; omega)) (fx_up (by simp))
  generalize zr_up h3 a3 (.inr (1, 146, fun _ => defaultValue (zr_at 1))) = g3h at *
  simp only [zs_120_0, zs_120_0u, zs_120_1, zs_120_4, zs_120_4u, zs_120_5, zs_120_9, zs_120_12, zs_120_12u, zs_120_13, zs_120_17, zs_120_20, zs_120_20u, zs_120_21, zs_120_26, zs_120_29, zs_120_29u, zs_120_30, zs_120_35, zs_120_39, zs_120_42, zs_120_45, zs_120_45u, zs_120_46, zs_120_51, zs_120_54, zs_120_54u, zs_120_55, zs_120_56, zs_120_59, zs_120_59u, zs_120_60, zs_120_64, zs_120_67, zs_120_67u, zs_120_68, zt_120_68, zs_120_71, zs_120_71u, zs_120_72, zs_120_72u, zs_120_73, zs_120_76, zs_120_77, zt_120_77, zs_120_80, zs_120_80u, zs_120_81, zt_120_81, zs_120_84, zc_isO, zr_fld_mk, zc_isA, zc_len, zr_elt_mk, zr_kill_i, zr_kill_l, zr_kill_r, zr_kill_u, zr_kill_f, zr_kill_n, zc_cat, zr_cat_i, zr_cat_l, zr_cat_r, zr_cat_f, zr_cat_d, zr_cat_u, beq_self_eq_true, Nat.zero_le, Nat.le_refl, Nat.reduceSub, Nat.reduceAdd, Nat.reduceLeDiff, csl_f, csr_f, cn_f, lg_cmp_eq, lg_cmp_le, lg_cmp_lt, lg_cmp_ge, lg_cmp_gt, nI_1, zr_up_self, zp_O, zr_fup_self, zr_fup_ne, ne_eq, Nat.reduceEqDiff, not_false_eq_true, pk_mul, p3]
  rw [zr_putO_mk p3]
  have q4 : (zr_up g3h q (.inl (7, zr_fup V3 3 (.ref a3)))) q = some (.inl (7, zr_fup V3 3 (.ref a3))) := zr_up_self _ _ _
  have A0 : (zr_up g3h q (.inl (7, zr_fup V3 3 (.ref a3)))) a0 = _ := (zr_up_ne _ _ e0).trans B0
  have A1 : (zr_up g3h q (.inl (7, zr_fup V3 3 (.ref a3)))) a1 = _ := (zr_up_ne _ _ e1).trans B1
  have A2 : (zr_up g3h q (.inl (7, zr_fup V3 3 (.ref a3)))) a2 = _ := (zr_up_ne _ _ e2).trans B2
  have A3 : (zr_up g3h q (.inl (7, zr_fup V3 3 (.ref a3)))) a3 = _ := (zr_up_ne _ _ e3).trans B3
  have fx3 : fx [q, a0, a1, a2, a3] h (zr_up g3h q (.inl (7, zr_fup V3 3 (.ref a3)))) := fx_trans g3 (fx_up (by simp))
  generalize zr_up g3h q (.inl (7, zr_fup V3 3 (.ref a3))) = h4 at *
  generalize hV4 : zr_fup V3 3 (.ref a3) = V4 at *
  simp only [zs_120_0, zs_120_0u, zs_120_1, zs_120_4, zs_120_4u, zs_120_5, zs_120_9, zs_120_12, zs_120_12u, zs_120_13, zs_120_17, zs_120_20, zs_120_20u, zs_120_21, zs_120_26, zs_120_29, zs_120_29u, zs_120_30, zs_120_35, zs_120_38, zs_120_38u, zs_120_39, zs_120_42, zs_120_45, zs_120_45u, zs_120_46, zs_120_51, zs_120_54, zs_120_54u, zs_120_55, zs_120_56, zs_120_59, zs_120_59u, zs_120_60, zs_120_64, zs_120_67, zs_120_67u, zs_120_68, zt_120_68, zs_120_71, zs_120_71u, zs_120_72, zs_120_72u, zs_120_73, zs_120_76, zs_120_77, zt_120_77, zs_120_80, zs_120_80u, zs_120_81, zt_120_81, zs_120_84, zc_isO, zr_fld_mk, zc_isA, zc_len, zr_elt_mk, zr_kill_i, zr_kill_l, zr_kill_r, zr_kill_u, zr_kill_f, zr_kill_n, zc_cat, zr_cat_i, zr_cat_l, zr_cat_r, zr_cat_f, zr_cat_d, zr_cat_u, beq_self_eq_true, Nat.zero_le, Nat.le_refl, Nat.reduceSub, Nat.reduceAdd, Nat.reduceLeDiff, csl_f, csr_f, cn_f, lg_cmp_eq, lg_cmp_le, lg_cmp_lt, lg_cmp_ge, lg_cmp_gt, nI_1, zr_up_self, zp_O, zr_fup_self, zr_fup_ne, ne_eq, Nat.reduceEqDiff, not_false_eq_true, pk_mul, q4]
  refine zs_120_40 (by decide) (by decide) (fun a4 n4 => ?_)
  have e4 : a4 ≠ q := fun e => by rw [e, q4] at n4; cases n4
  have d0_4 : a0 ≠ a4 := fun e => by rw [← e, A0] at n4; cases n4
  have d1_4 : a1 ≠ a4 := fun e => by rw [← e, A1] at n4; cases n4
  have d2_4 : a2 ≠ a4 := fun e => by rw [← e, A2] at n4; cases n4
  have d3_4 : a3 ≠ a4 := fun e => by rw [← e, A3] at n4; cases n4
  have m4 : h a4 = none := by rw [← fx3 a4 (by simp; exact ⟨e4, Ne.symm d0_4, Ne.symm d1_4, Ne.symm d2_4, Ne.symm d3_4⟩)]; exact n4
  have p4 : (zr_up h4 a4 (.inr (3, 2, fun _ => defaultValue (zr_at 3)))) q = some (.inl (7, V4)) := by rw [zr_up_ne _ _ (Ne.symm e4)]; exact q4
  have B0 : (zr_up h4 a4 (.inr (3, 2, fun _ => defaultValue (zr_at 3)))) a0 = _ := (zr_up_ne _ _ d0_4).trans A0
  have B1 : (zr_up h4 a4 (.inr (3, 2, fun _ => defaultValue (zr_at 3)))) a1 = _ := (zr_up_ne _ _ d1_4).trans A1
  have B2 : (zr_up h4 a4 (.inr (3, 2, fun _ => defaultValue (zr_at 3)))) a2 = _ := (zr_up_ne _ _ d2_4).trans A2
  have B3 : (zr_up h4 a4 (.inr (3, 2, fun _ => defaultValue (zr_at 3)))) a3 = _ := (zr_up_ne _ _ d3_4).trans A3
  have B4 : (zr_up h4 a4 (.inr (3, 2, fun _ => defaultValue (zr_at 3)))) a4 = some (.inr (3, 2, fun _ => defaultValue (zr_at 3))) := zr_up_self _ _ _
  have g4 : fx [q, a0, a1, a2, a3, a4] h (zr_up h4 a4 (.inr (3, 2, fun _ => defaultValue (zr_at 3)))) := fx_trans (fx_sub fx3 (fun j hj => by simp at hj ⊢; omega)) (fx_up (by simp))
  generalize zr_up h4 a4 (.inr (3, 2, fun _ => defaultValue (zr_at 3))) = g4h at *
  simp only [zs_120_0, zs_120_0u, zs_120_1, zs_120_4, zs_120_4u, zs_120_5, zs_120_9, zs_120_12, zs_120_12u, zs_120_13, zs_120_17, zs_120_20, zs_120_20u, zs_120_21, zs_120_26, zs_120_29, zs_120_29u, zs_120_30, zs_120_35, zs_120_38, zs_120_38u, zs_120_39, zs_120_42, zs_120_46, zs_120_51, zs_120_54, zs_120_54u, zs_120_55, zs_120_56, zs_120_59, zs_120_59u, zs_120_60, zs_120_64, zs_120_67, zs_120_67u, zs_120_68, zt_120_68, zs_120_71, zs_120_71u, zs_120_72, zs_120_72u, zs_120_73, zs_120_76, zs_120_77, zt_120_77, zs_120_80, zs_120_80u, zs_120_81, zt_120_81, zs_120_84, zc_isO, zr_fld_mk, zc_isA, zc_len, zr_elt_mk, zr_kill_i, zr_kill_l, zr_kill_r, zr_kill_u, zr_kill_f, zr_kill_n, zc_cat, zr_cat_i, zr_cat_l, zr_cat_r, zr_cat_f, zr_cat_d, zr_cat_u, beq_self_eq_true, Nat.zero_le, Nat.le_refl, Nat.reduceSub, Nat.reduceAdd, Nat.reduceLeDiff, csl_f, csr_f, cn_f, lg_cmp_eq, lg_cmp_le, lg_cmp_lt, lg_cmp_ge, lg_cmp_gt, nI_1, zr_up_self, zp_O, zr_fup_self, zr_fup_ne, ne_eq, Nat.reduceEqDiff, not_false_eq_true, pk_mul, p4]
  rw [zr_putO_mk p4]
  have q5 : (zr_up g4h q (.inl (7, zr_fup V4 4 (.ref a4)))) q = some (.inl (7, zr_fup V4 4 (.ref a4))) := zr_up_self _ _ _
  have A0 : (zr_up g4h q (.inl (7, zr_fup V4 4 (.ref a4)))) a0 = _ := (zr_up_ne _ _ e0).trans B0
  have A1 : (zr_up g4h q (.inl (7, zr_fup V4 4 (.ref a4)))) a1 = _ := (zr_up_ne _ _ e1).trans B1
  have A2 : (zr_up g4h q (.inl (7, zr_fup V4 4 (.ref a4)))) a2 = _ := (zr_up_ne _ _ e2).trans B2
  have A3 : (zr_up g4h q (.inl (7, zr_fup V4 4 (.ref a4)))) a3 = _ := (zr_up_ne _ _ e3).trans B3
  have A4 : (zr_up g4h q (.inl (7, zr_fup V4 4 (.ref a4)))) a4 = _ := (zr_up_ne _ _ e4).trans B4
  have fx4 : fx [q, a0, a1, a2, a3, a4] h (zr_up g4h q (.inl (7, zr_fup V4 4 (.ref a4)))) := fx_trans g4 (fx_up (by simp))
  generalize zr_up g4h q (.inl (7, zr_fup V4 4 (.ref a4))) = h5 at *
  generalize hV5 : zr_fup V4 4 (.ref a4) = V5 at *
  simp only [zs_120_0, zs_120_0u, zs_120_1, zs_120_4, zs_120_4u, zs_120_5, zs_120_9, zs_120_12, zs_120_12u, zs_120_13, zs_120_17, zs_120_20, zs_120_20u, zs_120_21, zs_120_26, zs_120_29, zs_120_29u, zs_120_30, zs_120_35, zs_120_38, zs_120_38u, zs_120_39, zs_120_42, zs_120_45, zs_120_45u, zs_120_46, zs_120_51, zs_120_54, zs_120_54u, zs_120_55, zs_120_56, zs_120_59, zs_120_59u, zs_120_60, zs_120_64, zs_120_67, zs_120_67u, zs_120_68, zt_120_68, zs_120_71, zs_120_71u, zs_120_72, zs_120_72u, zs_120_73, zs_120_76, zs_120_77, zt_120_77, zs_120_80, zs_120_80u, zs_120_81, zt_120_81, zs_120_84, zc_isO, zr_fld_mk, zc_isA, zc_len, zr_elt_mk, zr_kill_i, zr_kill_l, zr_kill_r, zr_kill_u, zr_kill_f, zr_kill_n, zc_cat, zr_cat_i, zr_cat_l, zr_cat_r, zr_cat_f, zr_cat_d, zr_cat_u, beq_self_eq_true, Nat.zero_le, Nat.le_refl, Nat.reduceSub, Nat.reduceAdd, Nat.reduceLeDiff, csl_f, csr_f, cn_f, lg_cmp_eq, lg_cmp_le, lg_cmp_lt, lg_cmp_ge, lg_cmp_gt, nI_1, zr_up_self, zp_O, zr_fup_self, zr_fup_ne, ne_eq, Nat.reduceEqDiff, not_false_eq_true, pk_mul, q5]
  refine zs_120_49 (by decide) (by decide) (fun a5 n5 => ?_)
  have e5 : a5 ≠ q := fun e => by rw [e, q5] at n5; cases n5
  have d0_5 : a0 ≠ a5 := fun e => by rw [← e, A0] at n5; cases n5
  have d1_5 : a1 ≠ a5 := fun e => by rw [← e, A1] at n5; cases n5
  have d2_5 : a2 ≠ a5 := fun e => by rw [← e, A2] at n5; cases n5
  have d3_5 : a3 ≠ a5 := fun e => by rw [← e, A3] at n5; cases n5
  have d4_5 : a4 ≠ a5 := fun e => by rw [← e, A4] at n5; cases n5
  have m5 : h a5 = none := by rw [← fx4 a5 (by simp; exact ⟨e5, Ne.symm d0_5, Ne.symm d1_5, Ne.symm d2_5, Ne.symm d3_5, Ne.symm d4_5⟩)]; exact n5
  have p5 : (zr_up h5 a5 (.inr (0, 300, fun _ => defaultValue (zr_at 0)))) q = some (.inl (7, V5)) := by rw [zr_up_ne _ _ (Ne.symm e5)]; exact q5
  have B0 : (zr_up h5 a5 (.inr (0, 300, fun _ => defaultValue (zr_at 0)))) a0 = _ := (zr_up_ne _ _ d0_5).trans A0
  have B1 : (zr_up h5 a5 (.inr (0, 300, fun _ => defaultValue (zr_at 0)))) a1 = _ := (zr_up_ne _ _ d1_5).trans A1
  have B2 : (zr_up h5 a5 (.inr (0, 300, fun _ => defaultValue (zr_at 0)))) a2 = _ := (zr_up_ne _ _ d2_5).trans A2
  have B3 : (zr_up h5 a5 (.inr (0, 300, fun _ => defaultValue (zr_at 0)))) a3 = _ := (zr_up_ne _ _ d3_5).trans A3
  have B4 : (zr_up h5 a5 (.inr (0, 300, fun _ => defaultValue (zr_at 0)))) a4 = _ := (zr_up_ne _ _ d4_5).trans A4
  have B5 : (zr_up h5 a5 (.inr (0, 300, fun _ => defaultValue (zr_at 0)))) a5 = some (.inr (0, 300, fun _ => defaultValue (zr_at 0))) := zr_up_self _ _ _
  have g5 : fx [q, a0, a1, a2, a3, a4, a5] h (zr_up h5 a5 (.inr (0, 300, fun _ => defaultValue (zr_at 0)))) := fx_trans (fx_sub fx4 (fun j hj => by simp at hj ⊢; omega)) (fx_up (by simp))
  generalize zr_up h5 a5 (.inr (0, 300, fun _ => defaultValue (zr_at 0))) = g5h at *
  simp only [zs_120_0, zs_120_0u, zs_120_1, zs_120_4, zs_120_4u, zs_120_5, zs_120_9, zs_120_12, zs_120_12u, zs_120_13, zs_120_17, zs_120_20, zs_120_20u, zs_120_21, zs_120_26, zs_120_29, zs_120_29u, zs_120_30, zs_120_35, zs_120_38, zs_120_38u, zs_120_39, zs_120_42, zs_120_45, zs_120_45u, zs_120_46, zs_120_51, zs_120_55, zs_120_56, zs_120_59, zs_120_59u, zs_120_60, zs_120_64, zs_120_67, zs_120_67u, zs_120_68, zt_120_68, zs_120_71, zs_120_71u, zs_120_72, zs_120_72u, zs_120_73, zs_120_76, zs_120_77, zt_120_77, zs_120_80, zs_120_80u, zs_120_81, zt_120_81, zs_120_84, zc_isO, zr_fld_mk, zc_isA, zc_len, zr_elt_mk, zr_kill_i, zr_kill_l, zr_kill_r, zr_kill_u, zr_kill_f, zr_kill_n, zc_cat, zr_cat_i, zr_cat_l, zr_cat_r, zr_cat_f, zr_cat_d, zr_cat_u, beq_self_eq_true, Nat.zero_le, Nat.le_refl, Nat.reduceSub, Nat.reduceAdd, Nat.reduceLeDiff, csl_f, csr_f, cn_f, lg_cmp_eq, lg_cmp_le, lg_cmp_lt, lg_cmp_ge, lg_cmp_gt, nI_1, zr_up_self, zp_O, zr_fup_self, zr_fup_ne, ne_eq, Nat.reduceEqDiff, not_false_eq_true, pk_mul, p5]
  rw [zr_putO_mk p5]
  have q6 : (zr_up g5h q (.inl (7, zr_fup V5 7 (.ref a5)))) q = some (.inl (7, zr_fup V5 7 (.ref a5))) := zr_up_self _ _ _
  have A0 : (zr_up g5h q (.inl (7, zr_fup V5 7 (.ref a5)))) a0 = _ := (zr_up_ne _ _ e0).trans B0
  have A1 : (zr_up g5h q (.inl (7, zr_fup V5 7 (.ref a5)))) a1 = _ := (zr_up_ne _ _ e1).trans B1
  have A2 : (zr_up g5h q (.inl (7, zr_fup V5 7 (.ref a5)))) a2 = _ := (zr_up_ne _ _ e2).trans B2
  have A3 : (zr_up g5h q (.inl (7, zr_fup V5 7 (.ref a5)))) a3 = _ := (zr_up_ne _ _ e3).trans B3
  have A4 : (zr_up g5h q (.inl (7, zr_fup V5 7 (.ref a5)))) a4 = _ := (zr_up_ne _ _ e4).trans B4
  have A5 : (zr_up g5h q (.inl (7, zr_fup V5 7 (.ref a5)))) a5 = _ := (zr_up_ne _ _ e5).trans B5
  have fx5 : fx [q, a0, a1, a2, a3, a4, a5] h (zr_up g5h q (.inl (7, zr_fup V5 7 (.ref a5)))) := fx_trans g5 (fx_up (by simp))
  generalize zr_up g5h q (.inl (7, zr_fup V5 7 (.ref a5))) = h6 at *
  generalize hV6 : zr_fup V5 7 (.ref a5) = V6 at *
  simp only [zs_120_0, zs_120_0u, zs_120_1, zs_120_4, zs_120_4u, zs_120_5, zs_120_9, zs_120_12, zs_120_12u, zs_120_13, zs_120_17, zs_120_20, zs_120_20u, zs_120_21, zs_120_26, zs_120_29, zs_120_29u, zs_120_30, zs_120_35, zs_120_38, zs_120_38u, zs_120_39, zs_120_42, zs_120_45, zs_120_45u, zs_120_46, zs_120_51, zs_120_54, zs_120_54u, zs_120_55, zs_120_56, zs_120_60, zs_120_64, zs_120_67, zs_120_67u, zs_120_68, zt_120_68, zs_120_71, zs_120_71u, zs_120_72, zs_120_72u, zs_120_73, zs_120_76, zs_120_77, zt_120_77, zs_120_80, zs_120_80u, zs_120_81, zt_120_81, zs_120_84, zc_isO, zr_fld_mk, zc_isA, zc_len, zr_elt_mk, zr_kill_i, zr_kill_l, zr_kill_r, zr_kill_u, zr_kill_f, zr_kill_n, zc_cat, zr_cat_i, zr_cat_l, zr_cat_r, zr_cat_f, zr_cat_d, zr_cat_u, beq_self_eq_true, Nat.zero_le, Nat.le_refl, Nat.reduceSub, Nat.reduceAdd, Nat.reduceLeDiff, csl_f, csr_f, cn_f, lg_cmp_eq, lg_cmp_le, lg_cmp_lt, lg_cmp_ge, lg_cmp_gt, nI_1, zr_up_self, zp_O, zr_fup_self, zr_fup_ne, ne_eq, Nat.reduceEqDiff, not_false_eq_true, pk_mul, q6]
  rw [zr_putO_mk q6]
  have q6' : (zr_up h6 q (.inl (7, zr_fup V6 16 (.int (-1))))) q = some (.inl (7, zr_fup V6 16 (.int (-1)))) := zr_up_self _ _ _
  have C0 : (zr_up h6 q (.inl (7, zr_fup V6 16 (.int (-1))))) a0 = _ := (zr_up_ne _ _ e0).trans A0
  have C1 : (zr_up h6 q (.inl (7, zr_fup V6 16 (.int (-1))))) a1 = _ := (zr_up_ne _ _ e1).trans A1
  have C2 : (zr_up h6 q (.inl (7, zr_fup V6 16 (.int (-1))))) a2 = _ := (zr_up_ne _ _ e2).trans A2
  have C3 : (zr_up h6 q (.inl (7, zr_fup V6 16 (.int (-1))))) a3 = _ := (zr_up_ne _ _ e3).trans A3
  have C4 : (zr_up h6 q (.inl (7, zr_fup V6 16 (.int (-1))))) a4 = _ := (zr_up_ne _ _ e4).trans A4
  have C5 : (zr_up h6 q (.inl (7, zr_fup V6 16 (.int (-1))))) a5 = _ := (zr_up_ne _ _ e5).trans A5
  have fx5' : fx [q, a0, a1, a2, a3, a4, a5] h (zr_up h6 q (.inl (7, zr_fup V6 16 (.int (-1))))) := fx_trans fx5 (fx_up (by simp))
  clear A0 A1 A2 A3 A4 A5 fx5 q6
  have A0 := C0
  have A1 := C1
  have A2 := C2
  have A3 := C3
  have A4 := C4
  have A5 := C5
  have fx5 := fx5'
  have q6 := q6'
  clear C0 C1 C2 C3 C4 C5 fx5' q6'
  generalize zr_up h6 q (.inl (7, zr_fup V6 16 (.int (-1)))) = h6' at *
  generalize hV6' : zr_fup V6 16 (.int (-1)) = V6' at *
  simp only [zs_120_0, zs_120_0u, zs_120_1, zs_120_4, zs_120_4u, zs_120_5, zs_120_9, zs_120_12, zs_120_12u, zs_120_13, zs_120_17, zs_120_20, zs_120_20u, zs_120_21, zs_120_26, zs_120_29, zs_120_29u, zs_120_30, zs_120_35, zs_120_38, zs_120_38u, zs_120_39, zs_120_42, zs_120_45, zs_120_45u, zs_120_46, zs_120_51, zs_120_54, zs_120_54u, zs_120_55, zs_120_56, zs_120_59, zs_120_59u, zs_120_60, zs_120_64, zs_120_67, zs_120_67u, zs_120_68, zt_120_68, zs_120_71, zs_120_71u, zs_120_72, zs_120_72u, zs_120_73, zs_120_76, zs_120_77, zt_120_77, zs_120_80, zs_120_80u, zs_120_81, zt_120_81, zs_120_84, zc_isO, zr_fld_mk, zc_isA, zc_len, zr_elt_mk, zr_kill_i, zr_kill_l, zr_kill_r, zr_kill_u, zr_kill_f, zr_kill_n, zc_cat, zr_cat_i, zr_cat_l, zr_cat_r, zr_cat_f, zr_cat_d, zr_cat_u, beq_self_eq_true, Nat.zero_le, Nat.le_refl, Nat.reduceSub, Nat.reduceAdd, Nat.reduceLeDiff, csl_f, csr_f, cn_f, lg_cmp_eq, lg_cmp_le, lg_cmp_lt, lg_cmp_ge, lg_cmp_gt, nI_1, zr_up_self, zp_O, zr_fup_self, zr_fup_ne, ne_eq, Nat.reduceEqDiff, not_false_eq_true, pk_mul, q6]
  refine zs_120_62 (by decide) (by decide) (fun a6 n6 => ?_)
  have e6 : a6 ≠ q := fun e => by rw [e, q6] at n6; cases n6
  have d0_6 : a0 ≠ a6 := fun e => by rw [← e, A0] at n6; cases n6
  have d1_6 : a1 ≠ a6 := fun e => by rw [← e, A1] at n6; cases n6
  have d2_6 : a2 ≠ a6 := fun e => by rw [← e, A2] at n6; cases n6
  have d3_6 : a3 ≠ a6 := fun e => by rw [← e, A3] at n6; cases n6
  have d4_6 : a4 ≠ a6 := fun e => by rw [← e, A4] at n6; cases n6
  have d5_6 : a5 ≠ a6 := fun e => by rw [← e, A5] at n6; cases n6
  have m6 : h a6 = none := by rw [← fx5 a6 (by simp; exact ⟨e6, Ne.symm d0_6, Ne.symm d1_6, Ne.symm d2_6, Ne.symm d3_6, Ne.symm d4_6, Ne.symm d5_6⟩)]; exact n6
  have p6 : (zr_up h6' a6 (.inr (0, 12, fun _ => defaultValue (zr_at 0)))) q = some (.inl (7, V6')) := by rw [zr_up_ne _ _ (Ne.symm e6)]; exact q6
  have B0 : (zr_up h6' a6 (.inr (0, 12, fun _ => defaultValue (zr_at 0)))) a0 = _ := (zr_up_ne _ _ d0_6).trans A0
  have B1 : (zr_up h6' a6 (.inr (0, 12, fun _ => defaultValue (zr_at 0)))) a1 = _ := (zr_up_ne _ _ d1_6).trans A1
  have B2 : (zr_up h6' a6 (.inr (0, 12, fun _ => defaultValue (zr_at 0)))) a2 = _ := (zr_up_ne _ _ d2_6).trans A2
  have B3 : (zr_up h6' a6 (.inr (0, 12, fun _ => defaultValue (zr_at 0)))) a3 = _ := (zr_up_ne _ _ d3_6).trans A3
  have B4 : (zr_up h6' a6 (.inr (0, 12, fun _ => defaultValue (zr_at 0)))) a4 = _ := (zr_up_ne _ _ d4_6).trans A4
  have B5 : (zr_up h6' a6 (.inr (0, 12, fun _ => defaultValue (zr_at 0)))) a5 = _ := (zr_up_ne _ _ d5_6).trans A5
  have B6 : (zr_up h6' a6 (.inr (0, 12, fun _ => defaultValue (zr_at 0)))) a6 = some (.inr (0, 12, fun _ => defaultValue (zr_at 0))) := zr_up_self _ _ _
  have g6 : fx [q, a0, a1, a2, a3, a4, a5, a6] h (zr_up h6' a6 (.inr (0, 12, fun _ => defaultValue (zr_at 0)))) := fx_trans (fx_sub fx5 (fun j hj => by simp at hj ⊢; omega)) (fx_up (by simp))
  generalize zr_up h6' a6 (.inr (0, 12, fun _ => defaultValue (zr_at 0))) = g6h at *
  simp only [zs_120_0, zs_120_0u, zs_120_1, zs_120_4, zs_120_4u, zs_120_5, zs_120_9, zs_120_12, zs_120_12u, zs_120_13, zs_120_17, zs_120_20, zs_120_20u, zs_120_21, zs_120_26, zs_120_29, zs_120_29u, zs_120_30, zs_120_35, zs_120_38, zs_120_38u, zs_120_39, zs_120_42, zs_120_45, zs_120_45u, zs_120_46, zs_120_51, zs_120_54, zs_120_54u, zs_120_55, zs_120_56, zs_120_59, zs_120_59u, zs_120_60, zs_120_64, zs_120_68, zt_120_68, zs_120_71, zs_120_71u, zs_120_72, zs_120_72u, zs_120_73, zs_120_76, zs_120_77, zt_120_77, zs_120_80, zs_120_80u, zs_120_81, zt_120_81, zs_120_84, zc_isO, zr_fld_mk, zc_isA, zc_len, zr_elt_mk, zr_kill_i, zr_kill_l, zr_kill_r, zr_kill_u, zr_kill_f, zr_kill_n, zc_cat, zr_cat_i, zr_cat_l, zr_cat_r, zr_cat_f, zr_cat_d, zr_cat_u, beq_self_eq_true, Nat.zero_le, Nat.le_refl, Nat.reduceSub, Nat.reduceAdd, Nat.reduceLeDiff, csl_f, csr_f, cn_f, lg_cmp_eq, lg_cmp_le, lg_cmp_lt, lg_cmp_ge, lg_cmp_gt, nI_1, zr_up_self, zp_O, zr_fup_self, zr_fup_ne, ne_eq, Nat.reduceEqDiff, not_false_eq_true, pk_mul, p6]
  rw [zr_putO_mk p6]
  have q7 : (zr_up g6h q (.inl (7, zr_fup V6' 22 (.ref a6)))) q = some (.inl (7, zr_fup V6' 22 (.ref a6))) := zr_up_self _ _ _
  have A0 : (zr_up g6h q (.inl (7, zr_fup V6' 22 (.ref a6)))) a0 = _ := (zr_up_ne _ _ e0).trans B0
  have A1 : (zr_up g6h q (.inl (7, zr_fup V6' 22 (.ref a6)))) a1 = _ := (zr_up_ne _ _ e1).trans B1
  have A2 : (zr_up g6h q (.inl (7, zr_fup V6' 22 (.ref a6)))) a2 = _ := (zr_up_ne _ _ e2).trans B2
  have A3 : (zr_up g6h q (.inl (7, zr_fup V6' 22 (.ref a6)))) a3 = _ := (zr_up_ne _ _ e3).trans B3
  have A4 : (zr_up g6h q (.inl (7, zr_fup V6' 22 (.ref a6)))) a4 = _ := (zr_up_ne _ _ e4).trans B4
  have A5 : (zr_up g6h q (.inl (7, zr_fup V6' 22 (.ref a6)))) a5 = _ := (zr_up_ne _ _ e5).trans B5
  have A6 : (zr_up g6h q (.inl (7, zr_fup V6' 22 (.ref a6)))) a6 = _ := (zr_up_ne _ _ e6).trans B6
  have fx6 : fx [q, a0, a1, a2, a3, a4, a5, a6] h (zr_up g6h q (.inl (7, zr_fup V6' 22 (.ref a6)))) := fx_trans g6 (fx_up (by simp))
  generalize zr_up g6h q (.inl (7, zr_fup V6' 22 (.ref a6))) = h7 at *
  generalize hV7 : zr_fup V6' 22 (.ref a6) = V7 at *
  have eV : V7 = zyV (mnE a0 a1 a2 a3 a4 a5 a6) mnK (fun _ => 0) := by
    rw [← mn_V, ← hV7, ← hV6', ← hV6, ← hV5, ← hV4, ← hV3, ← hV2, ← hV1]
  rw [eV] at q7
  have v0 : ms h7 q (mnE a0 a1 a2 a3 a4 a5 a6) mnK (fun _ => 0) (fun _ => 0) (fun _ => 0) (fun _ => 0) (fun _ => 0) (fun j => .int (bI ((fun _ => none : Nat → Option gm) j).isSome)) (fun k => .int ((fun _ => 0 : Nat → Int32) k)) (fun k => .int ((fun _ => 0 : Nat → Int32) k)) := ⟨q7, ⟨_, A0, fun _ _ => rfl⟩, ⟨_, A1, fun _ _ => rfl⟩, ⟨_, A2, fun _ _ => rfl⟩, ⟨_, A3, fun _ _ => rfl⟩, ⟨_, A4, fun _ _ => rfl⟩, ⟨_, A5, fun _ _ => rfl⟩, ⟨_, A6, fun _ _ => rfl⟩, d0_1⟩
  have nn : ∀ a, a ∈ MX q (mnE a0 a1 a2 a3 a4 a5 a6) → a ≠ q → h a = none := by
    intro a ha hne
    have ha : a ∈ [q, a0, a1, a2, a3, a4, a5, a6] := ha
    simp at ha
    rcases ha with u | u | u | u | u | u | u | u
    · exact absurd u hne
    · rw [u]; exact m0
    · rw [u]; exact m1
    · rw [u]; exact m2
    · rw [u]; exact m3
    · rw [u]; exact m4
    · rw [u]; exact m5
    · rw [u]; exact m6
  have f7 : fx (MX q (mnE a0 a1 a2 a3 a4 a5 a6)) h h7 := fx6
  generalize mnE a0 a1 a2 a3 a4 a5 a6 = E at *
  simp only [zs_120_0, zs_120_0u, zs_120_1, zs_120_4, zs_120_4u, zs_120_5, zs_120_9, zs_120_12, zs_120_12u, zs_120_13, zs_120_17, zs_120_20, zs_120_20u, zs_120_21, zs_120_26, zs_120_29, zs_120_29u, zs_120_30, zs_120_35, zs_120_38, zs_120_38u, zs_120_39, zs_120_42, zs_120_45, zs_120_45u, zs_120_46, zs_120_51, zs_120_54, zs_120_54u, zs_120_55, zs_120_56, zs_120_59, zs_120_59u, zs_120_60, zs_120_64, zs_120_67, zs_120_67u, zs_120_68, zt_120_68, zs_120_71, zs_120_71u, zs_120_72, zs_120_72u, zs_120_73, zs_120_76, zs_120_77, zt_120_77, zs_120_80, zs_120_80u, zs_120_81, zt_120_81, zs_120_84, zc_isO, zr_fld_mk, zc_isA, zc_len, zr_elt_mk, zr_kill_i, zr_kill_l, zr_kill_r, zr_kill_u, zr_kill_f, zr_kill_n, zc_cat, zr_cat_i, zr_cat_l, zr_cat_r, zr_cat_f, zr_cat_d, zr_cat_u, beq_self_eq_true, Nat.zero_le, Nat.le_refl, Nat.reduceSub, Nat.reduceAdd, Nat.reduceLeDiff, csl_f, csr_f, cn_f, lg_cmp_eq, lg_cmp_le, lg_cmp_lt, lg_cmp_ge, lg_cmp_gt, nI_1, zr_up_self, zp_O, zr_fup_self, zr_fup_ne, ne_eq, Nat.reduceEqDiff, not_false_eq_true, pk_mul, v0.1, zy_I]
  refine k_mbeg (d := d + 1) v0 (fun h8 v8 f8 => ?_)
  have f8 := fx_trans f7 f8
  simp only [zs_120_0, zs_120_0u, zs_120_1, zs_120_4, zs_120_4u, zs_120_5, zs_120_9, zs_120_12, zs_120_12u, zs_120_13, zs_120_17, zs_120_20, zs_120_20u, zs_120_21, zs_120_26, zs_120_29, zs_120_29u, zs_120_30, zs_120_35, zs_120_38, zs_120_38u, zs_120_39, zs_120_42, zs_120_45, zs_120_45u, zs_120_46, zs_120_51, zs_120_54, zs_120_54u, zs_120_55, zs_120_56, zs_120_59, zs_120_59u, zs_120_60, zs_120_64, zs_120_67, zs_120_67u, zs_120_68, zt_120_68, zs_120_71, zs_120_71u, zs_120_72, zs_120_72u, zs_120_73, zs_120_76, zs_120_77, zt_120_77, zs_120_80, zs_120_80u, zs_120_81, zt_120_81, zs_120_84, zc_isO, zr_fld_mk, zc_isA, zc_len, zr_elt_mk, zr_kill_i, zr_kill_l, zr_kill_r, zr_kill_u, zr_kill_f, zr_kill_n, zc_cat, zr_cat_i, zr_cat_l, zr_cat_r, zr_cat_f, zr_cat_d, zr_cat_u, beq_self_eq_true, Nat.zero_le, Nat.le_refl, Nat.reduceSub, Nat.reduceAdd, Nat.reduceLeDiff, csl_f, csr_f, cn_f, lg_cmp_eq, lg_cmp_le, lg_cmp_lt, lg_cmp_ge, lg_cmp_gt, nI_1, zr_up_self, zp_O, zr_fup_self, zr_fup_ne, ne_eq, Nat.reduceEqDiff, not_false_eq_true, pk_mul, v8.1, zy_I, zy_1]
  refine k_mbec (d := d + 1) (a := 0) v8 (Ne.symm v8.2.2.2.2.2.2.2.2) v8.2.2.1 (by omega) (by omega) (fun h9 v9 f9 => ?_)
  have f9 := fx_trans f8 f9
  simp only [zs_120_0, zs_120_0u, zs_120_1, zs_120_4, zs_120_4u, zs_120_5, zs_120_9, zs_120_12, zs_120_12u, zs_120_13, zs_120_17, zs_120_20, zs_120_20u, zs_120_21, zs_120_26, zs_120_29, zs_120_29u, zs_120_30, zs_120_35, zs_120_38, zs_120_38u, zs_120_39, zs_120_42, zs_120_45, zs_120_45u, zs_120_46, zs_120_51, zs_120_54, zs_120_54u, zs_120_55, zs_120_56, zs_120_59, zs_120_59u, zs_120_60, zs_120_64, zs_120_67, zs_120_67u, zs_120_68, zt_120_68, zs_120_71, zs_120_71u, zs_120_72, zs_120_72u, zs_120_73, zs_120_76, zs_120_77, zt_120_77, zs_120_80, zs_120_80u, zs_120_81, zt_120_81, zs_120_84, zc_isO, zr_fld_mk, zc_isA, zc_len, zr_elt_mk, zr_kill_i, zr_kill_l, zr_kill_r, zr_kill_u, zr_kill_f, zr_kill_n, zc_cat, zr_cat_i, zr_cat_l, zr_cat_r, zr_cat_f, zr_cat_d, zr_cat_u, beq_self_eq_true, Nat.zero_le, Nat.le_refl, Nat.reduceSub, Nat.reduceAdd, Nat.reduceLeDiff, csl_f, csr_f, cn_f, lg_cmp_eq, lg_cmp_le, lg_cmp_lt, lg_cmp_ge, lg_cmp_gt, nI_1, zr_up_self, zp_O, zr_fup_self, zr_fup_ne, ne_eq, Nat.reduceEqDiff, not_false_eq_true, pk_mul, v9.1, zy_I]
  refine k_mforg (d := d) v9 (fun h10 v10 f10 => ?_)
  have f10 := fx_trans f9 f10
  have e0 : (fun j => if j = 10 then 0 else fr0 (0 + j)) = (fun j => if j = 10 then (0 : Int64) else fr0 j) := by funext k; rw [Nat.zero_add]
  rw [e0] at v10
  simp only [zs_120_0, zs_120_0u, zs_120_1, zs_120_4, zs_120_4u, zs_120_5, zs_120_9, zs_120_12, zs_120_12u, zs_120_13, zs_120_17, zs_120_20, zs_120_20u, zs_120_21, zs_120_26, zs_120_29, zs_120_29u, zs_120_30, zs_120_35, zs_120_38, zs_120_38u, zs_120_39, zs_120_42, zs_120_45, zs_120_45u, zs_120_46, zs_120_51, zs_120_54, zs_120_54u, zs_120_55, zs_120_56, zs_120_59, zs_120_59u, zs_120_60, zs_120_64, zs_120_67, zs_120_67u, zs_120_68, zt_120_68, zs_120_71, zs_120_71u, zs_120_72, zs_120_72u, zs_120_73, zs_120_76, zs_120_77, zt_120_77, zs_120_80, zs_120_80u, zs_120_81, zt_120_81, zs_120_84, zc_isO, zr_fld_mk, zc_isA, zc_len, zr_elt_mk, zr_kill_i, zr_kill_l, zr_kill_r, zr_kill_u, zr_kill_f, zr_kill_n, zc_cat, zr_cat_i, zr_cat_l, zr_cat_r, zr_cat_f, zr_cat_d, zr_cat_u, beq_self_eq_true, Nat.zero_le, Nat.le_refl, Nat.reduceSub, Nat.reduceAdd, Nat.reduceLeDiff, csl_f, csr_f, cn_f, lg_cmp_eq, lg_cmp_le, lg_cmp_lt, lg_cmp_ge, lg_cmp_gt, nI_1, zr_up_self, zp_O, zr_fup_self, zr_fup_ne, ne_eq, Nat.reduceEqDiff, not_false_eq_true, pk_mul]
  exact hQ E mnK _ h10 ⟨_, _, _, _, v10, rG_forg mn_r, mn_G, fun j hj => absurd hj (by simp), (fun j _ G' e => by cases e), by simp, rfl, rfl, rfl, rfl⟩ nn f10
end NEW
