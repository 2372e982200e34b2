/-! THE MODEL: a written byte; bytes appended; what is seen -/
section MODEL
variable {d : Nat} {h h' : zr_H} {Q : zr_K} {m : Nat} {E : Nat → Nat} {K : Nat → Int32} {L : Nat → Int64} {G : gm} {H : List gm} {T : Nat → Option gm} {n l : Nat} {e : Int32} {bf wf : Nat → Int32} {f ff fk fs : Nat → Int64} {R S : Nat} {b w : Int64} {P : List (Int64 × Int64)} {I : Nat → Int32}
theorem mM_23 (v : mM h m E K L G H T n e l bf wf) : K 23 = nI l ∧ K 8 = nI n ∧ K 16 = e ∧ K 5 = nI H.length := by
  obtain ⟨f, ff, fk, fs, v, r, g, hk, ht, hl, k5, k8, k16, k23⟩ := v
  exact ⟨k23, k8, k16, k5⟩
theorem k_mbyte {y : Int32} (hl : l ≤ 12) (v : mM h m E K L (R, S, b, w, P, I) H T n e l bf wf) (hQ : mQM h m E Q [2] (R, S, b, w, P, I) H T n e l bf wf (rxByte wf l y)) : zr_E (d + 2) 209 [.ref m, .int y] h Q := by
  obtain ⟨f0, v0⟩ := mM_q v
  have k23 := (mM_23 v).1
  unfold rxByte at hQ
  have hin : (0 ≤ y ∧ y ≤ nI l - 1) ↔ ∃ k, k < l ∧ y = nI k := by
    cases l with
    | zero =>
      refine ⟨fun u => ?_, fun ⟨k, hk, _⟩ => by omega⟩
      have u1 := Int32.le_iff_toInt_le.mp u.1
      have u2 := Int32.le_iff_toInt_le.mp u.2
      have : (nI 0 - 1).toInt = -1 := by decide
      have z : (0 : Int32).toInt = 0 := rfl
      omega
    | succ l =>
      rw [nI_p (by omega)]
      exact in_n (by omega) (by omega)
  rw [ze_209]
  simp only [zs_209_0, zs_209_0u, zs_209_1, zs_209_2, zs_209_3, zs_209_4, zs_209_4u, zs_209_5, zs_209_8, zs_209_9, zs_209_10, zs_209_11, zt_209_11, zs_209_14, zs_209_17, zs_209_18, zs_209_21, zs_209_22, zs_209_25, zs_209_25u, zs_209_26, zs_209_29, zs_209_32, zs_209_33, zs_209_36, zs_209_36u, zs_209_37, zs_209_40, zs_209_41, zs_209_41_20, zs_209_42, zc_isO, zr_fld_mk, zc_isA, zc_len, zr_elt_mk, zr_kill_i, zr_kill_l, zr_kill_r, zr_kill_u, zr_kill_f, zr_kill_n, zc_cat, zr_cat_i, zr_cat_l, zr_cat_r, zr_cat_f, zr_cat_d, zr_cat_u, beq_self_eq_true, Nat.zero_le, Nat.le_refl, Nat.reduceSub, Nat.reduceAdd, Nat.reduceLeDiff, csl_f, csr_f, cn_f, lg_cmp_eq, lg_cmp_le, lg_cmp_lt, lg_cmp_ge, lg_cmp_gt, nI_1, zr_up_self, zp_O, zr_fup_self, zr_fup_ne, ne_eq, Nat.reduceEqDiff, not_false_eq_true, pk_mul, v0.1, zy_I, zy_23, k23]
  rw [z0_l]
  refine k_isin (d := d) (fun u => ?_) (fun u => ?_)
  rotate_left
  · rw [i_l] at u
    rw [plq_n (by omega) (fun k hk ek => u (hin.mpr ⟨k, hk, ek⟩))] at hQ
    have q2 := mQ_of v hQ
    simp only [zs_209_0, zs_209_0u, zs_209_1, zs_209_2, zs_209_3, zs_209_4, zs_209_4u, zs_209_5, zs_209_8, zs_209_9, zs_209_10, zs_209_11, zt_209_11, zs_209_14, zs_209_17, zs_209_22, zs_209_25, zs_209_25u, zs_209_26, zs_209_29, zs_209_32, zs_209_33, zs_209_36, zs_209_36u, zs_209_37, zs_209_40, zs_209_41, zs_209_41_20, zs_209_42, zc_isO, zr_fld_mk, zc_isA, zc_len, zr_elt_mk, zr_kill_i, zr_kill_l, zr_kill_r, zr_kill_u, zr_kill_f, zr_kill_n, zc_cat, zr_cat_i, zr_cat_l, zr_cat_r, zr_cat_f, zr_cat_d, zr_cat_u, beq_self_eq_true, Nat.zero_le, Nat.le_refl, Nat.reduceSub, Nat.reduceAdd, Nat.reduceLeDiff, csl_f, csr_f, cn_f, lg_cmp_eq, lg_cmp_le, lg_cmp_lt, lg_cmp_ge, lg_cmp_gt, nI_1, zr_up_self, zp_O, zr_fup_self, zr_fup_ne, ne_eq, Nat.reduceEqDiff, not_false_eq_true, pk_mul]
    refine ⟨fun _ => ?_, fun y => absurd trivial y⟩
    simp only [zs_209_0, zs_209_0u, zs_209_1, zs_209_2, zs_209_3, zs_209_4, zs_209_4u, zs_209_5, zs_209_8, zs_209_9, zs_209_10, zs_209_11, zt_209_11, zs_209_14, zs_209_17, zs_209_18, zs_209_21, zs_209_22, zs_209_26, zs_209_29, zs_209_32, zs_209_33, zs_209_36, zs_209_36u, zs_209_37, zs_209_40, zs_209_41, zs_209_41_20, zs_209_42, zc_isO, zr_fld_mk, zc_isA, zc_len, zr_elt_mk, zr_kill_i, zr_kill_l, zr_kill_r, zr_kill_u, zr_kill_f, zr_kill_n, zc_cat, zr_cat_i, zr_cat_l, zr_cat_r, zr_cat_f, zr_cat_d, zr_cat_u, beq_self_eq_true, Nat.zero_le, Nat.le_refl, Nat.reduceSub, Nat.reduceAdd, Nat.reduceLeDiff, csl_f, csr_f, cn_f, lg_cmp_eq, lg_cmp_le, lg_cmp_lt, lg_cmp_ge, lg_cmp_gt, nI_1, zr_up_self, zp_O, zr_fup_self, zr_fup_ne, ne_eq, Nat.reduceEqDiff, not_false_eq_true, pk_mul, v0.1, zy_I]
    rw [putY v0.1 (by omega)]
    have v2 := mq_up v0 (fI K 6 1) L
    have e6 : fI K 6 1 6 = 1 := fI_s _ _ _
    simp only [zs_209_0, zs_209_0u, zs_209_1, zs_209_2, zs_209_3, zs_209_4, zs_209_4u, zs_209_5, zs_209_8, zs_209_9, zs_209_10, zs_209_11, zt_209_11, zs_209_14, zs_209_17, zs_209_18, zs_209_21, zs_209_22, zs_209_25, zs_209_25u, zs_209_26, zs_209_29, zs_209_33, zs_209_37, zs_209_40, zs_209_41, zs_209_41_20, zs_209_42, zc_isO, zr_fld_mk, zc_isA, zc_len, zr_elt_mk, zr_kill_i, zr_kill_l, zr_kill_r, zr_kill_u, zr_kill_f, zr_kill_n, zc_cat, zr_cat_i, zr_cat_l, zr_cat_r, zr_cat_f, zr_cat_d, zr_cat_u, beq_self_eq_true, Nat.zero_le, Nat.le_refl, Nat.reduceSub, Nat.reduceAdd, Nat.reduceLeDiff, csl_f, csr_f, cn_f, lg_cmp_eq, lg_cmp_le, lg_cmp_lt, lg_cmp_ge, lg_cmp_gt, nI_1, zr_up_self, zp_O, zr_fup_self, zr_fup_ne, ne_eq, Nat.reduceEqDiff, not_false_eq_true, pk_mul, zy_I, zy_6, e6]
    refine ⟨fun y => absurd y (by decide), fun _ => ?_⟩
    simp only [zs_209_0, zs_209_0u, zs_209_1, zs_209_2, zs_209_3, zs_209_4, zs_209_4u, zs_209_5, zs_209_8, zs_209_9, zs_209_10, zs_209_11, zt_209_11, zs_209_14, zs_209_17, zs_209_18, zs_209_21, zs_209_22, zs_209_25, zs_209_25u, zs_209_26, zs_209_29, zs_209_32, zs_209_33, zs_209_36, zs_209_36u, zs_209_37, zs_209_40, zs_209_41, zs_209_41_20, zs_209_42, zc_isO, zr_fld_mk, zc_isA, zc_len, zr_elt_mk, zr_kill_i, zr_kill_l, zr_kill_r, zr_kill_u, zr_kill_f, zr_kill_n, zc_cat, zr_cat_i, zr_cat_l, zr_cat_r, zr_cat_f, zr_cat_d, zr_cat_u, beq_self_eq_true, Nat.zero_le, Nat.le_refl, Nat.reduceSub, Nat.reduceAdd, Nat.reduceLeDiff, csl_f, csr_f, cn_f, lg_cmp_eq, lg_cmp_le, lg_cmp_lt, lg_cmp_ge, lg_cmp_gt, nI_1, zr_up_self, zp_O, zr_fup_self, zr_fup_ne, ne_eq, Nat.reduceEqDiff, not_false_eq_true, pk_mul]
    exact mQ_e q2 0 L
  rw [i_l] at u
  obtain ⟨k, hk, ek⟩ := hin.mp u
  rw [ek, plq_s hk (by omega)] at hQ
  simp only [zs_209_0, zs_209_0u, zs_209_1, zs_209_2, zs_209_3, zs_209_4, zs_209_4u, zs_209_5, zs_209_8, zs_209_9, zs_209_10, zs_209_11, zt_209_11, zs_209_14, zs_209_17, zs_209_22, zs_209_25, zs_209_25u, zs_209_26, zs_209_29, zs_209_32, zs_209_33, zs_209_36, zs_209_36u, zs_209_37, zs_209_40, zs_209_41, zs_209_41_20, zs_209_42, zc_isO, zr_fld_mk, zc_isA, zc_len, zr_elt_mk, zr_kill_i, zr_kill_l, zr_kill_r, zr_kill_u, zr_kill_f, zr_kill_n, zc_cat, zr_cat_i, zr_cat_l, zr_cat_r, zr_cat_f, zr_cat_d, zr_cat_u, beq_self_eq_true, Nat.zero_le, Nat.le_refl, Nat.reduceSub, Nat.reduceAdd, Nat.reduceLeDiff, csl_f, csr_f, cn_f, lg_cmp_eq, lg_cmp_le, lg_cmp_lt, lg_cmp_ge, lg_cmp_gt, nI_1, zr_up_self, zp_O, zr_fup_self, zr_fup_ne, ne_eq, Nat.reduceEqDiff, not_false_eq_true, pk_mul]
  refine ⟨fun y => absurd y (by decide), fun _ => ?_⟩
  simp only [zs_209_0, zs_209_0u, zs_209_1, zs_209_2, zs_209_3, zs_209_4, zs_209_4u, zs_209_5, zs_209_8, zs_209_9, zs_209_10, zs_209_11, zt_209_11, zs_209_14, zs_209_17, zs_209_18, zs_209_21, zs_209_25, zs_209_25u, zs_209_26, zs_209_29, zs_209_32, zs_209_33, zs_209_36, zs_209_36u, zs_209_37, zs_209_40, zs_209_41, zs_209_41_20, zs_209_42, zc_isO, zr_fld_mk, zc_isA, zc_len, zr_elt_mk, zr_kill_i, zr_kill_l, zr_kill_r, zr_kill_u, zr_kill_f, zr_kill_n, zc_cat, zr_cat_i, zr_cat_l, zr_cat_r, zr_cat_f, zr_cat_d, zr_cat_u, beq_self_eq_true, Nat.zero_le, Nat.le_refl, Nat.reduceSub, Nat.reduceAdd, Nat.reduceLeDiff, csl_f, csr_f, cn_f, lg_cmp_eq, lg_cmp_le, lg_cmp_lt, lg_cmp_ge, lg_cmp_gt, nI_1, zr_up_self, zp_O, zr_fup_self, zr_fup_ne, ne_eq, Nat.reduceEqDiff, not_false_eq_true, pk_mul]
  rw [ek]
  simp only [zs_209_0, zs_209_0u, zs_209_1, zs_209_2, zs_209_3, zs_209_4, zs_209_4u, zs_209_5, zs_209_8, zs_209_9, zs_209_10, zs_209_11, zt_209_11, zs_209_14, zs_209_17, zs_209_18, zs_209_21, zs_209_22, zs_209_26, zs_209_29, zs_209_32, zs_209_33, zs_209_36, zs_209_36u, zs_209_37, zs_209_40, zs_209_41, zs_209_41_20, zs_209_42, zc_isO, zr_fld_mk, zc_isA, zc_len, zr_elt_mk, zr_kill_i, zr_kill_l, zr_kill_r, zr_kill_u, zr_kill_f, zr_kill_n, zc_cat, zr_cat_i, zr_cat_l, zr_cat_r, zr_cat_f, zr_cat_d, zr_cat_u, beq_self_eq_true, Nat.zero_le, Nat.le_refl, Nat.reduceSub, Nat.reduceAdd, Nat.reduceLeDiff, csl_f, csr_f, cn_f, lg_cmp_eq, lg_cmp_le, lg_cmp_lt, lg_cmp_ge, lg_cmp_gt, nI_1, zr_up_self, zp_O, zr_fup_self, zr_fup_ne, ne_eq, Nat.reduceEqDiff, not_false_eq_true, pk_mul, v0.1, zy_I]
  rw [putY v0.1 (by omega)]
  obtain ⟨v1, f1⟩ := mM_up v (K2 := fI K 6 0) (L2 := L) (fI_n _ _ (by omega)) (fI_n _ _ (by omega)) (fI_n _ _ (by omega)) (fI_n _ _ (by omega))
  have e6 : fI K 6 0 6 = 0 := fI_s _ _ _
  generalize zr_up h m (zym E (fI K 6 0) L) = h1 at *
  obtain ⟨_, w1⟩ := mM_q v1
  obtain ⟨b1, b2, b3⟩ := mM_w22 v1 (i := k) (by omega)
  simp only [zs_209_0, zs_209_0u, zs_209_1, zs_209_2, zs_209_3, zs_209_4, zs_209_4u, zs_209_5, zs_209_8, zs_209_9, zs_209_10, zs_209_11, zt_209_11, zs_209_14, zs_209_17, zs_209_18, zs_209_21, zs_209_22, zs_209_25, zs_209_25u, zs_209_26, zs_209_29, zs_209_33, zs_209_37, zs_209_40, zs_209_41, zs_209_41_20, zs_209_42, zc_isO, zr_fld_mk, zc_isA, zc_len, zr_elt_mk, zr_kill_i, zr_kill_l, zr_kill_r, zr_kill_u, zr_kill_f, zr_kill_n, zc_cat, zr_cat_i, zr_cat_l, zr_cat_r, zr_cat_f, zr_cat_d, zr_cat_u, beq_self_eq_true, Nat.zero_le, Nat.le_refl, Nat.reduceSub, Nat.reduceAdd, Nat.reduceLeDiff, csl_f, csr_f, cn_f, lg_cmp_eq, lg_cmp_le, lg_cmp_lt, lg_cmp_ge, lg_cmp_gt, nI_1, zr_up_self, zp_O, zr_fup_self, zr_fup_ne, ne_eq, Nat.reduceEqDiff, not_false_eq_true, pk_mul, w1.1, zy_I, zy_6, e6]
  refine ⟨fun _ => ?_, fun y => absurd (by decide) y⟩
  simp only [zs_209_0, zs_209_0u, zs_209_1, zs_209_2, zs_209_3, zs_209_4, zs_209_4u, zs_209_5, zs_209_8, zs_209_9, zs_209_10, zs_209_11, zt_209_11, zs_209_14, zs_209_17, zs_209_18, zs_209_21, zs_209_22, zs_209_25, zs_209_25u, zs_209_26, zs_209_29, zs_209_32, zs_209_33, zs_209_36, zs_209_36u, zs_209_37, zs_209_40, zs_209_41, zs_209_41_20, zs_209_42, zc_isO, zr_fld_mk, zc_isA, zc_len, zr_elt_mk, zr_kill_i, zr_kill_l, zr_kill_r, zr_kill_u, zr_kill_f, zr_kill_n, zc_cat, zr_cat_i, zr_cat_l, zr_cat_r, zr_cat_f, zr_cat_d, zr_cat_u, beq_self_eq_true, Nat.zero_le, Nat.le_refl, Nat.reduceSub, Nat.reduceAdd, Nat.reduceLeDiff, csl_f, csr_f, cn_f, lg_cmp_eq, lg_cmp_le, lg_cmp_lt, lg_cmp_ge, lg_cmp_gt, nI_1, zr_up_self, zp_O, zr_fup_self, zr_fup_ne, ne_eq, Nat.reduceEqDiff, not_false_eq_true, pk_mul, w1.1, zy_I, zy_22, b1, b2, b3]
  exact hQ _ h1 _ L ⟨e6, rfl⟩ v1 f1
end MODEL
