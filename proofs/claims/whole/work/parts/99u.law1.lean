/-! THE LAW: its wrappers (printed by wip/gen/wrap.py) -/
def wK (o : Nat) (codes : List Nat) (Q : zr_K) : zr_K := fun r h' => match r with
  | .inl (some (.int v)) => zr_isA (h' o) 1 = true ∧ vp_in 0 (zr_len (h' o)) ∧ Q (.inl (some (.int 0))) (zr_putA h' o 0 (.long v.toInt64))
  | .inr E => E ∈ codes ∧ Q (.inl (some (.int (nI (cix codes E))))) h'
  | _ => False
def wB (o : Nat) (codes : List Nat) (Q : zr_K) : zr_K := fun r h' => match r with
  | .inl (some (.int v)) => (v = 0 ∨ v = 1) ∧ zr_isA (h' o) 1 = true ∧ vp_in 0 (zr_len (h' o)) ∧ Q (.inl (some (.int 0))) (zr_putA h' o 0 (.long v.toInt64))
  | .inr E => E ∈ codes ∧ Q (.inl (some (.int (nI (cix codes E))))) h'
  | _ => False
def wF (o : Nat) (codes : List Nat) (Q : zr_K) : zr_K := fun r h' => match r with
  | .inl (some (.float v)) => vf_n64 (FP.f2d v) ∧ zr_isA (h' o) 4 = true ∧ vp_in 0 (zr_len (h' o)) ∧ Q (.inl (some (.int 0))) (zr_putA h' o 0 (.double (FP.f2d v)))
  | .inr E => E ∈ codes ∧ Q (.inl (some (.int (nI (cix codes E))))) h'
  | _ => False
section LAW
variable {d : Nat} {h : zr_H} {Q : zr_K} {x o : Nat} {a0 a1 a2 a3 a4 : Int32}
/-- append -/
theorem k_w222 (hX : zr_isO (h x) 6 = true) (hc : zr_E d 74 [.ref x, .int a0, .int a1, .int a2, .int a3, .int a4] h (wK o [0] Q)) : zr_E (d + 1) 222 [.ref x, .int a0, .int a1, .int a2, .int a3, .int a4, .ref o] h Q := by
  have c1 : 1 ≤ 1 := by decide
  have c2 : 6 ≤ 6 := by decide
  have c0 : (0 : Int32).toNatClampNeg = 0 := rfl
  rw [ze_222]
  simp only [zs_222_0, zs_222_0u, zs_222_2, zs_222_3, zs_222_3u, zs_222_4, zs_222_5, zs_222_6, zs_222_7, zs_222_9, zs_222_11, zt_222_11, zs_222_14, zs_222_15, zs_222_16, zs_222_19, zs_222_19u, zs_222_21, zs_222_22, zs_222_23, zs_222_24, zc_isO, zr_fld_mk, zc_isA, zc_len, zr_elt_mk, zr_kill_i, zr_kill_l, zr_kill_r, zr_kill_u, zr_kill_f, zr_kill_n, zc_cat, zr_cat_i, zr_cat_l, zr_cat_r, zr_cat_f, zr_cat_d, zr_cat_u, beq_self_eq_true, Nat.zero_le, Nat.le_refl, Nat.reduceSub, Nat.reduceAdd, Nat.reduceLeDiff, csl_f, csr_f, cn_f, lg_cmp_eq, lg_cmp_le, lg_cmp_lt, lg_cmp_ge, lg_cmp_gt, nI_1, zr_up_self, zp_O, zr_fup_self, zr_fup_ne, ne_eq, Nat.reduceEqDiff, not_false_eq_true, pk_mul, hX, c1, c2]
  refine zr_E_mono hc (fun r h' k => ?_)
  rcases r with (_ | v) | E
  · exact k.elim
  · cases v with
    | int v =>
      obtain ⟨k1, k2, k3⟩ := k
      simp only [zs_222_0, zs_222_0u, zs_222_2, zs_222_3, zs_222_3u, zs_222_4, zs_222_5, zs_222_6, zs_222_7, zs_222_9, zs_222_11, zt_222_11, zs_222_14, zs_222_15, zs_222_16, zs_222_19, zs_222_19u, zs_222_21, zs_222_22, zs_222_23, zs_222_24, zc_isO, zr_fld_mk, zc_isA, zc_len, zr_elt_mk, zr_kill_i, zr_kill_l, zr_kill_r, zr_kill_u, zr_kill_f, zr_kill_n, zc_cat, zr_cat_i, zr_cat_l, zr_cat_r, zr_cat_f, zr_cat_d, zr_cat_u, beq_self_eq_true, Nat.zero_le, Nat.le_refl, Nat.reduceSub, Nat.reduceAdd, Nat.reduceLeDiff, csl_f, csr_f, cn_f, lg_cmp_eq, lg_cmp_le, lg_cmp_lt, lg_cmp_ge, lg_cmp_gt, nI_1, zr_up_self, zp_O, zr_fup_self, zr_fup_ne, ne_eq, Nat.reduceEqDiff, not_false_eq_true, pk_mul, k1, k2, c0]
      exact k3
    | _ => exact k.elim
  · obtain ⟨ke, k3⟩ := k
    simp only [List.mem_cons, List.not_mem_nil, or_false] at ke
    subst ke
    rw [zk_catch zf_hh_222 zf_mo_222 (by rfl)]
    intro q2
    simp only [zs_222_0, zs_222_0u, zs_222_2, zs_222_3, zs_222_3u, zs_222_4, zs_222_5, zs_222_6, zs_222_7, zs_222_9, zs_222_11, zt_222_11, zs_222_14, zs_222_15, zs_222_16, zs_222_19, zs_222_19u, zs_222_21, zs_222_22, zs_222_23, zs_222_24, zc_isO, zr_fld_mk, zc_isA, zc_len, zr_elt_mk, zr_kill_i, zr_kill_l, zr_kill_r, zr_kill_u, zr_kill_f, zr_kill_n, zc_cat, zr_cat_i, zr_cat_l, zr_cat_r, zr_cat_f, zr_cat_d, zr_cat_u, beq_self_eq_true, Nat.zero_le, Nat.le_refl, Nat.reduceSub, Nat.reduceAdd, Nat.reduceLeDiff, csl_f, csr_f, cn_f, lg_cmp_eq, lg_cmp_le, lg_cmp_lt, lg_cmp_ge, lg_cmp_gt, nI_1, zr_up_self, zp_O, zr_fup_self, zr_fup_ne, ne_eq, Nat.reduceEqDiff, not_false_eq_true, pk_mul]
    exact k3
/-- load -/
theorem k_w223 (hX : zr_isO (h x) 6 = true) (hc : zr_E d 75 [.ref x, .int a0] h (wK o [1] Q)) : zr_E (d + 1) 223 [.ref x, .int a0, .ref o] h Q := by
  have c1 : 2 ≤ 2 := by decide
  have c2 : 12 ≤ 12 := by decide
  have c0 : (0 : Int32).toNatClampNeg = 0 := rfl
  rw [ze_223]
  simp only [zs_223_0, zs_223_0u, zs_223_1, zs_223_2, zs_223_2u, zs_223_3, zs_223_4, zt_223_4, zs_223_7, zs_223_8, zs_223_9, zs_223_12, zs_223_12u, zs_223_13, zs_223_14, zs_223_15, zs_223_16, zc_isO, zr_fld_mk, zc_isA, zc_len, zr_elt_mk, zr_kill_i, zr_kill_l, zr_kill_r, zr_kill_u, zr_kill_f, zr_kill_n, zc_cat, zr_cat_i, zr_cat_l, zr_cat_r, zr_cat_f, zr_cat_d, zr_cat_u, beq_self_eq_true, Nat.zero_le, Nat.le_refl, Nat.reduceSub, Nat.reduceAdd, Nat.reduceLeDiff, csl_f, csr_f, cn_f, lg_cmp_eq, lg_cmp_le, lg_cmp_lt, lg_cmp_ge, lg_cmp_gt, nI_1, zr_up_self, zp_O, zr_fup_self, zr_fup_ne, ne_eq, Nat.reduceEqDiff, not_false_eq_true, pk_mul, hX, c1, c2]
  refine zr_E_mono hc (fun r h' k => ?_)
  rcases r with (_ | v) | E
  · exact k.elim
  · cases v with
    | int v =>
      obtain ⟨k1, k2, k3⟩ := k
      simp only [zs_223_0, zs_223_0u, zs_223_1, zs_223_2, zs_223_2u, zs_223_3, zs_223_4, zt_223_4, zs_223_7, zs_223_8, zs_223_9, zs_223_12, zs_223_12u, zs_223_13, zs_223_14, zs_223_15, zs_223_16, zc_isO, zr_fld_mk, zc_isA, zc_len, zr_elt_mk, zr_kill_i, zr_kill_l, zr_kill_r, zr_kill_u, zr_kill_f, zr_kill_n, zc_cat, zr_cat_i, zr_cat_l, zr_cat_r, zr_cat_f, zr_cat_d, zr_cat_u, beq_self_eq_true, Nat.zero_le, Nat.le_refl, Nat.reduceSub, Nat.reduceAdd, Nat.reduceLeDiff, csl_f, csr_f, cn_f, lg_cmp_eq, lg_cmp_le, lg_cmp_lt, lg_cmp_ge, lg_cmp_gt, nI_1, zr_up_self, zp_O, zr_fup_self, zr_fup_ne, ne_eq, Nat.reduceEqDiff, not_false_eq_true, pk_mul, k1, k2, c0]
      exact k3
    | _ => exact k.elim
  · obtain ⟨ke, k3⟩ := k
    simp only [List.mem_cons, List.not_mem_nil, or_false] at ke
    subst ke
    rw [zk_catch zf_hh_223 zf_mo_223 (by rfl)]
    intro q2
    simp only [zs_223_0, zs_223_0u, zs_223_1, zs_223_2, zs_223_2u, zs_223_3, zs_223_4, zt_223_4, zs_223_7, zs_223_8, zs_223_9, zs_223_12, zs_223_12u, zs_223_13, zs_223_14, zs_223_15, zs_223_16, zc_isO, zr_fld_mk, zc_isA, zc_len, zr_elt_mk, zr_kill_i, zr_kill_l, zr_kill_r, zr_kill_u, zr_kill_f, zr_kill_n, zc_cat, zr_cat_i, zr_cat_l, zr_cat_r, zr_cat_f, zr_cat_d, zr_cat_u, beq_self_eq_true, Nat.zero_le, Nat.le_refl, Nat.reduceSub, Nat.reduceAdd, Nat.reduceLeDiff, csl_f, csr_f, cn_f, lg_cmp_eq, lg_cmp_le, lg_cmp_lt, lg_cmp_ge, lg_cmp_gt, nI_1, zr_up_self, zp_O, zr_fup_self, zr_fup_ne, ne_eq, Nat.reduceEqDiff, not_false_eq_true, pk_mul]
    exact k3
/-- count -/
theorem k_w224 (hX : zr_isO (h x) 6 = true) (hc : zr_E d 77 [.ref x, .int a0] h (wK o [1] Q)) : zr_E (d + 1) 224 [.ref x, .int a0, .ref o] h Q := by
  have c1 : 1 ≤ 1 := by decide
  have c2 : 6 ≤ 6 := by decide
  have c0 : (0 : Int32).toNatClampNeg = 0 := rfl
  rw [ze_224]
  simp only [zs_224_0, zs_224_0u, zs_224_1, zs_224_2, zs_224_2u, zs_224_3, zs_224_4, zt_224_4, zs_224_7, zs_224_8, zs_224_9, zs_224_12, zs_224_12u, zs_224_13, zs_224_14, zs_224_15, zs_224_16, zc_isO, zr_fld_mk, zc_isA, zc_len, zr_elt_mk, zr_kill_i, zr_kill_l, zr_kill_r, zr_kill_u, zr_kill_f, zr_kill_n, zc_cat, zr_cat_i, zr_cat_l, zr_cat_r, zr_cat_f, zr_cat_d, zr_cat_u, beq_self_eq_true, Nat.zero_le, Nat.le_refl, Nat.reduceSub, Nat.reduceAdd, Nat.reduceLeDiff, csl_f, csr_f, cn_f, lg_cmp_eq, lg_cmp_le, lg_cmp_lt, lg_cmp_ge, lg_cmp_gt, nI_1, zr_up_self, zp_O, zr_fup_self, zr_fup_ne, ne_eq, Nat.reduceEqDiff, not_false_eq_true, pk_mul, hX, c1, c2]
  refine zr_E_mono hc (fun r h' k => ?_)
  rcases r with (_ | v) | E
  · exact k.elim
  · cases v with
    | int v =>
      obtain ⟨k1, k2, k3⟩ := k
      simp only [zs_224_0, zs_224_0u, zs_224_1, zs_224_2, zs_224_2u, zs_224_3, zs_224_4, zt_224_4, zs_224_7, zs_224_8, zs_224_9, zs_224_12, zs_224_12u, zs_224_13, zs_224_14, zs_224_15, zs_224_16, zc_isO, zr_fld_mk, zc_isA, zc_len, zr_elt_mk, zr_kill_i, zr_kill_l, zr_kill_r, zr_kill_u, zr_kill_f, zr_kill_n, zc_cat, zr_cat_i, zr_cat_l, zr_cat_r, zr_cat_f, zr_cat_d, zr_cat_u, beq_self_eq_true, Nat.zero_le, Nat.le_refl, Nat.reduceSub, Nat.reduceAdd, Nat.reduceLeDiff, csl_f, csr_f, cn_f, lg_cmp_eq, lg_cmp_le, lg_cmp_lt, lg_cmp_ge, lg_cmp_gt, nI_1, zr_up_self, zp_O, zr_fup_self, zr_fup_ne, ne_eq, Nat.reduceEqDiff, not_false_eq_true, pk_mul, k1, k2, c0]
      exact k3
    | _ => exact k.elim
  · obtain ⟨ke, k3⟩ := k
    simp only [List.mem_cons, List.not_mem_nil, or_false] at ke
    subst ke
    rw [zk_catch zf_hh_224 zf_mo_224 (by rfl)]
    intro q2
    simp only [zs_224_0, zs_224_0u, zs_224_1, zs_224_2, zs_224_2u, zs_224_3, zs_224_4, zt_224_4, zs_224_7, zs_224_8, zs_224_9, zs_224_12, zs_224_12u, zs_224_13, zs_224_14, zs_224_15, zs_224_16, zc_isO, zr_fld_mk, zc_isA, zc_len, zr_elt_mk, zr_kill_i, zr_kill_l, zr_kill_r, zr_kill_u, zr_kill_f, zr_kill_n, zc_cat, zr_cat_i, zr_cat_l, zr_cat_r, zr_cat_f, zr_cat_d, zr_cat_u, beq_self_eq_true, Nat.zero_le, Nat.le_refl, Nat.reduceSub, Nat.reduceAdd, Nat.reduceLeDiff, csl_f, csr_f, cn_f, lg_cmp_eq, lg_cmp_le, lg_cmp_lt, lg_cmp_ge, lg_cmp_gt, nI_1, zr_up_self, zp_O, zr_fup_self, zr_fup_ne, ne_eq, Nat.reduceEqDiff, not_false_eq_true, pk_mul]
    exact k3
/-- place -/
theorem k_w225 (hX : zr_isO (h x) 6 = true) (hc : zr_E d 78 [.ref x, .int a0, .int a1] h (wK o [2] Q)) : zr_E (d + 1) 225 [.ref x, .int a0, .int a1, .ref o] h Q := by
  have c1 : 2 ≤ 2 := by decide
  have c2 : 12 ≤ 12 := by decide
  have c0 : (0 : Int32).toNatClampNeg = 0 := rfl
  rw [ze_225]
  simp only [zs_225_0, zs_225_0u, zs_225_1, zs_225_2, zs_225_2u, zs_225_3, zs_225_4, zs_225_5, zt_225_5, zs_225_8, zs_225_9, zs_225_10, zs_225_13, zs_225_13u, zs_225_15, zs_225_16, zs_225_17, zs_225_18, zc_isO, zr_fld_mk, zc_isA, zc_len, zr_elt_mk, zr_kill_i, zr_kill_l, zr_kill_r, zr_kill_u, zr_kill_f, zr_kill_n, zc_cat, zr_cat_i, zr_cat_l, zr_cat_r, zr_cat_f, zr_cat_d, zr_cat_u, beq_self_eq_true, Nat.zero_le, Nat.le_refl, Nat.reduceSub, Nat.reduceAdd, Nat.reduceLeDiff, csl_f, csr_f, cn_f, lg_cmp_eq, lg_cmp_le, lg_cmp_lt, lg_cmp_ge, lg_cmp_gt, nI_1, zr_up_self, zp_O, zr_fup_self, zr_fup_ne, ne_eq, Nat.reduceEqDiff, not_false_eq_true, pk_mul, hX, c1, c2]
  refine zr_E_mono hc (fun r h' k => ?_)
  rcases r with (_ | v) | E
  · exact k.elim
  · cases v with
    | int v =>
      obtain ⟨k1, k2, k3⟩ := k
      simp only [zs_225_0, zs_225_0u, zs_225_1, zs_225_2, zs_225_2u, zs_225_3, zs_225_4, zs_225_5, zt_225_5, zs_225_8, zs_225_9, zs_225_10, zs_225_13, zs_225_13u, zs_225_15, zs_225_16, zs_225_17, zs_225_18, zc_isO, zr_fld_mk, zc_isA, zc_len, zr_elt_mk, zr_kill_i, zr_kill_l, zr_kill_r, zr_kill_u, zr_kill_f, zr_kill_n, zc_cat, zr_cat_i, zr_cat_l, zr_cat_r, zr_cat_f, zr_cat_d, zr_cat_u, beq_self_eq_true, Nat.zero_le, Nat.le_refl, Nat.reduceSub, Nat.reduceAdd, Nat.reduceLeDiff, csl_f, csr_f, cn_f, lg_cmp_eq, lg_cmp_le, lg_cmp_lt, lg_cmp_ge, lg_cmp_gt, nI_1, zr_up_self, zp_O, zr_fup_self, zr_fup_ne, ne_eq, Nat.reduceEqDiff, not_false_eq_true, pk_mul, k1, k2, c0]
      exact k3
    | _ => exact k.elim
  · obtain ⟨ke, k3⟩ := k
    simp only [List.mem_cons, List.not_mem_nil, or_false] at ke
    subst ke
    rw [zk_catch zf_hh_225 zf_mo_225 (by rfl)]
    intro q2
    simp only [zs_225_0, zs_225_0u, zs_225_1, zs_225_2, zs_225_2u, zs_225_3, zs_225_4, zs_225_5, zt_225_5, zs_225_8, zs_225_9, zs_225_10, zs_225_13, zs_225_13u, zs_225_15, zs_225_16, zs_225_17, zs_225_18, zc_isO, zr_fld_mk, zc_isA, zc_len, zr_elt_mk, zr_kill_i, zr_kill_l, zr_kill_r, zr_kill_u, zr_kill_f, zr_kill_n, zc_cat, zr_cat_i, zr_cat_l, zr_cat_r, zr_cat_f, zr_cat_d, zr_cat_u, beq_self_eq_true, Nat.zero_le, Nat.le_refl, Nat.reduceSub, Nat.reduceAdd, Nat.reduceLeDiff, csl_f, csr_f, cn_f, lg_cmp_eq, lg_cmp_le, lg_cmp_lt, lg_cmp_ge, lg_cmp_gt, nI_1, zr_up_self, zp_O, zr_fup_self, zr_fup_ne, ne_eq, Nat.reduceEqDiff, not_false_eq_true, pk_mul]
    exact k3
/-- neighbour -/
theorem k_w226 (hX : zr_isO (h x) 6 = true) (hc : zr_E d 79 [.ref x, .int a0, .int a1] h (wK o [2, 1] Q)) : zr_E (d + 1) 226 [.ref x, .int a0, .int a1, .ref o] h Q := by
  have c1 : 2 ≤ 2 := by decide
  have c2 : 12 ≤ 12 := by decide
  have c0 : (0 : Int32).toNatClampNeg = 0 := rfl
  rw [ze_226]
  simp only [zs_226_0, zs_226_0u, zs_226_1, zs_226_2, zs_226_2u, zs_226_3, zs_226_4, zs_226_5, zt_226_5, zs_226_8, zs_226_9, zs_226_10, zs_226_13, zs_226_13u, zs_226_15, zs_226_16, zs_226_17, zs_226_17u, zs_226_19, zs_226_20, zs_226_21, zs_226_22, zc_isO, zr_fld_mk, zc_isA, zc_len, zr_elt_mk, zr_kill_i, zr_kill_l, zr_kill_r, zr_kill_u, zr_kill_f, zr_kill_n, zc_cat, zr_cat_i, zr_cat_l, zr_cat_r, zr_cat_f, zr_cat_d, zr_cat_u, beq_self_eq_true, Nat.zero_le, Nat.le_refl, Nat.reduceSub, Nat.reduceAdd, Nat.reduceLeDiff, csl_f, csr_f, cn_f, lg_cmp_eq, lg_cmp_le, lg_cmp_lt, lg_cmp_ge, lg_cmp_gt, nI_1, zr_up_self, zp_O, zr_fup_self, zr_fup_ne, ne_eq, Nat.reduceEqDiff, not_false_eq_true, pk_mul, hX, c1, c2]
  refine zr_E_mono hc (fun r h' k => ?_)
  rcases r with (_ | v) | E
  · exact k.elim
  · cases v with
    | int v =>
      obtain ⟨k1, k2, k3⟩ := k
      simp only [zs_226_0, zs_226_0u, zs_226_1, zs_226_2, zs_226_2u, zs_226_3, zs_226_4, zs_226_5, zt_226_5, zs_226_8, zs_226_9, zs_226_10, zs_226_13, zs_226_13u, zs_226_15, zs_226_16, zs_226_17, zs_226_17u, zs_226_19, zs_226_20, zs_226_21, zs_226_22, zc_isO, zr_fld_mk, zc_isA, zc_len, zr_elt_mk, zr_kill_i, zr_kill_l, zr_kill_r, zr_kill_u, zr_kill_f, zr_kill_n, zc_cat, zr_cat_i, zr_cat_l, zr_cat_r, zr_cat_f, zr_cat_d, zr_cat_u, beq_self_eq_true, Nat.zero_le, Nat.le_refl, Nat.reduceSub, Nat.reduceAdd, Nat.reduceLeDiff, csl_f, csr_f, cn_f, lg_cmp_eq, lg_cmp_le, lg_cmp_lt, lg_cmp_ge, lg_cmp_gt, nI_1, zr_up_self, zp_O, zr_fup_self, zr_fup_ne, ne_eq, Nat.reduceEqDiff, not_false_eq_true, pk_mul, k1, k2, c0]
      exact k3
    | _ => exact k.elim
  · obtain ⟨ke, k3⟩ := k
    simp only [List.mem_cons, List.not_mem_nil, or_false] at ke
    rcases ke with e | e
    · subst e
      rw [zk_catch zf_hh_226 zf_mo_226 (by rfl)]
      intro q2
      simp only [zs_226_0, zs_226_0u, zs_226_1, zs_226_2, zs_226_2u, zs_226_3, zs_226_4, zs_226_5, zt_226_5, zs_226_8, zs_226_9, zs_226_10, zs_226_13, zs_226_13u, zs_226_15, zs_226_16, zs_226_17, zs_226_17u, zs_226_19, zs_226_20, zs_226_21, zs_226_22, zc_isO, zr_fld_mk, zc_isA, zc_len, zr_elt_mk, zr_kill_i, zr_kill_l, zr_kill_r, zr_kill_u, zr_kill_f, zr_kill_n, zc_cat, zr_cat_i, zr_cat_l, zr_cat_r, zr_cat_f, zr_cat_d, zr_cat_u, beq_self_eq_true, Nat.zero_le, Nat.le_refl, Nat.reduceSub, Nat.reduceAdd, Nat.reduceLeDiff, csl_f, csr_f, cn_f, lg_cmp_eq, lg_cmp_le, lg_cmp_lt, lg_cmp_ge, lg_cmp_gt, nI_1, zr_up_self, zp_O, zr_fup_self, zr_fup_ne, ne_eq, Nat.reduceEqDiff, not_false_eq_true, pk_mul]
      exact k3
    · subst e
      rw [zk_catch zf_hh_226 zf_mo_226 (by rfl)]
      intro q2
      simp only [zs_226_0, zs_226_0u, zs_226_1, zs_226_2, zs_226_2u, zs_226_3, zs_226_4, zs_226_5, zt_226_5, zs_226_8, zs_226_9, zs_226_10, zs_226_13, zs_226_13u, zs_226_15, zs_226_16, zs_226_17, zs_226_17u, zs_226_19, zs_226_20, zs_226_21, zs_226_22, zc_isO, zr_fld_mk, zc_isA, zc_len, zr_elt_mk, zr_kill_i, zr_kill_l, zr_kill_r, zr_kill_u, zr_kill_f, zr_kill_n, zc_cat, zr_cat_i, zr_cat_l, zr_cat_r, zr_cat_f, zr_cat_d, zr_cat_u, beq_self_eq_true, Nat.zero_le, Nat.le_refl, Nat.reduceSub, Nat.reduceAdd, Nat.reduceLeDiff, csl_f, csr_f, cn_f, lg_cmp_eq, lg_cmp_le, lg_cmp_lt, lg_cmp_ge, lg_cmp_gt, nI_1, zr_up_self, zp_O, zr_fup_self, zr_fup_ne, ne_eq, Nat.reduceEqDiff, not_false_eq_true, pk_mul]
      exact k3
/-- stone -/
theorem k_w227 (hX : zr_isO (h x) 6 = true) (hc : zr_E d 80 [.ref x, .int a0] h (wK o [2] Q)) : zr_E (d + 1) 227 [.ref x, .int a0, .ref o] h Q := by
  have c1 : 1 ≤ 1 := by decide
  have c2 : 6 ≤ 6 := by decide
  have c0 : (0 : Int32).toNatClampNeg = 0 := rfl
  rw [ze_227]
  simp only [zs_227_0, zs_227_0u, zs_227_1, zs_227_2, zs_227_2u, zs_227_3, zs_227_4, zt_227_4, zs_227_7, zs_227_8, zs_227_9, zs_227_12, zs_227_12u, zs_227_13, zs_227_14, zs_227_15, zs_227_16, zc_isO, zr_fld_mk, zc_isA, zc_len, zr_elt_mk, zr_kill_i, zr_kill_l, zr_kill_r, zr_kill_u, zr_kill_f, zr_kill_n, zc_cat, zr_cat_i, zr_cat_l, zr_cat_r, zr_cat_f, zr_cat_d, zr_cat_u, beq_self_eq_true, Nat.zero_le, Nat.le_refl, Nat.reduceSub, Nat.reduceAdd, Nat.reduceLeDiff, csl_f, csr_f, cn_f, lg_cmp_eq, lg_cmp_le, lg_cmp_lt, lg_cmp_ge, lg_cmp_gt, nI_1, zr_up_self, zp_O, zr_fup_self, zr_fup_ne, ne_eq, Nat.reduceEqDiff, not_false_eq_true, pk_mul, hX, c1, c2]
  refine zr_E_mono hc (fun r h' k => ?_)
  rcases r with (_ | v) | E
  · exact k.elim
  · cases v with
    | int v =>
      obtain ⟨k1, k2, k3⟩ := k
      simp only [zs_227_0, zs_227_0u, zs_227_1, zs_227_2, zs_227_2u, zs_227_3, zs_227_4, zt_227_4, zs_227_7, zs_227_8, zs_227_9, zs_227_12, zs_227_12u, zs_227_13, zs_227_14, zs_227_15, zs_227_16, zc_isO, zr_fld_mk, zc_isA, zc_len, zr_elt_mk, zr_kill_i, zr_kill_l, zr_kill_r, zr_kill_u, zr_kill_f, zr_kill_n, zc_cat, zr_cat_i, zr_cat_l, zr_cat_r, zr_cat_f, zr_cat_d, zr_cat_u, beq_self_eq_true, Nat.zero_le, Nat.le_refl, Nat.reduceSub, Nat.reduceAdd, Nat.reduceLeDiff, csl_f, csr_f, cn_f, lg_cmp_eq, lg_cmp_le, lg_cmp_lt, lg_cmp_ge, lg_cmp_gt, nI_1, zr_up_self, zp_O, zr_fup_self, zr_fup_ne, ne_eq, Nat.reduceEqDiff, not_false_eq_true, pk_mul, k1, k2, c0]
      exact k3
    | _ => exact k.elim
  · obtain ⟨ke, k3⟩ := k
    simp only [List.mem_cons, List.not_mem_nil, or_false] at ke
    subst ke
    rw [zk_catch zf_hh_227 zf_mo_227 (by rfl)]
    intro q2
    simp only [zs_227_0, zs_227_0u, zs_227_1, zs_227_2, zs_227_2u, zs_227_3, zs_227_4, zt_227_4, zs_227_7, zs_227_8, zs_227_9, zs_227_12, zs_227_12u, zs_227_13, zs_227_14, zs_227_15, zs_227_16, zc_isO, zr_fld_mk, zc_isA, zc_len, zr_elt_mk, zr_kill_i, zr_kill_l, zr_kill_r, zr_kill_u, zr_kill_f, zr_kill_n, zc_cat, zr_cat_i, zr_cat_l, zr_cat_r, zr_cat_f, zr_cat_d, zr_cat_u, beq_self_eq_true, Nat.zero_le, Nat.le_refl, Nat.reduceSub, Nat.reduceAdd, Nat.reduceLeDiff, csl_f, csr_f, cn_f, lg_cmp_eq, lg_cmp_le, lg_cmp_lt, lg_cmp_ge, lg_cmp_gt, nI_1, zr_up_self, zp_O, zr_fup_self, zr_fup_ne, ne_eq, Nat.reduceEqDiff, not_false_eq_true, pk_mul]
    exact k3
/-- chain -/
theorem k_w228 (hX : zr_isO (h x) 6 = true) (hc : zr_E d 81 [.ref x, .int a0, .int a1] h (wK o [2, 1, 3] Q)) : zr_E (d + 1) 228 [.ref x, .int a0, .int a1, .ref o] h Q := by
  have c1 : 3 ≤ 3 := by decide
  have c2 : 18 ≤ 18 := by decide
  have c0 : (0 : Int32).toNatClampNeg = 0 := rfl
  rw [ze_228]
  simp only [zs_228_0, zs_228_0u, zs_228_1, zs_228_2, zs_228_2u, zs_228_3, zs_228_4, zs_228_5, zt_228_5, zs_228_8, zs_228_9, zs_228_10, zs_228_13, zs_228_13u, zs_228_15, zs_228_16, zs_228_17, zs_228_17u, zs_228_19, zs_228_20, zs_228_21, zs_228_21u, zs_228_23, zs_228_24, zs_228_25, zs_228_26, zc_isO, zr_fld_mk, zc_isA, zc_len, zr_elt_mk, zr_kill_i, zr_kill_l, zr_kill_r, zr_kill_u, zr_kill_f, zr_kill_n, zc_cat, zr_cat_i, zr_cat_l, zr_cat_r, zr_cat_f, zr_cat_d, zr_cat_u, beq_self_eq_true, Nat.zero_le, Nat.le_refl, Nat.reduceSub, Nat.reduceAdd, Nat.reduceLeDiff, csl_f, csr_f, cn_f, lg_cmp_eq, lg_cmp_le, lg_cmp_lt, lg_cmp_ge, lg_cmp_gt, nI_1, zr_up_self, zp_O, zr_fup_self, zr_fup_ne, ne_eq, Nat.reduceEqDiff, not_false_eq_true, pk_mul, hX, c1, c2]
  refine zr_E_mono hc (fun r h' k => ?_)
  rcases r with (_ | v) | E
  · exact k.elim
  · cases v with
    | int v =>
      obtain ⟨k1, k2, k3⟩ := k
      simp only [zs_228_0, zs_228_0u, zs_228_1, zs_228_2, zs_228_2u, zs_228_3, zs_228_4, zs_228_5, zt_228_5, zs_228_8, zs_228_9, zs_228_10, zs_228_13, zs_228_13u, zs_228_15, zs_228_16, zs_228_17, zs_228_17u, zs_228_19, zs_228_20, zs_228_21, zs_228_21u, zs_228_23, zs_228_24, zs_228_25, zs_228_26, zc_isO, zr_fld_mk, zc_isA, zc_len, zr_elt_mk, zr_kill_i, zr_kill_l, zr_kill_r, zr_kill_u, zr_kill_f, zr_kill_n, zc_cat, zr_cat_i, zr_cat_l, zr_cat_r, zr_cat_f, zr_cat_d, zr_cat_u, beq_self_eq_true, Nat.zero_le, Nat.le_refl, Nat.reduceSub, Nat.reduceAdd, Nat.reduceLeDiff, csl_f, csr_f, cn_f, lg_cmp_eq, lg_cmp_le, lg_cmp_lt, lg_cmp_ge, lg_cmp_gt, nI_1, zr_up_self, zp_O, zr_fup_self, zr_fup_ne, ne_eq, Nat.reduceEqDiff, not_false_eq_true, pk_mul, k1, k2, c0]
      exact k3
    | _ => exact k.elim
  · obtain ⟨ke, k3⟩ := k
    simp only [List.mem_cons, List.not_mem_nil, or_false] at ke
    rcases ke with e | e | e
    · subst e
      rw [zk_catch zf_hh_228 zf_mo_228 (by rfl)]
      intro q2
      simp only [zs_228_0, zs_228_0u, zs_228_1, zs_228_2, zs_228_2u, zs_228_3, zs_228_4, zs_228_5, zt_228_5, zs_228_8, zs_228_9, zs_228_10, zs_228_13, zs_228_13u, zs_228_15, zs_228_16, zs_228_17, zs_228_17u, zs_228_19, zs_228_20, zs_228_21, zs_228_21u, zs_228_23, zs_228_24, zs_228_25, zs_228_26, zc_isO, zr_fld_mk, zc_isA, zc_len, zr_elt_mk, zr_kill_i, zr_kill_l, zr_kill_r, zr_kill_u, zr_kill_f, zr_kill_n, zc_cat, zr_cat_i, zr_cat_l, zr_cat_r, zr_cat_f, zr_cat_d, zr_cat_u, beq_self_eq_true, Nat.zero_le, Nat.le_refl, Nat.reduceSub, Nat.reduceAdd, Nat.reduceLeDiff, csl_f, csr_f, cn_f, lg_cmp_eq, lg_cmp_le, lg_cmp_lt, lg_cmp_ge, lg_cmp_gt, nI_1, zr_up_self, zp_O, zr_fup_self, zr_fup_ne, ne_eq, Nat.reduceEqDiff, not_false_eq_true, pk_mul]
      exact k3
    · subst e
      rw [zk_catch zf_hh_228 zf_mo_228 (by rfl)]
      intro q2
      simp only [zs_228_0, zs_228_0u, zs_228_1, zs_228_2, zs_228_2u, zs_228_3, zs_228_4, zs_228_5, zt_228_5, zs_228_8, zs_228_9, zs_228_10, zs_228_13, zs_228_13u, zs_228_15, zs_228_16, zs_228_17, zs_228_17u, zs_228_19, zs_228_20, zs_228_21, zs_228_21u, zs_228_23, zs_228_24, zs_228_25, zs_228_26, zc_isO, zr_fld_mk, zc_isA, zc_len, zr_elt_mk, zr_kill_i, zr_kill_l, zr_kill_r, zr_kill_u, zr_kill_f, zr_kill_n, zc_cat, zr_cat_i, zr_cat_l, zr_cat_r, zr_cat_f, zr_cat_d, zr_cat_u, beq_self_eq_true, Nat.zero_le, Nat.le_refl, Nat.reduceSub, Nat.reduceAdd, Nat.reduceLeDiff, csl_f, csr_f, cn_f, lg_cmp_eq, lg_cmp_le, lg_cmp_lt, lg_cmp_ge, lg_cmp_gt, nI_1, zr_up_self, zp_O, zr_fup_self, zr_fup_ne, ne_eq, Nat.reduceEqDiff, not_false_eq_true, pk_mul]
      exact k3
    · subst e
      rw [zk_catch zf_hh_228 zf_mo_228 (by rfl)]
      intro q2
      simp only [zs_228_0, zs_228_0u, zs_228_1, zs_228_2, zs_228_2u, zs_228_3, zs_228_4, zs_228_5, zt_228_5, zs_228_8, zs_228_9, zs_228_10, zs_228_13, zs_228_13u, zs_228_15, zs_228_16, zs_228_17, zs_228_17u, zs_228_19, zs_228_20, zs_228_21, zs_228_21u, zs_228_23, zs_228_24, zs_228_25, zs_228_26, zc_isO, zr_fld_mk, zc_isA, zc_len, zr_elt_mk, zr_kill_i, zr_kill_l, zr_kill_r, zr_kill_u, zr_kill_f, zr_kill_n, zc_cat, zr_cat_i, zr_cat_l, zr_cat_r, zr_cat_f, zr_cat_d, zr_cat_u, beq_self_eq_true, Nat.zero_le, Nat.le_refl, Nat.reduceSub, Nat.reduceAdd, Nat.reduceLeDiff, csl_f, csr_f, cn_f, lg_cmp_eq, lg_cmp_le, lg_cmp_lt, lg_cmp_ge, lg_cmp_gt, nI_1, zr_up_self, zp_O, zr_fup_self, zr_fup_ne, ne_eq, Nat.reduceEqDiff, not_false_eq_true, pk_mul]
      exact k3
/-- freedom -/
theorem k_w229 (hX : zr_isO (h x) 6 = true) (hc : zr_E d 82 [.ref x, .int a0, .int a1] h (wK o [2] Q)) : zr_E (d + 1) 229 [.ref x, .int a0, .int a1, .ref o] h Q := by
  have c1 : 2 ≤ 2 := by decide
  have c2 : 12 ≤ 12 := by decide
  have c0 : (0 : Int32).toNatClampNeg = 0 := rfl
  rw [ze_229]
  simp only [zs_229_0, zs_229_0u, zs_229_1, zs_229_2, zs_229_2u, zs_229_3, zs_229_4, zs_229_5, zt_229_5, zs_229_8, zs_229_9, zs_229_10, zs_229_13, zs_229_13u, zs_229_15, zs_229_16, zs_229_17, zs_229_18, zc_isO, zr_fld_mk, zc_isA, zc_len, zr_elt_mk, zr_kill_i, zr_kill_l, zr_kill_r, zr_kill_u, zr_kill_f, zr_kill_n, zc_cat, zr_cat_i, zr_cat_l, zr_cat_r, zr_cat_f, zr_cat_d, zr_cat_u, beq_self_eq_true, Nat.zero_le, Nat.le_refl, Nat.reduceSub, Nat.reduceAdd, Nat.reduceLeDiff, csl_f, csr_f, cn_f, lg_cmp_eq, lg_cmp_le, lg_cmp_lt, lg_cmp_ge, lg_cmp_gt, nI_1, zr_up_self, zp_O, zr_fup_self, zr_fup_ne, ne_eq, Nat.reduceEqDiff, not_false_eq_true, pk_mul, hX, c1, c2]
  refine zr_E_mono hc (fun r h' k => ?_)
  rcases r with (_ | v) | E
  · exact k.elim
  · cases v with
    | int v =>
      obtain ⟨k1, k2, k3⟩ := k
      simp only [zs_229_0, zs_229_0u, zs_229_1, zs_229_2, zs_229_2u, zs_229_3, zs_229_4, zs_229_5, zt_229_5, zs_229_8, zs_229_9, zs_229_10, zs_229_13, zs_229_13u, zs_229_15, zs_229_16, zs_229_17, zs_229_18, zc_isO, zr_fld_mk, zc_isA, zc_len, zr_elt_mk, zr_kill_i, zr_kill_l, zr_kill_r, zr_kill_u, zr_kill_f, zr_kill_n, zc_cat, zr_cat_i, zr_cat_l, zr_cat_r, zr_cat_f, zr_cat_d, zr_cat_u, beq_self_eq_true, Nat.zero_le, Nat.le_refl, Nat.reduceSub, Nat.reduceAdd, Nat.reduceLeDiff, csl_f, csr_f, cn_f, lg_cmp_eq, lg_cmp_le, lg_cmp_lt, lg_cmp_ge, lg_cmp_gt, nI_1, zr_up_self, zp_O, zr_fup_self, zr_fup_ne, ne_eq, Nat.reduceEqDiff, not_false_eq_true, pk_mul, k1, k2, c0]
      exact k3
    | _ => exact k.elim
  · obtain ⟨ke, k3⟩ := k
    simp only [List.mem_cons, List.not_mem_nil, or_false] at ke
    subst ke
    rw [zk_catch zf_hh_229 zf_mo_229 (by rfl)]
    intro q2
    simp only [zs_229_0, zs_229_0u, zs_229_1, zs_229_2, zs_229_2u, zs_229_3, zs_229_4, zs_229_5, zt_229_5, zs_229_8, zs_229_9, zs_229_10, zs_229_13, zs_229_13u, zs_229_15, zs_229_16, zs_229_17, zs_229_18, zc_isO, zr_fld_mk, zc_isA, zc_len, zr_elt_mk, zr_kill_i, zr_kill_l, zr_kill_r, zr_kill_u, zr_kill_f, zr_kill_n, zc_cat, zr_cat_i, zr_cat_l, zr_cat_r, zr_cat_f, zr_cat_d, zr_cat_u, beq_self_eq_true, Nat.zero_le, Nat.le_refl, Nat.reduceSub, Nat.reduceAdd, Nat.reduceLeDiff, csl_f, csr_f, cn_f, lg_cmp_eq, lg_cmp_le, lg_cmp_lt, lg_cmp_ge, lg_cmp_gt, nI_1, zr_up_self, zp_O, zr_fup_self, zr_fup_ne, ne_eq, Nat.reduceEqDiff, not_false_eq_true, pk_mul]
    exact k3
/-- chains -/
theorem k_w230 (hX : zr_isO (h x) 6 = true) (hc : zr_E d 83 [.ref x, .int a0, .int a1] h (wK o [1] Q)) : zr_E (d + 1) 230 [.ref x, .int a0, .int a1, .ref o] h Q := by
  have c1 : 1 ≤ 1 := by decide
  have c2 : 6 ≤ 6 := by decide
  have c0 : (0 : Int32).toNatClampNeg = 0 := rfl
  rw [ze_230]
  simp only [zs_230_0, zs_230_0u, zs_230_1, zs_230_2, zs_230_2u, zs_230_3, zs_230_4, zs_230_5, zt_230_5, zs_230_8, zs_230_9, zs_230_10, zs_230_13, zs_230_13u, zs_230_15, zs_230_16, zs_230_17, zs_230_18, zc_isO, zr_fld_mk, zc_isA, zc_len, zr_elt_mk, zr_kill_i, zr_kill_l, zr_kill_r, zr_kill_u, zr_kill_f, zr_kill_n, zc_cat, zr_cat_i, zr_cat_l, zr_cat_r, zr_cat_f, zr_cat_d, zr_cat_u, beq_self_eq_true, Nat.zero_le, Nat.le_refl, Nat.reduceSub, Nat.reduceAdd, Nat.reduceLeDiff, csl_f, csr_f, cn_f, lg_cmp_eq, lg_cmp_le, lg_cmp_lt, lg_cmp_ge, lg_cmp_gt, nI_1, zr_up_self, zp_O, zr_fup_self, zr_fup_ne, ne_eq, Nat.reduceEqDiff, not_false_eq_true, pk_mul, hX, c1, c2]
  refine zr_E_mono hc (fun r h' k => ?_)
  rcases r with (_ | v) | E
  · exact k.elim
  · cases v with
    | int v =>
      obtain ⟨k1, k2, k3⟩ := k
      simp only [zs_230_0, zs_230_0u, zs_230_1, zs_230_2, zs_230_2u, zs_230_3, zs_230_4, zs_230_5, zt_230_5, zs_230_8, zs_230_9, zs_230_10, zs_230_13, zs_230_13u, zs_230_15, zs_230_16, zs_230_17, zs_230_18, zc_isO, zr_fld_mk, zc_isA, zc_len, zr_elt_mk, zr_kill_i, zr_kill_l, zr_kill_r, zr_kill_u, zr_kill_f, zr_kill_n, zc_cat, zr_cat_i, zr_cat_l, zr_cat_r, zr_cat_f, zr_cat_d, zr_cat_u, beq_self_eq_true, Nat.zero_le, Nat.le_refl, Nat.reduceSub, Nat.reduceAdd, Nat.reduceLeDiff, csl_f, csr_f, cn_f, lg_cmp_eq, lg_cmp_le, lg_cmp_lt, lg_cmp_ge, lg_cmp_gt, nI_1, zr_up_self, zp_O, zr_fup_self, zr_fup_ne, ne_eq, Nat.reduceEqDiff, not_false_eq_true, pk_mul, k1, k2, c0]
      exact k3
    | _ => exact k.elim
  · obtain ⟨ke, k3⟩ := k
    simp only [List.mem_cons, List.not_mem_nil, or_false] at ke
    subst ke
    rw [zk_catch zf_hh_230 zf_mo_230 (by rfl)]
    intro q2
    simp only [zs_230_0, zs_230_0u, zs_230_1, zs_230_2, zs_230_2u, zs_230_3, zs_230_4, zs_230_5, zt_230_5, zs_230_8, zs_230_9, zs_230_10, zs_230_13, zs_230_13u, zs_230_15, zs_230_16, zs_230_17, zs_230_18, zc_isO, zr_fld_mk, zc_isA, zc_len, zr_elt_mk, zr_kill_i, zr_kill_l, zr_kill_r, zr_kill_u, zr_kill_f, zr_kill_n, zc_cat, zr_cat_i, zr_cat_l, zr_cat_r, zr_cat_f, zr_cat_d, zr_cat_u, beq_self_eq_true, Nat.zero_le, Nat.le_refl, Nat.reduceSub, Nat.reduceAdd, Nat.reduceLeDiff, csl_f, csr_f, cn_f, lg_cmp_eq, lg_cmp_le, lg_cmp_lt, lg_cmp_ge, lg_cmp_gt, nI_1, zr_up_self, zp_O, zr_fup_self, zr_fup_ne, ne_eq, Nat.reduceEqDiff, not_false_eq_true, pk_mul]
    exact k3
/-- weakest -/
theorem k_w231 (hX : zr_isO (h x) 6 = true) (hc : zr_E d 84 [.ref x, .int a0] h (wK o [1, 3] Q)) : zr_E (d + 1) 231 [.ref x, .int a0, .ref o] h Q := by
  have c1 : 2 ≤ 2 := by decide
  have c2 : 12 ≤ 12 := by decide
  have c0 : (0 : Int32).toNatClampNeg = 0 := rfl
  rw [ze_231]
  simp only [zs_231_0, zs_231_0u, zs_231_1, zs_231_2, zs_231_2u, zs_231_3, zs_231_4, zt_231_4, zs_231_7, zs_231_8, zs_231_9, zs_231_12, zs_231_12u, zs_231_13, zs_231_14, zs_231_15, zs_231_15u, zs_231_16, zs_231_17, zs_231_18, zs_231_19, zc_isO, zr_fld_mk, zc_isA, zc_len, zr_elt_mk, zr_kill_i, zr_kill_l, zr_kill_r, zr_kill_u, zr_kill_f, zr_kill_n, zc_cat, zr_cat_i, zr_cat_l, zr_cat_r, zr_cat_f, zr_cat_d, zr_cat_u, beq_self_eq_true, Nat.zero_le, Nat.le_refl, Nat.reduceSub, Nat.reduceAdd, Nat.reduceLeDiff, csl_f, csr_f, cn_f, lg_cmp_eq, lg_cmp_le, lg_cmp_lt, lg_cmp_ge, lg_cmp_gt, nI_1, zr_up_self, zp_O, zr_fup_self, zr_fup_ne, ne_eq, Nat.reduceEqDiff, not_false_eq_true, pk_mul, hX, c1, c2]
  refine zr_E_mono hc (fun r h' k => ?_)
  rcases r with (_ | v) | E
  · exact k.elim
  · cases v with
    | int v =>
      obtain ⟨k1, k2, k3⟩ := k
      simp only [zs_231_0, zs_231_0u, zs_231_1, zs_231_2, zs_231_2u, zs_231_3, zs_231_4, zt_231_4, zs_231_7, zs_231_8, zs_231_9, zs_231_12, zs_231_12u, zs_231_13, zs_231_14, zs_231_15, zs_231_15u, zs_231_16, zs_231_17, zs_231_18, zs_231_19, zc_isO, zr_fld_mk, zc_isA, zc_len, zr_elt_mk, zr_kill_i, zr_kill_l, zr_kill_r, zr_kill_u, zr_kill_f, zr_kill_n, zc_cat, zr_cat_i, zr_cat_l, zr_cat_r, zr_cat_f, zr_cat_d, zr_cat_u, beq_self_eq_true, Nat.zero_le, Nat.le_refl, Nat.reduceSub, Nat.reduceAdd, Nat.reduceLeDiff, csl_f, csr_f, cn_f, lg_cmp_eq, lg_cmp_le, lg_cmp_lt, lg_cmp_ge, lg_cmp_gt, nI_1, zr_up_self, zp_O, zr_fup_self, zr_fup_ne, ne_eq, Nat.reduceEqDiff, not_false_eq_true, pk_mul, k1, k2, c0]
      exact k3
    | _ => exact k.elim
  · obtain ⟨ke, k3⟩ := k
    simp only [List.mem_cons, List.not_mem_nil, or_false] at ke
    rcases ke with e | e
    · subst e
      rw [zk_catch zf_hh_231 zf_mo_231 (by rfl)]
      intro q2
      simp only [zs_231_0, zs_231_0u, zs_231_1, zs_231_2, zs_231_2u, zs_231_3, zs_231_4, zt_231_4, zs_231_7, zs_231_8, zs_231_9, zs_231_12, zs_231_12u, zs_231_13, zs_231_14, zs_231_15, zs_231_15u, zs_231_16, zs_231_17, zs_231_18, zs_231_19, zc_isO, zr_fld_mk, zc_isA, zc_len, zr_elt_mk, zr_kill_i, zr_kill_l, zr_kill_r, zr_kill_u, zr_kill_f, zr_kill_n, zc_cat, zr_cat_i, zr_cat_l, zr_cat_r, zr_cat_f, zr_cat_d, zr_cat_u, beq_self_eq_true, Nat.zero_le, Nat.le_refl, Nat.reduceSub, Nat.reduceAdd, Nat.reduceLeDiff, csl_f, csr_f, cn_f, lg_cmp_eq, lg_cmp_le, lg_cmp_lt, lg_cmp_ge, lg_cmp_gt, nI_1, zr_up_self, zp_O, zr_fup_self, zr_fup_ne, ne_eq, Nat.reduceEqDiff, not_false_eq_true, pk_mul]
      exact k3
    · subst e
      rw [zk_catch zf_hh_231 zf_mo_231 (by rfl)]
      intro q2
      simp only [zs_231_0, zs_231_0u, zs_231_1, zs_231_2, zs_231_2u, zs_231_3, zs_231_4, zt_231_4, zs_231_7, zs_231_8, zs_231_9, zs_231_12, zs_231_12u, zs_231_13, zs_231_14, zs_231_15, zs_231_15u, zs_231_16, zs_231_17, zs_231_18, zs_231_19, zc_isO, zr_fld_mk, zc_isA, zc_len, zr_elt_mk, zr_kill_i, zr_kill_l, zr_kill_r, zr_kill_u, zr_kill_f, zr_kill_n, zc_cat, zr_cat_i, zr_cat_l, zr_cat_r, zr_cat_f, zr_cat_d, zr_cat_u, beq_self_eq_true, Nat.zero_le, Nat.le_refl, Nat.reduceSub, Nat.reduceAdd, Nat.reduceLeDiff, csl_f, csr_f, cn_f, lg_cmp_eq, lg_cmp_le, lg_cmp_lt, lg_cmp_ge, lg_cmp_gt, nI_1, zr_up_self, zp_O, zr_fup_self, zr_fup_ne, ne_eq, Nat.reduceEqDiff, not_false_eq_true, pk_mul]
      exact k3
/-- reason -/
theorem k_w232 (hX : zr_isO (h x) 6 = true) (hc : zr_E d 85 [.ref x, .int a0, .int a1] h (wK o [2, 1] Q)) : zr_E (d + 1) 232 [.ref x, .int a0, .int a1, .ref o] h Q := by
  have c1 : 2 ≤ 2 := by decide
  have c2 : 12 ≤ 12 := by decide
  have c0 : (0 : Int32).toNatClampNeg = 0 := rfl
  rw [ze_232]
  simp only [zs_232_0, zs_232_0u, zs_232_1, zs_232_2, zs_232_2u, zs_232_3, zs_232_4, zs_232_5, zt_232_5, zs_232_8, zs_232_9, zs_232_10, zs_232_13, zs_232_13u, zs_232_15, zs_232_16, zs_232_17, zs_232_17u, zs_232_19, zs_232_20, zs_232_21, zs_232_22, zc_isO, zr_fld_mk, zc_isA, zc_len, zr_elt_mk, zr_kill_i, zr_kill_l, zr_kill_r, zr_kill_u, zr_kill_f, zr_kill_n, zc_cat, zr_cat_i, zr_cat_l, zr_cat_r, zr_cat_f, zr_cat_d, zr_cat_u, beq_self_eq_true, Nat.zero_le, Nat.le_refl, Nat.reduceSub, Nat.reduceAdd, Nat.reduceLeDiff, csl_f, csr_f, cn_f, lg_cmp_eq, lg_cmp_le, lg_cmp_lt, lg_cmp_ge, lg_cmp_gt, nI_1, zr_up_self, zp_O, zr_fup_self, zr_fup_ne, ne_eq, Nat.reduceEqDiff, not_false_eq_true, pk_mul, hX, c1, c2]
  refine zr_E_mono hc (fun r h' k => ?_)
  rcases r with (_ | v) | E
  · exact k.elim
  · cases v with
    | int v =>
      obtain ⟨k1, k2, k3⟩ := k
      simp only [zs_232_0, zs_232_0u, zs_232_1, zs_232_2, zs_232_2u, zs_232_3, zs_232_4, zs_232_5, zt_232_5, zs_232_8, zs_232_9, zs_232_10, zs_232_13, zs_232_13u, zs_232_15, zs_232_16, zs_232_17, zs_232_17u, zs_232_19, zs_232_20, zs_232_21, zs_232_22, zc_isO, zr_fld_mk, zc_isA, zc_len, zr_elt_mk, zr_kill_i, zr_kill_l, zr_kill_r, zr_kill_u, zr_kill_f, zr_kill_n, zc_cat, zr_cat_i, zr_cat_l, zr_cat_r, zr_cat_f, zr_cat_d, zr_cat_u, beq_self_eq_true, Nat.zero_le, Nat.le_refl, Nat.reduceSub, Nat.reduceAdd, Nat.reduceLeDiff, csl_f, csr_f, cn_f, lg_cmp_eq, lg_cmp_le, lg_cmp_lt, lg_cmp_ge, lg_cmp_gt, nI_1, zr_up_self, zp_O, zr_fup_self, zr_fup_ne, ne_eq, Nat.reduceEqDiff, not_false_eq_true, pk_mul, k1, k2, c0]
      exact k3
    | _ => exact k.elim
  · obtain ⟨ke, k3⟩ := k
    simp only [List.mem_cons, List.not_mem_nil, or_false] at ke
    rcases ke with e | e
    · subst e
      rw [zk_catch zf_hh_232 zf_mo_232 (by rfl)]
      intro q2
      simp only [zs_232_0, zs_232_0u, zs_232_1, zs_232_2, zs_232_2u, zs_232_3, zs_232_4, zs_232_5, zt_232_5, zs_232_8, zs_232_9, zs_232_10, zs_232_13, zs_232_13u, zs_232_15, zs_232_16, zs_232_17, zs_232_17u, zs_232_19, zs_232_20, zs_232_21, zs_232_22, zc_isO, zr_fld_mk, zc_isA, zc_len, zr_elt_mk, zr_kill_i, zr_kill_l, zr_kill_r, zr_kill_u, zr_kill_f, zr_kill_n, zc_cat, zr_cat_i, zr_cat_l, zr_cat_r, zr_cat_f, zr_cat_d, zr_cat_u, beq_self_eq_true, Nat.zero_le, Nat.le_refl, Nat.reduceSub, Nat.reduceAdd, Nat.reduceLeDiff, csl_f, csr_f, cn_f, lg_cmp_eq, lg_cmp_le, lg_cmp_lt, lg_cmp_ge, lg_cmp_gt, nI_1, zr_up_self, zp_O, zr_fup_self, zr_fup_ne, ne_eq, Nat.reduceEqDiff, not_false_eq_true, pk_mul]
      exact k3
    · subst e
      rw [zk_catch zf_hh_232 zf_mo_232 (by rfl)]
      intro q2
      simp only [zs_232_0, zs_232_0u, zs_232_1, zs_232_2, zs_232_2u, zs_232_3, zs_232_4, zs_232_5, zt_232_5, zs_232_8, zs_232_9, zs_232_10, zs_232_13, zs_232_13u, zs_232_15, zs_232_16, zs_232_17, zs_232_17u, zs_232_19, zs_232_20, zs_232_21, zs_232_22, zc_isO, zr_fld_mk, zc_isA, zc_len, zr_elt_mk, zr_kill_i, zr_kill_l, zr_kill_r, zr_kill_u, zr_kill_f, zr_kill_n, zc_cat, zr_cat_i, zr_cat_l, zr_cat_r, zr_cat_f, zr_cat_d, zr_cat_u, beq_self_eq_true, Nat.zero_le, Nat.le_refl, Nat.reduceSub, Nat.reduceAdd, Nat.reduceLeDiff, csl_f, csr_f, cn_f, lg_cmp_eq, lg_cmp_le, lg_cmp_lt, lg_cmp_ge, lg_cmp_gt, nI_1, zr_up_self, zp_O, zr_fup_self, zr_fup_ne, ne_eq, Nat.reduceEqDiff, not_false_eq_true, pk_mul]
      exact k3
/-- play -/
theorem k_w233 (hX : zr_isO (h x) 6 = true) (hc : zr_E d 86 [.ref x, .int a0] h (wK o [2, 0] Q)) : zr_E (d + 1) 233 [.ref x, .int a0, .ref o] h Q := by
  have c1 : 2 ≤ 2 := by decide
  have c2 : 12 ≤ 12 := by decide
  have c0 : (0 : Int32).toNatClampNeg = 0 := rfl
  rw [ze_233]
  simp only [zs_233_0, zs_233_0u, zs_233_1, zs_233_2, zs_233_2u, zs_233_3, zs_233_4, zt_233_4, zs_233_7, zs_233_8, zs_233_9, zs_233_12, zs_233_12u, zs_233_13, zs_233_14, zs_233_15, zs_233_15u, zs_233_16, zs_233_17, zs_233_18, zs_233_19, zc_isO, zr_fld_mk, zc_isA, zc_len, zr_elt_mk, zr_kill_i, zr_kill_l, zr_kill_r, zr_kill_u, zr_kill_f, zr_kill_n, zc_cat, zr_cat_i, zr_cat_l, zr_cat_r, zr_cat_f, zr_cat_d, zr_cat_u, beq_self_eq_true, Nat.zero_le, Nat.le_refl, Nat.reduceSub, Nat.reduceAdd, Nat.reduceLeDiff, csl_f, csr_f, cn_f, lg_cmp_eq, lg_cmp_le, lg_cmp_lt, lg_cmp_ge, lg_cmp_gt, nI_1, zr_up_self, zp_O, zr_fup_self, zr_fup_ne, ne_eq, Nat.reduceEqDiff, not_false_eq_true, pk_mul, hX, c1, c2]
  refine zr_E_mono hc (fun r h' k => ?_)
  rcases r with (_ | v) | E
  · exact k.elim
  · cases v with
    | int v =>
      obtain ⟨k1, k2, k3⟩ := k
      simp only [zs_233_0, zs_233_0u, zs_233_1, zs_233_2, zs_233_2u, zs_233_3, zs_233_4, zt_233_4, zs_233_7, zs_233_8, zs_233_9, zs_233_12, zs_233_12u, zs_233_13, zs_233_14, zs_233_15, zs_233_15u, zs_233_16, zs_233_17, zs_233_18, zs_233_19, zc_isO, zr_fld_mk, zc_isA, zc_len, zr_elt_mk, zr_kill_i, zr_kill_l, zr_kill_r, zr_kill_u, zr_kill_f, zr_kill_n, zc_cat, zr_cat_i, zr_cat_l, zr_cat_r, zr_cat_f, zr_cat_d, zr_cat_u, beq_self_eq_true, Nat.zero_le, Nat.le_refl, Nat.reduceSub, Nat.reduceAdd, Nat.reduceLeDiff, csl_f, csr_f, cn_f, lg_cmp_eq, lg_cmp_le, lg_cmp_lt, lg_cmp_ge, lg_cmp_gt, nI_1, zr_up_self, zp_O, zr_fup_self, zr_fup_ne, ne_eq, Nat.reduceEqDiff, not_false_eq_true, pk_mul, k1, k2, c0]
      exact k3
    | _ => exact k.elim
  · obtain ⟨ke, k3⟩ := k
    simp only [List.mem_cons, List.not_mem_nil, or_false] at ke
    rcases ke with e | e
    · subst e
      rw [zk_catch zf_hh_233 zf_mo_233 (by rfl)]
      intro q2
      simp only [zs_233_0, zs_233_0u, zs_233_1, zs_233_2, zs_233_2u, zs_233_3, zs_233_4, zt_233_4, zs_233_7, zs_233_8, zs_233_9, zs_233_12, zs_233_12u, zs_233_13, zs_233_14, zs_233_15, zs_233_15u, zs_233_16, zs_233_17, zs_233_18, zs_233_19, zc_isO, zr_fld_mk, zc_isA, zc_len, zr_elt_mk, zr_kill_i, zr_kill_l, zr_kill_r, zr_kill_u, zr_kill_f, zr_kill_n, zc_cat, zr_cat_i, zr_cat_l, zr_cat_r, zr_cat_f, zr_cat_d, zr_cat_u, beq_self_eq_true, Nat.zero_le, Nat.le_refl, Nat.reduceSub, Nat.reduceAdd, Nat.reduceLeDiff, csl_f, csr_f, cn_f, lg_cmp_eq, lg_cmp_le, lg_cmp_lt, lg_cmp_ge, lg_cmp_gt, nI_1, zr_up_self, zp_O, zr_fup_self, zr_fup_ne, ne_eq, Nat.reduceEqDiff, not_false_eq_true, pk_mul]
      exact k3
    · subst e
      rw [zk_catch zf_hh_233 zf_mo_233 (by rfl)]
      intro q2
      simp only [zs_233_0, zs_233_0u, zs_233_1, zs_233_2, zs_233_2u, zs_233_3, zs_233_4, zt_233_4, zs_233_7, zs_233_8, zs_233_9, zs_233_12, zs_233_12u, zs_233_13, zs_233_14, zs_233_15, zs_233_15u, zs_233_16, zs_233_17, zs_233_18, zs_233_19, zc_isO, zr_fld_mk, zc_isA, zc_len, zr_elt_mk, zr_kill_i, zr_kill_l, zr_kill_r, zr_kill_u, zr_kill_f, zr_kill_n, zc_cat, zr_cat_i, zr_cat_l, zr_cat_r, zr_cat_f, zr_cat_d, zr_cat_u, beq_self_eq_true, Nat.zero_le, Nat.le_refl, Nat.reduceSub, Nat.reduceAdd, Nat.reduceLeDiff, csl_f, csr_f, cn_f, lg_cmp_eq, lg_cmp_le, lg_cmp_lt, lg_cmp_ge, lg_cmp_gt, nI_1, zr_up_self, zp_O, zr_fup_self, zr_fup_ne, ne_eq, Nat.reduceEqDiff, not_false_eq_true, pk_mul]
      exact k3
/-- pass -/
theorem k_w234 (hX : zr_isO (h x) 6 = true) (hc : zr_E d 87 [.ref x] h (wK o [0] Q)) : zr_E (d + 1) 234 [.ref x, .ref o] h Q := by
  have c1 : 1 ≤ 1 := by decide
  have c2 : 6 ≤ 6 := by decide
  have c0 : (0 : Int32).toNatClampNeg = 0 := rfl
  rw [ze_234]
  simp only [zs_234_0, zs_234_0u, zs_234_1, zs_234_2, zs_234_2u, zs_234_3, zt_234_3, zs_234_6, zs_234_7, zs_234_8, zs_234_11, zs_234_11u, zs_234_12, zs_234_13, zs_234_14, zs_234_15, zc_isO, zr_fld_mk, zc_isA, zc_len, zr_elt_mk, zr_kill_i, zr_kill_l, zr_kill_r, zr_kill_u, zr_kill_f, zr_kill_n, zc_cat, zr_cat_i, zr_cat_l, zr_cat_r, zr_cat_f, zr_cat_d, zr_cat_u, beq_self_eq_true, Nat.zero_le, Nat.le_refl, Nat.reduceSub, Nat.reduceAdd, Nat.reduceLeDiff, csl_f, csr_f, cn_f, lg_cmp_eq, lg_cmp_le, lg_cmp_lt, lg_cmp_ge, lg_cmp_gt, nI_1, zr_up_self, zp_O, zr_fup_self, zr_fup_ne, ne_eq, Nat.reduceEqDiff, not_false_eq_true, pk_mul, hX, c1, c2]
  refine zr_E_mono hc (fun r h' k => ?_)
  rcases r with (_ | v) | E
  · exact k.elim
  · cases v with
    | int v =>
      obtain ⟨k1, k2, k3⟩ := k
      simp only [zs_234_0, zs_234_0u, zs_234_1, zs_234_2, zs_234_2u, zs_234_3, zt_234_3, zs_234_6, zs_234_7, zs_234_8, zs_234_11, zs_234_11u, zs_234_12, zs_234_13, zs_234_14, zs_234_15, zc_isO, zr_fld_mk, zc_isA, zc_len, zr_elt_mk, zr_kill_i, zr_kill_l, zr_kill_r, zr_kill_u, zr_kill_f, zr_kill_n, zc_cat, zr_cat_i, zr_cat_l, zr_cat_r, zr_cat_f, zr_cat_d, zr_cat_u, beq_self_eq_true, Nat.zero_le, Nat.le_refl, Nat.reduceSub, Nat.reduceAdd, Nat.reduceLeDiff, csl_f, csr_f, cn_f, lg_cmp_eq, lg_cmp_le, lg_cmp_lt, lg_cmp_ge, lg_cmp_gt, nI_1, zr_up_self, zp_O, zr_fup_self, zr_fup_ne, ne_eq, Nat.reduceEqDiff, not_false_eq_true, pk_mul, k1, k2, c0]
      exact k3
    | _ => exact k.elim
  · obtain ⟨ke, k3⟩ := k
    simp only [List.mem_cons, List.not_mem_nil, or_false] at ke
    subst ke
    rw [zk_catch zf_hh_234 zf_mo_234 (by rfl)]
    intro q2
    simp only [zs_234_0, zs_234_0u, zs_234_1, zs_234_2, zs_234_2u, zs_234_3, zt_234_3, zs_234_6, zs_234_7, zs_234_8, zs_234_11, zs_234_11u, zs_234_12, zs_234_13, zs_234_14, zs_234_15, zc_isO, zr_fld_mk, zc_isA, zc_len, zr_elt_mk, zr_kill_i, zr_kill_l, zr_kill_r, zr_kill_u, zr_kill_f, zr_kill_n, zc_cat, zr_cat_i, zr_cat_l, zr_cat_r, zr_cat_f, zr_cat_d, zr_cat_u, beq_self_eq_true, Nat.zero_le, Nat.le_refl, Nat.reduceSub, Nat.reduceAdd, Nat.reduceLeDiff, csl_f, csr_f, cn_f, lg_cmp_eq, lg_cmp_le, lg_cmp_lt, lg_cmp_ge, lg_cmp_gt, nI_1, zr_up_self, zp_O, zr_fup_self, zr_fup_ne, ne_eq, Nat.reduceEqDiff, not_false_eq_true, pk_mul]
    exact k3
/-- move -/
theorem k_w235 (hX : zr_isO (h x) 6 = true) (hc : zr_E d 88 [.ref x, .int a0, .int a1, .int a2] h (wK o [2, 1, 0] Q)) : zr_E (d + 1) 235 [.ref x, .int a0, .int a1, .int a2, .ref o] h Q := by
  have c1 : 4 ≤ 4 := by decide
  have c2 : 24 ≤ 24 := by decide
  have c0 : (0 : Int32).toNatClampNeg = 0 := rfl
  rw [ze_235]
  simp only [zs_235_0, zs_235_0u, zs_235_2, zs_235_3, zs_235_3u, zs_235_4, zs_235_5, zs_235_6, zs_235_7, zt_235_7, zs_235_10, zs_235_11, zs_235_12, zs_235_15, zs_235_15u, zs_235_17, zs_235_18, zs_235_19, zs_235_19u, zs_235_21, zs_235_22, zs_235_23, zs_235_23u, zs_235_25, zs_235_26, zs_235_27, zs_235_28, zc_isO, zr_fld_mk, zc_isA, zc_len, zr_elt_mk, zr_kill_i, zr_kill_l, zr_kill_r, zr_kill_u, zr_kill_f, zr_kill_n, zc_cat, zr_cat_i, zr_cat_l, zr_cat_r, zr_cat_f, zr_cat_d, zr_cat_u, beq_self_eq_true, Nat.zero_le, Nat.le_refl, Nat.reduceSub, Nat.reduceAdd, Nat.reduceLeDiff, csl_f, csr_f, cn_f, lg_cmp_eq, lg_cmp_le, lg_cmp_lt, lg_cmp_ge, lg_cmp_gt, nI_1, zr_up_self, zp_O, zr_fup_self, zr_fup_ne, ne_eq, Nat.reduceEqDiff, not_false_eq_true, pk_mul, hX, c1, c2]
  refine zr_E_mono hc (fun r h' k => ?_)
  rcases r with (_ | v) | E
  · exact k.elim
  · cases v with
    | int v =>
      obtain ⟨k1, k2, k3⟩ := k
      simp only [zs_235_0, zs_235_0u, zs_235_2, zs_235_3, zs_235_3u, zs_235_4, zs_235_5, zs_235_6, zs_235_7, zt_235_7, zs_235_10, zs_235_11, zs_235_12, zs_235_15, zs_235_15u, zs_235_17, zs_235_18, zs_235_19, zs_235_19u, zs_235_21, zs_235_22, zs_235_23, zs_235_23u, zs_235_25, zs_235_26, zs_235_27, zs_235_28, zc_isO, zr_fld_mk, zc_isA, zc_len, zr_elt_mk, zr_kill_i, zr_kill_l, zr_kill_r, zr_kill_u, zr_kill_f, zr_kill_n, zc_cat, zr_cat_i, zr_cat_l, zr_cat_r, zr_cat_f, zr_cat_d, zr_cat_u, beq_self_eq_true, Nat.zero_le, Nat.le_refl, Nat.reduceSub, Nat.reduceAdd, Nat.reduceLeDiff, csl_f, csr_f, cn_f, lg_cmp_eq, lg_cmp_le, lg_cmp_lt, lg_cmp_ge, lg_cmp_gt, nI_1, zr_up_self, zp_O, zr_fup_self, zr_fup_ne, ne_eq, Nat.reduceEqDiff, not_false_eq_true, pk_mul, k1, k2, c0]
      exact k3
    | _ => exact k.elim
  · obtain ⟨ke, k3⟩ := k
    simp only [List.mem_cons, List.not_mem_nil, or_false] at ke
    rcases ke with e | e | e
    · subst e
      rw [zk_catch zf_hh_235 zf_mo_235 (by rfl)]
      intro q2
      simp only [zs_235_0, zs_235_0u, zs_235_2, zs_235_3, zs_235_3u, zs_235_4, zs_235_5, zs_235_6, zs_235_7, zt_235_7, zs_235_10, zs_235_11, zs_235_12, zs_235_15, zs_235_15u, zs_235_17, zs_235_18, zs_235_19, zs_235_19u, zs_235_21, zs_235_22, zs_235_23, zs_235_23u, zs_235_25, zs_235_26, zs_235_27, zs_235_28, zc_isO, zr_fld_mk, zc_isA, zc_len, zr_elt_mk, zr_kill_i, zr_kill_l, zr_kill_r, zr_kill_u, zr_kill_f, zr_kill_n, zc_cat, zr_cat_i, zr_cat_l, zr_cat_r, zr_cat_f, zr_cat_d, zr_cat_u, beq_self_eq_true, Nat.zero_le, Nat.le_refl, Nat.reduceSub, Nat.reduceAdd, Nat.reduceLeDiff, csl_f, csr_f, cn_f, lg_cmp_eq, lg_cmp_le, lg_cmp_lt, lg_cmp_ge, lg_cmp_gt, nI_1, zr_up_self, zp_O, zr_fup_self, zr_fup_ne, ne_eq, Nat.reduceEqDiff, not_false_eq_true, pk_mul]
      exact k3
    · subst e
      rw [zk_catch zf_hh_235 zf_mo_235 (by rfl)]
      intro q2
      simp only [zs_235_0, zs_235_0u, zs_235_2, zs_235_3, zs_235_3u, zs_235_4, zs_235_5, zs_235_6, zs_235_7, zt_235_7, zs_235_10, zs_235_11, zs_235_12, zs_235_15, zs_235_15u, zs_235_17, zs_235_18, zs_235_19, zs_235_19u, zs_235_21, zs_235_22, zs_235_23, zs_235_23u, zs_235_25, zs_235_26, zs_235_27, zs_235_28, zc_isO, zr_fld_mk, zc_isA, zc_len, zr_elt_mk, zr_kill_i, zr_kill_l, zr_kill_r, zr_kill_u, zr_kill_f, zr_kill_n, zc_cat, zr_cat_i, zr_cat_l, zr_cat_r, zr_cat_f, zr_cat_d, zr_cat_u, beq_self_eq_true, Nat.zero_le, Nat.le_refl, Nat.reduceSub, Nat.reduceAdd, Nat.reduceLeDiff, csl_f, csr_f, cn_f, lg_cmp_eq, lg_cmp_le, lg_cmp_lt, lg_cmp_ge, lg_cmp_gt, nI_1, zr_up_self, zp_O, zr_fup_self, zr_fup_ne, ne_eq, Nat.reduceEqDiff, not_false_eq_true, pk_mul]
      exact k3
    · subst e
      rw [zk_catch zf_hh_235 zf_mo_235 (by rfl)]
      intro q2
      simp only [zs_235_0, zs_235_0u, zs_235_2, zs_235_3, zs_235_3u, zs_235_4, zs_235_5, zs_235_6, zs_235_7, zt_235_7, zs_235_10, zs_235_11, zs_235_12, zs_235_15, zs_235_15u, zs_235_17, zs_235_18, zs_235_19, zs_235_19u, zs_235_21, zs_235_22, zs_235_23, zs_235_23u, zs_235_25, zs_235_26, zs_235_27, zs_235_28, zc_isO, zr_fld_mk, zc_isA, zc_len, zr_elt_mk, zr_kill_i, zr_kill_l, zr_kill_r, zr_kill_u, zr_kill_f, zr_kill_n, zc_cat, zr_cat_i, zr_cat_l, zr_cat_r, zr_cat_f, zr_cat_d, zr_cat_u, beq_self_eq_true, Nat.zero_le, Nat.le_refl, Nat.reduceSub, Nat.reduceAdd, Nat.reduceLeDiff, csl_f, csr_f, cn_f, lg_cmp_eq, lg_cmp_le, lg_cmp_lt, lg_cmp_ge, lg_cmp_gt, nI_1, zr_up_self, zp_O, zr_fup_self, zr_fup_ne, ne_eq, Nat.reduceEqDiff, not_false_eq_true, pk_mul]
      exact k3
/-- moves -/
theorem k_w236 (hX : zr_isO (h x) 6 = true) (hc : zr_E d 89 [.ref x, .int a0] h (wK o [1] Q)) : zr_E (d + 1) 236 [.ref x, .int a0, .ref o] h Q := by
  have c1 : 1 ≤ 1 := by decide
  have c2 : 6 ≤ 6 := by decide
  have c0 : (0 : Int32).toNatClampNeg = 0 := rfl
  rw [ze_236]
  simp only [zs_236_0, zs_236_0u, zs_236_1, zs_236_2, zs_236_2u, zs_236_3, zs_236_4, zt_236_4, zs_236_7, zs_236_8, zs_236_9, zs_236_12, zs_236_12u, zs_236_13, zs_236_14, zs_236_15, zs_236_16, zc_isO, zr_fld_mk, zc_isA, zc_len, zr_elt_mk, zr_kill_i, zr_kill_l, zr_kill_r, zr_kill_u, zr_kill_f, zr_kill_n, zc_cat, zr_cat_i, zr_cat_l, zr_cat_r, zr_cat_f, zr_cat_d, zr_cat_u, beq_self_eq_true, Nat.zero_le, Nat.le_refl, Nat.reduceSub, Nat.reduceAdd, Nat.reduceLeDiff, csl_f, csr_f, cn_f, lg_cmp_eq, lg_cmp_le, lg_cmp_lt, lg_cmp_ge, lg_cmp_gt, nI_1, zr_up_self, zp_O, zr_fup_self, zr_fup_ne, ne_eq, Nat.reduceEqDiff, not_false_eq_true, pk_mul, hX, c1, c2]
  refine zr_E_mono hc (fun r h' k => ?_)
  rcases r with (_ | v) | E
  · exact k.elim
  · cases v with
    | int v =>
      obtain ⟨k1, k2, k3⟩ := k
      simp only [zs_236_0, zs_236_0u, zs_236_1, zs_236_2, zs_236_2u, zs_236_3, zs_236_4, zt_236_4, zs_236_7, zs_236_8, zs_236_9, zs_236_12, zs_236_12u, zs_236_13, zs_236_14, zs_236_15, zs_236_16, zc_isO, zr_fld_mk, zc_isA, zc_len, zr_elt_mk, zr_kill_i, zr_kill_l, zr_kill_r, zr_kill_u, zr_kill_f, zr_kill_n, zc_cat, zr_cat_i, zr_cat_l, zr_cat_r, zr_cat_f, zr_cat_d, zr_cat_u, beq_self_eq_true, Nat.zero_le, Nat.le_refl, Nat.reduceSub, Nat.reduceAdd, Nat.reduceLeDiff, csl_f, csr_f, cn_f, lg_cmp_eq, lg_cmp_le, lg_cmp_lt, lg_cmp_ge, lg_cmp_gt, nI_1, zr_up_self, zp_O, zr_fup_self, zr_fup_ne, ne_eq, Nat.reduceEqDiff, not_false_eq_true, pk_mul, k1, k2, c0]
      exact k3
    | _ => exact k.elim
  · obtain ⟨ke, k3⟩ := k
    simp only [List.mem_cons, List.not_mem_nil, or_false] at ke
    subst ke
    rw [zk_catch zf_hh_236 zf_mo_236 (by rfl)]
    intro q2
    simp only [zs_236_0, zs_236_0u, zs_236_1, zs_236_2, zs_236_2u, zs_236_3, zs_236_4, zt_236_4, zs_236_7, zs_236_8, zs_236_9, zs_236_12, zs_236_12u, zs_236_13, zs_236_14, zs_236_15, zs_236_16, zc_isO, zr_fld_mk, zc_isA, zc_len, zr_elt_mk, zr_kill_i, zr_kill_l, zr_kill_r, zr_kill_u, zr_kill_f, zr_kill_n, zc_cat, zr_cat_i, zr_cat_l, zr_cat_r, zr_cat_f, zr_cat_d, zr_cat_u, beq_self_eq_true, Nat.zero_le, Nat.le_refl, Nat.reduceSub, Nat.reduceAdd, Nat.reduceLeDiff, csl_f, csr_f, cn_f, lg_cmp_eq, lg_cmp_le, lg_cmp_lt, lg_cmp_ge, lg_cmp_gt, nI_1, zr_up_self, zp_O, zr_fup_self, zr_fup_ne, ne_eq, Nat.reduceEqDiff, not_false_eq_true, pk_mul]
    exact k3
/-- greediest -/
theorem k_w237 (hX : zr_isO (h x) 6 = true) (hc : zr_E d 90 [.ref x, .int a0] h (wK o [1, 3] Q)) : zr_E (d + 1) 237 [.ref x, .int a0, .ref o] h Q := by
  have c1 : 2 ≤ 2 := by decide
  have c2 : 12 ≤ 12 := by decide
  have c0 : (0 : Int32).toNatClampNeg = 0 := rfl
  rw [ze_237]
  simp only [zs_237_0, zs_237_0u, zs_237_1, zs_237_2, zs_237_2u, zs_237_3, zs_237_4, zt_237_4, zs_237_7, zs_237_8, zs_237_9, zs_237_12, zs_237_12u, zs_237_13, zs_237_14, zs_237_15, zs_237_15u, zs_237_16, zs_237_17, zs_237_18, zs_237_19, zc_isO, zr_fld_mk, zc_isA, zc_len, zr_elt_mk, zr_kill_i, zr_kill_l, zr_kill_r, zr_kill_u, zr_kill_f, zr_kill_n, zc_cat, zr_cat_i, zr_cat_l, zr_cat_r, zr_cat_f, zr_cat_d, zr_cat_u, beq_self_eq_true, Nat.zero_le, Nat.le_refl, Nat.reduceSub, Nat.reduceAdd, Nat.reduceLeDiff, csl_f, csr_f, cn_f, lg_cmp_eq, lg_cmp_le, lg_cmp_lt, lg_cmp_ge, lg_cmp_gt, nI_1, zr_up_self, zp_O, zr_fup_self, zr_fup_ne, ne_eq, Nat.reduceEqDiff, not_false_eq_true, pk_mul, hX, c1, c2]
  refine zr_E_mono hc (fun r h' k => ?_)
  rcases r with (_ | v) | E
  · exact k.elim
  · cases v with
    | int v =>
      obtain ⟨k1, k2, k3⟩ := k
      simp only [zs_237_0, zs_237_0u, zs_237_1, zs_237_2, zs_237_2u, zs_237_3, zs_237_4, zt_237_4, zs_237_7, zs_237_8, zs_237_9, zs_237_12, zs_237_12u, zs_237_13, zs_237_14, zs_237_15, zs_237_15u, zs_237_16, zs_237_17, zs_237_18, zs_237_19, zc_isO, zr_fld_mk, zc_isA, zc_len, zr_elt_mk, zr_kill_i, zr_kill_l, zr_kill_r, zr_kill_u, zr_kill_f, zr_kill_n, zc_cat, zr_cat_i, zr_cat_l, zr_cat_r, zr_cat_f, zr_cat_d, zr_cat_u, beq_self_eq_true, Nat.zero_le, Nat.le_refl, Nat.reduceSub, Nat.reduceAdd, Nat.reduceLeDiff, csl_f, csr_f, cn_f, lg_cmp_eq, lg_cmp_le, lg_cmp_lt, lg_cmp_ge, lg_cmp_gt, nI_1, zr_up_self, zp_O, zr_fup_self, zr_fup_ne, ne_eq, Nat.reduceEqDiff, not_false_eq_true, pk_mul, k1, k2, c0]
      exact k3
    | _ => exact k.elim
  · obtain ⟨ke, k3⟩ := k
    simp only [List.mem_cons, List.not_mem_nil, or_false] at ke
    rcases ke with e | e
    · subst e
      rw [zk_catch zf_hh_237 zf_mo_237 (by rfl)]
      intro q2
      simp only [zs_237_0, zs_237_0u, zs_237_1, zs_237_2, zs_237_2u, zs_237_3, zs_237_4, zt_237_4, zs_237_7, zs_237_8, zs_237_9, zs_237_12, zs_237_12u, zs_237_13, zs_237_14, zs_237_15, zs_237_15u, zs_237_16, zs_237_17, zs_237_18, zs_237_19, zc_isO, zr_fld_mk, zc_isA, zc_len, zr_elt_mk, zr_kill_i, zr_kill_l, zr_kill_r, zr_kill_u, zr_kill_f, zr_kill_n, zc_cat, zr_cat_i, zr_cat_l, zr_cat_r, zr_cat_f, zr_cat_d, zr_cat_u, beq_self_eq_true, Nat.zero_le, Nat.le_refl, Nat.reduceSub, Nat.reduceAdd, Nat.reduceLeDiff, csl_f, csr_f, cn_f, lg_cmp_eq, lg_cmp_le, lg_cmp_lt, lg_cmp_ge, lg_cmp_gt, nI_1, zr_up_self, zp_O, zr_fup_self, zr_fup_ne, ne_eq, Nat.reduceEqDiff, not_false_eq_true, pk_mul]
      exact k3
    · subst e
      rw [zk_catch zf_hh_237 zf_mo_237 (by rfl)]
      intro q2
      simp only [zs_237_0, zs_237_0u, zs_237_1, zs_237_2, zs_237_2u, zs_237_3, zs_237_4, zt_237_4, zs_237_7, zs_237_8, zs_237_9, zs_237_12, zs_237_12u, zs_237_13, zs_237_14, zs_237_15, zs_237_15u, zs_237_16, zs_237_17, zs_237_18, zs_237_19, zc_isO, zr_fld_mk, zc_isA, zc_len, zr_elt_mk, zr_kill_i, zr_kill_l, zr_kill_r, zr_kill_u, zr_kill_f, zr_kill_n, zc_cat, zr_cat_i, zr_cat_l, zr_cat_r, zr_cat_f, zr_cat_d, zr_cat_u, beq_self_eq_true, Nat.zero_le, Nat.le_refl, Nat.reduceSub, Nat.reduceAdd, Nat.reduceLeDiff, csl_f, csr_f, cn_f, lg_cmp_eq, lg_cmp_le, lg_cmp_lt, lg_cmp_ge, lg_cmp_gt, nI_1, zr_up_self, zp_O, zr_fup_self, zr_fup_ne, ne_eq, Nat.reduceEqDiff, not_false_eq_true, pk_mul]
      exact k3
/-- setStone -/
theorem k_w238 (hX : zr_isO (h x) 6 = true) (hc : zr_E d 91 [.ref x, .int a0, .int a1] h (wK o [2, 1, 0] Q)) : zr_E (d + 1) 238 [.ref x, .int a0, .int a1, .ref o] h Q := by
  have c1 : 3 ≤ 3 := by decide
  have c2 : 18 ≤ 18 := by decide
  have c0 : (0 : Int32).toNatClampNeg = 0 := rfl
  rw [ze_238]
  simp only [zs_238_0, zs_238_0u, zs_238_1, zs_238_2, zs_238_2u, zs_238_3, zs_238_4, zs_238_5, zt_238_5, zs_238_8, zs_238_9, zs_238_10, zs_238_13, zs_238_13u, zs_238_15, zs_238_16, zs_238_17, zs_238_17u, zs_238_19, zs_238_20, zs_238_21, zs_238_21u, zs_238_23, zs_238_24, zs_238_25, zs_238_26, zc_isO, zr_fld_mk, zc_isA, zc_len, zr_elt_mk, zr_kill_i, zr_kill_l, zr_kill_r, zr_kill_u, zr_kill_f, zr_kill_n, zc_cat, zr_cat_i, zr_cat_l, zr_cat_r, zr_cat_f, zr_cat_d, zr_cat_u, beq_self_eq_true, Nat.zero_le, Nat.le_refl, Nat.reduceSub, Nat.reduceAdd, Nat.reduceLeDiff, csl_f, csr_f, cn_f, lg_cmp_eq, lg_cmp_le, lg_cmp_lt, lg_cmp_ge, lg_cmp_gt, nI_1, zr_up_self, zp_O, zr_fup_self, zr_fup_ne, ne_eq, Nat.reduceEqDiff, not_false_eq_true, pk_mul, hX, c1, c2]
  refine zr_E_mono hc (fun r h' k => ?_)
  rcases r with (_ | v) | E
  · exact k.elim
  · cases v with
    | int v =>
      obtain ⟨k1, k2, k3⟩ := k
      simp only [zs_238_0, zs_238_0u, zs_238_1, zs_238_2, zs_238_2u, zs_238_3, zs_238_4, zs_238_5, zt_238_5, zs_238_8, zs_238_9, zs_238_10, zs_238_13, zs_238_13u, zs_238_15, zs_238_16, zs_238_17, zs_238_17u, zs_238_19, zs_238_20, zs_238_21, zs_238_21u, zs_238_23, zs_238_24, zs_238_25, zs_238_26, zc_isO, zr_fld_mk, zc_isA, zc_len, zr_elt_mk, zr_kill_i, zr_kill_l, zr_kill_r, zr_kill_u, zr_kill_f, zr_kill_n, zc_cat, zr_cat_i, zr_cat_l, zr_cat_r, zr_cat_f, zr_cat_d, zr_cat_u, beq_self_eq_true, Nat.zero_le, Nat.le_refl, Nat.reduceSub, Nat.reduceAdd, Nat.reduceLeDiff, csl_f, csr_f, cn_f, lg_cmp_eq, lg_cmp_le, lg_cmp_lt, lg_cmp_ge, lg_cmp_gt, nI_1, zr_up_self, zp_O, zr_fup_self, zr_fup_ne, ne_eq, Nat.reduceEqDiff, not_false_eq_true, pk_mul, k1, k2, c0]
      exact k3
    | _ => exact k.elim
  · obtain ⟨ke, k3⟩ := k
    simp only [List.mem_cons, List.not_mem_nil, or_false] at ke
    rcases ke with e | e | e
    · subst e
      rw [zk_catch zf_hh_238 zf_mo_238 (by rfl)]
      intro q2
      simp only [zs_238_0, zs_238_0u, zs_238_1, zs_238_2, zs_238_2u, zs_238_3, zs_238_4, zs_238_5, zt_238_5, zs_238_8, zs_238_9, zs_238_10, zs_238_13, zs_238_13u, zs_238_15, zs_238_16, zs_238_17, zs_238_17u, zs_238_19, zs_238_20, zs_238_21, zs_238_21u, zs_238_23, zs_238_24, zs_238_25, zs_238_26, zc_isO, zr_fld_mk, zc_isA, zc_len, zr_elt_mk, zr_kill_i, zr_kill_l, zr_kill_r, zr_kill_u, zr_kill_f, zr_kill_n, zc_cat, zr_cat_i, zr_cat_l, zr_cat_r, zr_cat_f, zr_cat_d, zr_cat_u, beq_self_eq_true, Nat.zero_le, Nat.le_refl, Nat.reduceSub, Nat.reduceAdd, Nat.reduceLeDiff, csl_f, csr_f, cn_f, lg_cmp_eq, lg_cmp_le, lg_cmp_lt, lg_cmp_ge, lg_cmp_gt, nI_1, zr_up_self, zp_O, zr_fup_self, zr_fup_ne, ne_eq, Nat.reduceEqDiff, not_false_eq_true, pk_mul]
      exact k3
    · subst e
      rw [zk_catch zf_hh_238 zf_mo_238 (by rfl)]
      intro q2
      simp only [zs_238_0, zs_238_0u, zs_238_1, zs_238_2, zs_238_2u, zs_238_3, zs_238_4, zs_238_5, zt_238_5, zs_238_8, zs_238_9, zs_238_10, zs_238_13, zs_238_13u, zs_238_15, zs_238_16, zs_238_17, zs_238_17u, zs_238_19, zs_238_20, zs_238_21, zs_238_21u, zs_238_23, zs_238_24, zs_238_25, zs_238_26, zc_isO, zr_fld_mk, zc_isA, zc_len, zr_elt_mk, zr_kill_i, zr_kill_l, zr_kill_r, zr_kill_u, zr_kill_f, zr_kill_n, zc_cat, zr_cat_i, zr_cat_l, zr_cat_r, zr_cat_f, zr_cat_d, zr_cat_u, beq_self_eq_true, Nat.zero_le, Nat.le_refl, Nat.reduceSub, Nat.reduceAdd, Nat.reduceLeDiff, csl_f, csr_f, cn_f, lg_cmp_eq, lg_cmp_le, lg_cmp_lt, lg_cmp_ge, lg_cmp_gt, nI_1, zr_up_self, zp_O, zr_fup_self, zr_fup_ne, ne_eq, Nat.reduceEqDiff, not_false_eq_true, pk_mul]
      exact k3
    · subst e
      rw [zk_catch zf_hh_238 zf_mo_238 (by rfl)]
      intro q2
      simp only [zs_238_0, zs_238_0u, zs_238_1, zs_238_2, zs_238_2u, zs_238_3, zs_238_4, zs_238_5, zt_238_5, zs_238_8, zs_238_9, zs_238_10, zs_238_13, zs_238_13u, zs_238_15, zs_238_16, zs_238_17, zs_238_17u, zs_238_19, zs_238_20, zs_238_21, zs_238_21u, zs_238_23, zs_238_24, zs_238_25, zs_238_26, zc_isO, zr_fld_mk, zc_isA, zc_len, zr_elt_mk, zr_kill_i, zr_kill_l, zr_kill_r, zr_kill_u, zr_kill_f, zr_kill_n, zc_cat, zr_cat_i, zr_cat_l, zr_cat_r, zr_cat_f, zr_cat_d, zr_cat_u, beq_self_eq_true, Nat.zero_le, Nat.le_refl, Nat.reduceSub, Nat.reduceAdd, Nat.reduceLeDiff, csl_f, csr_f, cn_f, lg_cmp_eq, lg_cmp_le, lg_cmp_lt, lg_cmp_ge, lg_cmp_gt, nI_1, zr_up_self, zp_O, zr_fup_self, zr_fup_ne, ne_eq, Nat.reduceEqDiff, not_false_eq_true, pk_mul]
      exact k3
/-- setTurn -/
theorem k_w239 (hX : zr_isO (h x) 6 = true) (hc : zr_E d 92 [.ref x, .int a0] h (wK o [1] Q)) : zr_E (d + 1) 239 [.ref x, .int a0, .ref o] h Q := by
  have c1 : 1 ≤ 1 := by decide
  have c2 : 6 ≤ 6 := by decide
  have c0 : (0 : Int32).toNatClampNeg = 0 := rfl
  rw [ze_239]
  simp only [zs_239_0, zs_239_0u, zs_239_1, zs_239_2, zs_239_2u, zs_239_3, zs_239_4, zt_239_4, zs_239_7, zs_239_8, zs_239_9, zs_239_12, zs_239_12u, zs_239_13, zs_239_14, zs_239_15, zs_239_16, zc_isO, zr_fld_mk, zc_isA, zc_len, zr_elt_mk, zr_kill_i, zr_kill_l, zr_kill_r, zr_kill_u, zr_kill_f, zr_kill_n, zc_cat, zr_cat_i, zr_cat_l, zr_cat_r, zr_cat_f, zr_cat_d, zr_cat_u, beq_self_eq_true, Nat.zero_le, Nat.le_refl, Nat.reduceSub, Nat.reduceAdd, Nat.reduceLeDiff, csl_f, csr_f, cn_f, lg_cmp_eq, lg_cmp_le, lg_cmp_lt, lg_cmp_ge, lg_cmp_gt, nI_1, zr_up_self, zp_O, zr_fup_self, zr_fup_ne, ne_eq, Nat.reduceEqDiff, not_false_eq_true, pk_mul, hX, c1, c2]
  refine zr_E_mono hc (fun r h' k => ?_)
  rcases r with (_ | v) | E
  · exact k.elim
  · cases v with
    | int v =>
      obtain ⟨k1, k2, k3⟩ := k
      simp only [zs_239_0, zs_239_0u, zs_239_1, zs_239_2, zs_239_2u, zs_239_3, zs_239_4, zt_239_4, zs_239_7, zs_239_8, zs_239_9, zs_239_12, zs_239_12u, zs_239_13, zs_239_14, zs_239_15, zs_239_16, zc_isO, zr_fld_mk, zc_isA, zc_len, zr_elt_mk, zr_kill_i, zr_kill_l, zr_kill_r, zr_kill_u, zr_kill_f, zr_kill_n, zc_cat, zr_cat_i, zr_cat_l, zr_cat_r, zr_cat_f, zr_cat_d, zr_cat_u, beq_self_eq_true, Nat.zero_le, Nat.le_refl, Nat.reduceSub, Nat.reduceAdd, Nat.reduceLeDiff, csl_f, csr_f, cn_f, lg_cmp_eq, lg_cmp_le, lg_cmp_lt, lg_cmp_ge, lg_cmp_gt, nI_1, zr_up_self, zp_O, zr_fup_self, zr_fup_ne, ne_eq, Nat.reduceEqDiff, not_false_eq_true, pk_mul, k1, k2, c0]
      exact k3
    | _ => exact k.elim
  · obtain ⟨ke, k3⟩ := k
    simp only [List.mem_cons, List.not_mem_nil, or_false] at ke
    subst ke
    rw [zk_catch zf_hh_239 zf_mo_239 (by rfl)]
    intro q2
    simp only [zs_239_0, zs_239_0u, zs_239_1, zs_239_2, zs_239_2u, zs_239_3, zs_239_4, zt_239_4, zs_239_7, zs_239_8, zs_239_9, zs_239_12, zs_239_12u, zs_239_13, zs_239_14, zs_239_15, zs_239_16, zc_isO, zr_fld_mk, zc_isA, zc_len, zr_elt_mk, zr_kill_i, zr_kill_l, zr_kill_r, zr_kill_u, zr_kill_f, zr_kill_n, zc_cat, zr_cat_i, zr_cat_l, zr_cat_r, zr_cat_f, zr_cat_d, zr_cat_u, beq_self_eq_true, Nat.zero_le, Nat.le_refl, Nat.reduceSub, Nat.reduceAdd, Nat.reduceLeDiff, csl_f, csr_f, cn_f, lg_cmp_eq, lg_cmp_le, lg_cmp_lt, lg_cmp_ge, lg_cmp_gt, nI_1, zr_up_self, zp_O, zr_fup_self, zr_fup_ne, ne_eq, Nat.reduceEqDiff, not_false_eq_true, pk_mul]
    exact k3
/-- setRule -/
theorem k_w240 (hX : zr_isO (h x) 6 = true) (hc : zr_E d 93 [.ref x, .int a0] h (wK o [1] Q)) : zr_E (d + 1) 240 [.ref x, .int a0, .ref o] h Q := by
  have c1 : 1 ≤ 1 := by decide
  have c2 : 6 ≤ 6 := by decide
  have c0 : (0 : Int32).toNatClampNeg = 0 := rfl
  rw [ze_240]
  simp only [zs_240_0, zs_240_0u, zs_240_1, zs_240_2, zs_240_2u, zs_240_3, zs_240_4, zt_240_4, zs_240_7, zs_240_8, zs_240_9, zs_240_12, zs_240_12u, zs_240_13, zs_240_14, zs_240_15, zs_240_16, zc_isO, zr_fld_mk, zc_isA, zc_len, zr_elt_mk, zr_kill_i, zr_kill_l, zr_kill_r, zr_kill_u, zr_kill_f, zr_kill_n, zc_cat, zr_cat_i, zr_cat_l, zr_cat_r, zr_cat_f, zr_cat_d, zr_cat_u, beq_self_eq_true, Nat.zero_le, Nat.le_refl, Nat.reduceSub, Nat.reduceAdd, Nat.reduceLeDiff, csl_f, csr_f, cn_f, lg_cmp_eq, lg_cmp_le, lg_cmp_lt, lg_cmp_ge, lg_cmp_gt, nI_1, zr_up_self, zp_O, zr_fup_self, zr_fup_ne, ne_eq, Nat.reduceEqDiff, not_false_eq_true, pk_mul, hX, c1, c2]
  refine zr_E_mono hc (fun r h' k => ?_)
  rcases r with (_ | v) | E
  · exact k.elim
  · cases v with
    | int v =>
      obtain ⟨k1, k2, k3⟩ := k
      simp only [zs_240_0, zs_240_0u, zs_240_1, zs_240_2, zs_240_2u, zs_240_3, zs_240_4, zt_240_4, zs_240_7, zs_240_8, zs_240_9, zs_240_12, zs_240_12u, zs_240_13, zs_240_14, zs_240_15, zs_240_16, zc_isO, zr_fld_mk, zc_isA, zc_len, zr_elt_mk, zr_kill_i, zr_kill_l, zr_kill_r, zr_kill_u, zr_kill_f, zr_kill_n, zc_cat, zr_cat_i, zr_cat_l, zr_cat_r, zr_cat_f, zr_cat_d, zr_cat_u, beq_self_eq_true, Nat.zero_le, Nat.le_refl, Nat.reduceSub, Nat.reduceAdd, Nat.reduceLeDiff, csl_f, csr_f, cn_f, lg_cmp_eq, lg_cmp_le, lg_cmp_lt, lg_cmp_ge, lg_cmp_gt, nI_1, zr_up_self, zp_O, zr_fup_self, zr_fup_ne, ne_eq, Nat.reduceEqDiff, not_false_eq_true, pk_mul, k1, k2, c0]
      exact k3
    | _ => exact k.elim
  · obtain ⟨ke, k3⟩ := k
    simp only [List.mem_cons, List.not_mem_nil, or_false] at ke
    subst ke
    rw [zk_catch zf_hh_240 zf_mo_240 (by rfl)]
    intro q2
    simp only [zs_240_0, zs_240_0u, zs_240_1, zs_240_2, zs_240_2u, zs_240_3, zs_240_4, zt_240_4, zs_240_7, zs_240_8, zs_240_9, zs_240_12, zs_240_12u, zs_240_13, zs_240_14, zs_240_15, zs_240_16, zc_isO, zr_fld_mk, zc_isA, zc_len, zr_elt_mk, zr_kill_i, zr_kill_l, zr_kill_r, zr_kill_u, zr_kill_f, zr_kill_n, zc_cat, zr_cat_i, zr_cat_l, zr_cat_r, zr_cat_f, zr_cat_d, zr_cat_u, beq_self_eq_true, Nat.zero_le, Nat.le_refl, Nat.reduceSub, Nat.reduceAdd, Nat.reduceLeDiff, csl_f, csr_f, cn_f, lg_cmp_eq, lg_cmp_le, lg_cmp_lt, lg_cmp_ge, lg_cmp_gt, nI_1, zr_up_self, zp_O, zr_fup_self, zr_fup_ne, ne_eq, Nat.reduceEqDiff, not_false_eq_true, pk_mul]
    exact k3
/-- setBonus -/
theorem k_w241 (hX : zr_isO (h x) 6 = true) (hc : zr_E d 94 [.ref x, .int a0] h (wK o [1] Q)) : zr_E (d + 1) 241 [.ref x, .int a0, .ref o] h Q := by
  have c1 : 1 ≤ 1 := by decide
  have c2 : 6 ≤ 6 := by decide
  have c0 : (0 : Int32).toNatClampNeg = 0 := rfl
  rw [ze_241]
  simp only [zs_241_0, zs_241_0u, zs_241_1, zs_241_2, zs_241_2u, zs_241_3, zs_241_4, zt_241_4, zs_241_7, zs_241_8, zs_241_9, zs_241_12, zs_241_12u, zs_241_13, zs_241_14, zs_241_15, zs_241_16, zc_isO, zr_fld_mk, zc_isA, zc_len, zr_elt_mk, zr_kill_i, zr_kill_l, zr_kill_r, zr_kill_u, zr_kill_f, zr_kill_n, zc_cat, zr_cat_i, zr_cat_l, zr_cat_r, zr_cat_f, zr_cat_d, zr_cat_u, beq_self_eq_true, Nat.zero_le, Nat.le_refl, Nat.reduceSub, Nat.reduceAdd, Nat.reduceLeDiff, csl_f, csr_f, cn_f, lg_cmp_eq, lg_cmp_le, lg_cmp_lt, lg_cmp_ge, lg_cmp_gt, nI_1, zr_up_self, zp_O, zr_fup_self, zr_fup_ne, ne_eq, Nat.reduceEqDiff, not_false_eq_true, pk_mul, hX, c1, c2]
  refine zr_E_mono hc (fun r h' k => ?_)
  rcases r with (_ | v) | E
  · exact k.elim
  · cases v with
    | int v =>
      obtain ⟨k1, k2, k3⟩ := k
      simp only [zs_241_0, zs_241_0u, zs_241_1, zs_241_2, zs_241_2u, zs_241_3, zs_241_4, zt_241_4, zs_241_7, zs_241_8, zs_241_9, zs_241_12, zs_241_12u, zs_241_13, zs_241_14, zs_241_15, zs_241_16, zc_isO, zr_fld_mk, zc_isA, zc_len, zr_elt_mk, zr_kill_i, zr_kill_l, zr_kill_r, zr_kill_u, zr_kill_f, zr_kill_n, zc_cat, zr_cat_i, zr_cat_l, zr_cat_r, zr_cat_f, zr_cat_d, zr_cat_u, beq_self_eq_true, Nat.zero_le, Nat.le_refl, Nat.reduceSub, Nat.reduceAdd, Nat.reduceLeDiff, csl_f, csr_f, cn_f, lg_cmp_eq, lg_cmp_le, lg_cmp_lt, lg_cmp_ge, lg_cmp_gt, nI_1, zr_up_self, zp_O, zr_fup_self, zr_fup_ne, ne_eq, Nat.reduceEqDiff, not_false_eq_true, pk_mul, k1, k2, c0]
      exact k3
    | _ => exact k.elim
  · obtain ⟨ke, k3⟩ := k
    simp only [List.mem_cons, List.not_mem_nil, or_false] at ke
    subst ke
    rw [zk_catch zf_hh_241 zf_mo_241 (by rfl)]
    intro q2
    simp only [zs_241_0, zs_241_0u, zs_241_1, zs_241_2, zs_241_2u, zs_241_3, zs_241_4, zt_241_4, zs_241_7, zs_241_8, zs_241_9, zs_241_12, zs_241_12u, zs_241_13, zs_241_14, zs_241_15, zs_241_16, zc_isO, zr_fld_mk, zc_isA, zc_len, zr_elt_mk, zr_kill_i, zr_kill_l, zr_kill_r, zr_kill_u, zr_kill_f, zr_kill_n, zc_cat, zr_cat_i, zr_cat_l, zr_cat_r, zr_cat_f, zr_cat_d, zr_cat_u, beq_self_eq_true, Nat.zero_le, Nat.le_refl, Nat.reduceSub, Nat.reduceAdd, Nat.reduceLeDiff, csl_f, csr_f, cn_f, lg_cmp_eq, lg_cmp_le, lg_cmp_lt, lg_cmp_ge, lg_cmp_gt, nI_1, zr_up_self, zp_O, zr_fup_self, zr_fup_ne, ne_eq, Nat.reduceEqDiff, not_false_eq_true, pk_mul]
    exact k3
/-- pools -/
theorem k_w242 (hX : zr_isO (h x) 6 = true) (hc : zr_E d 95 [.ref x, .int a0] h (wK o [1] Q)) : zr_E (d + 1) 242 [.ref x, .int a0, .ref o] h Q := by
  have c1 : 1 ≤ 1 := by decide
  have c2 : 6 ≤ 6 := by decide
  have c0 : (0 : Int32).toNatClampNeg = 0 := rfl
  rw [ze_242]
  simp only [zs_242_0, zs_242_0u, zs_242_1, zs_242_2, zs_242_2u, zs_242_3, zs_242_4, zt_242_4, zs_242_7, zs_242_8, zs_242_9, zs_242_12, zs_242_12u, zs_242_13, zs_242_14, zs_242_15, zs_242_16, zc_isO, zr_fld_mk, zc_isA, zc_len, zr_elt_mk, zr_kill_i, zr_kill_l, zr_kill_r, zr_kill_u, zr_kill_f, zr_kill_n, zc_cat, zr_cat_i, zr_cat_l, zr_cat_r, zr_cat_f, zr_cat_d, zr_cat_u, beq_self_eq_true, Nat.zero_le, Nat.le_refl, Nat.reduceSub, Nat.reduceAdd, Nat.reduceLeDiff, csl_f, csr_f, cn_f, lg_cmp_eq, lg_cmp_le, lg_cmp_lt, lg_cmp_ge, lg_cmp_gt, nI_1, zr_up_self, zp_O, zr_fup_self, zr_fup_ne, ne_eq, Nat.reduceEqDiff, not_false_eq_true, pk_mul, hX, c1, c2]
  refine zr_E_mono hc (fun r h' k => ?_)
  rcases r with (_ | v) | E
  · exact k.elim
  · cases v with
    | int v =>
      obtain ⟨k1, k2, k3⟩ := k
      simp only [zs_242_0, zs_242_0u, zs_242_1, zs_242_2, zs_242_2u, zs_242_3, zs_242_4, zt_242_4, zs_242_7, zs_242_8, zs_242_9, zs_242_12, zs_242_12u, zs_242_13, zs_242_14, zs_242_15, zs_242_16, zc_isO, zr_fld_mk, zc_isA, zc_len, zr_elt_mk, zr_kill_i, zr_kill_l, zr_kill_r, zr_kill_u, zr_kill_f, zr_kill_n, zc_cat, zr_cat_i, zr_cat_l, zr_cat_r, zr_cat_f, zr_cat_d, zr_cat_u, beq_self_eq_true, Nat.zero_le, Nat.le_refl, Nat.reduceSub, Nat.reduceAdd, Nat.reduceLeDiff, csl_f, csr_f, cn_f, lg_cmp_eq, lg_cmp_le, lg_cmp_lt, lg_cmp_ge, lg_cmp_gt, nI_1, zr_up_self, zp_O, zr_fup_self, zr_fup_ne, ne_eq, Nat.reduceEqDiff, not_false_eq_true, pk_mul, k1, k2, c0]
      exact k3
    | _ => exact k.elim
  · obtain ⟨ke, k3⟩ := k
    simp only [List.mem_cons, List.not_mem_nil, or_false] at ke
    subst ke
    rw [zk_catch zf_hh_242 zf_mo_242 (by rfl)]
    intro q2
    simp only [zs_242_0, zs_242_0u, zs_242_1, zs_242_2, zs_242_2u, zs_242_3, zs_242_4, zt_242_4, zs_242_7, zs_242_8, zs_242_9, zs_242_12, zs_242_12u, zs_242_13, zs_242_14, zs_242_15, zs_242_16, zc_isO, zr_fld_mk, zc_isA, zc_len, zr_elt_mk, zr_kill_i, zr_kill_l, zr_kill_r, zr_kill_u, zr_kill_f, zr_kill_n, zc_cat, zr_cat_i, zr_cat_l, zr_cat_r, zr_cat_f, zr_cat_d, zr_cat_u, beq_self_eq_true, Nat.zero_le, Nat.le_refl, Nat.reduceSub, Nat.reduceAdd, Nat.reduceLeDiff, csl_f, csr_f, cn_f, lg_cmp_eq, lg_cmp_le, lg_cmp_lt, lg_cmp_ge, lg_cmp_gt, nI_1, zr_up_self, zp_O, zr_fup_self, zr_fup_ne, ne_eq, Nat.reduceEqDiff, not_false_eq_true, pk_mul]
    exact k3
/-- pool -/
theorem k_w243 (hX : zr_isO (h x) 6 = true) (hc : zr_E d 96 [.ref x, .int a0, .int a1] h (wK o [2, 1, 3] Q)) : zr_E (d + 1) 243 [.ref x, .int a0, .int a1, .ref o] h Q := by
  have c1 : 3 ≤ 3 := by decide
  have c2 : 18 ≤ 18 := by decide
  have c0 : (0 : Int32).toNatClampNeg = 0 := rfl
  rw [ze_243]
  simp only [zs_243_0, zs_243_0u, zs_243_1, zs_243_2, zs_243_2u, zs_243_3, zs_243_4, zs_243_5, zt_243_5, zs_243_8, zs_243_9, zs_243_10, zs_243_13, zs_243_13u, zs_243_15, zs_243_16, zs_243_17, zs_243_17u, zs_243_19, zs_243_20, zs_243_21, zs_243_21u, zs_243_23, zs_243_24, zs_243_25, zs_243_26, zc_isO, zr_fld_mk, zc_isA, zc_len, zr_elt_mk, zr_kill_i, zr_kill_l, zr_kill_r, zr_kill_u, zr_kill_f, zr_kill_n, zc_cat, zr_cat_i, zr_cat_l, zr_cat_r, zr_cat_f, zr_cat_d, zr_cat_u, beq_self_eq_true, Nat.zero_le, Nat.le_refl, Nat.reduceSub, Nat.reduceAdd, Nat.reduceLeDiff, csl_f, csr_f, cn_f, lg_cmp_eq, lg_cmp_le, lg_cmp_lt, lg_cmp_ge, lg_cmp_gt, nI_1, zr_up_self, zp_O, zr_fup_self, zr_fup_ne, ne_eq, Nat.reduceEqDiff, not_false_eq_true, pk_mul, hX, c1, c2]
  refine zr_E_mono hc (fun r h' k => ?_)
  rcases r with (_ | v) | E
  · exact k.elim
  · cases v with
    | int v =>
      obtain ⟨k1, k2, k3⟩ := k
      simp only [zs_243_0, zs_243_0u, zs_243_1, zs_243_2, zs_243_2u, zs_243_3, zs_243_4, zs_243_5, zt_243_5, zs_243_8, zs_243_9, zs_243_10, zs_243_13, zs_243_13u, zs_243_15, zs_243_16, zs_243_17, zs_243_17u, zs_243_19, zs_243_20, zs_243_21, zs_243_21u, zs_243_23, zs_243_24, zs_243_25, zs_243_26, zc_isO, zr_fld_mk, zc_isA, zc_len, zr_elt_mk, zr_kill_i, zr_kill_l, zr_kill_r, zr_kill_u, zr_kill_f, zr_kill_n, zc_cat, zr_cat_i, zr_cat_l, zr_cat_r, zr_cat_f, zr_cat_d, zr_cat_u, beq_self_eq_true, Nat.zero_le, Nat.le_refl, Nat.reduceSub, Nat.reduceAdd, Nat.reduceLeDiff, csl_f, csr_f, cn_f, lg_cmp_eq, lg_cmp_le, lg_cmp_lt, lg_cmp_ge, lg_cmp_gt, nI_1, zr_up_self, zp_O, zr_fup_self, zr_fup_ne, ne_eq, Nat.reduceEqDiff, not_false_eq_true, pk_mul, k1, k2, c0]
      exact k3
    | _ => exact k.elim
  · obtain ⟨ke, k3⟩ := k
    simp only [List.mem_cons, List.not_mem_nil, or_false] at ke
    rcases ke with e | e | e
    · subst e
      rw [zk_catch zf_hh_243 zf_mo_243 (by rfl)]
      intro q2
      simp only [zs_243_0, zs_243_0u, zs_243_1, zs_243_2, zs_243_2u, zs_243_3, zs_243_4, zs_243_5, zt_243_5, zs_243_8, zs_243_9, zs_243_10, zs_243_13, zs_243_13u, zs_243_15, zs_243_16, zs_243_17, zs_243_17u, zs_243_19, zs_243_20, zs_243_21, zs_243_21u, zs_243_23, zs_243_24, zs_243_25, zs_243_26, zc_isO, zr_fld_mk, zc_isA, zc_len, zr_elt_mk, zr_kill_i, zr_kill_l, zr_kill_r, zr_kill_u, zr_kill_f, zr_kill_n, zc_cat, zr_cat_i, zr_cat_l, zr_cat_r, zr_cat_f, zr_cat_d, zr_cat_u, beq_self_eq_true, Nat.zero_le, Nat.le_refl, Nat.reduceSub, Nat.reduceAdd, Nat.reduceLeDiff, csl_f, csr_f, cn_f, lg_cmp_eq, lg_cmp_le, lg_cmp_lt, lg_cmp_ge, lg_cmp_gt, nI_1, zr_up_self, zp_O, zr_fup_self, zr_fup_ne, ne_eq, Nat.reduceEqDiff, not_false_eq_true, pk_mul]
      exact k3
    · subst e
      rw [zk_catch zf_hh_243 zf_mo_243 (by rfl)]
      intro q2
      simp only [zs_243_0, zs_243_0u, zs_243_1, zs_243_2, zs_243_2u, zs_243_3, zs_243_4, zs_243_5, zt_243_5, zs_243_8, zs_243_9, zs_243_10, zs_243_13, zs_243_13u, zs_243_15, zs_243_16, zs_243_17, zs_243_17u, zs_243_19, zs_243_20, zs_243_21, zs_243_21u, zs_243_23, zs_243_24, zs_243_25, zs_243_26, zc_isO, zr_fld_mk, zc_isA, zc_len, zr_elt_mk, zr_kill_i, zr_kill_l, zr_kill_r, zr_kill_u, zr_kill_f, zr_kill_n, zc_cat, zr_cat_i, zr_cat_l, zr_cat_r, zr_cat_f, zr_cat_d, zr_cat_u, beq_self_eq_true, Nat.zero_le, Nat.le_refl, Nat.reduceSub, Nat.reduceAdd, Nat.reduceLeDiff, csl_f, csr_f, cn_f, lg_cmp_eq, lg_cmp_le, lg_cmp_lt, lg_cmp_ge, lg_cmp_gt, nI_1, zr_up_self, zp_O, zr_fup_self, zr_fup_ne, ne_eq, Nat.reduceEqDiff, not_false_eq_true, pk_mul]
      exact k3
    · subst e
      rw [zk_catch zf_hh_243 zf_mo_243 (by rfl)]
      intro q2
      simp only [zs_243_0, zs_243_0u, zs_243_1, zs_243_2, zs_243_2u, zs_243_3, zs_243_4, zs_243_5, zt_243_5, zs_243_8, zs_243_9, zs_243_10, zs_243_13, zs_243_13u, zs_243_15, zs_243_16, zs_243_17, zs_243_17u, zs_243_19, zs_243_20, zs_243_21, zs_243_21u, zs_243_23, zs_243_24, zs_243_25, zs_243_26, zc_isO, zr_fld_mk, zc_isA, zc_len, zr_elt_mk, zr_kill_i, zr_kill_l, zr_kill_r, zr_kill_u, zr_kill_f, zr_kill_n, zc_cat, zr_cat_i, zr_cat_l, zr_cat_r, zr_cat_f, zr_cat_d, zr_cat_u, beq_self_eq_true, Nat.zero_le, Nat.le_refl, Nat.reduceSub, Nat.reduceAdd, Nat.reduceLeDiff, csl_f, csr_f, cn_f, lg_cmp_eq, lg_cmp_le, lg_cmp_lt, lg_cmp_ge, lg_cmp_gt, nI_1, zr_up_self, zp_O, zr_fup_self, zr_fup_ne, ne_eq, Nat.reduceEqDiff, not_false_eq_true, pk_mul]
      exact k3
/-- isSharedEye -/
theorem k_w244 (hX : zr_isO (h x) 6 = true) (hc : zr_E d 97 [.ref x, .int a0] h (wB o [2] Q)) : zr_E (d + 1) 244 [.ref x, .int a0, .ref o] h Q := by
  have c1 : 1 ≤ 1 := by decide
  have c2 : 6 ≤ 6 := by decide
  have c0 : (0 : Int32).toNatClampNeg = 0 := rfl
  rw [ze_244]
  simp only [zs_244_0, zs_244_0u, zs_244_1, zs_244_2, zs_244_2u, zs_244_3, zs_244_4, zt_244_4, zs_244_7, zs_244_10, zs_244_11, zs_244_14, zs_244_15, zs_244_16, zs_244_19, zs_244_19u, zs_244_20, zs_244_21, zs_244_22, zs_244_23, zc_isO, zr_fld_mk, zc_isA, zc_len, zr_elt_mk, zr_kill_i, zr_kill_l, zr_kill_r, zr_kill_u, zr_kill_f, zr_kill_n, zc_cat, zr_cat_i, zr_cat_l, zr_cat_r, zr_cat_f, zr_cat_d, zr_cat_u, beq_self_eq_true, Nat.zero_le, Nat.le_refl, Nat.reduceSub, Nat.reduceAdd, Nat.reduceLeDiff, csl_f, csr_f, cn_f, lg_cmp_eq, lg_cmp_le, lg_cmp_lt, lg_cmp_ge, lg_cmp_gt, nI_1, zr_up_self, zp_O, zr_fup_self, zr_fup_ne, ne_eq, Nat.reduceEqDiff, not_false_eq_true, pk_mul, hX, c1, c2]
  refine zr_E_mono hc (fun r h' k => ?_)
  rcases r with (_ | v) | E
  · exact k.elim
  · cases v with
    | int v =>
      obtain ⟨kb, k1, k2, k3⟩ := k
      simp only [zs_244_0, zs_244_0u, zs_244_1, zs_244_2, zs_244_2u, zs_244_3, zs_244_4, zt_244_4, zs_244_7, zs_244_11, zs_244_15, zs_244_16, zs_244_19, zs_244_19u, zs_244_20, zs_244_21, zs_244_22, zs_244_23, zc_isO, zr_fld_mk, zc_isA, zc_len, zr_elt_mk, zr_kill_i, zr_kill_l, zr_kill_r, zr_kill_u, zr_kill_f, zr_kill_n, zc_cat, zr_cat_i, zr_cat_l, zr_cat_r, zr_cat_f, zr_cat_d, zr_cat_u, beq_self_eq_true, Nat.zero_le, Nat.le_refl, Nat.reduceSub, Nat.reduceAdd, Nat.reduceLeDiff, csl_f, csr_f, cn_f, lg_cmp_eq, lg_cmp_le, lg_cmp_lt, lg_cmp_ge, lg_cmp_gt, nI_1, zr_up_self, zp_O, zr_fup_self, zr_fup_ne, ne_eq, Nat.reduceEqDiff, not_false_eq_true, pk_mul, k1, k2, c0]
      rcases kb with kb | kb <;> subst kb
      · refine ⟨fun _ => ?_, fun y => absurd rfl y⟩
        simp only [zs_244_0, zs_244_0u, zs_244_1, zs_244_2, zs_244_2u, zs_244_3, zs_244_4, zt_244_4, zs_244_7, zs_244_10, zs_244_11, zs_244_14, zs_244_15, zs_244_16, zs_244_19, zs_244_19u, zs_244_20, zs_244_21, zs_244_22, zs_244_23, zc_isO, zr_fld_mk, zc_isA, zc_len, zr_elt_mk, zr_kill_i, zr_kill_l, zr_kill_r, zr_kill_u, zr_kill_f, zr_kill_n, zc_cat, zr_cat_i, zr_cat_l, zr_cat_r, zr_cat_f, zr_cat_d, zr_cat_u, beq_self_eq_true, Nat.zero_le, Nat.le_refl, Nat.reduceSub, Nat.reduceAdd, Nat.reduceLeDiff, csl_f, csr_f, cn_f, lg_cmp_eq, lg_cmp_le, lg_cmp_lt, lg_cmp_ge, lg_cmp_gt, nI_1, zr_up_self, zp_O, zr_fup_self, zr_fup_ne, ne_eq, Nat.reduceEqDiff, not_false_eq_true, pk_mul, k1, k2, c0]
        exact k3
      · refine ⟨fun y => absurd y (by decide), fun _ => ?_⟩
        simp only [zs_244_0, zs_244_0u, zs_244_1, zs_244_2, zs_244_2u, zs_244_3, zs_244_4, zt_244_4, zs_244_7, zs_244_10, zs_244_11, zs_244_14, zs_244_15, zs_244_16, zs_244_19, zs_244_19u, zs_244_20, zs_244_21, zs_244_22, zs_244_23, zc_isO, zr_fld_mk, zc_isA, zc_len, zr_elt_mk, zr_kill_i, zr_kill_l, zr_kill_r, zr_kill_u, zr_kill_f, zr_kill_n, zc_cat, zr_cat_i, zr_cat_l, zr_cat_r, zr_cat_f, zr_cat_d, zr_cat_u, beq_self_eq_true, Nat.zero_le, Nat.le_refl, Nat.reduceSub, Nat.reduceAdd, Nat.reduceLeDiff, csl_f, csr_f, cn_f, lg_cmp_eq, lg_cmp_le, lg_cmp_lt, lg_cmp_ge, lg_cmp_gt, nI_1, zr_up_self, zp_O, zr_fup_self, zr_fup_ne, ne_eq, Nat.reduceEqDiff, not_false_eq_true, pk_mul, k1, k2, c0]
        exact k3
    | _ => exact k.elim
  · obtain ⟨ke, k3⟩ := k
    simp only [List.mem_cons, List.not_mem_nil, or_false] at ke
    subst ke
    rw [zk_catch zf_hh_244 zf_mo_244 (by rfl)]
    intro q2
    simp only [zs_244_0, zs_244_0u, zs_244_1, zs_244_2, zs_244_2u, zs_244_3, zs_244_4, zt_244_4, zs_244_7, zs_244_10, zs_244_11, zs_244_14, zs_244_15, zs_244_16, zs_244_19, zs_244_19u, zs_244_20, zs_244_21, zs_244_22, zs_244_23, zc_isO, zr_fld_mk, zc_isA, zc_len, zr_elt_mk, zr_kill_i, zr_kill_l, zr_kill_r, zr_kill_u, zr_kill_f, zr_kill_n, zc_cat, zr_cat_i, zr_cat_l, zr_cat_r, zr_cat_f, zr_cat_d, zr_cat_u, beq_self_eq_true, Nat.zero_le, Nat.le_refl, Nat.reduceSub, Nat.reduceAdd, Nat.reduceLeDiff, csl_f, csr_f, cn_f, lg_cmp_eq, lg_cmp_le, lg_cmp_lt, lg_cmp_ge, lg_cmp_gt, nI_1, zr_up_self, zp_O, zr_fup_self, zr_fup_ne, ne_eq, Nat.reduceEqDiff, not_false_eq_true, pk_mul]
    exact k3
/-- isStandoff -/
theorem k_w245 (hX : zr_isO (h x) 6 = true) (hc : zr_E d 98 [.ref x, .int a0] h (wB o [2] Q)) : zr_E (d + 1) 245 [.ref x, .int a0, .ref o] h Q := by
  have c1 : 1 ≤ 1 := by decide
  have c2 : 6 ≤ 6 := by decide
  have c0 : (0 : Int32).toNatClampNeg = 0 := rfl
  rw [ze_245]
  simp only [zs_245_0, zs_245_0u, zs_245_1, zs_245_2, zs_245_2u, zs_245_3, zs_245_4, zt_245_4, zs_245_7, zs_245_10, zs_245_11, zs_245_14, zs_245_15, zs_245_16, zs_245_19, zs_245_19u, zs_245_20, zs_245_21, zs_245_22, zs_245_23, zc_isO, zr_fld_mk, zc_isA, zc_len, zr_elt_mk, zr_kill_i, zr_kill_l, zr_kill_r, zr_kill_u, zr_kill_f, zr_kill_n, zc_cat, zr_cat_i, zr_cat_l, zr_cat_r, zr_cat_f, zr_cat_d, zr_cat_u, beq_self_eq_true, Nat.zero_le, Nat.le_refl, Nat.reduceSub, Nat.reduceAdd, Nat.reduceLeDiff, csl_f, csr_f, cn_f, lg_cmp_eq, lg_cmp_le, lg_cmp_lt, lg_cmp_ge, lg_cmp_gt, nI_1, zr_up_self, zp_O, zr_fup_self, zr_fup_ne, ne_eq, Nat.reduceEqDiff, not_false_eq_true, pk_mul, hX, c1, c2]
  refine zr_E_mono hc (fun r h' k => ?_)
  rcases r with (_ | v) | E
  · exact k.elim
  · cases v with
    | int v =>
      obtain ⟨kb, k1, k2, k3⟩ := k
      simp only [zs_245_0, zs_245_0u, zs_245_1, zs_245_2, zs_245_2u, zs_245_3, zs_245_4, zt_245_4, zs_245_7, zs_245_11, zs_245_15, zs_245_16, zs_245_19, zs_245_19u, zs_245_20, zs_245_21, zs_245_22, zs_245_23, zc_isO, zr_fld_mk, zc_isA, zc_len, zr_elt_mk, zr_kill_i, zr_kill_l, zr_kill_r, zr_kill_u, zr_kill_f, zr_kill_n, zc_cat, zr_cat_i, zr_cat_l, zr_cat_r, zr_cat_f, zr_cat_d, zr_cat_u, beq_self_eq_true, Nat.zero_le, Nat.le_refl, Nat.reduceSub, Nat.reduceAdd, Nat.reduceLeDiff, csl_f, csr_f, cn_f, lg_cmp_eq, lg_cmp_le, lg_cmp_lt, lg_cmp_ge, lg_cmp_gt, nI_1, zr_up_self, zp_O, zr_fup_self, zr_fup_ne, ne_eq, Nat.reduceEqDiff, not_false_eq_true, pk_mul, k1, k2, c0]
      rcases kb with kb | kb <;> subst kb
      · refine ⟨fun _ => ?_, fun y => absurd rfl y⟩
        simp only [zs_245_0, zs_245_0u, zs_245_1, zs_245_2, zs_245_2u, zs_245_3, zs_245_4, zt_245_4, zs_245_7, zs_245_10, zs_245_11, zs_245_14, zs_245_15, zs_245_16, zs_245_19, zs_245_19u, zs_245_20, zs_245_21, zs_245_22, zs_245_23, zc_isO, zr_fld_mk, zc_isA, zc_len, zr_elt_mk, zr_kill_i, zr_kill_l, zr_kill_r, zr_kill_u, zr_kill_f, zr_kill_n, zc_cat, zr_cat_i, zr_cat_l, zr_cat_r, zr_cat_f, zr_cat_d, zr_cat_u, beq_self_eq_true, Nat.zero_le, Nat.le_refl, Nat.reduceSub, Nat.reduceAdd, Nat.reduceLeDiff, csl_f, csr_f, cn_f, lg_cmp_eq, lg_cmp_le, lg_cmp_lt, lg_cmp_ge, lg_cmp_gt, nI_1, zr_up_self, zp_O, zr_fup_self, zr_fup_ne, ne_eq, Nat.reduceEqDiff, not_false_eq_true, pk_mul, k1, k2, c0]
        exact k3
      · refine ⟨fun y => absurd y (by decide), fun _ => ?_⟩
        simp only [zs_245_0, zs_245_0u, zs_245_1, zs_245_2, zs_245_2u, zs_245_3, zs_245_4, zt_245_4, zs_245_7, zs_245_10, zs_245_11, zs_245_14, zs_245_15, zs_245_16, zs_245_19, zs_245_19u, zs_245_20, zs_245_21, zs_245_22, zs_245_23, zc_isO, zr_fld_mk, zc_isA, zc_len, zr_elt_mk, zr_kill_i, zr_kill_l, zr_kill_r, zr_kill_u, zr_kill_f, zr_kill_n, zc_cat, zr_cat_i, zr_cat_l, zr_cat_r, zr_cat_f, zr_cat_d, zr_cat_u, beq_self_eq_true, Nat.zero_le, Nat.le_refl, Nat.reduceSub, Nat.reduceAdd, Nat.reduceLeDiff, csl_f, csr_f, cn_f, lg_cmp_eq, lg_cmp_le, lg_cmp_lt, lg_cmp_ge, lg_cmp_gt, nI_1, zr_up_self, zp_O, zr_fup_self, zr_fup_ne, ne_eq, Nat.reduceEqDiff, not_false_eq_true, pk_mul, k1, k2, c0]
        exact k3
    | _ => exact k.elim
  · obtain ⟨ke, k3⟩ := k
    simp only [List.mem_cons, List.not_mem_nil, or_false] at ke
    subst ke
    rw [zk_catch zf_hh_245 zf_mo_245 (by rfl)]
    intro q2
    simp only [zs_245_0, zs_245_0u, zs_245_1, zs_245_2, zs_245_2u, zs_245_3, zs_245_4, zt_245_4, zs_245_7, zs_245_10, zs_245_11, zs_245_14, zs_245_15, zs_245_16, zs_245_19, zs_245_19u, zs_245_20, zs_245_21, zs_245_22, zs_245_23, zc_isO, zr_fld_mk, zc_isA, zc_len, zr_elt_mk, zr_kill_i, zr_kill_l, zr_kill_r, zr_kill_u, zr_kill_f, zr_kill_n, zc_cat, zr_cat_i, zr_cat_l, zr_cat_r, zr_cat_f, zr_cat_d, zr_cat_u, beq_self_eq_true, Nat.zero_le, Nat.le_refl, Nat.reduceSub, Nat.reduceAdd, Nat.reduceLeDiff, csl_f, csr_f, cn_f, lg_cmp_eq, lg_cmp_le, lg_cmp_lt, lg_cmp_ge, lg_cmp_gt, nI_1, zr_up_self, zp_O, zr_fup_self, zr_fup_ne, ne_eq, Nat.reduceEqDiff, not_false_eq_true, pk_mul]
    exact k3
/-- isAlive -/
theorem k_w246 (hX : zr_isO (h x) 6 = true) (hc : zr_E d 99 [.ref x, .int a0] h (wB o [2] Q)) : zr_E (d + 1) 246 [.ref x, .int a0, .ref o] h Q := by
  have c1 : 1 ≤ 1 := by decide
  have c2 : 6 ≤ 6 := by decide
  have c0 : (0 : Int32).toNatClampNeg = 0 := rfl
  rw [ze_246]
  simp only [zs_246_0, zs_246_0u, zs_246_1, zs_246_2, zs_246_2u, zs_246_3, zs_246_4, zt_246_4, zs_246_7, zs_246_10, zs_246_11, zs_246_14, zs_246_15, zs_246_16, zs_246_19, zs_246_19u, zs_246_20, zs_246_21, zs_246_22, zs_246_23, zc_isO, zr_fld_mk, zc_isA, zc_len, zr_elt_mk, zr_kill_i, zr_kill_l, zr_kill_r, zr_kill_u, zr_kill_f, zr_kill_n, zc_cat, zr_cat_i, zr_cat_l, zr_cat_r, zr_cat_f, zr_cat_d, zr_cat_u, beq_self_eq_true, Nat.zero_le, Nat.le_refl, Nat.reduceSub, Nat.reduceAdd, Nat.reduceLeDiff, csl_f, csr_f, cn_f, lg_cmp_eq, lg_cmp_le, lg_cmp_lt, lg_cmp_ge, lg_cmp_gt, nI_1, zr_up_self, zp_O, zr_fup_self, zr_fup_ne, ne_eq, Nat.reduceEqDiff, not_false_eq_true, pk_mul, hX, c1, c2]
  refine zr_E_mono hc (fun r h' k => ?_)
  rcases r with (_ | v) | E
  · exact k.elim
  · cases v with
    | int v =>
      obtain ⟨kb, k1, k2, k3⟩ := k
      simp only [zs_246_0, zs_246_0u, zs_246_1, zs_246_2, zs_246_2u, zs_246_3, zs_246_4, zt_246_4, zs_246_7, zs_246_11, zs_246_15, zs_246_16, zs_246_19, zs_246_19u, zs_246_20, zs_246_21, zs_246_22, zs_246_23, zc_isO, zr_fld_mk, zc_isA, zc_len, zr_elt_mk, zr_kill_i, zr_kill_l, zr_kill_r, zr_kill_u, zr_kill_f, zr_kill_n, zc_cat, zr_cat_i, zr_cat_l, zr_cat_r, zr_cat_f, zr_cat_d, zr_cat_u, beq_self_eq_true, Nat.zero_le, Nat.le_refl, Nat.reduceSub, Nat.reduceAdd, Nat.reduceLeDiff, csl_f, csr_f, cn_f, lg_cmp_eq, lg_cmp_le, lg_cmp_lt, lg_cmp_ge, lg_cmp_gt, nI_1, zr_up_self, zp_O, zr_fup_self, zr_fup_ne, ne_eq, Nat.reduceEqDiff, not_false_eq_true, pk_mul, k1, k2, c0]
      rcases kb with kb | kb <;> subst kb
      · refine ⟨fun _ => ?_, fun y => absurd rfl y⟩
        simp only [zs_246_0, zs_246_0u, zs_246_1, zs_246_2, zs_246_2u, zs_246_3, zs_246_4, zt_246_4, zs_246_7, zs_246_10, zs_246_11, zs_246_14, zs_246_15, zs_246_16, zs_246_19, zs_246_19u, zs_246_20, zs_246_21, zs_246_22, zs_246_23, zc_isO, zr_fld_mk, zc_isA, zc_len, zr_elt_mk, zr_kill_i, zr_kill_l, zr_kill_r, zr_kill_u, zr_kill_f, zr_kill_n, zc_cat, zr_cat_i, zr_cat_l, zr_cat_r, zr_cat_f, zr_cat_d, zr_cat_u, beq_self_eq_true, Nat.zero_le, Nat.le_refl, Nat.reduceSub, Nat.reduceAdd, Nat.reduceLeDiff, csl_f, csr_f, cn_f, lg_cmp_eq, lg_cmp_le, lg_cmp_lt, lg_cmp_ge, lg_cmp_gt, nI_1, zr_up_self, zp_O, zr_fup_self, zr_fup_ne, ne_eq, Nat.reduceEqDiff, not_false_eq_true, pk_mul, k1, k2, c0]
        exact k3
      · refine ⟨fun y => absurd y (by decide), fun _ => ?_⟩
        simp only [zs_246_0, zs_246_0u, zs_246_1, zs_246_2, zs_246_2u, zs_246_3, zs_246_4, zt_246_4, zs_246_7, zs_246_10, zs_246_11, zs_246_14, zs_246_15, zs_246_16, zs_246_19, zs_246_19u, zs_246_20, zs_246_21, zs_246_22, zs_246_23, zc_isO, zr_fld_mk, zc_isA, zc_len, zr_elt_mk, zr_kill_i, zr_kill_l, zr_kill_r, zr_kill_u, zr_kill_f, zr_kill_n, zc_cat, zr_cat_i, zr_cat_l, zr_cat_r, zr_cat_f, zr_cat_d, zr_cat_u, beq_self_eq_true, Nat.zero_le, Nat.le_refl, Nat.reduceSub, Nat.reduceAdd, Nat.reduceLeDiff, csl_f, csr_f, cn_f, lg_cmp_eq, lg_cmp_le, lg_cmp_lt, lg_cmp_ge, lg_cmp_gt, nI_1, zr_up_self, zp_O, zr_fup_self, zr_fup_ne, ne_eq, Nat.reduceEqDiff, not_false_eq_true, pk_mul, k1, k2, c0]
        exact k3
    | _ => exact k.elim
  · obtain ⟨ke, k3⟩ := k
    simp only [List.mem_cons, List.not_mem_nil, or_false] at ke
    subst ke
    rw [zk_catch zf_hh_246 zf_mo_246 (by rfl)]
    intro q2
    simp only [zs_246_0, zs_246_0u, zs_246_1, zs_246_2, zs_246_2u, zs_246_3, zs_246_4, zt_246_4, zs_246_7, zs_246_10, zs_246_11, zs_246_14, zs_246_15, zs_246_16, zs_246_19, zs_246_19u, zs_246_20, zs_246_21, zs_246_22, zs_246_23, zc_isO, zr_fld_mk, zc_isA, zc_len, zr_elt_mk, zr_kill_i, zr_kill_l, zr_kill_r, zr_kill_u, zr_kill_f, zr_kill_n, zc_cat, zr_cat_i, zr_cat_l, zr_cat_r, zr_cat_f, zr_cat_d, zr_cat_u, beq_self_eq_true, Nat.zero_le, Nat.le_refl, Nat.reduceSub, Nat.reduceAdd, Nat.reduceLeDiff, csl_f, csr_f, cn_f, lg_cmp_eq, lg_cmp_le, lg_cmp_lt, lg_cmp_ge, lg_cmp_gt, nI_1, zr_up_self, zp_O, zr_fup_self, zr_fup_ne, ne_eq, Nat.reduceEqDiff, not_false_eq_true, pk_mul]
    exact k3
/-- alive -/
theorem k_w247 (hX : zr_isO (h x) 6 = true) (hc : zr_E d 100 [.ref x, .int a0] h (wK o [1] Q)) : zr_E (d + 1) 247 [.ref x, .int a0, .ref o] h Q := by
  have c1 : 1 ≤ 1 := by decide
  have c2 : 6 ≤ 6 := by decide
  have c0 : (0 : Int32).toNatClampNeg = 0 := rfl
  rw [ze_247]
  simp only [zs_247_0, zs_247_0u, zs_247_1, zs_247_2, zs_247_2u, zs_247_3, zs_247_4, zt_247_4, zs_247_7, zs_247_8, zs_247_9, zs_247_12, zs_247_12u, zs_247_13, zs_247_14, zs_247_15, zs_247_16, zc_isO, zr_fld_mk, zc_isA, zc_len, zr_elt_mk, zr_kill_i, zr_kill_l, zr_kill_r, zr_kill_u, zr_kill_f, zr_kill_n, zc_cat, zr_cat_i, zr_cat_l, zr_cat_r, zr_cat_f, zr_cat_d, zr_cat_u, beq_self_eq_true, Nat.zero_le, Nat.le_refl, Nat.reduceSub, Nat.reduceAdd, Nat.reduceLeDiff, csl_f, csr_f, cn_f, lg_cmp_eq, lg_cmp_le, lg_cmp_lt, lg_cmp_ge, lg_cmp_gt, nI_1, zr_up_self, zp_O, zr_fup_self, zr_fup_ne, ne_eq, Nat.reduceEqDiff, not_false_eq_true, pk_mul, hX, c1, c2]
  refine zr_E_mono hc (fun r h' k => ?_)
  rcases r with (_ | v) | E
  · exact k.elim
  · cases v with
    | int v =>
      obtain ⟨k1, k2, k3⟩ := k
      simp only [zs_247_0, zs_247_0u, zs_247_1, zs_247_2, zs_247_2u, zs_247_3, zs_247_4, zt_247_4, zs_247_7, zs_247_8, zs_247_9, zs_247_12, zs_247_12u, zs_247_13, zs_247_14, zs_247_15, zs_247_16, zc_isO, zr_fld_mk, zc_isA, zc_len, zr_elt_mk, zr_kill_i, zr_kill_l, zr_kill_r, zr_kill_u, zr_kill_f, zr_kill_n, zc_cat, zr_cat_i, zr_cat_l, zr_cat_r, zr_cat_f, zr_cat_d, zr_cat_u, beq_self_eq_true, Nat.zero_le, Nat.le_refl, Nat.reduceSub, Nat.reduceAdd, Nat.reduceLeDiff, csl_f, csr_f, cn_f, lg_cmp_eq, lg_cmp_le, lg_cmp_lt, lg_cmp_ge, lg_cmp_gt, nI_1, zr_up_self, zp_O, zr_fup_self, zr_fup_ne, ne_eq, Nat.reduceEqDiff, not_false_eq_true, pk_mul, k1, k2, c0]
      exact k3
    | _ => exact k.elim
  · obtain ⟨ke, k3⟩ := k
    simp only [List.mem_cons, List.not_mem_nil, or_false] at ke
    subst ke
    rw [zk_catch zf_hh_247 zf_mo_247 (by rfl)]
    intro q2
    simp only [zs_247_0, zs_247_0u, zs_247_1, zs_247_2, zs_247_2u, zs_247_3, zs_247_4, zt_247_4, zs_247_7, zs_247_8, zs_247_9, zs_247_12, zs_247_12u, zs_247_13, zs_247_14, zs_247_15, zs_247_16, zc_isO, zr_fld_mk, zc_isA, zc_len, zr_elt_mk, zr_kill_i, zr_kill_l, zr_kill_r, zr_kill_u, zr_kill_f, zr_kill_n, zc_cat, zr_cat_i, zr_cat_l, zr_cat_r, zr_cat_f, zr_cat_d, zr_cat_u, beq_self_eq_true, Nat.zero_le, Nat.le_refl, Nat.reduceSub, Nat.reduceAdd, Nat.reduceLeDiff, csl_f, csr_f, cn_f, lg_cmp_eq, lg_cmp_le, lg_cmp_lt, lg_cmp_ge, lg_cmp_gt, nI_1, zr_up_self, zp_O, zr_fup_self, zr_fup_ne, ne_eq, Nat.reduceEqDiff, not_false_eq_true, pk_mul]
    exact k3
/-- caughtBy -/
theorem k_w248 (hX : zr_isO (h x) 6 = true) (hc : zr_E d 101 [.ref x, .int a0] h (wK o [2, 3] Q)) : zr_E (d + 1) 248 [.ref x, .int a0, .ref o] h Q := by
  have c1 : 2 ≤ 2 := by decide
  have c2 : 12 ≤ 12 := by decide
  have c0 : (0 : Int32).toNatClampNeg = 0 := rfl
  rw [ze_248]
  simp only [zs_248_0, zs_248_0u, zs_248_1, zs_248_2, zs_248_2u, zs_248_3, zs_248_4, zt_248_4, zs_248_7, zs_248_8, zs_248_9, zs_248_12, zs_248_12u, zs_248_13, zs_248_14, zs_248_15, zs_248_15u, zs_248_16, zs_248_17, zs_248_18, zs_248_19, zc_isO, zr_fld_mk, zc_isA, zc_len, zr_elt_mk, zr_kill_i, zr_kill_l, zr_kill_r, zr_kill_u, zr_kill_f, zr_kill_n, zc_cat, zr_cat_i, zr_cat_l, zr_cat_r, zr_cat_f, zr_cat_d, zr_cat_u, beq_self_eq_true, Nat.zero_le, Nat.le_refl, Nat.reduceSub, Nat.reduceAdd, Nat.reduceLeDiff, csl_f, csr_f, cn_f, lg_cmp_eq, lg_cmp_le, lg_cmp_lt, lg_cmp_ge, lg_cmp_gt, nI_1, zr_up_self, zp_O, zr_fup_self, zr_fup_ne, ne_eq, Nat.reduceEqDiff, not_false_eq_true, pk_mul, hX, c1, c2]
  refine zr_E_mono hc (fun r h' k => ?_)
  rcases r with (_ | v) | E
  · exact k.elim
  · cases v with
    | int v =>
      obtain ⟨k1, k2, k3⟩ := k
      simp only [zs_248_0, zs_248_0u, zs_248_1, zs_248_2, zs_248_2u, zs_248_3, zs_248_4, zt_248_4, zs_248_7, zs_248_8, zs_248_9, zs_248_12, zs_248_12u, zs_248_13, zs_248_14, zs_248_15, zs_248_15u, zs_248_16, zs_248_17, zs_248_18, zs_248_19, zc_isO, zr_fld_mk, zc_isA, zc_len, zr_elt_mk, zr_kill_i, zr_kill_l, zr_kill_r, zr_kill_u, zr_kill_f, zr_kill_n, zc_cat, zr_cat_i, zr_cat_l, zr_cat_r, zr_cat_f, zr_cat_d, zr_cat_u, beq_self_eq_true, Nat.zero_le, Nat.le_refl, Nat.reduceSub, Nat.reduceAdd, Nat.reduceLeDiff, csl_f, csr_f, cn_f, lg_cmp_eq, lg_cmp_le, lg_cmp_lt, lg_cmp_ge, lg_cmp_gt, nI_1, zr_up_self, zp_O, zr_fup_self, zr_fup_ne, ne_eq, Nat.reduceEqDiff, not_false_eq_true, pk_mul, k1, k2, c0]
      exact k3
    | _ => exact k.elim
  · obtain ⟨ke, k3⟩ := k
    simp only [List.mem_cons, List.not_mem_nil, or_false] at ke
    rcases ke with e | e
    · subst e
      rw [zk_catch zf_hh_248 zf_mo_248 (by rfl)]
      intro q2
      simp only [zs_248_0, zs_248_0u, zs_248_1, zs_248_2, zs_248_2u, zs_248_3, zs_248_4, zt_248_4, zs_248_7, zs_248_8, zs_248_9, zs_248_12, zs_248_12u, zs_248_13, zs_248_14, zs_248_15, zs_248_15u, zs_248_16, zs_248_17, zs_248_18, zs_248_19, zc_isO, zr_fld_mk, zc_isA, zc_len, zr_elt_mk, zr_kill_i, zr_kill_l, zr_kill_r, zr_kill_u, zr_kill_f, zr_kill_n, zc_cat, zr_cat_i, zr_cat_l, zr_cat_r, zr_cat_f, zr_cat_d, zr_cat_u, beq_self_eq_true, Nat.zero_le, Nat.le_refl, Nat.reduceSub, Nat.reduceAdd, Nat.reduceLeDiff, csl_f, csr_f, cn_f, lg_cmp_eq, lg_cmp_le, lg_cmp_lt, lg_cmp_ge, lg_cmp_gt, nI_1, zr_up_self, zp_O, zr_fup_self, zr_fup_ne, ne_eq, Nat.reduceEqDiff, not_false_eq_true, pk_mul]
      exact k3
    · subst e
      rw [zk_catch zf_hh_248 zf_mo_248 (by rfl)]
      intro q2
      simp only [zs_248_0, zs_248_0u, zs_248_1, zs_248_2, zs_248_2u, zs_248_3, zs_248_4, zt_248_4, zs_248_7, zs_248_8, zs_248_9, zs_248_12, zs_248_12u, zs_248_13, zs_248_14, zs_248_15, zs_248_15u, zs_248_16, zs_248_17, zs_248_18, zs_248_19, zc_isO, zr_fld_mk, zc_isA, zc_len, zr_elt_mk, zr_kill_i, zr_kill_l, zr_kill_r, zr_kill_u, zr_kill_f, zr_kill_n, zc_cat, zr_cat_i, zr_cat_l, zr_cat_r, zr_cat_f, zr_cat_d, zr_cat_u, beq_self_eq_true, Nat.zero_le, Nat.le_refl, Nat.reduceSub, Nat.reduceAdd, Nat.reduceLeDiff, csl_f, csr_f, cn_f, lg_cmp_eq, lg_cmp_le, lg_cmp_lt, lg_cmp_ge, lg_cmp_gt, nI_1, zr_up_self, zp_O, zr_fup_self, zr_fup_ne, ne_eq, Nat.reduceEqDiff, not_false_eq_true, pk_mul]
      exact k3
/-- area -/
theorem k_w249 (hX : zr_isO (h x) 6 = true) (hc : zr_E d 102 [.ref x, .int a0] h (wK o [1] Q)) : zr_E (d + 1) 249 [.ref x, .int a0, .ref o] h Q := by
  have c1 : 1 ≤ 1 := by decide
  have c2 : 6 ≤ 6 := by decide
  have c0 : (0 : Int32).toNatClampNeg = 0 := rfl
  rw [ze_249]
  simp only [zs_249_0, zs_249_0u, zs_249_1, zs_249_2, zs_249_2u, zs_249_3, zs_249_4, zt_249_4, zs_249_7, zs_249_8, zs_249_9, zs_249_12, zs_249_12u, zs_249_13, zs_249_14, zs_249_15, zs_249_16, zc_isO, zr_fld_mk, zc_isA, zc_len, zr_elt_mk, zr_kill_i, zr_kill_l, zr_kill_r, zr_kill_u, zr_kill_f, zr_kill_n, zc_cat, zr_cat_i, zr_cat_l, zr_cat_r, zr_cat_f, zr_cat_d, zr_cat_u, beq_self_eq_true, Nat.zero_le, Nat.le_refl, Nat.reduceSub, Nat.reduceAdd, Nat.reduceLeDiff, csl_f, csr_f, cn_f, lg_cmp_eq, lg_cmp_le, lg_cmp_lt, lg_cmp_ge, lg_cmp_gt, nI_1, zr_up_self, zp_O, zr_fup_self, zr_fup_ne, ne_eq, Nat.reduceEqDiff, not_false_eq_true, pk_mul, hX, c1, c2]
  refine zr_E_mono hc (fun r h' k => ?_)
  rcases r with (_ | v) | E
  · exact k.elim
  · cases v with
    | int v =>
      obtain ⟨k1, k2, k3⟩ := k
      simp only [zs_249_0, zs_249_0u, zs_249_1, zs_249_2, zs_249_2u, zs_249_3, zs_249_4, zt_249_4, zs_249_7, zs_249_8, zs_249_9, zs_249_12, zs_249_12u, zs_249_13, zs_249_14, zs_249_15, zs_249_16, zc_isO, zr_fld_mk, zc_isA, zc_len, zr_elt_mk, zr_kill_i, zr_kill_l, zr_kill_r, zr_kill_u, zr_kill_f, zr_kill_n, zc_cat, zr_cat_i, zr_cat_l, zr_cat_r, zr_cat_f, zr_cat_d, zr_cat_u, beq_self_eq_true, Nat.zero_le, Nat.le_refl, Nat.reduceSub, Nat.reduceAdd, Nat.reduceLeDiff, csl_f, csr_f, cn_f, lg_cmp_eq, lg_cmp_le, lg_cmp_lt, lg_cmp_ge, lg_cmp_gt, nI_1, zr_up_self, zp_O, zr_fup_self, zr_fup_ne, ne_eq, Nat.reduceEqDiff, not_false_eq_true, pk_mul, k1, k2, c0]
      exact k3
    | _ => exact k.elim
  · obtain ⟨ke, k3⟩ := k
    simp only [List.mem_cons, List.not_mem_nil, or_false] at ke
    subst ke
    rw [zk_catch zf_hh_249 zf_mo_249 (by rfl)]
    intro q2
    simp only [zs_249_0, zs_249_0u, zs_249_1, zs_249_2, zs_249_2u, zs_249_3, zs_249_4, zt_249_4, zs_249_7, zs_249_8, zs_249_9, zs_249_12, zs_249_12u, zs_249_13, zs_249_14, zs_249_15, zs_249_16, zc_isO, zr_fld_mk, zc_isA, zc_len, zr_elt_mk, zr_kill_i, zr_kill_l, zr_kill_r, zr_kill_u, zr_kill_f, zr_kill_n, zc_cat, zr_cat_i, zr_cat_l, zr_cat_r, zr_cat_f, zr_cat_d, zr_cat_u, beq_self_eq_true, Nat.zero_le, Nat.le_refl, Nat.reduceSub, Nat.reduceAdd, Nat.reduceLeDiff, csl_f, csr_f, cn_f, lg_cmp_eq, lg_cmp_le, lg_cmp_lt, lg_cmp_ge, lg_cmp_gt, nI_1, zr_up_self, zp_O, zr_fup_self, zr_fup_ne, ne_eq, Nat.reduceEqDiff, not_false_eq_true, pk_mul]
    exact k3
/-- share -/
theorem k_w250 (hX : zr_isO (h x) 6 = true) (hc : zr_E d 104 [.ref x, .int a0] h (wF o [1] Q)) : zr_E (d + 1) 250 [.ref x, .int a0, .ref o] h Q := by
  have c1 : 1 ≤ 1 := by decide
  have c2 : 6 ≤ 6 := by decide
  have c0 : (0 : Int32).toNatClampNeg = 0 := rfl
  rw [ze_250]
  simp only [zs_250_0, zs_250_0u, zs_250_1, zs_250_2, zs_250_2u, zs_250_3, zs_250_4, zt_250_4, zs_250_7, zs_250_8, zs_250_9, zs_250_12, zs_250_12u, zs_250_13, zs_250_14, zs_250_15, zs_250_16, zc_isO, zr_fld_mk, zc_isA, zc_len, zr_elt_mk, zr_kill_i, zr_kill_l, zr_kill_r, zr_kill_u, zr_kill_f, zr_kill_n, zc_cat, zr_cat_i, zr_cat_l, zr_cat_r, zr_cat_f, zr_cat_d, zr_cat_u, beq_self_eq_true, Nat.zero_le, Nat.le_refl, Nat.reduceSub, Nat.reduceAdd, Nat.reduceLeDiff, csl_f, csr_f, cn_f, lg_cmp_eq, lg_cmp_le, lg_cmp_lt, lg_cmp_ge, lg_cmp_gt, nI_1, zr_up_self, zp_O, zr_fup_self, zr_fup_ne, ne_eq, Nat.reduceEqDiff, not_false_eq_true, pk_mul, hX, c1, c2]
  refine zr_E_mono hc (fun r h' k => ?_)
  rcases r with (_ | v) | E
  · exact k.elim
  · cases v with
    | float v =>
      obtain ⟨kf, k1, k2, k3⟩ := k
      simp only [zs_250_0, zs_250_0u, zs_250_1, zs_250_2, zs_250_2u, zs_250_3, zs_250_4, zt_250_4, zs_250_7, zs_250_8, zs_250_9, zs_250_12, zs_250_12u, zs_250_13, zs_250_14, zs_250_15, zs_250_16, zc_isO, zr_fld_mk, zc_isA, zc_len, zr_elt_mk, zr_kill_i, zr_kill_l, zr_kill_r, zr_kill_u, zr_kill_f, zr_kill_n, zc_cat, zr_cat_i, zr_cat_l, zr_cat_r, zr_cat_f, zr_cat_d, zr_cat_u, beq_self_eq_true, Nat.zero_le, Nat.le_refl, Nat.reduceSub, Nat.reduceAdd, Nat.reduceLeDiff, csl_f, csr_f, cn_f, lg_cmp_eq, lg_cmp_le, lg_cmp_lt, lg_cmp_ge, lg_cmp_gt, nI_1, zr_up_self, zp_O, zr_fup_self, zr_fup_ne, ne_eq, Nat.reduceEqDiff, not_false_eq_true, pk_mul, kf, k1, k2, c0]
      exact k3
    | _ => exact k.elim
  · obtain ⟨ke, k3⟩ := k
    simp only [List.mem_cons, List.not_mem_nil, or_false] at ke
    subst ke
    rw [zk_catch zf_hh_250 zf_mo_250 (by rfl)]
    intro q2
    simp only [zs_250_0, zs_250_0u, zs_250_1, zs_250_2, zs_250_2u, zs_250_3, zs_250_4, zt_250_4, zs_250_7, zs_250_8, zs_250_9, zs_250_12, zs_250_12u, zs_250_13, zs_250_14, zs_250_15, zs_250_16, zc_isO, zr_fld_mk, zc_isA, zc_len, zr_elt_mk, zr_kill_i, zr_kill_l, zr_kill_r, zr_kill_u, zr_kill_f, zr_kill_n, zc_cat, zr_cat_i, zr_cat_l, zr_cat_r, zr_cat_f, zr_cat_d, zr_cat_u, beq_self_eq_true, Nat.zero_le, Nat.le_refl, Nat.reduceSub, Nat.reduceAdd, Nat.reduceLeDiff, csl_f, csr_f, cn_f, lg_cmp_eq, lg_cmp_le, lg_cmp_lt, lg_cmp_ge, lg_cmp_gt, nI_1, zr_up_self, zp_O, zr_fup_self, zr_fup_ne, ne_eq, Nat.reduceEqDiff, not_false_eq_true, pk_mul]
    exact k3
/-- writeRing -/
theorem k_w251 (hX : zr_isO (h x) 6 = true) (hc : zr_E d 105 [.ref x, .int a0] h (wK o [2] Q)) : zr_E (d + 1) 251 [.ref x, .int a0, .ref o] h Q := by
  have c1 : 1 ≤ 1 := by decide
  have c2 : 6 ≤ 6 := by decide
  have c0 : (0 : Int32).toNatClampNeg = 0 := rfl
  rw [ze_251]
  simp only [zs_251_0, zs_251_0u, zs_251_1, zs_251_2, zs_251_2u, zs_251_3, zs_251_4, zt_251_4, zs_251_7, zs_251_8, zs_251_9, zs_251_12, zs_251_12u, zs_251_13, zs_251_14, zs_251_15, zs_251_16, zc_isO, zr_fld_mk, zc_isA, zc_len, zr_elt_mk, zr_kill_i, zr_kill_l, zr_kill_r, zr_kill_u, zr_kill_f, zr_kill_n, zc_cat, zr_cat_i, zr_cat_l, zr_cat_r, zr_cat_f, zr_cat_d, zr_cat_u, beq_self_eq_true, Nat.zero_le, Nat.le_refl, Nat.reduceSub, Nat.reduceAdd, Nat.reduceLeDiff, csl_f, csr_f, cn_f, lg_cmp_eq, lg_cmp_le, lg_cmp_lt, lg_cmp_ge, lg_cmp_gt, nI_1, zr_up_self, zp_O, zr_fup_self, zr_fup_ne, ne_eq, Nat.reduceEqDiff, not_false_eq_true, pk_mul, hX, c1, c2]
  refine zr_E_mono hc (fun r h' k => ?_)
  rcases r with (_ | v) | E
  · exact k.elim
  · cases v with
    | int v =>
      obtain ⟨k1, k2, k3⟩ := k
      simp only [zs_251_0, zs_251_0u, zs_251_1, zs_251_2, zs_251_2u, zs_251_3, zs_251_4, zt_251_4, zs_251_7, zs_251_8, zs_251_9, zs_251_12, zs_251_12u, zs_251_13, zs_251_14, zs_251_15, zs_251_16, zc_isO, zr_fld_mk, zc_isA, zc_len, zr_elt_mk, zr_kill_i, zr_kill_l, zr_kill_r, zr_kill_u, zr_kill_f, zr_kill_n, zc_cat, zr_cat_i, zr_cat_l, zr_cat_r, zr_cat_f, zr_cat_d, zr_cat_u, beq_self_eq_true, Nat.zero_le, Nat.le_refl, Nat.reduceSub, Nat.reduceAdd, Nat.reduceLeDiff, csl_f, csr_f, cn_f, lg_cmp_eq, lg_cmp_le, lg_cmp_lt, lg_cmp_ge, lg_cmp_gt, nI_1, zr_up_self, zp_O, zr_fup_self, zr_fup_ne, ne_eq, Nat.reduceEqDiff, not_false_eq_true, pk_mul, k1, k2, c0]
      exact k3
    | _ => exact k.elim
  · obtain ⟨ke, k3⟩ := k
    simp only [List.mem_cons, List.not_mem_nil, or_false] at ke
    subst ke
    rw [zk_catch zf_hh_251 zf_mo_251 (by rfl)]
    intro q2
    simp only [zs_251_0, zs_251_0u, zs_251_1, zs_251_2, zs_251_2u, zs_251_3, zs_251_4, zt_251_4, zs_251_7, zs_251_8, zs_251_9, zs_251_12, zs_251_12u, zs_251_13, zs_251_14, zs_251_15, zs_251_16, zc_isO, zr_fld_mk, zc_isA, zc_len, zr_elt_mk, zr_kill_i, zr_kill_l, zr_kill_r, zr_kill_u, zr_kill_f, zr_kill_n, zc_cat, zr_cat_i, zr_cat_l, zr_cat_r, zr_cat_f, zr_cat_d, zr_cat_u, beq_self_eq_true, Nat.zero_le, Nat.le_refl, Nat.reduceSub, Nat.reduceAdd, Nat.reduceLeDiff, csl_f, csr_f, cn_f, lg_cmp_eq, lg_cmp_le, lg_cmp_lt, lg_cmp_ge, lg_cmp_gt, nI_1, zr_up_self, zp_O, zr_fup_self, zr_fup_ne, ne_eq, Nat.reduceEqDiff, not_false_eq_true, pk_mul]
    exact k3
/-- writtenByte -/
theorem k_w252 (hX : zr_isO (h x) 6 = true) (hc : zr_E d 106 [.ref x, .int a0] h (wK o [2] Q)) : zr_E (d + 1) 252 [.ref x, .int a0, .ref o] h Q := by
  have c1 : 1 ≤ 1 := by decide
  have c2 : 6 ≤ 6 := by decide
  have c0 : (0 : Int32).toNatClampNeg = 0 := rfl
  rw [ze_252]
  simp only [zs_252_0, zs_252_0u, zs_252_1, zs_252_2, zs_252_2u, zs_252_3, zs_252_4, zt_252_4, zs_252_7, zs_252_8, zs_252_9, zs_252_12, zs_252_12u, zs_252_13, zs_252_14, zs_252_15, zs_252_16, zc_isO, zr_fld_mk, zc_isA, zc_len, zr_elt_mk, zr_kill_i, zr_kill_l, zr_kill_r, zr_kill_u, zr_kill_f, zr_kill_n, zc_cat, zr_cat_i, zr_cat_l, zr_cat_r, zr_cat_f, zr_cat_d, zr_cat_u, beq_self_eq_true, Nat.zero_le, Nat.le_refl, Nat.reduceSub, Nat.reduceAdd, Nat.reduceLeDiff, csl_f, csr_f, cn_f, lg_cmp_eq, lg_cmp_le, lg_cmp_lt, lg_cmp_ge, lg_cmp_gt, nI_1, zr_up_self, zp_O, zr_fup_self, zr_fup_ne, ne_eq, Nat.reduceEqDiff, not_false_eq_true, pk_mul, hX, c1, c2]
  refine zr_E_mono hc (fun r h' k => ?_)
  rcases r with (_ | v) | E
  · exact k.elim
  · cases v with
    | int v =>
      obtain ⟨k1, k2, k3⟩ := k
      simp only [zs_252_0, zs_252_0u, zs_252_1, zs_252_2, zs_252_2u, zs_252_3, zs_252_4, zt_252_4, zs_252_7, zs_252_8, zs_252_9, zs_252_12, zs_252_12u, zs_252_13, zs_252_14, zs_252_15, zs_252_16, zc_isO, zr_fld_mk, zc_isA, zc_len, zr_elt_mk, zr_kill_i, zr_kill_l, zr_kill_r, zr_kill_u, zr_kill_f, zr_kill_n, zc_cat, zr_cat_i, zr_cat_l, zr_cat_r, zr_cat_f, zr_cat_d, zr_cat_u, beq_self_eq_true, Nat.zero_le, Nat.le_refl, Nat.reduceSub, Nat.reduceAdd, Nat.reduceLeDiff, csl_f, csr_f, cn_f, lg_cmp_eq, lg_cmp_le, lg_cmp_lt, lg_cmp_ge, lg_cmp_gt, nI_1, zr_up_self, zp_O, zr_fup_self, zr_fup_ne, ne_eq, Nat.reduceEqDiff, not_false_eq_true, pk_mul, k1, k2, c0]
      exact k3
    | _ => exact k.elim
  · obtain ⟨ke, k3⟩ := k
    simp only [List.mem_cons, List.not_mem_nil, or_false] at ke
    subst ke
    rw [zk_catch zf_hh_252 zf_mo_252 (by rfl)]
    intro q2
    simp only [zs_252_0, zs_252_0u, zs_252_1, zs_252_2, zs_252_2u, zs_252_3, zs_252_4, zt_252_4, zs_252_7, zs_252_8, zs_252_9, zs_252_12, zs_252_12u, zs_252_13, zs_252_14, zs_252_15, zs_252_16, zc_isO, zr_fld_mk, zc_isA, zc_len, zr_elt_mk, zr_kill_i, zr_kill_l, zr_kill_r, zr_kill_u, zr_kill_f, zr_kill_n, zc_cat, zr_cat_i, zr_cat_l, zr_cat_r, zr_cat_f, zr_cat_d, zr_cat_u, beq_self_eq_true, Nat.zero_le, Nat.le_refl, Nat.reduceSub, Nat.reduceAdd, Nat.reduceLeDiff, csl_f, csr_f, cn_f, lg_cmp_eq, lg_cmp_le, lg_cmp_lt, lg_cmp_ge, lg_cmp_gt, nI_1, zr_up_self, zp_O, zr_fup_self, zr_fup_ne, ne_eq, Nat.reduceEqDiff, not_false_eq_true, pk_mul]
    exact k3
/-- undo -/
theorem k_w253 (hX : zr_isO (h x) 6 = true) (hc : zr_E d 107 [.ref x] h (wK o [0] Q)) : zr_E (d + 1) 253 [.ref x, .ref o] h Q := by
  have c1 : 1 ≤ 1 := by decide
  have c2 : 6 ≤ 6 := by decide
  have c0 : (0 : Int32).toNatClampNeg = 0 := rfl
  rw [ze_253]
  simp only [zs_253_0, zs_253_0u, zs_253_1, zs_253_2, zs_253_2u, zs_253_3, zt_253_3, zs_253_6, zs_253_7, zs_253_8, zs_253_11, zs_253_11u, zs_253_12, zs_253_13, zs_253_14, zs_253_15, zc_isO, zr_fld_mk, zc_isA, zc_len, zr_elt_mk, zr_kill_i, zr_kill_l, zr_kill_r, zr_kill_u, zr_kill_f, zr_kill_n, zc_cat, zr_cat_i, zr_cat_l, zr_cat_r, zr_cat_f, zr_cat_d, zr_cat_u, beq_self_eq_true, Nat.zero_le, Nat.le_refl, Nat.reduceSub, Nat.reduceAdd, Nat.reduceLeDiff, csl_f, csr_f, cn_f, lg_cmp_eq, lg_cmp_le, lg_cmp_lt, lg_cmp_ge, lg_cmp_gt, nI_1, zr_up_self, zp_O, zr_fup_self, zr_fup_ne, ne_eq, Nat.reduceEqDiff, not_false_eq_true, pk_mul, hX, c1, c2]
  refine zr_E_mono hc (fun r h' k => ?_)
  rcases r with (_ | v) | E
  · exact k.elim
  · cases v with
    | int v =>
      obtain ⟨k1, k2, k3⟩ := k
      simp only [zs_253_0, zs_253_0u, zs_253_1, zs_253_2, zs_253_2u, zs_253_3, zt_253_3, zs_253_6, zs_253_7, zs_253_8, zs_253_11, zs_253_11u, zs_253_12, zs_253_13, zs_253_14, zs_253_15, zc_isO, zr_fld_mk, zc_isA, zc_len, zr_elt_mk, zr_kill_i, zr_kill_l, zr_kill_r, zr_kill_u, zr_kill_f, zr_kill_n, zc_cat, zr_cat_i, zr_cat_l, zr_cat_r, zr_cat_f, zr_cat_d, zr_cat_u, beq_self_eq_true, Nat.zero_le, Nat.le_refl, Nat.reduceSub, Nat.reduceAdd, Nat.reduceLeDiff, csl_f, csr_f, cn_f, lg_cmp_eq, lg_cmp_le, lg_cmp_lt, lg_cmp_ge, lg_cmp_gt, nI_1, zr_up_self, zp_O, zr_fup_self, zr_fup_ne, ne_eq, Nat.reduceEqDiff, not_false_eq_true, pk_mul, k1, k2, c0]
      exact k3
    | _ => exact k.elim
  · obtain ⟨ke, k3⟩ := k
    simp only [List.mem_cons, List.not_mem_nil, or_false] at ke
    subst ke
    rw [zk_catch zf_hh_253 zf_mo_253 (by rfl)]
    intro q2
    simp only [zs_253_0, zs_253_0u, zs_253_1, zs_253_2, zs_253_2u, zs_253_3, zt_253_3, zs_253_6, zs_253_7, zs_253_8, zs_253_11, zs_253_11u, zs_253_12, zs_253_13, zs_253_14, zs_253_15, zc_isO, zr_fld_mk, zc_isA, zc_len, zr_elt_mk, zr_kill_i, zr_kill_l, zr_kill_r, zr_kill_u, zr_kill_f, zr_kill_n, zc_cat, zr_cat_i, zr_cat_l, zr_cat_r, zr_cat_f, zr_cat_d, zr_cat_u, beq_self_eq_true, Nat.zero_le, Nat.le_refl, Nat.reduceSub, Nat.reduceAdd, Nat.reduceLeDiff, csl_f, csr_f, cn_f, lg_cmp_eq, lg_cmp_le, lg_cmp_lt, lg_cmp_ge, lg_cmp_gt, nI_1, zr_up_self, zp_O, zr_fup_self, zr_fup_ne, ne_eq, Nat.reduceEqDiff, not_false_eq_true, pk_mul]
    exact k3
/-- save -/
theorem k_w254 (hX : zr_isO (h x) 6 = true) (hc : zr_E d 108 [.ref x, .int a0] h (wK o [2] Q)) : zr_E (d + 1) 254 [.ref x, .int a0, .ref o] h Q := by
  have c1 : 7 ≤ 7 := by decide
  have c2 : 88 ≤ 88 := by decide
  have c0 : (0 : Int32).toNatClampNeg = 0 := rfl
  rw [ze_254]
  simp only [zs_254_0, zs_254_0u, zs_254_1, zs_254_2, zs_254_2u, zs_254_3, zs_254_4, zt_254_4, zs_254_7, zs_254_8, zs_254_9, zs_254_12, zs_254_12u, zs_254_13, zs_254_14, zs_254_15, zs_254_16, zc_isO, zr_fld_mk, zc_isA, zc_len, zr_elt_mk, zr_kill_i, zr_kill_l, zr_kill_r, zr_kill_u, zr_kill_f, zr_kill_n, zc_cat, zr_cat_i, zr_cat_l, zr_cat_r, zr_cat_f, zr_cat_d, zr_cat_u, beq_self_eq_true, Nat.zero_le, Nat.le_refl, Nat.reduceSub, Nat.reduceAdd, Nat.reduceLeDiff, csl_f, csr_f, cn_f, lg_cmp_eq, lg_cmp_le, lg_cmp_lt, lg_cmp_ge, lg_cmp_gt, nI_1, zr_up_self, zp_O, zr_fup_self, zr_fup_ne, ne_eq, Nat.reduceEqDiff, not_false_eq_true, pk_mul, hX, c1, c2]
  refine zr_E_mono hc (fun r h' k => ?_)
  rcases r with (_ | v) | E
  · exact k.elim
  · cases v with
    | int v =>
      obtain ⟨k1, k2, k3⟩ := k
      simp only [zs_254_0, zs_254_0u, zs_254_1, zs_254_2, zs_254_2u, zs_254_3, zs_254_4, zt_254_4, zs_254_7, zs_254_8, zs_254_9, zs_254_12, zs_254_12u, zs_254_13, zs_254_14, zs_254_15, zs_254_16, zc_isO, zr_fld_mk, zc_isA, zc_len, zr_elt_mk, zr_kill_i, zr_kill_l, zr_kill_r, zr_kill_u, zr_kill_f, zr_kill_n, zc_cat, zr_cat_i, zr_cat_l, zr_cat_r, zr_cat_f, zr_cat_d, zr_cat_u, beq_self_eq_true, Nat.zero_le, Nat.le_refl, Nat.reduceSub, Nat.reduceAdd, Nat.reduceLeDiff, csl_f, csr_f, cn_f, lg_cmp_eq, lg_cmp_le, lg_cmp_lt, lg_cmp_ge, lg_cmp_gt, nI_1, zr_up_self, zp_O, zr_fup_self, zr_fup_ne, ne_eq, Nat.reduceEqDiff, not_false_eq_true, pk_mul, k1, k2, c0]
      exact k3
    | _ => exact k.elim
  · obtain ⟨ke, k3⟩ := k
    simp only [List.mem_cons, List.not_mem_nil, or_false] at ke
    subst ke
    rw [zk_catch zf_hh_254 zf_mo_254 (by rfl)]
    intro q2
    simp only [zs_254_0, zs_254_0u, zs_254_1, zs_254_2, zs_254_2u, zs_254_3, zs_254_4, zt_254_4, zs_254_7, zs_254_8, zs_254_9, zs_254_12, zs_254_12u, zs_254_13, zs_254_14, zs_254_15, zs_254_16, zc_isO, zr_fld_mk, zc_isA, zc_len, zr_elt_mk, zr_kill_i, zr_kill_l, zr_kill_r, zr_kill_u, zr_kill_f, zr_kill_n, zc_cat, zr_cat_i, zr_cat_l, zr_cat_r, zr_cat_f, zr_cat_d, zr_cat_u, beq_self_eq_true, Nat.zero_le, Nat.le_refl, Nat.reduceSub, Nat.reduceAdd, Nat.reduceLeDiff, csl_f, csr_f, cn_f, lg_cmp_eq, lg_cmp_le, lg_cmp_lt, lg_cmp_ge, lg_cmp_gt, nI_1, zr_up_self, zp_O, zr_fup_self, zr_fup_ne, ne_eq, Nat.reduceEqDiff, not_false_eq_true, pk_mul]
    exact k3
/-- restore -/
theorem k_w255 (hX : zr_isO (h x) 6 = true) (hc : zr_E d 109 [.ref x, .int a0] h (wK o [2, 0] Q)) : zr_E (d + 1) 255 [.ref x, .int a0, .ref o] h Q := by
  have c1 : 2 ≤ 2 := by decide
  have c2 : 12 ≤ 12 := by decide
  have c0 : (0 : Int32).toNatClampNeg = 0 := rfl
  rw [ze_255]
  simp only [zs_255_0, zs_255_0u, zs_255_1, zs_255_2, zs_255_2u, zs_255_3, zs_255_4, zt_255_4, zs_255_7, zs_255_8, zs_255_9, zs_255_12, zs_255_12u, zs_255_13, zs_255_14, zs_255_15, zs_255_15u, zs_255_16, zs_255_17, zs_255_18, zs_255_19, zc_isO, zr_fld_mk, zc_isA, zc_len, zr_elt_mk, zr_kill_i, zr_kill_l, zr_kill_r, zr_kill_u, zr_kill_f, zr_kill_n, zc_cat, zr_cat_i, zr_cat_l, zr_cat_r, zr_cat_f, zr_cat_d, zr_cat_u, beq_self_eq_true, Nat.zero_le, Nat.le_refl, Nat.reduceSub, Nat.reduceAdd, Nat.reduceLeDiff, csl_f, csr_f, cn_f, lg_cmp_eq, lg_cmp_le, lg_cmp_lt, lg_cmp_ge, lg_cmp_gt, nI_1, zr_up_self, zp_O, zr_fup_self, zr_fup_ne, ne_eq, Nat.reduceEqDiff, not_false_eq_true, pk_mul, hX, c1, c2]
  refine zr_E_mono hc (fun r h' k => ?_)
  rcases r with (_ | v) | E
  · exact k.elim
  · cases v with
    | int v =>
      obtain ⟨k1, k2, k3⟩ := k
      simp only [zs_255_0, zs_255_0u, zs_255_1, zs_255_2, zs_255_2u, zs_255_3, zs_255_4, zt_255_4, zs_255_7, zs_255_8, zs_255_9, zs_255_12, zs_255_12u, zs_255_13, zs_255_14, zs_255_15, zs_255_15u, zs_255_16, zs_255_17, zs_255_18, zs_255_19, zc_isO, zr_fld_mk, zc_isA, zc_len, zr_elt_mk, zr_kill_i, zr_kill_l, zr_kill_r, zr_kill_u, zr_kill_f, zr_kill_n, zc_cat, zr_cat_i, zr_cat_l, zr_cat_r, zr_cat_f, zr_cat_d, zr_cat_u, beq_self_eq_true, Nat.zero_le, Nat.le_refl, Nat.reduceSub, Nat.reduceAdd, Nat.reduceLeDiff, csl_f, csr_f, cn_f, lg_cmp_eq, lg_cmp_le, lg_cmp_lt, lg_cmp_ge, lg_cmp_gt, nI_1, zr_up_self, zp_O, zr_fup_self, zr_fup_ne, ne_eq, Nat.reduceEqDiff, not_false_eq_true, pk_mul, k1, k2, c0]
      exact k3
    | _ => exact k.elim
  · obtain ⟨ke, k3⟩ := k
    simp only [List.mem_cons, List.not_mem_nil, or_false] at ke
    rcases ke with e | e
    · subst e
      rw [zk_catch zf_hh_255 zf_mo_255 (by rfl)]
      intro q2
      simp only [zs_255_0, zs_255_0u, zs_255_1, zs_255_2, zs_255_2u, zs_255_3, zs_255_4, zt_255_4, zs_255_7, zs_255_8, zs_255_9, zs_255_12, zs_255_12u, zs_255_13, zs_255_14, zs_255_15, zs_255_15u, zs_255_16, zs_255_17, zs_255_18, zs_255_19, zc_isO, zr_fld_mk, zc_isA, zc_len, zr_elt_mk, zr_kill_i, zr_kill_l, zr_kill_r, zr_kill_u, zr_kill_f, zr_kill_n, zc_cat, zr_cat_i, zr_cat_l, zr_cat_r, zr_cat_f, zr_cat_d, zr_cat_u, beq_self_eq_true, Nat.zero_le, Nat.le_refl, Nat.reduceSub, Nat.reduceAdd, Nat.reduceLeDiff, csl_f, csr_f, cn_f, lg_cmp_eq, lg_cmp_le, lg_cmp_lt, lg_cmp_ge, lg_cmp_gt, nI_1, zr_up_self, zp_O, zr_fup_self, zr_fup_ne, ne_eq, Nat.reduceEqDiff, not_false_eq_true, pk_mul]
      exact k3
    · subst e
      rw [zk_catch zf_hh_255 zf_mo_255 (by rfl)]
      intro q2
      simp only [zs_255_0, zs_255_0u, zs_255_1, zs_255_2, zs_255_2u, zs_255_3, zs_255_4, zt_255_4, zs_255_7, zs_255_8, zs_255_9, zs_255_12, zs_255_12u, zs_255_13, zs_255_14, zs_255_15, zs_255_15u, zs_255_16, zs_255_17, zs_255_18, zs_255_19, zc_isO, zr_fld_mk, zc_isA, zc_len, zr_elt_mk, zr_kill_i, zr_kill_l, zr_kill_r, zr_kill_u, zr_kill_f, zr_kill_n, zc_cat, zr_cat_i, zr_cat_l, zr_cat_r, zr_cat_f, zr_cat_d, zr_cat_u, beq_self_eq_true, Nat.zero_le, Nat.le_refl, Nat.reduceSub, Nat.reduceAdd, Nat.reduceLeDiff, csl_f, csr_f, cn_f, lg_cmp_eq, lg_cmp_le, lg_cmp_lt, lg_cmp_ge, lg_cmp_gt, nI_1, zr_up_self, zp_O, zr_fup_self, zr_fup_ne, ne_eq, Nat.reduceEqDiff, not_false_eq_true, pk_mul]
      exact k3
/-- differing -/
theorem k_w256 (hX : zr_isO (h x) 6 = true) (hc : zr_E d 110 [.ref x, .int a0] h (wK o [2] Q)) : zr_E (d + 1) 256 [.ref x, .int a0, .ref o] h Q := by
  have c1 : 1 ≤ 1 := by decide
  have c2 : 6 ≤ 6 := by decide
  have c0 : (0 : Int32).toNatClampNeg = 0 := rfl
  rw [ze_256]
  simp only [zs_256_0, zs_256_0u, zs_256_1, zs_256_2, zs_256_2u, zs_256_3, zs_256_4, zt_256_4, zs_256_7, zs_256_8, zs_256_9, zs_256_12, zs_256_12u, zs_256_13, zs_256_14, zs_256_15, zs_256_16, zc_isO, zr_fld_mk, zc_isA, zc_len, zr_elt_mk, zr_kill_i, zr_kill_l, zr_kill_r, zr_kill_u, zr_kill_f, zr_kill_n, zc_cat, zr_cat_i, zr_cat_l, zr_cat_r, zr_cat_f, zr_cat_d, zr_cat_u, beq_self_eq_true, Nat.zero_le, Nat.le_refl, Nat.reduceSub, Nat.reduceAdd, Nat.reduceLeDiff, csl_f, csr_f, cn_f, lg_cmp_eq, lg_cmp_le, lg_cmp_lt, lg_cmp_ge, lg_cmp_gt, nI_1, zr_up_self, zp_O, zr_fup_self, zr_fup_ne, ne_eq, Nat.reduceEqDiff, not_false_eq_true, pk_mul, hX, c1, c2]
  refine zr_E_mono hc (fun r h' k => ?_)
  rcases r with (_ | v) | E
  · exact k.elim
  · cases v with
    | int v =>
      obtain ⟨k1, k2, k3⟩ := k
      simp only [zs_256_0, zs_256_0u, zs_256_1, zs_256_2, zs_256_2u, zs_256_3, zs_256_4, zt_256_4, zs_256_7, zs_256_8, zs_256_9, zs_256_12, zs_256_12u, zs_256_13, zs_256_14, zs_256_15, zs_256_16, zc_isO, zr_fld_mk, zc_isA, zc_len, zr_elt_mk, zr_kill_i, zr_kill_l, zr_kill_r, zr_kill_u, zr_kill_f, zr_kill_n, zc_cat, zr_cat_i, zr_cat_l, zr_cat_r, zr_cat_f, zr_cat_d, zr_cat_u, beq_self_eq_true, Nat.zero_le, Nat.le_refl, Nat.reduceSub, Nat.reduceAdd, Nat.reduceLeDiff, csl_f, csr_f, cn_f, lg_cmp_eq, lg_cmp_le, lg_cmp_lt, lg_cmp_ge, lg_cmp_gt, nI_1, zr_up_self, zp_O, zr_fup_self, zr_fup_ne, ne_eq, Nat.reduceEqDiff, not_false_eq_true, pk_mul, k1, k2, c0]
      exact k3
    | _ => exact k.elim
  · obtain ⟨ke, k3⟩ := k
    simp only [List.mem_cons, List.not_mem_nil, or_false] at ke
    subst ke
    rw [zk_catch zf_hh_256 zf_mo_256 (by rfl)]
    intro q2
    simp only [zs_256_0, zs_256_0u, zs_256_1, zs_256_2, zs_256_2u, zs_256_3, zs_256_4, zt_256_4, zs_256_7, zs_256_8, zs_256_9, zs_256_12, zs_256_12u, zs_256_13, zs_256_14, zs_256_15, zs_256_16, zc_isO, zr_fld_mk, zc_isA, zc_len, zr_elt_mk, zr_kill_i, zr_kill_l, zr_kill_r, zr_kill_u, zr_kill_f, zr_kill_n, zc_cat, zr_cat_i, zr_cat_l, zr_cat_r, zr_cat_f, zr_cat_d, zr_cat_u, beq_self_eq_true, Nat.zero_le, Nat.le_refl, Nat.reduceSub, Nat.reduceAdd, Nat.reduceLeDiff, csl_f, csr_f, cn_f, lg_cmp_eq, lg_cmp_le, lg_cmp_lt, lg_cmp_ge, lg_cmp_gt, nI_1, zr_up_self, zp_O, zr_fup_self, zr_fup_ne, ne_eq, Nat.reduceEqDiff, not_false_eq_true, pk_mul]
    exact k3
end LAW
