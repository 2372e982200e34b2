/-! THE GRID'S METHODS -/
theorem ob_f (p : Nat) : csl 1 (nI p) = ob p := rfl
theorem fa_f (n : Nat) : ob n - 1 = fa n := rfl
def zgV (R S : Nat) : Nat → Value := fun k => match k with
  | 0 => .int (nI R)
  | 1 => .int (nI S)
  | 2 => .int (nI (R * S))
  | 3 => .long (fa (R * S))
  | 4 => .long (cFirst S R)
  | 5 => .long (cLast R S)
  | k => dv 2 k
def zg (R S : Nat) : zr_C := .inl (2, zgV R S)
theorem zg_O {R S : Nat} : zr_isO (some (zg R S)) 2 = true := id rfl
theorem zg_0 {R S : Nat} : zr_fld (some (zg R S)) 0 = .int (nI R) := rfl
theorem zg_1 {R S : Nat} : zr_fld (some (zg R S)) 1 = .int (nI S) := rfl
theorem zg_2 {R S : Nat} : zr_fld (some (zg R S)) 2 = .int (nI (R * S)) := rfl
theorem zg_3 {R S : Nat} : zr_fld (some (zg R S)) 3 = .long (fa (R * S)) := rfl
theorem zg_4 {R S : Nat} : zr_fld (some (zg R S)) 4 = .long (cFirst S R) := rfl
theorem zg_5 {R S : Nat} : zr_fld (some (zg R S)) 5 = .long (cLast R S) := rfl
/-- the board's places that are not in x -/
def ab (R S : Nat) (x : Int64) : Int64 := fa (R * S) &&& cn x
section GRID
variable {d : Nat} {h : zr_H} {Q : zr_K} {g : Nat} {R S : Nat}
theorem k_allBut (hG : h g = some (zg R S)) {x : Int64} (hQ : Q (.inl (some (.long (ab R S x)))) h) : zr_E (d + 1) 38 [.ref g, .long x] h Q := by
  rw [ze_38]
  simp only [zs_38_0, zs_38_0u, zs_38_1, zs_38_4, zs_38_5, zs_38_8, zs_38_9, zs_38_10, zc_isO, zr_fld_mk, zc_isA, zc_len, zr_elt_mk, zr_kill_i, zr_kill_l, zr_kill_r, zr_kill_u, zr_kill_f, zr_kill_n, zc_cat, zr_cat_i, zr_cat_l, zr_cat_r, zr_cat_f, zr_cat_d, zr_cat_u, beq_self_eq_true, Nat.zero_le, Nat.le_refl, Nat.reduceSub, Nat.reduceAdd, Nat.reduceLeDiff, csl_f, csr_f, cn_f, lg_cmp_eq, lg_cmp_le, lg_cmp_lt, lg_cmp_ge, lg_cmp_gt, nI_1, zr_up_self, zp_O, zr_fup_self, zr_fup_ne, ne_eq, Nat.reduceEqDiff, not_false_eq_true, pk_mul, hG, zg_O, zg_3]
  exact hQ
theorem nI_p {n : Nat} (h : 1 ≤ n) : nI n - 1 = nI (n - 1) := by
  obtain ⟨m, rfl⟩ : ∃ m, n = m + 1 := ⟨n - 1, by omega⟩
  exact nI_pred m
theorem k_around (hg : vG R S) (hG : h g = some (zg R S)) {x : Int64} (hQ : Q (.inl (some (.long (cAround R S x)))) h) : zr_E (d + 1) 39 [.ref g, .long x] h Q := by
  have e : nI S - 1 = nI (S - 1) := nI_p (by have := hg.2.1; omega)
  rw [ze_39]
  simp only [zs_39_0, zs_39_1, zs_39_1u, zs_39_2, zs_39_5, zs_39_8, zs_39_9, zs_39_10, zs_39_11, zs_39_12, zs_39_13, zs_39_13u, zs_39_14, zs_39_17, zs_39_18, zs_39_18u, zs_39_19, zs_39_22, zs_39_23, zs_39_24, zs_39_25, zs_39_26, zs_39_27, zs_39_28, zs_39_28u, zs_39_29, zs_39_32, zs_39_35, zs_39_36, zs_39_37, zs_39_38, zs_39_39, zs_39_40, zs_39_40u, zs_39_41, zs_39_44, zs_39_45, zs_39_45u, zs_39_46, zs_39_49, zs_39_50, zs_39_51, zs_39_52, zs_39_53, zs_39_55, zs_39_56, zs_39_56u, zs_39_57, zs_39_60, zs_39_61, zs_39_61u, zs_39_62, zs_39_65, zs_39_66, zs_39_68, zs_39_69, zs_39_69u, zs_39_70, zs_39_73, zs_39_74, zs_39_76, zs_39_77, zs_39_79, zs_39_80, zs_39_82, zs_39_83, zs_39_85, zs_39_86, zc_isO, zr_fld_mk, zc_isA, zc_len, zr_elt_mk, zr_kill_i, zr_kill_l, zr_kill_r, zr_kill_u, zr_kill_f, zr_kill_n, zc_cat, zr_cat_i, zr_cat_l, zr_cat_r, zr_cat_f, zr_cat_d, zr_cat_u, beq_self_eq_true, Nat.zero_le, Nat.le_refl, Nat.reduceSub, Nat.reduceAdd, Nat.reduceLeDiff, csl_f, csr_f, cn_f, lg_cmp_eq, lg_cmp_le, lg_cmp_lt, lg_cmp_ge, lg_cmp_gt, nI_1, zr_up_self, zp_O, zr_fup_self, zr_fup_ne, ne_eq, Nat.reduceEqDiff, not_false_eq_true, pk_mul, hG, zg_O, zg_1, zg_3, zg_4, zg_5, e]
  exact hQ
/-- the places beside x that are not in t -/
def fr (R S : Nat) (x t : Int64) : Int64 := cAround R S x &&& cn t
theorem k_free (hg : vG R S) (hG : h g = some (zg R S)) {x t : Int64} (hQ : Q (.inl (some (.long (fr R S x t)))) h) : zr_E (d + 2) 42 [.ref g, .long x, .long t] h Q := by
  rw [ze_42]
  simp only [zs_42_0, zs_42_0u, zs_42_1, zs_42_2, zt_42_2, zs_42_5, zs_42_6, zs_42_9, zs_42_10, zs_42_11, zc_isO, zr_fld_mk, zc_isA, zc_len, zr_elt_mk, zr_kill_i, zr_kill_l, zr_kill_r, zr_kill_u, zr_kill_f, zr_kill_n, zc_cat, zr_cat_i, zr_cat_l, zr_cat_r, zr_cat_f, zr_cat_d, zr_cat_u, beq_self_eq_true, Nat.zero_le, Nat.le_refl, Nat.reduceSub, Nat.reduceAdd, Nat.reduceLeDiff, csl_f, csr_f, cn_f, lg_cmp_eq, lg_cmp_le, lg_cmp_lt, lg_cmp_ge, lg_cmp_gt, nI_1, zr_up_self, zp_O, zr_fup_self, zr_fup_ne, ne_eq, Nat.reduceEqDiff, not_false_eq_true, pk_mul, hG, zg_O]
  refine k_around hg hG ?_
  simp only [zs_42_0, zs_42_0u, zs_42_1, zs_42_2, zt_42_2, zs_42_5, zs_42_6, zs_42_9, zs_42_10, zs_42_11, zc_isO, zr_fld_mk, zc_isA, zc_len, zr_elt_mk, zr_kill_i, zr_kill_l, zr_kill_r, zr_kill_u, zr_kill_f, zr_kill_n, zc_cat, zr_cat_i, zr_cat_l, zr_cat_r, zr_cat_f, zr_cat_d, zr_cat_u, beq_self_eq_true, Nat.zero_le, Nat.le_refl, Nat.reduceSub, Nat.reduceAdd, Nat.reduceLeDiff, csl_f, csr_f, cn_f, lg_cmp_eq, lg_cmp_le, lg_cmp_lt, lg_cmp_ge, lg_cmp_gt, nI_1, zr_up_self, zp_O, zr_fup_self, zr_fup_ne, ne_eq, Nat.reduceEqDiff, not_false_eq_true, pk_mul]
  exact hQ
/-- what can be reached in W from x -/
def rc (R S : Nat) (W x : Int64) : Int64 := clo (cAround R S) W x
theorem k_reach_ (hg : vG R S) (hG : h g = some (zg R S)) {x W : Int64} (hx : wi (R * S) x) (hQ : Q (.inl (some (.long (rc R S W x)))) h) (m : Nat) :
    ∀ k, k + m = R * S → ∀ x8 x9 : Option Value, zr_Z (d + 1) 40 Q 6 [some (.ref g), some (.long x), none, some (.long W), none, some (.long (it (cAround R S) W k x)), none, some (.int (nI k)), x8, x9] [] h 0 0 := by
  have hn := g_n hg
  have hv := ar_vn hg
  induction m with
  | zero =>
    intro k hk x8 x9
    simp only [zs_40_0, zs_40_1, zs_40_3, zs_40_4, zs_40_6, zs_40_8, zs_40_8u, zs_40_9, zs_40_12, zs_40_15, zs_40_17, zs_40_17u, zs_40_18, zs_40_20, zt_40_20, zs_40_23, zs_40_24, zs_40_25, zs_40_26, zs_40_28, zs_40_30, zs_40_32, zs_40_33, zs_40_36, zs_40_38, zs_40_39, zs_40_41, zs_40_43, zs_40_46, zs_40_49, zs_40_51, zc_isO, zr_fld_mk, zc_isA, zc_len, zr_elt_mk, zr_kill_i, zr_kill_l, zr_kill_r, zr_kill_u, zr_kill_f, zr_kill_n, zc_cat, zr_cat_i, zr_cat_l, zr_cat_r, zr_cat_f, zr_cat_d, zr_cat_u, beq_self_eq_true, Nat.zero_le, Nat.le_refl, Nat.reduceSub, Nat.reduceAdd, Nat.reduceLeDiff, csl_f, csr_f, cn_f, lg_cmp_eq, lg_cmp_le, lg_cmp_lt, lg_cmp_ge, lg_cmp_gt, nI_1, zr_up_self, zp_O, zr_fup_self, zr_fup_ne, ne_eq, Nat.reduceEqDiff, not_false_eq_true, pk_mul, hG, zg_O, zg_2]
    refine ⟨fun _ => ?_, fun z => (z (nI_le (by omega) (by omega))).elim⟩
    rw [show k = R * S by omega, clo_n hv hx]
    exact hQ
  | succ m ih =>
    intro k hk x8 x9
    simp only [zs_40_0, zs_40_1, zs_40_3, zs_40_4, zs_40_6, zs_40_8, zs_40_8u, zs_40_9, zs_40_12, zs_40_15, zs_40_17, zs_40_17u, zs_40_18, zs_40_20, zt_40_20, zs_40_23, zs_40_24, zs_40_25, zs_40_26, zs_40_28, zs_40_30, zs_40_32, zs_40_33, zs_40_36, zs_40_38, zs_40_39, zs_40_41, zs_40_43, zs_40_49, zs_40_51, zc_isO, zr_fld_mk, zc_isA, zc_len, zr_elt_mk, zr_kill_i, zr_kill_l, zr_kill_r, zr_kill_u, zr_kill_f, zr_kill_n, zc_cat, zr_cat_i, zr_cat_l, zr_cat_r, zr_cat_f, zr_cat_d, zr_cat_u, beq_self_eq_true, Nat.zero_le, Nat.le_refl, Nat.reduceSub, Nat.reduceAdd, Nat.reduceLeDiff, csl_f, csr_f, cn_f, lg_cmp_eq, lg_cmp_le, lg_cmp_lt, lg_cmp_ge, lg_cmp_gt, nI_1, zr_up_self, zp_O, zr_fup_self, zr_fup_ne, ne_eq, Nat.reduceEqDiff, not_false_eq_true, pk_mul, hG, zg_O, zg_2]
    refine ⟨fun z => absurd z (nI_ge (by omega) (by omega)), fun _ => ?_⟩
    refine k_around hg hG ?_
    simp only [zs_40_0, zs_40_1, zs_40_3, zs_40_4, zs_40_8, zs_40_8u, zs_40_9, zs_40_12, zs_40_15, zs_40_17, zs_40_17u, zs_40_18, zs_40_20, zt_40_20, zs_40_23, zs_40_24, zs_40_25, zs_40_26, zs_40_28, zs_40_30, zs_40_32, zs_40_33, zs_40_36, zs_40_38, zs_40_39, zs_40_41, zs_40_43, zs_40_46, zs_40_49, zs_40_51, zc_isO, zr_fld_mk, zc_isA, zc_len, zr_elt_mk, zr_kill_i, zr_kill_l, zr_kill_r, zr_kill_u, zr_kill_f, zr_kill_n, zc_cat, zr_cat_i, zr_cat_l, zr_cat_r, zr_cat_f, zr_cat_d, zr_cat_u, beq_self_eq_true, Nat.zero_le, Nat.le_refl, Nat.reduceSub, Nat.reduceAdd, Nat.reduceLeDiff, csl_f, csr_f, cn_f, lg_cmp_eq, lg_cmp_le, lg_cmp_lt, lg_cmp_ge, lg_cmp_gt, nI_1, zr_up_self, zp_O, zr_fup_self, zr_fup_ne, ne_eq, Nat.reduceEqDiff, not_false_eq_true, pk_mul]
    have e : it (cAround R S) W k x ||| cAround R S (it (cAround R S) W k x) &&& W = it (cAround R S) W (k + 1) x := rfl
    rw [e]
    refine ⟨fun z => ih (k + 1) (by omega) _ _, fun z => ?_⟩
    rw [clo_k (by omega) z]
    exact hQ
theorem k_reach (hg : vG R S) (hG : h g = some (zg R S)) {x W : Int64} (hx : wi (R * S) x) (hQ : Q (.inl (some (.long (rc R S W x)))) h) : zr_E (d + 2) 40 [.ref g, .long x, .long W] h Q := by
  rw [ze_40]
  simp only [zs_40_0, zs_40_1, zs_40_3, zs_40_4, zs_40_8, zs_40_8u, zs_40_9, zs_40_12, zs_40_15, zs_40_17, zs_40_17u, zs_40_18, zs_40_20, zt_40_20, zs_40_23, zs_40_24, zs_40_25, zs_40_26, zs_40_28, zs_40_30, zs_40_32, zs_40_33, zs_40_36, zs_40_38, zs_40_39, zs_40_41, zs_40_43, zs_40_46, zs_40_49, zs_40_51, zc_isO, zr_fld_mk, zc_isA, zc_len, zr_elt_mk, zr_kill_i, zr_kill_l, zr_kill_r, zr_kill_u, zr_kill_f, zr_kill_n, zc_cat, zr_cat_i, zr_cat_l, zr_cat_r, zr_cat_f, zr_cat_d, zr_cat_u, beq_self_eq_true, Nat.zero_le, Nat.le_refl, Nat.reduceSub, Nat.reduceAdd, Nat.reduceLeDiff, csl_f, csr_f, cn_f, lg_cmp_eq, lg_cmp_le, lg_cmp_lt, lg_cmp_ge, lg_cmp_gt, nI_1, zr_up_self, zp_O, zr_fup_self, zr_fup_ne, ne_eq, Nat.reduceEqDiff, not_false_eq_true, pk_mul]
  exact k_reach_ hg hG hx hQ (R * S) 0 (Nat.zero_add _) _ _
theorem k_groups_ (hg : vG R S) (hG : h g = some (zg R S)) {s W : Int64} (hQ : Q (.inl (some (.int (nI (cnt (ld (cAround R S) W s) (R * S)))))) h) (m : Nat) :
    ∀ k, k + m = R * S → ∀ x9 x10 : Option Value, zr_Z (d + 2) 41 Q 9 [some (.ref g), some (.long s), none, some (.long W), none, some (.int (nI (cnt (ld (cAround R S) W s) k))), some (.long (rs (cAround R S) W s k)), none, some (.int (nI k)), x9, x10] [] h 0 0 := by
  have hn := g_n hg
  have hv := ar_vn hg
  induction m with
  | zero =>
    intro k hk x9 x10
    simp only [zs_41_0, zs_41_1, zs_41_3, zs_41_4, zs_41_6, zs_41_7, zs_41_9, zs_41_11, zs_41_11u, zs_41_12, zs_41_15, zs_41_19, zs_41_21, zs_41_22, zs_41_24, zs_41_26, zs_41_28, zs_41_29, zs_41_30, zs_41_31, zs_41_34, zs_41_37, zs_41_39, zs_41_39u, zs_41_40, zs_41_42, zs_41_43, zt_41_43, zs_41_46, zs_41_49, zs_41_50, zs_41_51, zs_41_53, zs_41_56, zs_41_59, zs_41_61, zc_isO, zr_fld_mk, zc_isA, zc_len, zr_elt_mk, zr_kill_i, zr_kill_l, zr_kill_r, zr_kill_u, zr_kill_f, zr_kill_n, zc_cat, zr_cat_i, zr_cat_l, zr_cat_r, zr_cat_f, zr_cat_d, zr_cat_u, beq_self_eq_true, Nat.zero_le, Nat.le_refl, Nat.reduceSub, Nat.reduceAdd, Nat.reduceLeDiff, csl_f, csr_f, cn_f, lg_cmp_eq, lg_cmp_le, lg_cmp_lt, lg_cmp_ge, lg_cmp_gt, nI_1, zr_up_self, zp_O, zr_fup_self, zr_fup_ne, ne_eq, Nat.reduceEqDiff, not_false_eq_true, pk_mul, hG, zg_O, zg_2]
    refine ⟨fun _ => ?_, fun z => (z (nI_le (by omega) (by omega))).elim⟩
    rw [show k = R * S by omega]
    exact hQ
  | succ m ih =>
    intro k hk x9 x10
    simp only [zs_41_0, zs_41_1, zs_41_3, zs_41_4, zs_41_6, zs_41_7, zs_41_9, zs_41_11, zs_41_11u, zs_41_12, zs_41_15, zs_41_18, zs_41_19, zs_41_21, zs_41_22, zs_41_24, zs_41_26, zs_41_28, zs_41_29, zs_41_30, zs_41_31, zs_41_34, zs_41_37, zs_41_39, zs_41_39u, zs_41_40, zs_41_42, zs_41_43, zt_41_43, zs_41_46, zs_41_49, zs_41_50, zs_41_51, zs_41_56, zs_41_59, zs_41_61, zc_isO, zr_fld_mk, zc_isA, zc_len, zr_elt_mk, zr_kill_i, zr_kill_l, zr_kill_r, zr_kill_u, zr_kill_f, zr_kill_n, zc_cat, zr_cat_i, zr_cat_l, zr_cat_r, zr_cat_f, zr_cat_d, zr_cat_u, beq_self_eq_true, Nat.zero_le, Nat.le_refl, Nat.reduceSub, Nat.reduceAdd, Nat.reduceLeDiff, csl_f, csr_f, cn_f, lg_cmp_eq, lg_cmp_le, lg_cmp_lt, lg_cmp_ge, lg_cmp_gt, nI_1, zr_up_self, zp_O, zr_fup_self, zr_fup_ne, ne_eq, Nat.reduceEqDiff, not_false_eq_true, pk_mul, hG, zg_O, zg_2, ob_f]
    refine ⟨fun z => absurd z (nI_ge (by omega) (by omega)), fun _ => ?_⟩
    rw [tb_in (by omega)]
    refine ⟨fun z => ?_, fun z => ?_⟩
    · have e1 : cnt (ld (cAround R S) W s) (k + 1) = cnt (ld (cAround R S) W s) k := by
        show cnt _ k + _ = _
        rw [show ld (cAround R S) W s k = false from z]
        rfl
      have e2 : rs (cAround R S) W s (k + 1) = rs (cAround R S) W s k := by
        show (if tb (rs (cAround R S) W s k) k then _ else _) = _
        rw [z]
        rfl
      have := ih (k + 1) (by omega) (some (.long (ob k))) none
      rw [e1, e2] at this
      simp only [zs_41_0, zs_41_1, zs_41_3, zs_41_4, zs_41_6, zs_41_7, zs_41_11, zs_41_11u, zs_41_12, zs_41_15, zs_41_18, zs_41_19, zs_41_21, zs_41_22, zs_41_24, zs_41_26, zs_41_28, zs_41_29, zs_41_30, zs_41_31, zs_41_34, zs_41_37, zs_41_39, zs_41_39u, zs_41_40, zs_41_42, zs_41_43, zt_41_43, zs_41_46, zs_41_49, zs_41_50, zs_41_51, zs_41_53, zs_41_56, zs_41_59, zs_41_61, zc_isO, zr_fld_mk, zc_isA, zc_len, zr_elt_mk, zr_kill_i, zr_kill_l, zr_kill_r, zr_kill_u, zr_kill_f, zr_kill_n, zc_cat, zr_cat_i, zr_cat_l, zr_cat_r, zr_cat_f, zr_cat_d, zr_cat_u, beq_self_eq_true, Nat.zero_le, Nat.le_refl, Nat.reduceSub, Nat.reduceAdd, Nat.reduceLeDiff, csl_f, csr_f, cn_f, lg_cmp_eq, lg_cmp_le, lg_cmp_lt, lg_cmp_ge, lg_cmp_gt, nI_1, zr_up_self, zp_O, zr_fup_self, zr_fup_ne, ne_eq, Nat.reduceEqDiff, not_false_eq_true, pk_mul]
      exact this
    · have z : tb (rs (cAround R S) W s k) k = true := by cases e : tb (rs (cAround R S) W s k) k; exact (z e).elim; rfl
      have e1 : cnt (ld (cAround R S) W s) (k + 1) = cnt (ld (cAround R S) W s) k + 1 := by
        show cnt _ k + _ = _
        rw [show ld (cAround R S) W s k = true from z]
        rfl
      have e2 : rs (cAround R S) W s (k + 1) = rs (cAround R S) W s k &&& cn (rc R S W (ob k)) := by
        show (if tb (rs (cAround R S) W s k) k then _ else _) = _
        rw [z]
        rfl
      refine k_reach hg hG (wi_ob (by omega) (by omega)) ?_
      have := ih (k + 1) (by omega) (some (.long (ob k))) none
      rw [e1, e2] at this
      simp only [zs_41_0, zs_41_1, zs_41_3, zs_41_4, zs_41_6, zs_41_7, zs_41_11, zs_41_11u, zs_41_12, zs_41_15, zs_41_18, zs_41_19, zs_41_21, zs_41_22, zs_41_24, zs_41_26, zs_41_28, zs_41_29, zs_41_30, zs_41_31, zs_41_34, zs_41_37, zs_41_39, zs_41_39u, zs_41_40, zs_41_42, zs_41_43, zt_41_43, zs_41_46, zs_41_49, zs_41_50, zs_41_51, zs_41_53, zs_41_56, zs_41_59, zs_41_61, zc_isO, zr_fld_mk, zc_isA, zc_len, zr_elt_mk, zr_kill_i, zr_kill_l, zr_kill_r, zr_kill_u, zr_kill_f, zr_kill_n, zc_cat, zr_cat_i, zr_cat_l, zr_cat_r, zr_cat_f, zr_cat_d, zr_cat_u, beq_self_eq_true, Nat.zero_le, Nat.le_refl, Nat.reduceSub, Nat.reduceAdd, Nat.reduceLeDiff, csl_f, csr_f, cn_f, lg_cmp_eq, lg_cmp_le, lg_cmp_lt, lg_cmp_ge, lg_cmp_gt, nI_1, zr_up_self, zp_O, zr_fup_self, zr_fup_ne, ne_eq, Nat.reduceEqDiff, not_false_eq_true, pk_mul]
      exact this
theorem k_groups (hg : vG R S) (hG : h g = some (zg R S)) {s W : Int64} (hQ : Q (.inl (some (.int (nI (cnt (ld (cAround R S) W s) (R * S)))))) h) : zr_E (d + 3) 41 [.ref g, .long s, .long W] h Q := by
  rw [ze_41]
  simp only [zs_41_0, zs_41_1, zs_41_3, zs_41_4, zs_41_6, zs_41_7, zs_41_11, zs_41_11u, zs_41_12, zs_41_15, zs_41_18, zs_41_19, zs_41_21, zs_41_22, zs_41_24, zs_41_26, zs_41_28, zs_41_29, zs_41_30, zs_41_31, zs_41_34, zs_41_37, zs_41_39, zs_41_39u, zs_41_40, zs_41_42, zs_41_43, zt_41_43, zs_41_46, zs_41_49, zs_41_50, zs_41_51, zs_41_53, zs_41_56, zs_41_59, zs_41_61, zc_isO, zr_fld_mk, zc_isA, zc_len, zr_elt_mk, zr_kill_i, zr_kill_l, zr_kill_r, zr_kill_u, zr_kill_f, zr_kill_n, zc_cat, zr_cat_i, zr_cat_l, zr_cat_r, zr_cat_f, zr_cat_d, zr_cat_u, beq_self_eq_true, Nat.zero_le, Nat.le_refl, Nat.reduceSub, Nat.reduceAdd, Nat.reduceLeDiff, csl_f, csr_f, cn_f, lg_cmp_eq, lg_cmp_le, lg_cmp_lt, lg_cmp_ge, lg_cmp_gt, nI_1, zr_up_self, zp_O, zr_fup_self, zr_fup_ne, ne_eq, Nat.reduceEqDiff, not_false_eq_true, pk_mul]
  exact k_groups_ hg hG hQ (R * S) 0 (Nat.zero_add _) _ _
/-- the stones of the groups that touch no place outside t -/
def sk (R S : Nat) (x t : Int64) : Int64 := x &&& cn (rc R S x (x &&& cAround R S (ab R S t)))
theorem fa_wi {n : Nat} (hn : n < 64) : wi n (fa n) := fun i h => by rw [tb_fa hn, decide_eq_true_eq] at h; exact h
theorem ab_wi (hg : vG R S) {t : Int64} : wi (R * S) (ab R S t) := wi_l (fa_wi (by have := g_n hg; omega))
theorem k_stuck (hg : vG R S) (hG : h g = some (zg R S)) {x t : Int64} (hQ : Q (.inl (some (.long (sk R S x t)))) h) : zr_E (d + 3) 43 [.ref g, .long x, .long t] h Q := by
  rw [ze_43]
  simp only [zs_43_0, zs_43_1, zs_43_1u, zs_43_2, zs_43_3, zs_43_3u, zs_43_4, zs_43_4u, zs_43_5, zs_43_6, zt_43_6, zs_43_9, zt_43_9, zs_43_12, zs_43_13, zs_43_14, zt_43_14, zs_43_17, zs_43_20, zs_43_21, zs_43_22, zc_isO, zr_fld_mk, zc_isA, zc_len, zr_elt_mk, zr_kill_i, zr_kill_l, zr_kill_r, zr_kill_u, zr_kill_f, zr_kill_n, zc_cat, zr_cat_i, zr_cat_l, zr_cat_r, zr_cat_f, zr_cat_d, zr_cat_u, beq_self_eq_true, Nat.zero_le, Nat.le_refl, Nat.reduceSub, Nat.reduceAdd, Nat.reduceLeDiff, csl_f, csr_f, cn_f, lg_cmp_eq, lg_cmp_le, lg_cmp_lt, lg_cmp_ge, lg_cmp_gt, nI_1, zr_up_self, zp_O, zr_fup_self, zr_fup_ne, ne_eq, Nat.reduceEqDiff, not_false_eq_true, pk_mul, hG, zg_O]
  refine k_allBut hG ?_
  simp only [zs_43_0, zs_43_1, zs_43_1u, zs_43_2, zs_43_3, zs_43_3u, zs_43_4, zs_43_4u, zs_43_5, zs_43_6, zt_43_6, zs_43_9, zt_43_9, zs_43_12, zs_43_13, zs_43_14, zt_43_14, zs_43_17, zs_43_20, zs_43_21, zs_43_22, zc_isO, zr_fld_mk, zc_isA, zc_len, zr_elt_mk, zr_kill_i, zr_kill_l, zr_kill_r, zr_kill_u, zr_kill_f, zr_kill_n, zc_cat, zr_cat_i, zr_cat_l, zr_cat_r, zr_cat_f, zr_cat_d, zr_cat_u, beq_self_eq_true, Nat.zero_le, Nat.le_refl, Nat.reduceSub, Nat.reduceAdd, Nat.reduceLeDiff, csl_f, csr_f, cn_f, lg_cmp_eq, lg_cmp_le, lg_cmp_lt, lg_cmp_ge, lg_cmp_gt, nI_1, zr_up_self, zp_O, zr_fup_self, zr_fup_ne, ne_eq, Nat.reduceEqDiff, not_false_eq_true, pk_mul, hG, zg_O]
  refine k_around hg hG ?_
  simp only [zs_43_0, zs_43_1, zs_43_1u, zs_43_2, zs_43_3, zs_43_3u, zs_43_4, zs_43_4u, zs_43_5, zs_43_6, zt_43_6, zs_43_9, zt_43_9, zs_43_12, zs_43_13, zs_43_14, zt_43_14, zs_43_17, zs_43_20, zs_43_21, zs_43_22, zc_isO, zr_fld_mk, zc_isA, zc_len, zr_elt_mk, zr_kill_i, zr_kill_l, zr_kill_r, zr_kill_u, zr_kill_f, zr_kill_n, zc_cat, zr_cat_i, zr_cat_l, zr_cat_r, zr_cat_f, zr_cat_d, zr_cat_u, beq_self_eq_true, Nat.zero_le, Nat.le_refl, Nat.reduceSub, Nat.reduceAdd, Nat.reduceLeDiff, csl_f, csr_f, cn_f, lg_cmp_eq, lg_cmp_le, lg_cmp_lt, lg_cmp_ge, lg_cmp_gt, nI_1, zr_up_self, zp_O, zr_fup_self, zr_fup_ne, ne_eq, Nat.reduceEqDiff, not_false_eq_true, pk_mul, hG, zg_O]
  refine k_reach hg hG (wi_r (vn_N (ar_vn hg) (ab_wi hg))) ?_
  simp only [zs_43_0, zs_43_1, zs_43_1u, zs_43_2, zs_43_3, zs_43_3u, zs_43_4, zs_43_4u, zs_43_5, zs_43_6, zt_43_6, zs_43_9, zt_43_9, zs_43_12, zs_43_13, zs_43_14, zt_43_14, zs_43_17, zs_43_20, zs_43_21, zs_43_22, zc_isO, zr_fld_mk, zc_isA, zc_len, zr_elt_mk, zr_kill_i, zr_kill_l, zr_kill_r, zr_kill_u, zr_kill_f, zr_kill_n, zc_cat, zr_cat_i, zr_cat_l, zr_cat_r, zr_cat_f, zr_cat_d, zr_cat_u, beq_self_eq_true, Nat.zero_le, Nat.le_refl, Nat.reduceSub, Nat.reduceAdd, Nat.reduceLeDiff, csl_f, csr_f, cn_f, lg_cmp_eq, lg_cmp_le, lg_cmp_lt, lg_cmp_ge, lg_cmp_gt, nI_1, zr_up_self, zp_O, zr_fup_self, zr_fup_ne, ne_eq, Nat.reduceEqDiff, not_false_eq_true, pk_mul]
  exact hQ
def hs (R S : Nat) (b w : Int64) : Prop := ¬ sk R S b (b ||| w) = 0 ∨ ¬ sk R S w (b ||| w) = 0
theorem k_has (hg : vG R S) (hG : h g = some (zg R S)) {b w : Int64} (h1 : hs R S b w → Q (.inl (some (.int 1))) h) (h2 : ¬ hs R S b w → Q (.inl (some (.int 0))) h) : zr_E (d + 4) 44 [.ref g, .long b, .long w] h Q := by
  rw [ze_44]
  simp only [zs_44_0, zs_44_1, zs_44_2, zs_44_3, zs_44_5, zs_44_5u, zs_44_6, zs_44_7, zs_44_9, zt_44_9, zs_44_12, zs_44_13, zs_44_14, zs_44_17, zs_44_17u, zs_44_18, zs_44_19, zs_44_21, zt_44_21, zs_44_24, zs_44_25, zs_44_26, zs_44_29, zs_44_30, zs_44_33, zs_44_34_0, zs_44_34_1, zs_44_34, zc_isO, zr_fld_mk, zc_isA, zc_len, zr_elt_mk, zr_kill_i, zr_kill_l, zr_kill_r, zr_kill_u, zr_kill_f, zr_kill_n, zc_cat, zr_cat_i, zr_cat_l, zr_cat_r, zr_cat_f, zr_cat_d, zr_cat_u, beq_self_eq_true, Nat.zero_le, Nat.le_refl, Nat.reduceSub, Nat.reduceAdd, Nat.reduceLeDiff, csl_f, csr_f, cn_f, lg_cmp_eq, lg_cmp_le, lg_cmp_lt, lg_cmp_ge, lg_cmp_gt, nI_1, zr_up_self, zp_O, zr_fup_self, zr_fup_ne, ne_eq, Nat.reduceEqDiff, not_false_eq_true, pk_mul, hG, zg_O]
  refine k_stuck hg hG ?_
  simp only [zs_44_0, zs_44_1, zs_44_2, zs_44_3, zs_44_5, zs_44_5u, zs_44_6, zs_44_7, zs_44_9, zt_44_9, zs_44_12, zs_44_13, zs_44_14, zs_44_17, zs_44_17u, zs_44_18, zs_44_19, zs_44_21, zt_44_21, zs_44_24, zs_44_25, zs_44_26, zs_44_29, zs_44_30, zs_44_33, zs_44_34_0, zs_44_34_1, zs_44_34, zc_isO, zr_fld_mk, zc_isA, zc_len, zr_elt_mk, zr_kill_i, zr_kill_l, zr_kill_r, zr_kill_u, zr_kill_f, zr_kill_n, zc_cat, zr_cat_i, zr_cat_l, zr_cat_r, zr_cat_f, zr_cat_d, zr_cat_u, beq_self_eq_true, Nat.zero_le, Nat.le_refl, Nat.reduceSub, Nat.reduceAdd, Nat.reduceLeDiff, csl_f, csr_f, cn_f, lg_cmp_eq, lg_cmp_le, lg_cmp_lt, lg_cmp_ge, lg_cmp_gt, nI_1, zr_up_self, zp_O, zr_fup_self, zr_fup_ne, ne_eq, Nat.reduceEqDiff, not_false_eq_true, pk_mul, hG, zg_O]
  refine ⟨fun z => h1 (Or.inl z), fun z => ?_⟩
  refine k_stuck hg hG ?_
  simp only [zs_44_0, zs_44_1, zs_44_2, zs_44_3, zs_44_5, zs_44_5u, zs_44_6, zs_44_7, zs_44_9, zt_44_9, zs_44_12, zs_44_13, zs_44_14, zs_44_17, zs_44_17u, zs_44_18, zs_44_19, zs_44_21, zt_44_21, zs_44_24, zs_44_25, zs_44_26, zs_44_29, zs_44_30, zs_44_33, zs_44_34_0, zs_44_34_1, zs_44_34, zc_isO, zr_fld_mk, zc_isA, zc_len, zr_elt_mk, zr_kill_i, zr_kill_l, zr_kill_r, zr_kill_u, zr_kill_f, zr_kill_n, zc_cat, zr_cat_i, zr_cat_l, zr_cat_r, zr_cat_f, zr_cat_d, zr_cat_u, beq_self_eq_true, Nat.zero_le, Nat.le_refl, Nat.reduceSub, Nat.reduceAdd, Nat.reduceLeDiff, csl_f, csr_f, cn_f, lg_cmp_eq, lg_cmp_le, lg_cmp_lt, lg_cmp_ge, lg_cmp_gt, nI_1, zr_up_self, zp_O, zr_fup_self, zr_fup_ne, ne_eq, Nat.reduceEqDiff, not_false_eq_true, pk_mul]
  exact ⟨fun y => h2 (fun g => g.elim (fun g => g z) (fun g => g y)), fun y => h1 (Or.inr y)⟩
theorem k_like (hg : vG R S) (hG : h g = some (zg R S)) {g2 R2 S2 : Nat} (hg2 : vG R2 S2) (hG2 : h g2 = some (zg R2 S2)) (h1 : R = R2 ∧ S = S2 → Q (.inl (some (.int 1))) h) (h2 : ¬ (R = R2 ∧ S = S2) → Q (.inl (some (.int 0))) h) : zr_E (d + 1) 36 [.ref g, .ref g2] h Q := by
  have l := g_lt hg
  have l2 := g_lt hg2
  rw [ze_36]
  simp only [zs_36_0, zs_36_0u, zs_36_1, zs_36_4, zs_36_4u, zs_36_5, zs_36_8, zs_36_11, zs_36_11u, zs_36_12, zs_36_15, zs_36_15u, zs_36_16, zs_36_19, zs_36_22, zs_36_23, zs_36_26, zs_36_27_0, zs_36_27_1, zs_36_27, zc_isO, zr_fld_mk, zc_isA, zc_len, zr_elt_mk, zr_kill_i, zr_kill_l, zr_kill_r, zr_kill_u, zr_kill_f, zr_kill_n, zc_cat, zr_cat_i, zr_cat_l, zr_cat_r, zr_cat_f, zr_cat_d, zr_cat_u, beq_self_eq_true, Nat.zero_le, Nat.le_refl, Nat.reduceSub, Nat.reduceAdd, Nat.reduceLeDiff, csl_f, csr_f, cn_f, lg_cmp_eq, lg_cmp_le, lg_cmp_lt, lg_cmp_ge, lg_cmp_gt, nI_1, zr_up_self, zp_O, zr_fup_self, zr_fup_ne, ne_eq, Nat.reduceEqDiff, not_false_eq_true, pk_mul, hG, hG2, zg_O, zg_0, zg_1]
  rw [nI_eq (by omega) (by omega), nI_eq (by omega) (by omega)]
  exact ⟨fun z => h2 (fun y => z y.1), fun z => ⟨fun y => h2 (fun x => y x.2), fun y => h1 ⟨z, y⟩⟩⟩
def oI : Option Nat → Int32
  | some j => nI j
  | none => -1
theorem g_div {R S p : Nat} (hg : vG R S) (hp : p < R * S) : (tb (cLast R S) p = true ↔ p % S + 1 = S) ∧ (tb (cFirst S R) p = true ↔ p % S = 0) := by
  obtain ⟨a, b, c, e⟩ := g_lt hg
  have := g_n hg
  rw [g_L R a S b c e p (by omega), g_F R a S b c e p (by omega), decide_eq_true_eq, decide_eq_true_eq]
  exact ⟨⟨fun z => z.2, fun z => ⟨hp, z⟩⟩, ⟨fun z => z.2, fun z => ⟨hp, z⟩⟩⟩
theorem tb_in' {x : Int64} {p : Nat} (hp : p < 64) : (ob p &&& x = 0) ↔ ¬ tb x p = true := by
  rw [Int64.and_comm, tb_in hp, Bool.not_eq_true]
theorem k_beside (hg : vG R S) (hG : h g = some (zg R S)) {p dd : Nat} (hp : p < R * S) (hd : dd < 4) (hQ : Q (.inl (some (.int (oI (bs R S p dd))))) h) : zr_E (d + 1) 37 [.ref g, .int (nI p), .int (nI dd)] h Q := by
  have l := g_lt hg
  have hn := g_n hg
  have hv := g_div hg hp
  have hm : p % S ≤ p := Nat.mod_le p S
  rw [ze_37]
  match dd, hd, hQ with
  | 0, _, hQ =>
    rw [nI_0]
    simp only [zs_37_0, zs_37_1, zs_37_2, zs_37_3, zs_37_4, zs_37_5, zs_37_5_0, zs_37_5_1, zs_37_5_2, zs_37_32, zs_37_33, zs_37_33u, zs_37_34, zs_37_37, zs_37_38, zs_37_39, zs_37_40, zs_37_43, zs_37_44, zs_37_44u, zs_37_45, zs_37_48, zs_37_49, zs_37_50, zs_37_51, zs_37_54, zs_37_55, zs_37_56, zs_37_57, zs_37_58, zs_37_59, zs_37_59u, zs_37_60, zs_37_63, zs_37_64, zs_37_65, zs_37_66, zs_37_69, zs_37_70, zs_37_70u, zs_37_71, zs_37_74, zs_37_75, zs_37_76, zs_37_77, zs_37_80, zs_37_81, zs_37_82, zs_37_83, zs_37_84, zs_37_85, zs_37_85u, zs_37_86, zs_37_89, zs_37_90, zs_37_90u, zs_37_91, zs_37_94, zs_37_97, zs_37_98, zs_37_98u, zs_37_99, zs_37_102, zs_37_103, zs_37_106, zs_37_107, zs_37_108, zs_37_109, zs_37_109u, zs_37_110, zs_37_113, zs_37_116, zs_37_117, zs_37_117u, zs_37_118, zs_37_121, zs_37_122, zs_37_125, zs_37_126, zc_isO, zr_fld_mk, zc_isA, zc_len, zr_elt_mk, zr_kill_i, zr_kill_l, zr_kill_r, zr_kill_u, zr_kill_f, zr_kill_n, zc_cat, zr_cat_i, zr_cat_l, zr_cat_r, zr_cat_f, zr_cat_d, zr_cat_u, beq_self_eq_true, Nat.zero_le, Nat.le_refl, Nat.reduceSub, Nat.reduceAdd, Nat.reduceLeDiff, csl_f, csr_f, cn_f, lg_cmp_eq, lg_cmp_le, lg_cmp_lt, lg_cmp_ge, lg_cmp_gt, nI_1, zr_up_self, zp_O, zr_fup_self, zr_fup_ne, ne_eq, Nat.reduceEqDiff, not_false_eq_true, pk_mul, hG, zg_O, zg_0, zg_1, zg_2, zg_4, zg_5, ob_f]
    rw [tb_in' (by omega), hv.1]
    rw [bs0] at hQ
    refine ⟨fun z => ?_, fun z => ?_⟩
    · rw [if_neg z] at hQ; exact hQ
    · rw [if_pos (by omega)] at hQ
      have e : nI p - nI S + 1 = nI (p + 1 - S) := by
        have e1 := pk_sub (a := p + 1) (b := S) (by omega)
        have e2 := nI_1 p
        grind
      rw [e]
      exact hQ
  | 1, _, hQ =>
    rw [show nI 1 = 1 from rfl]
    simp only [zs_37_0, zs_37_1, zs_37_2, zs_37_3, zs_37_4, zs_37_5, zs_37_5_0, zs_37_5_1, zs_37_5_2, zs_37_32, zs_37_33, zs_37_33u, zs_37_34, zs_37_37, zs_37_38, zs_37_39, zs_37_40, zs_37_43, zs_37_44, zs_37_44u, zs_37_45, zs_37_48, zs_37_49, zs_37_50, zs_37_51, zs_37_54, zs_37_55, zs_37_56, zs_37_57, zs_37_58, zs_37_59, zs_37_59u, zs_37_60, zs_37_63, zs_37_64, zs_37_65, zs_37_66, zs_37_69, zs_37_70, zs_37_70u, zs_37_71, zs_37_74, zs_37_75, zs_37_76, zs_37_77, zs_37_80, zs_37_81, zs_37_82, zs_37_83, zs_37_84, zs_37_85, zs_37_85u, zs_37_86, zs_37_89, zs_37_90, zs_37_90u, zs_37_91, zs_37_94, zs_37_97, zs_37_98, zs_37_98u, zs_37_99, zs_37_102, zs_37_103, zs_37_106, zs_37_107, zs_37_108, zs_37_109, zs_37_109u, zs_37_110, zs_37_113, zs_37_116, zs_37_117, zs_37_117u, zs_37_118, zs_37_121, zs_37_122, zs_37_125, zs_37_126, zc_isO, zr_fld_mk, zc_isA, zc_len, zr_elt_mk, zr_kill_i, zr_kill_l, zr_kill_r, zr_kill_u, zr_kill_f, zr_kill_n, zc_cat, zr_cat_i, zr_cat_l, zr_cat_r, zr_cat_f, zr_cat_d, zr_cat_u, beq_self_eq_true, Nat.zero_le, Nat.le_refl, Nat.reduceSub, Nat.reduceAdd, Nat.reduceLeDiff, csl_f, csr_f, cn_f, lg_cmp_eq, lg_cmp_le, lg_cmp_lt, lg_cmp_ge, lg_cmp_gt, nI_1, zr_up_self, zp_O, zr_fup_self, zr_fup_ne, ne_eq, Nat.reduceEqDiff, not_false_eq_true, pk_mul, hG, zg_O, zg_0, zg_1, zg_2, zg_4, zg_5, ob_f]
    rw [tb_in' (by omega), hv.2]
    rw [bs1] at hQ
    refine ⟨fun z => ?_, fun z => ?_⟩
    · rw [if_neg z] at hQ
      have : 1 ≤ p := by rcases Nat.eq_zero_or_pos p with y | y
                         · subst y; exact (z (Nat.zero_mod S)).elim
                         · exact y
      rw [show nI p - 1 = nI (p - 1) from pk_sub (b := 1) this]
      exact hQ
    · rw [if_pos (by omega)] at hQ
      rw [nI_add, show nI (p + S) - 1 = nI (p + S - 1) from pk_sub (b := 1) (by omega)]
      exact hQ
  | 2, _, hQ =>
    rw [show nI 2 = 2 from rfl]
    simp only [zs_37_0, zs_37_1, zs_37_2, zs_37_3, zs_37_4, zs_37_5, zs_37_5_0, zs_37_5_1, zs_37_5_2, zs_37_32, zs_37_33, zs_37_33u, zs_37_34, zs_37_37, zs_37_38, zs_37_39, zs_37_40, zs_37_43, zs_37_44, zs_37_44u, zs_37_45, zs_37_48, zs_37_49, zs_37_50, zs_37_51, zs_37_54, zs_37_55, zs_37_56, zs_37_57, zs_37_58, zs_37_59, zs_37_59u, zs_37_60, zs_37_63, zs_37_64, zs_37_65, zs_37_66, zs_37_69, zs_37_70, zs_37_70u, zs_37_71, zs_37_74, zs_37_75, zs_37_76, zs_37_77, zs_37_80, zs_37_81, zs_37_82, zs_37_83, zs_37_84, zs_37_85, zs_37_85u, zs_37_86, zs_37_89, zs_37_90, zs_37_90u, zs_37_91, zs_37_94, zs_37_97, zs_37_98, zs_37_98u, zs_37_99, zs_37_102, zs_37_103, zs_37_106, zs_37_107, zs_37_108, zs_37_109, zs_37_109u, zs_37_110, zs_37_113, zs_37_116, zs_37_117, zs_37_117u, zs_37_118, zs_37_121, zs_37_122, zs_37_125, zs_37_126, zc_isO, zr_fld_mk, zc_isA, zc_len, zr_elt_mk, zr_kill_i, zr_kill_l, zr_kill_r, zr_kill_u, zr_kill_f, zr_kill_n, zc_cat, zr_cat_i, zr_cat_l, zr_cat_r, zr_cat_f, zr_cat_d, zr_cat_u, beq_self_eq_true, Nat.zero_le, Nat.le_refl, Nat.reduceSub, Nat.reduceAdd, Nat.reduceLeDiff, csl_f, csr_f, cn_f, lg_cmp_eq, lg_cmp_le, lg_cmp_lt, lg_cmp_ge, lg_cmp_gt, nI_1, zr_up_self, zp_O, zr_fup_self, zr_fup_ne, ne_eq, Nat.reduceEqDiff, not_false_eq_true, pk_mul, hG, zg_O, zg_0, zg_1, zg_2, zg_4, zg_5, ob_f, nI_add]
    rw [nI_leI (by omega) (by omega)]
    rw [bs2] at hQ
    refine ⟨fun z => ?_, fun z => ?_⟩
    · rw [if_neg (by omega)] at hQ; exact hQ
    · rw [if_pos (by omega)] at hQ; exact hQ
  | 3, _, hQ =>
    rw [show nI 3 = 3 from rfl]
    rw [bs3] at hQ
    have e3 : (3 : Int32).toInt < 0 ∨ 2 < (3 : Int32).toInt := Or.inr (by decide)
    simp only [zs_37_0, zs_37_1, zs_37_2, zs_37_3, zs_37_4, zs_37_5, zs_37_5_0, zs_37_5_1, zs_37_5_2, zs_37_32, zs_37_33, zs_37_33u, zs_37_34, zs_37_37, zs_37_38, zs_37_39, zs_37_40, zs_37_43, zs_37_44, zs_37_44u, zs_37_45, zs_37_48, zs_37_49, zs_37_50, zs_37_51, zs_37_54, zs_37_55, zs_37_56, zs_37_57, zs_37_58, zs_37_59, zs_37_59u, zs_37_60, zs_37_63, zs_37_64, zs_37_65, zs_37_66, zs_37_69, zs_37_70, zs_37_70u, zs_37_71, zs_37_74, zs_37_75, zs_37_76, zs_37_77, zs_37_80, zs_37_81, zs_37_82, zs_37_83, zs_37_84, zs_37_85, zs_37_85u, zs_37_86, zs_37_89, zs_37_90, zs_37_90u, zs_37_91, zs_37_94, zs_37_97, zs_37_98, zs_37_98u, zs_37_99, zs_37_102, zs_37_103, zs_37_106, zs_37_107, zs_37_108, zs_37_109, zs_37_109u, zs_37_110, zs_37_113, zs_37_116, zs_37_117, zs_37_117u, zs_37_118, zs_37_121, zs_37_122, zs_37_125, zs_37_126, zc_isO, zr_fld_mk, zc_isA, zc_len, zr_elt_mk, zr_kill_i, zr_kill_l, zr_kill_r, zr_kill_u, zr_kill_f, zr_kill_n, zc_cat, zr_cat_i, zr_cat_l, zr_cat_r, zr_cat_f, zr_cat_d, zr_cat_u, beq_self_eq_true, Nat.zero_le, Nat.le_refl, Nat.reduceSub, Nat.reduceAdd, Nat.reduceLeDiff, csl_f, csr_f, cn_f, lg_cmp_eq, lg_cmp_le, lg_cmp_lt, lg_cmp_ge, lg_cmp_gt, nI_1, zr_up_self, zp_O, zr_fup_self, zr_fup_ne, ne_eq, Nat.reduceEqDiff, not_false_eq_true, pk_mul, hG, zg_O, zg_0, zg_1, zg_2, zg_4, zg_5, ob_f, nI_add, e3]
    rw [nI_ltI (by omega) (by omega)]
    refine ⟨fun z => ?_, fun z => ?_⟩
    · rw [if_neg (by omega)] at hQ; exact hQ
    · rw [if_pos (by omega)] at hQ
      rw [pk_sub (by omega)]
      exact hQ
theorem k_grid_ (hg : vG R S) {h1 : zr_H} (hG : h1 = zr_up h g (.inl (2, zr_fup (zr_fup (zr_fup (zr_fup (dv 2) 0 (.int (nI R))) 1 (.int (nI S))) 2 (.int (nI (R * S)))) 3 (.long (fa (R * S)))))) (hQ : Q (.inl none) (zr_up h g (zg R S))) (m : Nat) :
    ∀ k, k + m = R → zr_Z d 35 Q 38 [some (.ref g), some (.int (nI R)), some (.int (nI S)), some (.long (cFirst S k)), none, some (.int (nI k))] [] h1 0 0 := by
  have hn := g_n hg
  have hl := g_lt hg
  induction m with
  | zero =>
    intro k hk
    subst hG
    have e : nI S - 1 = nI (S - 1) := nI_p (by omega)
    simp only [zs_35_0, zs_35_0u, zs_35_1, zs_35_4, zs_35_4u, zs_35_5, zs_35_6, zs_35_9, zs_35_9u, zs_35_10, zs_35_11, zs_35_14, zs_35_14u, zs_35_15, zs_35_16, zs_35_17, zs_35_18, zs_35_21, zs_35_21u, zs_35_22, zs_35_23, zs_35_23u, zs_35_24, zs_35_27, zs_35_28, zs_35_29, zs_35_30, zs_35_33, zs_35_34, zs_35_35, zs_35_36, zs_35_38, zs_35_40, zs_35_41, zs_35_45, zs_35_46, zs_35_47, zs_35_49, zs_35_50, zs_35_51, zs_35_52, zs_35_53, zs_35_56, zs_35_59, zs_35_59u, zs_35_60, zs_35_61, zs_35_64, zs_35_64u, zs_35_65, zs_35_66, zs_35_67, zs_35_68, zs_35_69, zs_35_70, zs_35_73, zc_isO, zr_fld_mk, zc_isA, zc_len, zr_elt_mk, zr_kill_i, zr_kill_l, zr_kill_r, zr_kill_u, zr_kill_f, zr_kill_n, zc_cat, zr_cat_i, zr_cat_l, zr_cat_r, zr_cat_f, zr_cat_d, zr_cat_u, beq_self_eq_true, Nat.zero_le, Nat.le_refl, Nat.reduceSub, Nat.reduceAdd, Nat.reduceLeDiff, csl_f, csr_f, cn_f, lg_cmp_eq, lg_cmp_le, lg_cmp_lt, lg_cmp_ge, lg_cmp_gt, nI_1, zr_up_self, zp_O, zr_fup_self, zr_fup_ne, ne_eq, Nat.reduceEqDiff, not_false_eq_true, pk_mul, e]
    refine ⟨fun _ => ?_, fun z => (z (nI_le (by omega) (by omega))).elim⟩
    have e2 : zr_fup (zr_fup (zr_fup (zr_fup (zr_fup (zr_fup (dv 2) 0 (.int (nI R))) 1 (.int (nI S))) 2 (.int (nI (R * S)))) 3 (.long (fa (R * S)))) 4 (.long (cFirst S k))) 5 (.long (csl (cFirst S k) (nI (S - 1)))) = zgV R S := by
      rw [show k = R by omega]
      funext j
      match j with
      | 0 => rfl
      | 1 => rfl
      | 2 => rfl
      | 3 => rfl
      | 4 => rfl
      | 5 => rfl
      | j + 6 => simp [zr_fup, zgV]
    rw [e2]
    exact hQ
  | succ m ih =>
    intro k hk
    have := ih (k + 1) (by omega)
    simp only [zs_35_0, zs_35_0u, zs_35_1, zs_35_4, zs_35_4u, zs_35_5, zs_35_6, zs_35_9, zs_35_9u, zs_35_10, zs_35_11, zs_35_14, zs_35_14u, zs_35_15, zs_35_16, zs_35_17, zs_35_18, zs_35_21, zs_35_21u, zs_35_22, zs_35_23, zs_35_23u, zs_35_24, zs_35_27, zs_35_28, zs_35_29, zs_35_30, zs_35_33, zs_35_34, zs_35_35, zs_35_36, zs_35_38, zs_35_40, zs_35_41, zs_35_44, zs_35_45, zs_35_46, zs_35_47, zs_35_49, zs_35_50, zs_35_51, zs_35_52, zs_35_56, zs_35_60, zs_35_61, zs_35_64, zs_35_64u, zs_35_65, zs_35_66, zs_35_67, zs_35_68, zs_35_69, zs_35_70, zs_35_73, zc_isO, zr_fld_mk, zc_isA, zc_len, zr_elt_mk, zr_kill_i, zr_kill_l, zr_kill_r, zr_kill_u, zr_kill_f, zr_kill_n, zc_cat, zr_cat_i, zr_cat_l, zr_cat_r, zr_cat_f, zr_cat_d, zr_cat_u, beq_self_eq_true, Nat.zero_le, Nat.le_refl, Nat.reduceSub, Nat.reduceAdd, Nat.reduceLeDiff, csl_f, csr_f, cn_f, lg_cmp_eq, lg_cmp_le, lg_cmp_lt, lg_cmp_ge, lg_cmp_gt, nI_1, zr_up_self, zp_O, zr_fup_self, zr_fup_ne, ne_eq, Nat.reduceEqDiff, not_false_eq_true, pk_mul]
    refine ⟨fun z => absurd z (nI_ge (by omega) (by omega)), fun _ => ?_⟩
    rw [ob_f]
    simp only [zs_35_0, zs_35_0u, zs_35_1, zs_35_4, zs_35_4u, zs_35_5, zs_35_6, zs_35_9, zs_35_9u, zs_35_10, zs_35_11, zs_35_14, zs_35_14u, zs_35_15, zs_35_16, zs_35_17, zs_35_18, zs_35_21, zs_35_21u, zs_35_22, zs_35_23, zs_35_23u, zs_35_24, zs_35_27, zs_35_28, zs_35_29, zs_35_30, zs_35_33, zs_35_34, zs_35_35, zs_35_36, zs_35_40, zs_35_41, zs_35_44, zs_35_45, zs_35_46, zs_35_47, zs_35_49, zs_35_50, zs_35_51, zs_35_52, zs_35_53, zs_35_56, zs_35_59, zs_35_59u, zs_35_60, zs_35_61, zs_35_64, zs_35_64u, zs_35_65, zs_35_66, zs_35_67, zs_35_68, zs_35_69, zs_35_70, zs_35_73, zc_isO, zr_fld_mk, zc_isA, zc_len, zr_elt_mk, zr_kill_i, zr_kill_l, zr_kill_r, zr_kill_u, zr_kill_f, zr_kill_n, zc_cat, zr_cat_i, zr_cat_l, zr_cat_r, zr_cat_f, zr_cat_d, zr_cat_u, beq_self_eq_true, Nat.zero_le, Nat.le_refl, Nat.reduceSub, Nat.reduceAdd, Nat.reduceLeDiff, csl_f, csr_f, cn_f, lg_cmp_eq, lg_cmp_le, lg_cmp_lt, lg_cmp_ge, lg_cmp_gt, nI_1, zr_up_self, zp_O, zr_fup_self, zr_fup_ne, ne_eq, Nat.reduceEqDiff, not_false_eq_true, pk_mul]
    exact this
theorem k_grid (hg : vG R S) (hG : h g = some (zr_dfl 2)) (hQ : Q (.inl none) (zr_up h g (zg R S))) : zr_E (d + 1) 35 [.ref g, .int (nI R), .int (nI S)] h Q := by
  rw [ze_35, ← zr_up_id hG, show zr_dfl 2 = .inl (2, dv 2) from rfl]
  simp only [zs_35_0, zs_35_0u, zs_35_1, zs_35_4, zs_35_4u, zs_35_5, zs_35_6, zs_35_9, zs_35_9u, zs_35_10, zs_35_11, zs_35_14, zs_35_14u, zs_35_15, zs_35_16, zs_35_17, zs_35_18, zs_35_21, zs_35_21u, zs_35_22, zs_35_23, zs_35_23u, zs_35_24, zs_35_27, zs_35_28, zs_35_29, zs_35_30, zs_35_33, zs_35_34, zs_35_35, zs_35_36, zs_35_40, zs_35_41, zs_35_44, zs_35_45, zs_35_46, zs_35_47, zs_35_49, zs_35_50, zs_35_51, zs_35_52, zs_35_53, zs_35_56, zs_35_59, zs_35_59u, zs_35_60, zs_35_61, zs_35_64, zs_35_64u, zs_35_65, zs_35_66, zs_35_67, zs_35_68, zs_35_69, zs_35_70, zs_35_73, zc_isO, zr_fld_mk, zc_isA, zc_len, zr_elt_mk, zr_kill_i, zr_kill_l, zr_kill_r, zr_kill_u, zr_kill_f, zr_kill_n, zc_cat, zr_cat_i, zr_cat_l, zr_cat_r, zr_cat_f, zr_cat_d, zr_cat_u, beq_self_eq_true, Nat.zero_le, Nat.le_refl, Nat.reduceSub, Nat.reduceAdd, Nat.reduceLeDiff, csl_f, csr_f, cn_f, lg_cmp_eq, lg_cmp_le, lg_cmp_lt, lg_cmp_ge, lg_cmp_gt, nI_1, zr_up_self, zp_O, zr_fup_self, zr_fup_ne, ne_eq, Nat.reduceEqDiff, not_false_eq_true, pk_mul, ob_f, fa_f]
  exact k_grid_ hg rfl hQ R 0 (Nat.zero_add _)
end GRID
