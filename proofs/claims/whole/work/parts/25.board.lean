/-! THE BOARD'S METHODS -/
def zbV (g : Nat) (b w : Int64) : Nat → Value := fun k => match k with
  | 0 => .ref g
  | 1 => .long b
  | 2 => .long w
  | k => dv 0 k
def zbd (g : Nat) (b w : Int64) : zr_C := .inl (0, zbV g b w)
section BOARD
variable {d : Nat} {h : zr_H} {Q : zr_K} {g q : Nat} {R S : Nat} {b w : Int64}
theorem zb_O : zr_isO (some (zbd g b w)) 0 = true := id rfl
theorem zb_0 : zr_fld (some (zbd g b w)) 0 = .ref g := rfl
theorem zb_1 : zr_fld (some (zbd g b w)) 1 = .long b := rfl
theorem zb_2 : zr_fld (some (zbd g b w)) 2 = .long w := rfl
def so (c : Nat) (b w : Int64) : Int64 := if c = 1 then b else w
theorem nI_eq1 {c : Nat} (hc : c < 2 ^ 31) : nI c = 1 ↔ c = 1 := nI_eq (b := 1) hc (by omega)
theorem k_so (hB : h q = some (zbd g b w)) {c : Nat} (hc : c < 4) (hQ : Q (.inl (some (.long (so c b w)))) h) : zr_E (d + 1) 2 [.ref q, .int (nI c)] h Q := by
  rw [ze_2]
  simp only [zs_2_0, zs_2_1, zs_2_2, zs_2_5, zs_2_5u, zs_2_6, zs_2_9, zs_2_12, zs_2_12u, zs_2_13, zs_2_16, zc_isO, zr_fld_mk, zc_isA, zc_len, zr_elt_mk, zr_kill_i, zr_kill_l, zr_kill_r, zr_kill_u, zr_kill_f, zr_kill_n, zc_cat, zr_cat_i, zr_cat_l, zr_cat_r, zr_cat_f, zr_cat_d, zr_cat_u, beq_self_eq_true, Nat.zero_le, Nat.le_refl, Nat.reduceSub, Nat.reduceAdd, Nat.reduceLeDiff, csl_f, csr_f, cn_f, lg_cmp_eq, lg_cmp_le, lg_cmp_lt, lg_cmp_ge, lg_cmp_gt, nI_1, zr_up_self, zp_O, zr_fup_self, zr_fup_ne, ne_eq, Nat.reduceEqDiff, not_false_eq_true, pk_mul, hB, zb_O, zb_0, zb_1, zb_2]
  rw [nI_eq1 (by omega)]
  unfold so at hQ
  refine ⟨fun z => ?_, fun z => ?_⟩
  · rw [if_neg z] at hQ; exact hQ
  · rw [if_pos (by omega)] at hQ; exact hQ
def em (R S : Nat) (b w : Int64) : Int64 := ab R S (b ||| w)
theorem k_em (hB : h q = some (zbd g b w)) (hG : h g = some (zg R S)) (hQ : Q (.inl (some (.long (em R S b w)))) h) : zr_E (d + 2) 3 [.ref q] h Q := by
  rw [ze_3]
  simp only [zs_3_0, zs_3_0u, zs_3_1, zs_3_4, zs_3_4u, zs_3_5, zs_3_8, zs_3_8u, zs_3_9, zs_3_12, zs_3_13, zt_3_13, zs_3_16, zc_isO, zr_fld_mk, zc_isA, zc_len, zr_elt_mk, zr_kill_i, zr_kill_l, zr_kill_r, zr_kill_u, zr_kill_f, zr_kill_n, zc_cat, zr_cat_i, zr_cat_l, zr_cat_r, zr_cat_f, zr_cat_d, zr_cat_u, beq_self_eq_true, Nat.zero_le, Nat.le_refl, Nat.reduceSub, Nat.reduceAdd, Nat.reduceLeDiff, csl_f, csr_f, cn_f, lg_cmp_eq, lg_cmp_le, lg_cmp_lt, lg_cmp_ge, lg_cmp_gt, nI_1, zr_up_self, zp_O, zr_fup_self, zr_fup_ne, ne_eq, Nat.reduceEqDiff, not_false_eq_true, pk_mul, hB, zb_O, zb_0, zb_1, zb_2, hG, zg_O]
  refine k_allBut hG ?_
  simp only [zs_3_0, zs_3_0u, zs_3_1, zs_3_4, zs_3_4u, zs_3_5, zs_3_8, zs_3_8u, zs_3_9, zs_3_12, zs_3_13, zt_3_13, zs_3_16, zc_isO, zr_fld_mk, zc_isA, zc_len, zr_elt_mk, zr_kill_i, zr_kill_l, zr_kill_r, zr_kill_u, zr_kill_f, zr_kill_n, zc_cat, zr_cat_i, zr_cat_l, zr_cat_r, zr_cat_f, zr_cat_d, zr_cat_u, beq_self_eq_true, Nat.zero_le, Nat.le_refl, Nat.reduceSub, Nat.reduceAdd, Nat.reduceLeDiff, csl_f, csr_f, cn_f, lg_cmp_eq, lg_cmp_le, lg_cmp_lt, lg_cmp_ge, lg_cmp_gt, nI_1, zr_up_self, zp_O, zr_fup_self, zr_fup_ne, ne_eq, Nat.reduceEqDiff, not_false_eq_true, pk_mul]
  exact hQ
theorem k_wo (hB : h q = some (zbd g b w)) (hG : h g = some (zg R S)) {c : Nat} (hc : c < 4) (hQ : Q (.inl (some (.long (ab R S (so c b w))))) h) : zr_E (d + 2) 4 [.ref q, .int (nI c)] h Q := by
  rw [ze_4]
  simp only [zs_4_0, zs_4_0u, zs_4_1, zs_4_4, zs_4_4u, zs_4_5, zs_4_6, zt_4_6, zs_4_9, zt_4_9, zs_4_12, zc_isO, zr_fld_mk, zc_isA, zc_len, zr_elt_mk, zr_kill_i, zr_kill_l, zr_kill_r, zr_kill_u, zr_kill_f, zr_kill_n, zc_cat, zr_cat_i, zr_cat_l, zr_cat_r, zr_cat_f, zr_cat_d, zr_cat_u, beq_self_eq_true, Nat.zero_le, Nat.le_refl, Nat.reduceSub, Nat.reduceAdd, Nat.reduceLeDiff, csl_f, csr_f, cn_f, lg_cmp_eq, lg_cmp_le, lg_cmp_lt, lg_cmp_ge, lg_cmp_gt, nI_1, zr_up_self, zp_O, zr_fup_self, zr_fup_ne, ne_eq, Nat.reduceEqDiff, not_false_eq_true, pk_mul, hB, zb_O, zb_0, zb_1, zb_2, hG, zg_O]
  refine k_so hB hc ?_
  simp only [zs_4_0, zs_4_0u, zs_4_1, zs_4_4, zs_4_4u, zs_4_5, zs_4_6, zt_4_6, zs_4_9, zt_4_9, zs_4_12, zc_isO, zr_fld_mk, zc_isA, zc_len, zr_elt_mk, zr_kill_i, zr_kill_l, zr_kill_r, zr_kill_u, zr_kill_f, zr_kill_n, zc_cat, zr_cat_i, zr_cat_l, zr_cat_r, zr_cat_f, zr_cat_d, zr_cat_u, beq_self_eq_true, Nat.zero_le, Nat.le_refl, Nat.reduceSub, Nat.reduceAdd, Nat.reduceLeDiff, csl_f, csr_f, cn_f, lg_cmp_eq, lg_cmp_le, lg_cmp_lt, lg_cmp_ge, lg_cmp_gt, nI_1, zr_up_self, zp_O, zr_fup_self, zr_fup_ne, ne_eq, Nat.reduceEqDiff, not_false_eq_true, pk_mul, hB, zb_O, zb_0, zb_1, zb_2, hG, zg_O]
  refine k_allBut hG ?_
  simp only [zs_4_0, zs_4_0u, zs_4_1, zs_4_4, zs_4_4u, zs_4_5, zs_4_6, zt_4_6, zs_4_9, zt_4_9, zs_4_12, zc_isO, zr_fld_mk, zc_isA, zc_len, zr_elt_mk, zr_kill_i, zr_kill_l, zr_kill_r, zr_kill_u, zr_kill_f, zr_kill_n, zc_cat, zr_cat_i, zr_cat_l, zr_cat_r, zr_cat_f, zr_cat_d, zr_cat_u, beq_self_eq_true, Nat.zero_le, Nat.le_refl, Nat.reduceSub, Nat.reduceAdd, Nat.reduceLeDiff, csl_f, csr_f, cn_f, lg_cmp_eq, lg_cmp_le, lg_cmp_lt, lg_cmp_ge, lg_cmp_gt, nI_1, zr_up_self, zp_O, zr_fup_self, zr_fup_ne, ne_eq, Nat.reduceEqDiff, not_false_eq_true, pk_mul]
  exact hQ
theorem k_sn (hB : h q = some (zbd g b w)) (hQ : Q (.inl (some (.int (nI (ct (b ||| w)))))) h) : zr_E (d + 2) 5 [.ref q] h Q := by
  rw [ze_5]
  simp only [zs_5_0, zs_5_0u, zs_5_1, zs_5_4, zs_5_4u, zs_5_5, zs_5_8, zs_5_9, zt_5_9, zs_5_12, zc_isO, zr_fld_mk, zc_isA, zc_len, zr_elt_mk, zr_kill_i, zr_kill_l, zr_kill_r, zr_kill_u, zr_kill_f, zr_kill_n, zc_cat, zr_cat_i, zr_cat_l, zr_cat_r, zr_cat_f, zr_cat_d, zr_cat_u, beq_self_eq_true, Nat.zero_le, Nat.le_refl, Nat.reduceSub, Nat.reduceAdd, Nat.reduceLeDiff, csl_f, csr_f, cn_f, lg_cmp_eq, lg_cmp_le, lg_cmp_lt, lg_cmp_ge, lg_cmp_gt, nI_1, zr_up_self, zp_O, zr_fup_self, zr_fup_ne, ne_eq, Nat.reduceEqDiff, not_false_eq_true, pk_mul, hB, zb_O, zb_0, zb_1, zb_2]
  refine k_bits ?_
  simp only [zs_5_0, zs_5_0u, zs_5_1, zs_5_4, zs_5_4u, zs_5_5, zs_5_8, zs_5_9, zt_5_9, zs_5_12, zc_isO, zr_fld_mk, zc_isA, zc_len, zr_elt_mk, zr_kill_i, zr_kill_l, zr_kill_r, zr_kill_u, zr_kill_f, zr_kill_n, zc_cat, zr_cat_i, zr_cat_l, zr_cat_r, zr_cat_f, zr_cat_d, zr_cat_u, beq_self_eq_true, Nat.zero_le, Nat.le_refl, Nat.reduceSub, Nat.reduceAdd, Nat.reduceLeDiff, csl_f, csr_f, cn_f, lg_cmp_eq, lg_cmp_le, lg_cmp_lt, lg_cmp_ge, lg_cmp_gt, nI_1, zr_up_self, zp_O, zr_fup_self, zr_fup_ne, ne_eq, Nat.reduceEqDiff, not_false_eq_true, pk_mul]
  exact hQ
def co (b w : Int64) (p : Nat) : Nat := if tb b p then 1 else if tb w p then 2 else 0
theorem co_lt (b w : Int64) (p : Nat) : co b w p < 4 := by unfold co; split; omega; split <;> omega
theorem k_co (hB : h q = some (zbd g b w)) {p : Nat} (hp : p < 64) (hQ : Q (.inl (some (.int (nI (co b w p))))) h) : zr_E (d + 1) 6 [.ref q, .int (nI p)] h Q := by
  rw [ze_6]
  simp only [zs_6_0, zs_6_1, zs_6_2, zs_6_3, zs_6_4, zs_6_4u, zs_6_5, zs_6_8, zs_6_9, zs_6_10, zs_6_11, zs_6_12, zs_6_15, zs_6_16, zs_6_17, zs_6_17u, zs_6_18, zs_6_21, zs_6_22, zs_6_23, zs_6_24, zs_6_25, zs_6_28, zs_6_29, zs_6_32, zs_6_33, zc_isO, zr_fld_mk, zc_isA, zc_len, zr_elt_mk, zr_kill_i, zr_kill_l, zr_kill_r, zr_kill_u, zr_kill_f, zr_kill_n, zc_cat, zr_cat_i, zr_cat_l, zr_cat_r, zr_cat_f, zr_cat_d, zr_cat_u, beq_self_eq_true, Nat.zero_le, Nat.le_refl, Nat.reduceSub, Nat.reduceAdd, Nat.reduceLeDiff, csl_f, csr_f, cn_f, lg_cmp_eq, lg_cmp_le, lg_cmp_lt, lg_cmp_ge, lg_cmp_gt, nI_1, zr_up_self, zp_O, zr_fup_self, zr_fup_ne, ne_eq, Nat.reduceEqDiff, not_false_eq_true, pk_mul, hB, zb_O, zb_0, zb_1, zb_2, ob_f]
  rw [tb_in hp, tb_in hp]
  unfold co at hQ
  refine ⟨fun z => ?_, fun z => ?_⟩
  · rw [z, if_neg (by simp)] at hQ
    refine ⟨fun y => ?_, fun y => ?_⟩
    · rw [y, if_neg (by simp)] at hQ; exact hQ
    · rw [if_pos (by simpa using y)] at hQ; exact hQ
  · rw [if_pos (by simpa using z)] at hQ; exact hQ
/-- the chain of a stone; nothing if there is none -/
def ch (R S : Nat) (b w : Int64) (p : Nat) : Int64 := if co b w p = 0 then 0 else rc R S (so (co b w p) b w) (ob p)
theorem nI_eq0 {c : Nat} (hc : c < 2 ^ 31) : nI c = 0 ↔ c = 0 := nI_eq (b := 0) hc (by omega)
theorem k_ch (hg : vG R S) (hB : h q = some (zbd g b w)) (hG : h g = some (zg R S)) {p : Nat} (hp : p < R * S) (hQ : Q (.inl (some (.long (ch R S b w p)))) h) : zr_E (d + 3) 7 [.ref q, .int (nI p)] h Q := by
  have hn := g_n hg
  have hc := co_lt b w p
  rw [ze_7]
  simp only [zs_7_0, zs_7_0u, zs_7_1, zs_7_2, zt_7_2, zs_7_5, zs_7_6, zs_7_7, zs_7_10, zs_7_11, zs_7_14, zs_7_14u, zs_7_15, zs_7_18, zs_7_19, zs_7_20, zs_7_21, zs_7_21u, zs_7_22, zs_7_23, zt_7_23, zs_7_26, zt_7_26, zs_7_29, zc_isO, zr_fld_mk, zc_isA, zc_len, zr_elt_mk, zr_kill_i, zr_kill_l, zr_kill_r, zr_kill_u, zr_kill_f, zr_kill_n, zc_cat, zr_cat_i, zr_cat_l, zr_cat_r, zr_cat_f, zr_cat_d, zr_cat_u, beq_self_eq_true, Nat.zero_le, Nat.le_refl, Nat.reduceSub, Nat.reduceAdd, Nat.reduceLeDiff, csl_f, csr_f, cn_f, lg_cmp_eq, lg_cmp_le, lg_cmp_lt, lg_cmp_ge, lg_cmp_gt, nI_1, zr_up_self, zp_O, zr_fup_self, zr_fup_ne, ne_eq, Nat.reduceEqDiff, not_false_eq_true, pk_mul, hB, zb_O]
  refine k_co hB (by omega) ?_
  simp only [zs_7_0, zs_7_0u, zs_7_1, zs_7_2, zt_7_2, zs_7_5, zs_7_6, zs_7_7, zs_7_10, zs_7_11, zs_7_14, zs_7_14u, zs_7_15, zs_7_18, zs_7_19, zs_7_20, zs_7_21, zs_7_21u, zs_7_22, zs_7_23, zt_7_23, zs_7_26, zt_7_26, zs_7_29, zc_isO, zr_fld_mk, zc_isA, zc_len, zr_elt_mk, zr_kill_i, zr_kill_l, zr_kill_r, zr_kill_u, zr_kill_f, zr_kill_n, zc_cat, zr_cat_i, zr_cat_l, zr_cat_r, zr_cat_f, zr_cat_d, zr_cat_u, beq_self_eq_true, Nat.zero_le, Nat.le_refl, Nat.reduceSub, Nat.reduceAdd, Nat.reduceLeDiff, csl_f, csr_f, cn_f, lg_cmp_eq, lg_cmp_le, lg_cmp_lt, lg_cmp_ge, lg_cmp_gt, nI_1, zr_up_self, zp_O, zr_fup_self, zr_fup_ne, ne_eq, Nat.reduceEqDiff, not_false_eq_true, pk_mul, hB, zb_O, zb_0, zb_1, zb_2, ob_f]
  rw [nI_eq0 (by omega)]
  unfold ch at hQ
  refine ⟨fun z => ?_, fun z => ?_⟩
  · rw [if_neg z] at hQ
    refine k_so hB hc ?_
    simp only [zs_7_0, zs_7_0u, zs_7_1, zs_7_2, zt_7_2, zs_7_5, zs_7_6, zs_7_7, zs_7_10, zs_7_11, zs_7_14, zs_7_14u, zs_7_15, zs_7_18, zs_7_19, zs_7_20, zs_7_21, zs_7_21u, zs_7_22, zs_7_23, zt_7_23, zs_7_26, zt_7_26, zs_7_29, zc_isO, zr_fld_mk, zc_isA, zc_len, zr_elt_mk, zr_kill_i, zr_kill_l, zr_kill_r, zr_kill_u, zr_kill_f, zr_kill_n, zc_cat, zr_cat_i, zr_cat_l, zr_cat_r, zr_cat_f, zr_cat_d, zr_cat_u, beq_self_eq_true, Nat.zero_le, Nat.le_refl, Nat.reduceSub, Nat.reduceAdd, Nat.reduceLeDiff, csl_f, csr_f, cn_f, lg_cmp_eq, lg_cmp_le, lg_cmp_lt, lg_cmp_ge, lg_cmp_gt, nI_1, zr_up_self, zp_O, zr_fup_self, zr_fup_ne, ne_eq, Nat.reduceEqDiff, not_false_eq_true, pk_mul, hG, zg_O]
    refine k_reach hg hG (wi_ob hp (by omega)) ?_
    simp only [zs_7_0, zs_7_0u, zs_7_1, zs_7_2, zt_7_2, zs_7_5, zs_7_6, zs_7_7, zs_7_10, zs_7_11, zs_7_14, zs_7_14u, zs_7_15, zs_7_18, zs_7_19, zs_7_20, zs_7_21, zs_7_21u, zs_7_22, zs_7_23, zt_7_23, zs_7_26, zt_7_26, zs_7_29, zc_isO, zr_fld_mk, zc_isA, zc_len, zr_elt_mk, zr_kill_i, zr_kill_l, zr_kill_r, zr_kill_u, zr_kill_f, zr_kill_n, zc_cat, zr_cat_i, zr_cat_l, zr_cat_r, zr_cat_f, zr_cat_d, zr_cat_u, beq_self_eq_true, Nat.zero_le, Nat.le_refl, Nat.reduceSub, Nat.reduceAdd, Nat.reduceLeDiff, csl_f, csr_f, cn_f, lg_cmp_eq, lg_cmp_le, lg_cmp_lt, lg_cmp_ge, lg_cmp_gt, nI_1, zr_up_self, zp_O, zr_fup_self, zr_fup_ne, ne_eq, Nat.reduceEqDiff, not_false_eq_true, pk_mul]
    exact hQ
  · rw [if_pos (by omega)] at hQ; exact hQ
def ff (R S : Nat) (b w x : Int64) : Int64 := fr R S x (b ||| w)
theorem k_ff (hg : vG R S) (hB : h q = some (zbd g b w)) (hG : h g = some (zg R S)) {x : Int64} (hQ : Q (.inl (some (.long (ff R S b w x)))) h) : zr_E (d + 3) 8 [.ref q, .long x] h Q := by
  rw [ze_8]
  simp only [zs_8_0, zs_8_0u, zs_8_1, zs_8_4, zs_8_5, zs_8_5u, zs_8_6, zs_8_9, zs_8_9u, zs_8_10, zs_8_13, zs_8_14, zt_8_14, zs_8_17, zc_isO, zr_fld_mk, zc_isA, zc_len, zr_elt_mk, zr_kill_i, zr_kill_l, zr_kill_r, zr_kill_u, zr_kill_f, zr_kill_n, zc_cat, zr_cat_i, zr_cat_l, zr_cat_r, zr_cat_f, zr_cat_d, zr_cat_u, beq_self_eq_true, Nat.zero_le, Nat.le_refl, Nat.reduceSub, Nat.reduceAdd, Nat.reduceLeDiff, csl_f, csr_f, cn_f, lg_cmp_eq, lg_cmp_le, lg_cmp_lt, lg_cmp_ge, lg_cmp_gt, nI_1, zr_up_self, zp_O, zr_fup_self, zr_fup_ne, ne_eq, Nat.reduceEqDiff, not_false_eq_true, pk_mul, hB, zb_O, zb_0, zb_1, zb_2, hG, zg_O]
  refine k_free hg hG ?_
  simp only [zs_8_0, zs_8_0u, zs_8_1, zs_8_4, zs_8_5, zs_8_5u, zs_8_6, zs_8_9, zs_8_9u, zs_8_10, zs_8_13, zs_8_14, zt_8_14, zs_8_17, zc_isO, zr_fld_mk, zc_isA, zc_len, zr_elt_mk, zr_kill_i, zr_kill_l, zr_kill_r, zr_kill_u, zr_kill_f, zr_kill_n, zc_cat, zr_cat_i, zr_cat_l, zr_cat_r, zr_cat_f, zr_cat_d, zr_cat_u, beq_self_eq_true, Nat.zero_le, Nat.le_refl, Nat.reduceSub, Nat.reduceAdd, Nat.reduceLeDiff, csl_f, csr_f, cn_f, lg_cmp_eq, lg_cmp_le, lg_cmp_lt, lg_cmp_ge, lg_cmp_gt, nI_1, zr_up_self, zp_O, zr_fup_self, zr_fup_ne, ne_eq, Nat.reduceEqDiff, not_false_eq_true, pk_mul]
  exact hQ
/-- what a move takes -/
def cb (R S : Nat) (b w : Int64) (p c : Nat) : Int64 := sk R S (so (3 - c) b w) (b ||| w ||| ob p)
theorem k_cb (hg : vG R S) (hB : h q = some (zbd g b w)) (hG : h g = some (zg R S)) {p c : Nat} (hc : c < 4) (hQ : Q (.inl (some (.long (cb R S b w p c)))) h) : zr_E (d + 4) 11 [.ref q, .int (nI p), .int (nI c)] h Q := by
  have e : (3 : Int32) - nI c = nI (3 - c) := pk_sub (a := 3) (by omega)
  rw [ze_11]
  simp only [zs_11_0, zs_11_0u, zs_11_1, zs_11_2, zs_11_3, zs_11_4, zt_11_4, zs_11_7, zs_11_8, zs_11_8u, zs_11_9, zs_11_12, zs_11_13, zs_11_13u, zs_11_14, zs_11_17, zs_11_17u, zs_11_18, zs_11_21, zs_11_22, zs_11_23, zs_11_24, zs_11_25, zs_11_26, zt_11_26, zs_11_29, zc_isO, zr_fld_mk, zc_isA, zc_len, zr_elt_mk, zr_kill_i, zr_kill_l, zr_kill_r, zr_kill_u, zr_kill_f, zr_kill_n, zc_cat, zr_cat_i, zr_cat_l, zr_cat_r, zr_cat_f, zr_cat_d, zr_cat_u, beq_self_eq_true, Nat.zero_le, Nat.le_refl, Nat.reduceSub, Nat.reduceAdd, Nat.reduceLeDiff, csl_f, csr_f, cn_f, lg_cmp_eq, lg_cmp_le, lg_cmp_lt, lg_cmp_ge, lg_cmp_gt, nI_1, zr_up_self, zp_O, zr_fup_self, zr_fup_ne, ne_eq, Nat.reduceEqDiff, not_false_eq_true, pk_mul, hB, zb_O, zb_0, zb_1, zb_2, hG, zg_O, e]
  refine k_so hB (by omega) ?_
  simp only [zs_11_0, zs_11_0u, zs_11_1, zs_11_2, zs_11_3, zs_11_4, zt_11_4, zs_11_7, zs_11_8, zs_11_8u, zs_11_9, zs_11_12, zs_11_13, zs_11_13u, zs_11_14, zs_11_17, zs_11_17u, zs_11_18, zs_11_21, zs_11_22, zs_11_23, zs_11_24, zs_11_25, zs_11_26, zt_11_26, zs_11_29, zc_isO, zr_fld_mk, zc_isA, zc_len, zr_elt_mk, zr_kill_i, zr_kill_l, zr_kill_r, zr_kill_u, zr_kill_f, zr_kill_n, zc_cat, zr_cat_i, zr_cat_l, zr_cat_r, zr_cat_f, zr_cat_d, zr_cat_u, beq_self_eq_true, Nat.zero_le, Nat.le_refl, Nat.reduceSub, Nat.reduceAdd, Nat.reduceLeDiff, csl_f, csr_f, cn_f, lg_cmp_eq, lg_cmp_le, lg_cmp_lt, lg_cmp_ge, lg_cmp_gt, nI_1, zr_up_self, zp_O, zr_fup_self, zr_fup_ne, ne_eq, Nat.reduceEqDiff, not_false_eq_true, pk_mul, hB, zb_O, zb_0, zb_1, zb_2, hG, zg_O, ob_f]
  refine k_stuck hg hG ?_
  simp only [zs_11_0, zs_11_0u, zs_11_1, zs_11_2, zs_11_3, zs_11_4, zt_11_4, zs_11_7, zs_11_8, zs_11_8u, zs_11_9, zs_11_12, zs_11_13, zs_11_13u, zs_11_14, zs_11_17, zs_11_17u, zs_11_18, zs_11_21, zs_11_22, zs_11_23, zs_11_24, zs_11_25, zs_11_26, zt_11_26, zs_11_29, zc_isO, zr_fld_mk, zc_isA, zc_len, zr_elt_mk, zr_kill_i, zr_kill_l, zr_kill_r, zr_kill_u, zr_kill_f, zr_kill_n, zc_cat, zr_cat_i, zr_cat_l, zr_cat_r, zr_cat_f, zr_cat_d, zr_cat_u, beq_self_eq_true, Nat.zero_le, Nat.le_refl, Nat.reduceSub, Nat.reduceAdd, Nat.reduceLeDiff, csl_f, csr_f, cn_f, lg_cmp_eq, lg_cmp_le, lg_cmp_lt, lg_cmp_ge, lg_cmp_gt, nI_1, zr_up_self, zp_O, zr_fup_self, zr_fup_ne, ne_eq, Nat.reduceEqDiff, not_false_eq_true, pk_mul]
  exact hQ
def cm (R S : Nat) (b w : Int64) (p c : Nat) : Int64 := rc R S (so c b w ||| ob p) (ob p)
theorem k_cm (hg : vG R S) (hB : h q = some (zbd g b w)) (hG : h g = some (zg R S)) {p c : Nat} (hp : p < R * S) (hc : c < 4) (hQ : Q (.inl (some (.long (cm R S b w p c)))) h) : zr_E (d + 3) 12 [.ref q, .int (nI p), .int (nI c)] h Q := by
  have hn := g_n hg
  rw [ze_12]
  simp only [zs_12_0, zs_12_0u, zs_12_1, zs_12_4, zs_12_5, zs_12_6, zs_12_7, zs_12_7u, zs_12_8, zs_12_9, zt_12_9, zs_12_12, zs_12_13, zs_12_14, zs_12_15, zs_12_16, zt_12_16, zs_12_19, zc_isO, zr_fld_mk, zc_isA, zc_len, zr_elt_mk, zr_kill_i, zr_kill_l, zr_kill_r, zr_kill_u, zr_kill_f, zr_kill_n, zc_cat, zr_cat_i, zr_cat_l, zr_cat_r, zr_cat_f, zr_cat_d, zr_cat_u, beq_self_eq_true, Nat.zero_le, Nat.le_refl, Nat.reduceSub, Nat.reduceAdd, Nat.reduceLeDiff, csl_f, csr_f, cn_f, lg_cmp_eq, lg_cmp_le, lg_cmp_lt, lg_cmp_ge, lg_cmp_gt, nI_1, zr_up_self, zp_O, zr_fup_self, zr_fup_ne, ne_eq, Nat.reduceEqDiff, not_false_eq_true, pk_mul, hB, zb_O, zb_0, zb_1, zb_2, hG, zg_O, ob_f]
  refine k_so hB (by omega) ?_
  simp only [zs_12_0, zs_12_0u, zs_12_1, zs_12_4, zs_12_5, zs_12_6, zs_12_7, zs_12_7u, zs_12_8, zs_12_9, zt_12_9, zs_12_12, zs_12_13, zs_12_14, zs_12_15, zs_12_16, zt_12_16, zs_12_19, zc_isO, zr_fld_mk, zc_isA, zc_len, zr_elt_mk, zr_kill_i, zr_kill_l, zr_kill_r, zr_kill_u, zr_kill_f, zr_kill_n, zc_cat, zr_cat_i, zr_cat_l, zr_cat_r, zr_cat_f, zr_cat_d, zr_cat_u, beq_self_eq_true, Nat.zero_le, Nat.le_refl, Nat.reduceSub, Nat.reduceAdd, Nat.reduceLeDiff, csl_f, csr_f, cn_f, lg_cmp_eq, lg_cmp_le, lg_cmp_lt, lg_cmp_ge, lg_cmp_gt, nI_1, zr_up_self, zp_O, zr_fup_self, zr_fup_ne, ne_eq, Nat.reduceEqDiff, not_false_eq_true, pk_mul, hB, zb_O, zb_0, zb_1, zb_2, hG, zg_O, ob_f]
  refine k_reach hg hG (wi_ob hp (by omega)) ?_
  simp only [zs_12_0, zs_12_0u, zs_12_1, zs_12_4, zs_12_5, zs_12_6, zs_12_7, zs_12_7u, zs_12_8, zs_12_9, zt_12_9, zs_12_12, zs_12_13, zs_12_14, zs_12_15, zs_12_16, zt_12_16, zs_12_19, zc_isO, zr_fld_mk, zc_isA, zc_len, zr_elt_mk, zr_kill_i, zr_kill_l, zr_kill_r, zr_kill_u, zr_kill_f, zr_kill_n, zc_cat, zr_cat_i, zr_cat_l, zr_cat_r, zr_cat_f, zr_cat_d, zr_cat_u, beq_self_eq_true, Nat.zero_le, Nat.le_refl, Nat.reduceSub, Nat.reduceAdd, Nat.reduceLeDiff, csl_f, csr_f, cn_f, lg_cmp_eq, lg_cmp_le, lg_cmp_lt, lg_cmp_ge, lg_cmp_gt, nI_1, zr_up_self, zp_O, zr_fup_self, zr_fup_ne, ne_eq, Nat.reduceEqDiff, not_false_eq_true, pk_mul]
  exact hQ
def fm (R S : Nat) (b w : Int64) (p c : Nat) : Int64 := fr R S (cm R S b w p c) ((b ||| w ||| ob p) &&& cn (cb R S b w p c))
theorem k_fm (hg : vG R S) (hB : h q = some (zbd g b w)) (hG : h g = some (zg R S)) {p c : Nat} (hp : p < R * S) (hc : c < 4) (hQ : Q (.inl (some (.long (fm R S b w p c)))) h) : zr_E (d + 5) 13 [.ref q, .int (nI p), .int (nI c)] h Q := by
  rw [ze_13]
  simp only [zs_13_0, zs_13_0u, zs_13_1, zs_13_4, zs_13_4u, zs_13_5, zs_13_8, zs_13_9, zs_13_10, zs_13_11, zs_13_12, zs_13_13, zs_13_13u, zs_13_14, zs_13_15, zs_13_16, zt_13_16, zs_13_19, zs_13_22, zs_13_23, zs_13_24, zs_13_25, zs_13_25u, zs_13_26, zs_13_29, zs_13_29u, zs_13_30, zs_13_31, zs_13_32, zt_13_32, zs_13_35, zs_13_36, zt_13_36, zs_13_39, zc_isO, zr_fld_mk, zc_isA, zc_len, zr_elt_mk, zr_kill_i, zr_kill_l, zr_kill_r, zr_kill_u, zr_kill_f, zr_kill_n, zc_cat, zr_cat_i, zr_cat_l, zr_cat_r, zr_cat_f, zr_cat_d, zr_cat_u, beq_self_eq_true, Nat.zero_le, Nat.le_refl, Nat.reduceSub, Nat.reduceAdd, Nat.reduceLeDiff, csl_f, csr_f, cn_f, lg_cmp_eq, lg_cmp_le, lg_cmp_lt, lg_cmp_ge, lg_cmp_gt, nI_1, zr_up_self, zp_O, zr_fup_self, zr_fup_ne, ne_eq, Nat.reduceEqDiff, not_false_eq_true, pk_mul, hB, zb_O, zb_0, zb_1, zb_2, hG, zg_O, ob_f]
  refine k_cb hg hB hG hc ?_
  simp only [zs_13_0, zs_13_0u, zs_13_1, zs_13_4, zs_13_4u, zs_13_5, zs_13_8, zs_13_9, zs_13_10, zs_13_11, zs_13_12, zs_13_13, zs_13_13u, zs_13_14, zs_13_15, zs_13_16, zt_13_16, zs_13_19, zs_13_22, zs_13_23, zs_13_24, zs_13_25, zs_13_25u, zs_13_26, zs_13_29, zs_13_29u, zs_13_30, zs_13_31, zs_13_32, zt_13_32, zs_13_35, zs_13_36, zt_13_36, zs_13_39, zc_isO, zr_fld_mk, zc_isA, zc_len, zr_elt_mk, zr_kill_i, zr_kill_l, zr_kill_r, zr_kill_u, zr_kill_f, zr_kill_n, zc_cat, zr_cat_i, zr_cat_l, zr_cat_r, zr_cat_f, zr_cat_d, zr_cat_u, beq_self_eq_true, Nat.zero_le, Nat.le_refl, Nat.reduceSub, Nat.reduceAdd, Nat.reduceLeDiff, csl_f, csr_f, cn_f, lg_cmp_eq, lg_cmp_le, lg_cmp_lt, lg_cmp_ge, lg_cmp_gt, nI_1, zr_up_self, zp_O, zr_fup_self, zr_fup_ne, ne_eq, Nat.reduceEqDiff, not_false_eq_true, pk_mul, hB, zb_O, zb_0, zb_1, zb_2, hG, zg_O, ob_f]
  refine k_cm hg hB hG hp hc ?_
  simp only [zs_13_0, zs_13_0u, zs_13_1, zs_13_4, zs_13_4u, zs_13_5, zs_13_8, zs_13_9, zs_13_10, zs_13_11, zs_13_12, zs_13_13, zs_13_13u, zs_13_14, zs_13_15, zs_13_16, zt_13_16, zs_13_19, zs_13_22, zs_13_23, zs_13_24, zs_13_25, zs_13_25u, zs_13_26, zs_13_29, zs_13_29u, zs_13_30, zs_13_31, zs_13_32, zt_13_32, zs_13_35, zs_13_36, zt_13_36, zs_13_39, zc_isO, zr_fld_mk, zc_isA, zc_len, zr_elt_mk, zr_kill_i, zr_kill_l, zr_kill_r, zr_kill_u, zr_kill_f, zr_kill_n, zc_cat, zr_cat_i, zr_cat_l, zr_cat_r, zr_cat_f, zr_cat_d, zr_cat_u, beq_self_eq_true, Nat.zero_le, Nat.le_refl, Nat.reduceSub, Nat.reduceAdd, Nat.reduceLeDiff, csl_f, csr_f, cn_f, lg_cmp_eq, lg_cmp_le, lg_cmp_lt, lg_cmp_ge, lg_cmp_gt, nI_1, zr_up_self, zp_O, zr_fup_self, zr_fup_ne, ne_eq, Nat.reduceEqDiff, not_false_eq_true, pk_mul, hB, zb_O, zb_0, zb_1, zb_2, hG, zg_O, ob_f]
  refine k_free hg hG ?_
  simp only [zs_13_0, zs_13_0u, zs_13_1, zs_13_4, zs_13_4u, zs_13_5, zs_13_8, zs_13_9, zs_13_10, zs_13_11, zs_13_12, zs_13_13, zs_13_13u, zs_13_14, zs_13_15, zs_13_16, zt_13_16, zs_13_19, zs_13_22, zs_13_23, zs_13_24, zs_13_25, zs_13_25u, zs_13_26, zs_13_29, zs_13_29u, zs_13_30, zs_13_31, zs_13_32, zt_13_32, zs_13_35, zs_13_36, zt_13_36, zs_13_39, zc_isO, zr_fld_mk, zc_isA, zc_len, zr_elt_mk, zr_kill_i, zr_kill_l, zr_kill_r, zr_kill_u, zr_kill_f, zr_kill_n, zc_cat, zr_cat_i, zr_cat_l, zr_cat_r, zr_cat_f, zr_cat_d, zr_cat_u, beq_self_eq_true, Nat.zero_le, Nat.le_refl, Nat.reduceSub, Nat.reduceAdd, Nat.reduceLeDiff, csl_f, csr_f, cn_f, lg_cmp_eq, lg_cmp_le, lg_cmp_lt, lg_cmp_ge, lg_cmp_gt, nI_1, zr_up_self, zp_O, zr_fup_self, zr_fup_ne, ne_eq, Nat.reduceEqDiff, not_false_eq_true, pk_mul]
  exact hQ
def sb (R S : Nat) (b w : Int64) (p m c : Nat) : Int64 := if c = m then so c b w ||| ob p else so c b w &&& cn (cb R S b w p m)
theorem k_sb (hg : vG R S) (hB : h q = some (zbd g b w)) (hG : h g = some (zg R S)) {p m c : Nat} (hm : m < 4) (hc : c < 4) (hQ : Q (.inl (some (.long (sb R S b w p m c)))) h) : zr_E (d + 5) 14 [.ref q, .int (nI p), .int (nI m), .int (nI c)] h Q := by
  rw [ze_14]
  simp only [zs_14_0, zs_14_1, zs_14_2, zs_14_5, zs_14_5u, zs_14_6, zs_14_7, zt_14_7, zs_14_10, zs_14_11, zs_14_12, zs_14_13, zs_14_14, zs_14_15, zs_14_15u, zs_14_16, zs_14_17, zt_14_17, zs_14_20, zs_14_20u, zs_14_21, zs_14_22, zs_14_23, zt_14_23, zs_14_26, zs_14_29, zs_14_30, zs_14_31, zc_isO, zr_fld_mk, zc_isA, zc_len, zr_elt_mk, zr_kill_i, zr_kill_l, zr_kill_r, zr_kill_u, zr_kill_f, zr_kill_n, zc_cat, zr_cat_i, zr_cat_l, zr_cat_r, zr_cat_f, zr_cat_d, zr_cat_u, beq_self_eq_true, Nat.zero_le, Nat.le_refl, Nat.reduceSub, Nat.reduceAdd, Nat.reduceLeDiff, csl_f, csr_f, cn_f, lg_cmp_eq, lg_cmp_le, lg_cmp_lt, lg_cmp_ge, lg_cmp_gt, nI_1, zr_up_self, zp_O, zr_fup_self, zr_fup_ne, ne_eq, Nat.reduceEqDiff, not_false_eq_true, pk_mul, hB, zb_O, zb_0, zb_1, zb_2, hG, zg_O, ob_f]
  rw [nI_eq (by omega) (by omega)]
  unfold sb at hQ
  refine ⟨fun z => ?_, fun z => ?_⟩
  · rw [if_neg z] at hQ
    refine k_so hB (by omega) ?_
    simp only [zs_14_0, zs_14_1, zs_14_2, zs_14_5, zs_14_5u, zs_14_6, zs_14_7, zt_14_7, zs_14_10, zs_14_11, zs_14_12, zs_14_13, zs_14_14, zs_14_15, zs_14_15u, zs_14_16, zs_14_17, zt_14_17, zs_14_20, zs_14_20u, zs_14_21, zs_14_22, zs_14_23, zt_14_23, zs_14_26, zs_14_29, zs_14_30, zs_14_31, zc_isO, zr_fld_mk, zc_isA, zc_len, zr_elt_mk, zr_kill_i, zr_kill_l, zr_kill_r, zr_kill_u, zr_kill_f, zr_kill_n, zc_cat, zr_cat_i, zr_cat_l, zr_cat_r, zr_cat_f, zr_cat_d, zr_cat_u, beq_self_eq_true, Nat.zero_le, Nat.le_refl, Nat.reduceSub, Nat.reduceAdd, Nat.reduceLeDiff, csl_f, csr_f, cn_f, lg_cmp_eq, lg_cmp_le, lg_cmp_lt, lg_cmp_ge, lg_cmp_gt, nI_1, zr_up_self, zp_O, zr_fup_self, zr_fup_ne, ne_eq, Nat.reduceEqDiff, not_false_eq_true, pk_mul, hB, zb_O, zb_0, zb_1, zb_2, hG, zg_O, ob_f]
    refine k_cb hg hB hG hm ?_
    simp only [zs_14_0, zs_14_1, zs_14_2, zs_14_5, zs_14_5u, zs_14_6, zs_14_7, zt_14_7, zs_14_10, zs_14_11, zs_14_12, zs_14_13, zs_14_14, zs_14_15, zs_14_15u, zs_14_16, zs_14_17, zt_14_17, zs_14_20, zs_14_20u, zs_14_21, zs_14_22, zs_14_23, zt_14_23, zs_14_26, zs_14_29, zs_14_30, zs_14_31, zc_isO, zr_fld_mk, zc_isA, zc_len, zr_elt_mk, zr_kill_i, zr_kill_l, zr_kill_r, zr_kill_u, zr_kill_f, zr_kill_n, zc_cat, zr_cat_i, zr_cat_l, zr_cat_r, zr_cat_f, zr_cat_d, zr_cat_u, beq_self_eq_true, Nat.zero_le, Nat.le_refl, Nat.reduceSub, Nat.reduceAdd, Nat.reduceLeDiff, csl_f, csr_f, cn_f, lg_cmp_eq, lg_cmp_le, lg_cmp_lt, lg_cmp_ge, lg_cmp_gt, nI_1, zr_up_self, zp_O, zr_fup_self, zr_fup_ne, ne_eq, Nat.reduceEqDiff, not_false_eq_true, pk_mul]
    exact hQ
  · rw [if_pos (by omega)] at hQ
    refine k_so hB (by omega) ?_
    simp only [zs_14_0, zs_14_1, zs_14_2, zs_14_5, zs_14_5u, zs_14_6, zs_14_7, zt_14_7, zs_14_10, zs_14_11, zs_14_12, zs_14_13, zs_14_14, zs_14_15, zs_14_15u, zs_14_16, zs_14_17, zt_14_17, zs_14_20, zs_14_20u, zs_14_21, zs_14_22, zs_14_23, zt_14_23, zs_14_26, zs_14_29, zs_14_30, zs_14_31, zc_isO, zr_fld_mk, zc_isA, zc_len, zr_elt_mk, zr_kill_i, zr_kill_l, zr_kill_r, zr_kill_u, zr_kill_f, zr_kill_n, zc_cat, zr_cat_i, zr_cat_l, zr_cat_r, zr_cat_f, zr_cat_d, zr_cat_u, beq_self_eq_true, Nat.zero_le, Nat.le_refl, Nat.reduceSub, Nat.reduceAdd, Nat.reduceLeDiff, csl_f, csr_f, cn_f, lg_cmp_eq, lg_cmp_le, lg_cmp_lt, lg_cmp_ge, lg_cmp_gt, nI_1, zr_up_self, zp_O, zr_fup_self, zr_fup_ne, ne_eq, Nat.reduceEqDiff, not_false_eq_true, pk_mul, ob_f]
    exact hQ
def po (R S : Nat) (b w : Int64) (p : Nat) : Int64 := if co b w p = 0 then rc R S (em R S b w) (ob p) else 0
theorem k_po (hg : vG R S) (hB : h q = some (zbd g b w)) (hG : h g = some (zg R S)) {p : Nat} (hp : p < R * S) (hQ : Q (.inl (some (.long (po R S b w p)))) h) : zr_E (d + 3) 15 [.ref q, .int (nI p)] h Q := by
  have hn := g_n hg
  have hc := co_lt b w p
  rw [ze_15]
  simp only [zs_15_0, zs_15_0u, zs_15_1, zs_15_2, zt_15_2, zs_15_5, zs_15_8, zs_15_9, zs_15_12, zs_15_12u, zs_15_13, zs_15_16, zs_15_17, zs_15_18, zs_15_19, zs_15_19u, zs_15_20, zt_15_20, zs_15_23, zt_15_23, zs_15_26, zc_isO, zr_fld_mk, zc_isA, zc_len, zr_elt_mk, zr_kill_i, zr_kill_l, zr_kill_r, zr_kill_u, zr_kill_f, zr_kill_n, zc_cat, zr_cat_i, zr_cat_l, zr_cat_r, zr_cat_f, zr_cat_d, zr_cat_u, beq_self_eq_true, Nat.zero_le, Nat.le_refl, Nat.reduceSub, Nat.reduceAdd, Nat.reduceLeDiff, csl_f, csr_f, cn_f, lg_cmp_eq, lg_cmp_le, lg_cmp_lt, lg_cmp_ge, lg_cmp_gt, nI_1, zr_up_self, zp_O, zr_fup_self, zr_fup_ne, ne_eq, Nat.reduceEqDiff, not_false_eq_true, pk_mul, hB, zb_O]
  refine k_co hB (by omega) ?_
  simp only [zs_15_0, zs_15_0u, zs_15_1, zs_15_2, zt_15_2, zs_15_5, zs_15_8, zs_15_9, zs_15_12, zs_15_12u, zs_15_13, zs_15_16, zs_15_17, zs_15_18, zs_15_19, zs_15_19u, zs_15_20, zt_15_20, zs_15_23, zt_15_23, zs_15_26, zc_isO, zr_fld_mk, zc_isA, zc_len, zr_elt_mk, zr_kill_i, zr_kill_l, zr_kill_r, zr_kill_u, zr_kill_f, zr_kill_n, zc_cat, zr_cat_i, zr_cat_l, zr_cat_r, zr_cat_f, zr_cat_d, zr_cat_u, beq_self_eq_true, Nat.zero_le, Nat.le_refl, Nat.reduceSub, Nat.reduceAdd, Nat.reduceLeDiff, csl_f, csr_f, cn_f, lg_cmp_eq, lg_cmp_le, lg_cmp_lt, lg_cmp_ge, lg_cmp_gt, nI_1, zr_up_self, zp_O, zr_fup_self, zr_fup_ne, ne_eq, Nat.reduceEqDiff, not_false_eq_true, pk_mul, hB, zb_O, zb_0, zb_1, zb_2, ob_f, hG, zg_O]
  rw [nI_eq0 (by omega)]
  unfold po at hQ
  refine ⟨fun z => ?_, fun z => ?_⟩
  · rw [if_pos z] at hQ
    refine k_em hB hG ?_
    simp only [zs_15_0, zs_15_0u, zs_15_1, zs_15_2, zt_15_2, zs_15_5, zs_15_8, zs_15_9, zs_15_12, zs_15_12u, zs_15_13, zs_15_16, zs_15_17, zs_15_18, zs_15_19, zs_15_19u, zs_15_20, zt_15_20, zs_15_23, zt_15_23, zs_15_26, zc_isO, zr_fld_mk, zc_isA, zc_len, zr_elt_mk, zr_kill_i, zr_kill_l, zr_kill_r, zr_kill_u, zr_kill_f, zr_kill_n, zc_cat, zr_cat_i, zr_cat_l, zr_cat_r, zr_cat_f, zr_cat_d, zr_cat_u, beq_self_eq_true, Nat.zero_le, Nat.le_refl, Nat.reduceSub, Nat.reduceAdd, Nat.reduceLeDiff, csl_f, csr_f, cn_f, lg_cmp_eq, lg_cmp_le, lg_cmp_lt, lg_cmp_ge, lg_cmp_gt, nI_1, zr_up_self, zp_O, zr_fup_self, zr_fup_ne, ne_eq, Nat.reduceEqDiff, not_false_eq_true, pk_mul, hG, zg_O]
    refine k_reach hg hG (wi_ob hp (by omega)) ?_
    simp only [zs_15_0, zs_15_0u, zs_15_1, zs_15_2, zt_15_2, zs_15_5, zs_15_8, zs_15_9, zs_15_12, zs_15_12u, zs_15_13, zs_15_16, zs_15_17, zs_15_18, zs_15_19, zs_15_19u, zs_15_20, zt_15_20, zs_15_23, zt_15_23, zs_15_26, zc_isO, zr_fld_mk, zc_isA, zc_len, zr_elt_mk, zr_kill_i, zr_kill_l, zr_kill_r, zr_kill_u, zr_kill_f, zr_kill_n, zc_cat, zr_cat_i, zr_cat_l, zr_cat_r, zr_cat_f, zr_cat_d, zr_cat_u, beq_self_eq_true, Nat.zero_le, Nat.le_refl, Nat.reduceSub, Nat.reduceAdd, Nat.reduceLeDiff, csl_f, csr_f, cn_f, lg_cmp_eq, lg_cmp_le, lg_cmp_lt, lg_cmp_ge, lg_cmp_gt, nI_1, zr_up_self, zp_O, zr_fup_self, zr_fup_ne, ne_eq, Nat.reduceEqDiff, not_false_eq_true, pk_mul]
    exact hQ
  · rw [if_neg (by omega)] at hQ; exact hQ
end BOARD
