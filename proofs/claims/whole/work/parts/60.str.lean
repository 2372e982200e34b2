/-! STRINGS: length and charAt of a word -/
def wS (h : zr_H) (q : Nat) (W : List Int32) : Prop := ∃ (a : Nat) (V : Nat → Value) (f : Nat → Value), h q = some (.inl (8, V)) ∧ V 0 = .ref a ∧ V 1 = .int 0 ∧ h a = some (.inr (22, W.length, f)) ∧ ∀ j, j < W.length → f j = .int (W.getD j 0)
section STR
variable {d : Nat} {h : zr_H} {Q : zr_K} {q : Nat} {W : List Int32}
theorem wS_of {tx : String} (s : zr_str h q tx) (e : W.length = tx.length) (c : ∀ j, j < W.length → zr_chr tx j = .int (W.getD j 0)) : wS h q W := by
  obtain ⟨a, V, f, h1, h2, h3, h4, h5⟩ := s
  exact ⟨a, V, f, h1, h2, h3, by rw [e]; exact h4, fun j hj => (h5 j (by omega)).trans (c j hj)⟩
theorem k_coder (s : wS h q W) (hQ : Q (.inl (some (.int 0))) h) : zr_E (d + 1) 213 [.ref q] h Q := by
  obtain ⟨a, V, f, h1, h2, h3, h4, h5⟩ := s
  have i1 : zr_isO (some (.inl (8, V) : zr_C)) 8 = true := rfl
  have i2 : zr_fld (some (.inl (8, V) : zr_C)) 1 = .int 0 := h3
  have n1 : narrow .byte (.int 0) = .int 0 := by rfl
  rw [ze_213]
  simp only [zs_213_0, zs_213_3, zs_213_6, zs_213_6u, zs_213_7, zs_213_10, zs_213_13, zs_213_14, zc_isO, zr_fld_mk, zc_isA, zc_len, zr_elt_mk, zr_kill_i, zr_kill_l, zr_kill_r, zr_kill_u, zr_kill_f, zr_kill_n, zc_cat, zr_cat_i, zr_cat_l, zr_cat_r, zr_cat_f, zr_cat_d, zr_cat_u, beq_self_eq_true, Nat.zero_le, Nat.le_refl, Nat.reduceSub, Nat.reduceAdd, Nat.reduceLeDiff, csl_f, csr_f, cn_f, lg_cmp_eq, lg_cmp_le, lg_cmp_lt, lg_cmp_ge, lg_cmp_gt, nI_1, zr_up_self, zp_O, zr_fup_self, zr_fup_ne, ne_eq, Nat.reduceEqDiff, not_false_eq_true, pk_mul, h1, i1, i2, n1]
  exact ⟨fun z => absurd z (by decide), fun _ => hQ⟩
theorem k_isl (s : wS h q W) (hQ : Q (.inl (some (.int 1))) h) : zr_E (d + 1) 214 [.ref q] h Q := by
  obtain ⟨a, V, f, h1, h2, h3, h4, h5⟩ := s
  have i1 : zr_isO (some (.inl (8, V) : zr_C)) 8 = true := rfl
  have i2 : zr_fld (some (.inl (8, V) : zr_C)) 1 = .int 0 := h3
  rw [ze_214]
  simp only [zs_214_0, zs_214_3, zs_214_6, zs_214_6u, zs_214_7, zs_214_10, zs_214_13, zs_214_14, zs_214_17, zs_214_18_0, zs_214_18_1, zs_214_18, zc_isO, zr_fld_mk, zc_isA, zc_len, zr_elt_mk, zr_kill_i, zr_kill_l, zr_kill_r, zr_kill_u, zr_kill_f, zr_kill_n, zc_cat, zr_cat_i, zr_cat_l, zr_cat_r, zr_cat_f, zr_cat_d, zr_cat_u, beq_self_eq_true, Nat.zero_le, Nat.le_refl, Nat.reduceSub, Nat.reduceAdd, Nat.reduceLeDiff, csl_f, csr_f, cn_f, lg_cmp_eq, lg_cmp_le, lg_cmp_lt, lg_cmp_ge, lg_cmp_gt, nI_1, zr_up_self, zp_O, zr_fup_self, zr_fup_ne, ne_eq, Nat.reduceEqDiff, not_false_eq_true, pk_mul, h1, i1, i2]
  exact ⟨fun z => absurd z (by decide), fun _ => ⟨fun z => absurd trivial z, fun _ => hQ⟩⟩
theorem k_slen (s : wS h q W) (hQ : Q (.inl (some (.int (nI W.length)))) h) : zr_E (d + 2) 211 [.ref q] h Q := by
  obtain ⟨a, V, f, h1, h2, h3, h4, h5⟩ := id s
  have i1 : zr_isO (some (.inl (8, V) : zr_C)) 8 = true := rfl
  have i2 : zr_fld (some (.inl (8, V) : zr_C)) 0 = .ref a := h2
  have i3 : zr_isA (h a) 22 = true := by rw [h4]; rfl
  have i4 : zr_len (h a) = W.length := by rw [h4]; rfl
  rw [ze_211]
  simp only [zs_211_0, zs_211_0u, zs_211_1, zs_211_5, zs_211_5u, zs_211_6, zt_211_6, zs_211_9, zs_211_10, zc_isO, zr_fld_mk, zc_isA, zc_len, zr_elt_mk, zr_kill_i, zr_kill_l, zr_kill_r, zr_kill_u, zr_kill_f, zr_kill_n, zc_cat, zr_cat_i, zr_cat_l, zr_cat_r, zr_cat_f, zr_cat_d, zr_cat_u, beq_self_eq_true, Nat.zero_le, Nat.le_refl, Nat.reduceSub, Nat.reduceAdd, Nat.reduceLeDiff, csl_f, csr_f, cn_f, lg_cmp_eq, lg_cmp_le, lg_cmp_lt, lg_cmp_ge, lg_cmp_gt, nI_1, zr_up_self, zp_O, zr_fup_self, zr_fup_ne, ne_eq, Nat.reduceEqDiff, not_false_eq_true, pk_mul, h1, i1, i2]
  rw [zs_211_4 i3, i4]
  simp only [zs_211_0, zs_211_0u, zs_211_1, zs_211_5, zs_211_5u, zs_211_6, zt_211_6, zs_211_9, zs_211_10, zc_isO, zr_fld_mk, zc_isA, zc_len, zr_elt_mk, zr_kill_i, zr_kill_l, zr_kill_r, zr_kill_u, zr_kill_f, zr_kill_n, zc_cat, zr_cat_i, zr_cat_l, zr_cat_r, zr_cat_f, zr_cat_d, zr_cat_u, beq_self_eq_true, Nat.zero_le, Nat.le_refl, Nat.reduceSub, Nat.reduceAdd, Nat.reduceLeDiff, csl_f, csr_f, cn_f, lg_cmp_eq, lg_cmp_le, lg_cmp_lt, lg_cmp_ge, lg_cmp_gt, nI_1, zr_up_self, zp_O, zr_fup_self, zr_fup_ne, ne_eq, Nat.reduceEqDiff, not_false_eq_true, pk_mul, h1, i1, i2]
  refine k_coder s ?_
  simp only [zs_211_0, zs_211_0u, zs_211_1, zs_211_4, zs_211_5, zs_211_5u, zs_211_6, zt_211_6, zs_211_9, zs_211_10, zc_isO, zr_fld_mk, zc_isA, zc_len, zr_elt_mk, zr_kill_i, zr_kill_l, zr_kill_r, zr_kill_u, zr_kill_f, zr_kill_n, zc_cat, zr_cat_i, zr_cat_l, zr_cat_r, zr_cat_f, zr_cat_d, zr_cat_u, beq_self_eq_true, Nat.zero_le, Nat.le_refl, Nat.reduceSub, Nat.reduceAdd, Nat.reduceLeDiff, csl_f, csr_f, cn_f, lg_cmp_eq, lg_cmp_le, lg_cmp_lt, lg_cmp_ge, lg_cmp_gt, nI_1, zr_up_self, zp_O, zr_fup_self, zr_fup_ne, ne_eq, Nat.reduceEqDiff, not_false_eq_true, pk_mul]
  have e : ∀ x : Int32, x >>> (0 &&& 31) = x := fun x => by
    have : (0 : Int32) &&& 31 = 0 := rfl
    rw [this]
    apply Int32.toBitVec_inj.mp
    simp
  rw [e]
  exact hQ
theorem zs_215_5n {d : Nat} {Q : zr_K} {x0 x1 : Option Value} {r : List Value} {h : zr_H} {kc ks : Nat} {a0 : Int32} {a1 : Int32} (hc : zr_cat r ≤ 8) : zr_Z d 215 Q 5 [x0, x1] (.null :: .int a1 :: .int a0 :: r) h kc ks = zr_E d 221 [.int a0, .int a1, .null] h (zr_kt 215 Q (zr_Z d 215 Q) 5 [x0, x1] r kc ks 221) := by
  exact zq_stat (As := [.int a0, .int a1, .null]) zf_mb_215 zf_mo_215 dJ0_checkIndex_df160_5 zf_ir_8_1059 rfl rfl (Nat.le_of_ble_eq_true rfl) hc (Nat.zero_le _) (Nat.zero_le _)
theorem k_cidx {i n : Nat} (hi : i < n) (hn : n < 2 ^ 31) (hQ : Q (.inl none) h) : zr_E (d + 2) 215 [.int (nI i), .int (nI n)] h Q := by
  have key : ∀ K : zr_K, K (.inl (some (.int (nI i)))) h → ∀ l : Value, (l = .null ∨ ∃ a, l = .ref a) → zr_Z d 221 K 0 [some (.int (nI i)), some (.int (nI n)), some l] [] h 0 0 := by
    intro K hK l hl
    rcases hl with e | ⟨a, e⟩ <;> subst e <;> simp only [zs_221_0, zs_221_1, zs_221_4, zs_221_5, zs_221_6, zs_221_10, zs_221_11, zs_221_16, zs_221_17, zc_isO, zr_fld_mk, zc_isA, zc_len, zr_elt_mk, zr_kill_i, zr_kill_l, zr_kill_r, zr_kill_u, zr_kill_f, zr_kill_n, zc_cat, zr_cat_i, zr_cat_l, zr_cat_r, zr_cat_f, zr_cat_d, zr_cat_u, beq_self_eq_true, Nat.zero_le, Nat.le_refl, Nat.reduceSub, Nat.reduceAdd, Nat.reduceLeDiff, csl_f, csr_f, cn_f, lg_cmp_eq, lg_cmp_le, lg_cmp_lt, lg_cmp_ge, lg_cmp_gt, nI_1, zr_up_self, zp_O, zr_fup_self, zr_fup_ne, ne_eq, Nat.reduceEqDiff, not_false_eq_true, pk_mul]
    · exact ⟨fun z => absurd z (nI_pos (by omega)), fun _ => ⟨fun _ => hK, fun z => absurd (nI_lt hi hn) z⟩⟩
    · exact ⟨fun z => absurd z (nI_pos (by omega)), fun _ => ⟨fun _ => hK, fun z => absurd (nI_lt hi hn) z⟩⟩
  rw [ze_215]
  simp only [zs_215_0, zs_215_1, zs_215_2, zs_215_8, zs_215_8r, zs_215_9, zc_isO, zr_fld_mk, zc_isA, zc_len, zr_elt_mk, zr_kill_i, zr_kill_l, zr_kill_r, zr_kill_u, zr_kill_f, zr_kill_n, zc_cat, zr_cat_i, zr_cat_l, zr_cat_r, zr_cat_f, zr_cat_d, zr_cat_u, beq_self_eq_true, Nat.zero_le, Nat.le_refl, Nat.reduceSub, Nat.reduceAdd, Nat.reduceLeDiff, csl_f, csr_f, cn_f, lg_cmp_eq, lg_cmp_le, lg_cmp_lt, lg_cmp_ge, lg_cmp_gt, nI_1, zr_up_self, zp_O, zr_fup_self, zr_fup_ne, ne_eq, Nat.reduceEqDiff, not_false_eq_true, pk_mul]
  intro v
  cases v with
  | none =>
    show zr_Z (d + 1) 215 Q 5 _ [.null, _, _] _ _ _
    rw [zs_215_5n (by rw [zr_cat_0]; decide)]
    refine key _ ?_ .null (Or.inl rfl)
    simp only [zs_215_0, zs_215_1, zs_215_2, zs_215_5, zt_215_5, zs_215_8, zs_215_8r, zs_215_9, zc_isO, zr_fld_mk, zc_isA, zc_len, zr_elt_mk, zr_kill_i, zr_kill_l, zr_kill_r, zr_kill_u, zr_kill_f, zr_kill_n, zc_cat, zr_cat_i, zr_cat_l, zr_cat_r, zr_cat_f, zr_cat_d, zr_cat_u, beq_self_eq_true, Nat.zero_le, Nat.le_refl, Nat.reduceSub, Nat.reduceAdd, Nat.reduceLeDiff, csl_f, csr_f, cn_f, lg_cmp_eq, lg_cmp_le, lg_cmp_lt, lg_cmp_ge, lg_cmp_gt, nI_1, zr_up_self, zp_O, zr_fup_self, zr_fup_ne, ne_eq, Nat.reduceEqDiff, not_false_eq_true, pk_mul]
    exact hQ
  | some a =>
    show zr_Z (d + 1) 215 Q 5 _ [.ref a, _, _] _ _ _
    rw [zs_215_5 (by rw [zr_cat_0]; decide)]
    refine key _ ?_ (.ref a) (Or.inr ⟨a, rfl⟩)
    simp only [zs_215_0, zs_215_1, zs_215_2, zs_215_5, zt_215_5, zs_215_8, zs_215_8r, zs_215_9, zc_isO, zr_fld_mk, zc_isA, zc_len, zr_elt_mk, zr_kill_i, zr_kill_l, zr_kill_r, zr_kill_u, zr_kill_f, zr_kill_n, zc_cat, zr_cat_i, zr_cat_l, zr_cat_r, zr_cat_f, zr_cat_d, zr_cat_u, beq_self_eq_true, Nat.zero_le, Nat.le_refl, Nat.reduceSub, Nat.reduceAdd, Nat.reduceLeDiff, csl_f, csr_f, cn_f, lg_cmp_eq, lg_cmp_le, lg_cmp_lt, lg_cmp_ge, lg_cmp_gt, nI_1, zr_up_self, zp_O, zr_fup_self, zr_fup_ne, ne_eq, Nat.reduceEqDiff, not_false_eq_true, pk_mul]
    exact hQ
theorem k_chat (s : wS h q W) (hl : W.length < 100) {j : Nat} (hj : j < W.length) (hc : W.getD j 0 &&& 255 = W.getD j 0 ∧ ((W.getD j 0).toUInt32 % 65536).toInt32 = W.getD j 0 ∧ (W.getD j 0).toUInt32.toUInt16.toUInt32.toInt32 = W.getD j 0) (hQ : Q (.inl (some (.int (W.getD j 0)))) h) : zr_E (d + 4) 212 [.ref q, .int (nI j)] h Q := by
  obtain ⟨a, V, f, h1, h2, h3, h4, h5⟩ := id s
  have i1 : zr_isO (some (.inl (8, V) : zr_C)) 8 = true := rfl
  have i2 : zr_fld (some (.inl (8, V) : zr_C)) 0 = .ref a := h2
  have i3 : zr_isA (h a) 22 = true := by rw [h4]; rfl
  have i4 : zr_len (h a) = W.length := by rw [h4]; rfl
  have i5 : vp_in (nI j) (zr_len (h a)) := by rw [i4]; exact vp_in_nI hj (by omega)
  have i6 : zr_elt (h a) (nI j).toNatClampNeg = .int (W.getD j 0) := by rw [nI_clamp (by omega), h4]; exact h5 j hj
  have n1 : narrow .char (.int (W.getD j 0)) = .int (W.getD j 0) := by
    show Value.int _ = _
    rw [hc.2.2]
  rw [ze_212]
  simp only [zs_212_0, zs_212_0u, zs_212_1, zt_212_1, zs_212_4, zs_212_7, zs_212_7u, zs_212_8, zs_212_11, zs_212_12, zt_212_12, zs_212_15, zs_212_16, zs_212_16u, zs_212_17, zs_212_20, zs_212_21, zt_212_21, zs_212_24, zc_isO, zr_fld_mk, zc_isA, zc_len, zr_elt_mk, zr_kill_i, zr_kill_l, zr_kill_r, zr_kill_u, zr_kill_f, zr_kill_n, zc_cat, zr_cat_i, zr_cat_l, zr_cat_r, zr_cat_f, zr_cat_d, zr_cat_u, beq_self_eq_true, Nat.zero_le, Nat.le_refl, Nat.reduceSub, Nat.reduceAdd, Nat.reduceLeDiff, csl_f, csr_f, cn_f, lg_cmp_eq, lg_cmp_le, lg_cmp_lt, lg_cmp_ge, lg_cmp_gt, nI_1, zr_up_self, zp_O, zr_fup_self, zr_fup_ne, ne_eq, Nat.reduceEqDiff, not_false_eq_true, pk_mul, h1, i1, i2]
  refine k_isl s ?_
  simp only [zs_212_0, zs_212_0u, zs_212_1, zt_212_1, zs_212_4, zs_212_7, zs_212_7u, zs_212_8, zs_212_11, zs_212_12, zt_212_12, zs_212_15, zs_212_16, zs_212_16u, zs_212_17, zs_212_20, zs_212_21, zt_212_21, zs_212_24, zc_isO, zr_fld_mk, zc_isA, zc_len, zr_elt_mk, zr_kill_i, zr_kill_l, zr_kill_r, zr_kill_u, zr_kill_f, zr_kill_n, zc_cat, zr_cat_i, zr_cat_l, zr_cat_r, zr_cat_f, zr_cat_d, zr_cat_u, beq_self_eq_true, Nat.zero_le, Nat.le_refl, Nat.reduceSub, Nat.reduceAdd, Nat.reduceLeDiff, csl_f, csr_f, cn_f, lg_cmp_eq, lg_cmp_le, lg_cmp_lt, lg_cmp_ge, lg_cmp_gt, nI_1, zr_up_self, zp_O, zr_fup_self, zr_fup_ne, ne_eq, Nat.reduceEqDiff, not_false_eq_true, pk_mul, h1, i1, i2]
  refine ⟨fun z => absurd z (by decide), fun _ => ?_⟩
  rw [ze_216]
  simp only [zs_216_0, zs_216_1, zs_216_1u, zs_216_3, zt_216_3, zs_216_6, zs_216_6u, zs_216_7, zs_216_8, zs_216_8_3, zs_216_8_22, zs_216_9, zs_216_12, zs_216_13, zs_216_14, zc_isO, zr_fld_mk, zc_isA, zc_len, zr_elt_mk, zr_kill_i, zr_kill_l, zr_kill_r, zr_kill_u, zr_kill_f, zr_kill_n, zc_cat, zr_cat_i, zr_cat_l, zr_cat_r, zr_cat_f, zr_cat_d, zr_cat_u, beq_self_eq_true, Nat.zero_le, Nat.le_refl, Nat.reduceSub, Nat.reduceAdd, Nat.reduceLeDiff, csl_f, csr_f, cn_f, lg_cmp_eq, lg_cmp_le, lg_cmp_lt, lg_cmp_ge, lg_cmp_gt, nI_1, zr_up_self, zp_O, zr_fup_self, zr_fup_ne, ne_eq, Nat.reduceEqDiff, not_false_eq_true, pk_mul]
  rw [zs_216_2 i3, i4]
  simp only [zs_216_0, zs_216_1, zs_216_1u, zs_216_2, zs_216_3, zt_216_3, zs_216_6, zs_216_6u, zs_216_7, zs_216_9, zs_216_12, zs_216_13, zs_216_14, zc_isO, zr_fld_mk, zc_isA, zc_len, zr_elt_mk, zr_kill_i, zr_kill_l, zr_kill_r, zr_kill_u, zr_kill_f, zr_kill_n, zc_cat, zr_cat_i, zr_cat_l, zr_cat_r, zr_cat_f, zr_cat_d, zr_cat_u, beq_self_eq_true, Nat.zero_le, Nat.le_refl, Nat.reduceSub, Nat.reduceAdd, Nat.reduceLeDiff, csl_f, csr_f, cn_f, lg_cmp_eq, lg_cmp_le, lg_cmp_lt, lg_cmp_ge, lg_cmp_gt, nI_1, zr_up_self, zp_O, zr_fup_self, zr_fup_ne, ne_eq, Nat.reduceEqDiff, not_false_eq_true, pk_mul]
  refine k_cidx hj (by omega) ?_
  simp only [zs_216_0, zs_216_1, zs_216_1u, zs_216_2, zs_216_3, zt_216_3, zs_216_6, zs_216_6u, zs_216_7, zs_216_8, zs_216_8_3, zs_216_8_22, zs_216_9, zs_216_12, zs_216_13, zs_216_14, zc_isO, zr_fld_mk, zc_isA, zc_len, zr_elt_mk, zr_kill_i, zr_kill_l, zr_kill_r, zr_kill_u, zr_kill_f, zr_kill_n, zc_cat, zr_cat_i, zr_cat_l, zr_cat_r, zr_cat_f, zr_cat_d, zr_cat_u, beq_self_eq_true, Nat.zero_le, Nat.le_refl, Nat.reduceSub, Nat.reduceAdd, Nat.reduceLeDiff, csl_f, csr_f, cn_f, lg_cmp_eq, lg_cmp_le, lg_cmp_lt, lg_cmp_ge, lg_cmp_gt, nI_1, zr_up_self, zp_O, zr_fup_self, zr_fup_ne, ne_eq, Nat.reduceEqDiff, not_false_eq_true, pk_mul, i3, i5, i6, hc.1, hc.2.1, n1]
  simp only [zs_212_0, zs_212_0u, zs_212_1, zt_212_1, zs_212_4, zs_212_7, zs_212_7u, zs_212_8, zs_212_11, zs_212_12, zt_212_12, zs_212_15, zs_212_16, zs_212_16u, zs_212_17, zs_212_20, zs_212_21, zt_212_21, zs_212_24, zc_isO, zr_fld_mk, zc_isA, zc_len, zr_elt_mk, zr_kill_i, zr_kill_l, zr_kill_r, zr_kill_u, zr_kill_f, zr_kill_n, zc_cat, zr_cat_i, zr_cat_l, zr_cat_r, zr_cat_f, zr_cat_d, zr_cat_u, beq_self_eq_true, Nat.zero_le, Nat.le_refl, Nat.reduceSub, Nat.reduceAdd, Nat.reduceLeDiff, csl_f, csr_f, cn_f, lg_cmp_eq, lg_cmp_le, lg_cmp_lt, lg_cmp_ge, lg_cmp_gt, nI_1, zr_up_self, zp_O, zr_fup_self, zr_fup_ne, ne_eq, Nat.reduceEqDiff, not_false_eq_true, pk_mul, n1]
  exact hQ
end STR
