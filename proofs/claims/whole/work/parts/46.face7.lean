theorem rf_lt {R S : Nat} {b w : Int64} {P : List (Int64 × Int64)} {I : Nat → Int32} {p c : Nat} : rf R S b w P I p c < 6 := by
  unfold rf
  split
  · omega
  · split
    · omega
    · split
      · omega
      · split
        · omega
        · split
          · omega
          · split <;> omega
def mvP (R S : Nat) (b w : Int64) (P : List (Int64 × Int64)) (I : Nat → Int32) (c k : Nat) : Bool := decide (rf R S b w P I k c = 0)
def rxMoves (R S : Nat) (b w : Int64) (P : List (Int64 × Int64)) (I : Nat → Int32) (y : Int32) : Int32 ⊕ Nat := match clq y with
  | none => .inr 1
  | some c => .inl (nI (cnt (mvP R S b w P I c) (R * S)))
def fd (x : Int64) : Nat → Int64
  | 0 => x
  | k + 1 => fd x k &&& (fd x k - 1)
def rxFreedom (R S : Nat) (b w : Int64) (y z : Int32) : Int32 ⊕ Nat := match plq (R * S) y with
  | none => .inr 2
  | some p => if z < 0 ∨ nI (ct (ff R S b w (ch R S b w p))) ≤ z then .inr 2 else .inl (nI (lo (fd (ff R S b w (ch R S b w p)) z.toNatClampNeg)))
section FACE
variable {d : Nat} {h : zr_H} {Q : zr_K} {x ea sl rd wr : Nat} {u l : Int32} {A : Nat → Nat} {R S g : Nat} {b w : Int64} {P : List (Int64 × Int64)} {I : Nat → Int32}
theorem k_moves_ (hX : h x = some (zxs (A 0) ea sl rd wr u l)) (v : vM h A R S b w P I g) {c kc ks : Nat} (hc : c < 4) (hQ : Q (.inl (some (.int (nI (cnt (mvP R S b w P I c) (R * S)))))) h) (t : Nat) :
    ∀ k, k + t = R * S → zr_Z (d + 6) 89 Q 8 [some (.ref x), some (.int (nI c)), some (.int (nI (cnt (mvP R S b w P I c) k))), some (.int (nI k))] [] h kc ks := by
  obtain ⟨hM, hB, hG, hg, -⟩ := id v
  have hn := g_n hg
  induction t with
  | zero =>
    intro k hk
    simp only [zs_89_0, zs_89_1, zt_89_1, zs_89_4, zs_89_5, zs_89_6, zs_89_7, zs_89_8, zs_89_9, zs_89_9u, zs_89_10, zs_89_13, zs_89_16, zs_89_19, zs_89_22, zs_89_26, zs_89_29, zs_89_30, zs_89_31, zt_89_31, zs_89_34, zs_89_37, zs_89_40, zs_89_43, zs_89_46, zs_89_47, zc_isO, zr_fld_mk, zc_isA, zc_len, zr_elt_mk, zr_kill_i, zr_kill_l, zr_kill_r, zr_kill_u, zr_kill_f, zr_kill_n, zc_cat, zr_cat_i, zr_cat_l, zr_cat_r, zr_cat_f, zr_cat_d, zr_cat_u, beq_self_eq_true, Nat.zero_le, Nat.le_refl, Nat.reduceSub, Nat.reduceAdd, Nat.reduceLeDiff, csl_f, csr_f, cn_f, lg_cmp_eq, lg_cmp_le, lg_cmp_lt, lg_cmp_ge, lg_cmp_gt, nI_1, zr_up_self, zp_O, zr_fup_self, zr_fup_ne, ne_eq, Nat.reduceEqDiff, not_false_eq_true, pk_mul, hX, zx_I, zx_0, hM, zm_I, zm_0, hB, zb_O, zb_0, hG, zg_O, zg_2]
    refine ⟨fun _ => ?_, fun z => (z (nI_le (by omega) (by omega))).elim⟩
    rw [show k = R * S by omega]
    exact hQ
  | succ t ih =>
    intro k hk
    simp only [zs_89_0, zs_89_1, zt_89_1, zs_89_4, zs_89_5, zs_89_6, zs_89_7, zs_89_8, zs_89_9, zs_89_9u, zs_89_10, zs_89_13, zs_89_16, zs_89_19, zs_89_22, zs_89_25, zs_89_25u, zs_89_26, zs_89_29, zs_89_30, zs_89_31, zt_89_31, zs_89_34, zs_89_37, zs_89_43, zs_89_46, zs_89_47, zc_isO, zr_fld_mk, zc_isA, zc_len, zr_elt_mk, zr_kill_i, zr_kill_l, zr_kill_r, zr_kill_u, zr_kill_f, zr_kill_n, zc_cat, zr_cat_i, zr_cat_l, zr_cat_r, zr_cat_f, zr_cat_d, zr_cat_u, beq_self_eq_true, Nat.zero_le, Nat.le_refl, Nat.reduceSub, Nat.reduceAdd, Nat.reduceLeDiff, csl_f, csr_f, cn_f, lg_cmp_eq, lg_cmp_le, lg_cmp_lt, lg_cmp_ge, lg_cmp_gt, nI_1, zr_up_self, zp_O, zr_fup_self, zr_fup_ne, ne_eq, Nat.reduceEqDiff, not_false_eq_true, pk_mul, hX, zx_I, zx_0, hM, zm_I, zm_0, hB, zb_O, zb_0, hG, zg_O, zg_2]
    refine ⟨fun z => absurd z (nI_ge (by omega) (by omega)), fun _ => ?_⟩
    refine k_ref v (by omega) hc ?_
    have hr := rf_lt (R := R) (S := S) (b := b) (w := w) (P := P) (I := I) (p := k) (c := c)
    simp only [zs_89_0, zs_89_1, zt_89_1, zs_89_4, zs_89_5, zs_89_6, zs_89_7, zs_89_8, zs_89_9, zs_89_9u, zs_89_10, zs_89_13, zs_89_16, zs_89_19, zs_89_22, zs_89_25, zs_89_25u, zs_89_26, zs_89_29, zs_89_30, zs_89_31, zt_89_31, zs_89_34, zs_89_43, zs_89_46, zs_89_47, zc_isO, zr_fld_mk, zc_isA, zc_len, zr_elt_mk, zr_kill_i, zr_kill_l, zr_kill_r, zr_kill_u, zr_kill_f, zr_kill_n, zc_cat, zr_cat_i, zr_cat_l, zr_cat_r, zr_cat_f, zr_cat_d, zr_cat_u, beq_self_eq_true, Nat.zero_le, Nat.le_refl, Nat.reduceSub, Nat.reduceAdd, Nat.reduceLeDiff, csl_f, csr_f, cn_f, lg_cmp_eq, lg_cmp_le, lg_cmp_lt, lg_cmp_ge, lg_cmp_gt, nI_1, zr_up_self, zp_O, zr_fup_self, zr_fup_ne, ne_eq, Nat.reduceEqDiff, not_false_eq_true, pk_mul]
    rw [nI_eq0 (by omega)]
    have := ih (k + 1) (by omega)
    refine ⟨fun z => ?_, fun z => ?_⟩
    · rw [cnt_n (show mvP R S b w P I c k = false from decide_eq_false z)] at this
      simp only [zs_89_0, zs_89_1, zt_89_1, zs_89_4, zs_89_5, zs_89_6, zs_89_7, zs_89_9, zs_89_9u, zs_89_10, zs_89_13, zs_89_16, zs_89_19, zs_89_22, zs_89_25, zs_89_25u, zs_89_26, zs_89_29, zs_89_30, zs_89_31, zt_89_31, zs_89_34, zs_89_37, zs_89_40, zs_89_43, zs_89_46, zs_89_47, zc_isO, zr_fld_mk, zc_isA, zc_len, zr_elt_mk, zr_kill_i, zr_kill_l, zr_kill_r, zr_kill_u, zr_kill_f, zr_kill_n, zc_cat, zr_cat_i, zr_cat_l, zr_cat_r, zr_cat_f, zr_cat_d, zr_cat_u, beq_self_eq_true, Nat.zero_le, Nat.le_refl, Nat.reduceSub, Nat.reduceAdd, Nat.reduceLeDiff, csl_f, csr_f, cn_f, lg_cmp_eq, lg_cmp_le, lg_cmp_lt, lg_cmp_ge, lg_cmp_gt, nI_1, zr_up_self, zp_O, zr_fup_self, zr_fup_ne, ne_eq, Nat.reduceEqDiff, not_false_eq_true, pk_mul]
      exact this
    · rw [cnt_y (show mvP R S b w P I c k = true from decide_eq_true z)] at this
      simp only [zs_89_0, zs_89_1, zt_89_1, zs_89_4, zs_89_5, zs_89_6, zs_89_7, zs_89_9, zs_89_9u, zs_89_10, zs_89_13, zs_89_16, zs_89_19, zs_89_22, zs_89_25, zs_89_25u, zs_89_26, zs_89_29, zs_89_30, zs_89_31, zt_89_31, zs_89_34, zs_89_37, zs_89_40, zs_89_43, zs_89_46, zs_89_47, zc_isO, zr_fld_mk, zc_isA, zc_len, zr_elt_mk, zr_kill_i, zr_kill_l, zr_kill_r, zr_kill_u, zr_kill_f, zr_kill_n, zc_cat, zr_cat_i, zr_cat_l, zr_cat_r, zr_cat_f, zr_cat_d, zr_cat_u, beq_self_eq_true, Nat.zero_le, Nat.le_refl, Nat.reduceSub, Nat.reduceAdd, Nat.reduceLeDiff, csl_f, csr_f, cn_f, lg_cmp_eq, lg_cmp_le, lg_cmp_lt, lg_cmp_ge, lg_cmp_gt, nI_1, zr_up_self, zp_O, zr_fup_self, zr_fup_ne, ne_eq, Nat.reduceEqDiff, not_false_eq_true, pk_mul]
      exact this
theorem k_moves (hX : h x = some (zxs (A 0) ea sl rd wr u l)) (v : vM h A R S b w P I g) {y : Int32} (hQ : Q (oc (rxMoves R S b w P I y)) h) : zr_E (d + 7) 89 [.ref x, .int y] h Q := by
  unfold rxMoves at hQ
  rw [ze_89]
  simp only [zs_89_0, zs_89_1, zt_89_1, zs_89_4, zs_89_5, zs_89_6, zs_89_7, zs_89_9, zs_89_9u, zs_89_10, zs_89_13, zs_89_16, zs_89_19, zs_89_22, zs_89_25, zs_89_25u, zs_89_26, zs_89_29, zs_89_30, zs_89_31, zt_89_31, zs_89_34, zs_89_37, zs_89_40, zs_89_43, zs_89_46, zs_89_47, zc_isO, zr_fld_mk, zc_isA, zc_len, zr_elt_mk, zr_kill_i, zr_kill_l, zr_kill_r, zr_kill_u, zr_kill_f, zr_kill_n, zc_cat, zr_cat_i, zr_cat_l, zr_cat_r, zr_cat_f, zr_cat_d, zr_cat_u, beq_self_eq_true, Nat.zero_le, Nat.le_refl, Nat.reduceSub, Nat.reduceAdd, Nat.reduceLeDiff, csl_f, csr_f, cn_f, lg_cmp_eq, lg_cmp_le, lg_cmp_lt, lg_cmp_ge, lg_cmp_gt, nI_1, zr_up_self, zp_O, zr_fup_self, zr_fup_ne, ne_eq, Nat.reduceEqDiff, not_false_eq_true, pk_mul, hX, zx_I]
  refine k_col (fun e => ?_) (fun e => ?_)
  · obtain ⟨c, hc, e⟩ := col_nI e
    subst e
    rw [clq_s hc] at hQ
    simp only [zs_89_0, zs_89_1, zt_89_1, zs_89_4, zs_89_5, zs_89_6, zs_89_7, zs_89_9, zs_89_9u, zs_89_10, zs_89_13, zs_89_16, zs_89_19, zs_89_22, zs_89_25, zs_89_25u, zs_89_26, zs_89_29, zs_89_30, zs_89_31, zt_89_31, zs_89_34, zs_89_37, zs_89_40, zs_89_43, zs_89_46, zs_89_47, zc_isO, zr_fld_mk, zc_isA, zc_len, zr_elt_mk, zr_kill_i, zr_kill_l, zr_kill_r, zr_kill_u, zr_kill_f, zr_kill_n, zc_cat, zr_cat_i, zr_cat_l, zr_cat_r, zr_cat_f, zr_cat_d, zr_cat_u, beq_self_eq_true, Nat.zero_le, Nat.le_refl, Nat.reduceSub, Nat.reduceAdd, Nat.reduceLeDiff, csl_f, csr_f, cn_f, lg_cmp_eq, lg_cmp_le, lg_cmp_lt, lg_cmp_ge, lg_cmp_gt, nI_1, zr_up_self, zp_O, zr_fup_self, zr_fup_ne, ne_eq, Nat.reduceEqDiff, not_false_eq_true, pk_mul]
    exact k_moves_ hX v (by omega) hQ (R * S) 0 (Nat.zero_add _)
  · rw [clq_n e] at hQ
    rw [zk_thr zf_hh_89]
    exact hQ
theorem k_freed (hX : h x = some (zxs (A 0) ea sl rd wr u l)) (v : vM h A R S b w P I g) {y z : Int32} (hQ : Q (oc (rxFreedom R S b w y z)) h) : zr_E (d + 4) 82 [.ref x, .int y, .int z] h Q := by
  obtain ⟨hM, hB, hG, hg, -⟩ := id v
  have hn := g_n hg
  unfold rxFreedom at hQ
  rw [ze_82]
  simp only [zs_82_0, zs_82_0u, zs_82_1, zs_82_2, zt_82_2, zs_82_5, zs_82_5u, zs_82_6, zs_82_9, zs_82_12, zs_82_12u, zs_82_13, zs_82_16, zs_82_19, zs_82_20, zt_82_20, zs_82_23, zt_82_23, zs_82_26, zs_82_27, zs_82_28, zs_82_31, zs_82_32, zs_82_33, zt_82_33, zs_82_36, zs_82_49, zs_82_50, zs_82_52, zs_82_54, zs_82_55, zs_82_58, zs_82_59, zs_82_60, zs_82_61, zs_82_62, zs_82_63, zs_82_64, zs_82_67, zs_82_70, zs_82_71, zt_82_71, zs_82_74, zc_isO, zr_fld_mk, zc_isA, zc_len, zr_elt_mk, zr_kill_i, zr_kill_l, zr_kill_r, zr_kill_u, zr_kill_f, zr_kill_n, zc_cat, zr_cat_i, zr_cat_l, zr_cat_r, zr_cat_f, zr_cat_d, zr_cat_u, beq_self_eq_true, Nat.zero_le, Nat.le_refl, Nat.reduceSub, Nat.reduceAdd, Nat.reduceLeDiff, csl_f, csr_f, cn_f, lg_cmp_eq, lg_cmp_le, lg_cmp_lt, lg_cmp_ge, lg_cmp_gt, nI_1, zr_up_self, zp_O, zr_fup_self, zr_fup_ne, ne_eq, Nat.reduceEqDiff, not_false_eq_true, pk_mul, hX, zx_I]
  refine k_plc hX v (fun p hp e => ?_) (fun e => ?_)
  · subst e
    rw [plq_s hp hn] at hQ
    have hQ : Q (oc (if z < 0 ∨ nI (ct (ff R S b w (ch R S b w p))) ≤ z then .inr 2 else .inl (nI (lo (fd (ff R S b w (ch R S b w p)) z.toNatClampNeg))))) h := hQ
    simp only [zs_82_0, zs_82_0u, zs_82_1, zs_82_2, zt_82_2, zs_82_5, zs_82_5u, zs_82_6, zs_82_9, zs_82_12, zs_82_12u, zs_82_13, zs_82_16, zs_82_19, zs_82_20, zt_82_20, zs_82_23, zt_82_23, zs_82_26, zs_82_27, zs_82_28, zs_82_31, zs_82_32, zs_82_33, zt_82_33, zs_82_36, zs_82_49, zs_82_50, zs_82_52, zs_82_54, zs_82_55, zs_82_58, zs_82_59, zs_82_60, zs_82_61, zs_82_62, zs_82_63, zs_82_64, zs_82_67, zs_82_70, zs_82_71, zt_82_71, zs_82_74, zc_isO, zr_fld_mk, zc_isA, zc_len, zr_elt_mk, zr_kill_i, zr_kill_l, zr_kill_r, zr_kill_u, zr_kill_f, zr_kill_n, zc_cat, zr_cat_i, zr_cat_l, zr_cat_r, zr_cat_f, zr_cat_d, zr_cat_u, beq_self_eq_true, Nat.zero_le, Nat.le_refl, Nat.reduceSub, Nat.reduceAdd, Nat.reduceLeDiff, csl_f, csr_f, cn_f, lg_cmp_eq, lg_cmp_le, lg_cmp_lt, lg_cmp_ge, lg_cmp_gt, nI_1, zr_up_self, zp_O, zr_fup_self, zr_fup_ne, ne_eq, Nat.reduceEqDiff, not_false_eq_true, pk_mul, hX, zx_I, zx_0, hM, zm_I, zm_0, hB, zb_O]
    refine k_ch hg hB hG hp ?_
    simp only [zs_82_0, zs_82_0u, zs_82_1, zs_82_2, zt_82_2, zs_82_5, zs_82_5u, zs_82_6, zs_82_9, zs_82_12, zs_82_12u, zs_82_13, zs_82_16, zs_82_19, zs_82_20, zt_82_20, zs_82_23, zt_82_23, zs_82_26, zs_82_27, zs_82_28, zs_82_31, zs_82_32, zs_82_33, zt_82_33, zs_82_36, zs_82_49, zs_82_50, zs_82_52, zs_82_54, zs_82_55, zs_82_58, zs_82_59, zs_82_60, zs_82_61, zs_82_62, zs_82_63, zs_82_64, zs_82_67, zs_82_70, zs_82_71, zt_82_71, zs_82_74, zc_isO, zr_fld_mk, zc_isA, zc_len, zr_elt_mk, zr_kill_i, zr_kill_l, zr_kill_r, zr_kill_u, zr_kill_f, zr_kill_n, zc_cat, zr_cat_i, zr_cat_l, zr_cat_r, zr_cat_f, zr_cat_d, zr_cat_u, beq_self_eq_true, Nat.zero_le, Nat.le_refl, Nat.reduceSub, Nat.reduceAdd, Nat.reduceLeDiff, csl_f, csr_f, cn_f, lg_cmp_eq, lg_cmp_le, lg_cmp_lt, lg_cmp_ge, lg_cmp_gt, nI_1, zr_up_self, zp_O, zr_fup_self, zr_fup_ne, ne_eq, Nat.reduceEqDiff, not_false_eq_true, pk_mul, hB, zb_O]
    refine k_ff hg hB hG ?_
    simp only [zs_82_0, zs_82_0u, zs_82_1, zs_82_2, zt_82_2, zs_82_5, zs_82_5u, zs_82_6, zs_82_9, zs_82_12, zs_82_12u, zs_82_13, zs_82_16, zs_82_19, zs_82_20, zt_82_20, zs_82_23, zt_82_23, zs_82_26, zs_82_27, zs_82_28, zs_82_31, zs_82_32, zs_82_33, zt_82_33, zs_82_36, zs_82_49, zs_82_50, zs_82_52, zs_82_54, zs_82_55, zs_82_58, zs_82_59, zs_82_60, zs_82_61, zs_82_62, zs_82_63, zs_82_64, zs_82_67, zs_82_70, zs_82_71, zt_82_71, zs_82_74, zc_isO, zr_fld_mk, zc_isA, zc_len, zr_elt_mk, zr_kill_i, zr_kill_l, zr_kill_r, zr_kill_u, zr_kill_f, zr_kill_n, zc_cat, zr_cat_i, zr_cat_l, zr_cat_r, zr_cat_f, zr_cat_d, zr_cat_u, beq_self_eq_true, Nat.zero_le, Nat.le_refl, Nat.reduceSub, Nat.reduceAdd, Nat.reduceLeDiff, csl_f, csr_f, cn_f, lg_cmp_eq, lg_cmp_le, lg_cmp_lt, lg_cmp_ge, lg_cmp_gt, nI_1, zr_up_self, zp_O, zr_fup_self, zr_fup_ne, ne_eq, Nat.reduceEqDiff, not_false_eq_true, pk_mul]
    generalize ff R S b w (ch R S b w p) = f at hQ ⊢
    have no : ∀ (x4 x5 : Option Value), z < 0 ∨ nI (ct f) ≤ z → zr_Z (d + 3) 82 Q 39 [some (.ref x), some (.int (nI p)), some (.int z), some (.long f), x4, x5] [] h (2 - 1) (12 - 6) := fun x4 x5 e => by
      rw [if_pos e] at hQ
      exact zs_82_39 (by decide) (by decide) (by rw [zr_cat_0]; decide) hQ
    refine ⟨fun e => no _ _ (Or.inl e), fun e => ?_⟩
    refine k_bits ?_
    simp only [zs_82_0, zs_82_0u, zs_82_1, zs_82_2, zt_82_2, zs_82_5, zs_82_5u, zs_82_6, zs_82_9, zs_82_12, zs_82_12u, zs_82_13, zs_82_16, zs_82_19, zs_82_20, zt_82_20, zs_82_23, zt_82_23, zs_82_26, zs_82_27, zs_82_28, zs_82_31, zs_82_32, zs_82_33, zt_82_33, zs_82_36, zs_82_50, zs_82_52, zs_82_54, zs_82_55, zs_82_58, zs_82_59, zs_82_60, zs_82_61, zs_82_62, zs_82_63, zs_82_64, zs_82_67, zs_82_70, zs_82_71, zt_82_71, zs_82_74, zc_isO, zr_fld_mk, zc_isA, zc_len, zr_elt_mk, zr_kill_i, zr_kill_l, zr_kill_r, zr_kill_u, zr_kill_f, zr_kill_n, zc_cat, zr_cat_i, zr_cat_l, zr_cat_r, zr_cat_f, zr_cat_d, zr_cat_u, beq_self_eq_true, Nat.zero_le, Nat.le_refl, Nat.reduceSub, Nat.reduceAdd, Nat.reduceLeDiff, csl_f, csr_f, cn_f, lg_cmp_eq, lg_cmp_le, lg_cmp_lt, lg_cmp_ge, lg_cmp_gt, nI_1, zr_up_self, zp_O, zr_fup_self, zr_fup_ne, ne_eq, Nat.reduceEqDiff, not_false_eq_true, pk_mul]
    refine ⟨fun e2 => ?_, fun e2 => no _ _ (Or.inr (Int32.not_lt.mp e2))⟩
    rw [if_neg (fun z2 => z2.elim e (fun z3 => absurd e2 (Int32.not_lt.mpr z3)))] at hQ
    obtain ⟨j, hj, ej⟩ := nI_of e
    subst ej
    rw [nI_clamp hj] at hQ
    simp only [zs_82_0, zs_82_0u, zs_82_1, zs_82_2, zt_82_2, zs_82_5, zs_82_5u, zs_82_6, zs_82_9, zs_82_12, zs_82_12u, zs_82_13, zs_82_16, zs_82_19, zs_82_20, zt_82_20, zs_82_23, zt_82_23, zs_82_26, zs_82_27, zs_82_28, zs_82_31, zs_82_32, zs_82_33, zt_82_33, zs_82_36, zs_82_49, zs_82_50, zs_82_54, zs_82_55, zs_82_58, zs_82_59, zs_82_60, zs_82_61, zs_82_62, zs_82_63, zs_82_64, zs_82_67, zs_82_70, zs_82_71, zt_82_71, zs_82_74, zc_isO, zr_fld_mk, zc_isA, zc_len, zr_elt_mk, zr_kill_i, zr_kill_l, zr_kill_r, zr_kill_u, zr_kill_f, zr_kill_n, zc_cat, zr_cat_i, zr_cat_l, zr_cat_r, zr_cat_f, zr_cat_d, zr_cat_u, beq_self_eq_true, Nat.zero_le, Nat.le_refl, Nat.reduceSub, Nat.reduceAdd, Nat.reduceLeDiff, csl_f, csr_f, cn_f, lg_cmp_eq, lg_cmp_le, lg_cmp_lt, lg_cmp_ge, lg_cmp_gt, nI_1, zr_up_self, zp_O, zr_fup_self, zr_fup_ne, ne_eq, Nat.reduceEqDiff, not_false_eq_true, pk_mul]
    have loop : ∀ t k, k + t = j → zr_Z (d + 3) 82 Q 52 [some (.ref x), some (.int (nI p)), some (.int (nI j)), some (.long (fd f k)), none, some (.int (nI k))] [] h (2 - 1) (12 - 6) := by
      intro t
      induction t with
      | zero =>
        intro k hk
        simp only [zs_82_0, zs_82_0u, zs_82_1, zs_82_2, zt_82_2, zs_82_5, zs_82_5u, zs_82_6, zs_82_9, zs_82_12, zs_82_12u, zs_82_13, zs_82_16, zs_82_19, zs_82_20, zt_82_20, zs_82_23, zt_82_23, zs_82_26, zs_82_27, zs_82_28, zs_82_31, zs_82_32, zs_82_33, zt_82_33, zs_82_36, zs_82_49, zs_82_50, zs_82_52, zs_82_54, zs_82_55, zs_82_59, zs_82_60, zs_82_61, zs_82_62, zs_82_63, zs_82_64, zs_82_67, zs_82_70, zs_82_71, zt_82_71, zs_82_74, zc_isO, zr_fld_mk, zc_isA, zc_len, zr_elt_mk, zr_kill_i, zr_kill_l, zr_kill_r, zr_kill_u, zr_kill_f, zr_kill_n, zc_cat, zr_cat_i, zr_cat_l, zr_cat_r, zr_cat_f, zr_cat_d, zr_cat_u, beq_self_eq_true, Nat.zero_le, Nat.le_refl, Nat.reduceSub, Nat.reduceAdd, Nat.reduceLeDiff, csl_f, csr_f, cn_f, lg_cmp_eq, lg_cmp_le, lg_cmp_lt, lg_cmp_ge, lg_cmp_gt, nI_1, zr_up_self, zp_O, zr_fup_self, zr_fup_ne, ne_eq, Nat.reduceEqDiff, not_false_eq_true, pk_mul]
        refine ⟨fun _ => ?_, fun z => (z (nI_le (by omega) (by omega))).elim⟩
        refine k_low ?_
        simp only [zs_82_0, zs_82_0u, zs_82_1, zs_82_2, zt_82_2, zs_82_5, zs_82_5u, zs_82_6, zs_82_9, zs_82_12, zs_82_12u, zs_82_13, zs_82_16, zs_82_19, zs_82_20, zt_82_20, zs_82_23, zt_82_23, zs_82_26, zs_82_27, zs_82_28, zs_82_31, zs_82_32, zs_82_33, zt_82_33, zs_82_36, zs_82_49, zs_82_50, zs_82_52, zs_82_54, zs_82_55, zs_82_58, zs_82_59, zs_82_60, zs_82_61, zs_82_62, zs_82_63, zs_82_64, zs_82_67, zs_82_70, zs_82_71, zt_82_71, zs_82_74, zc_isO, zr_fld_mk, zc_isA, zc_len, zr_elt_mk, zr_kill_i, zr_kill_l, zr_kill_r, zr_kill_u, zr_kill_f, zr_kill_n, zc_cat, zr_cat_i, zr_cat_l, zr_cat_r, zr_cat_f, zr_cat_d, zr_cat_u, beq_self_eq_true, Nat.zero_le, Nat.le_refl, Nat.reduceSub, Nat.reduceAdd, Nat.reduceLeDiff, csl_f, csr_f, cn_f, lg_cmp_eq, lg_cmp_le, lg_cmp_lt, lg_cmp_ge, lg_cmp_gt, nI_1, zr_up_self, zp_O, zr_fup_self, zr_fup_ne, ne_eq, Nat.reduceEqDiff, not_false_eq_true, pk_mul]
        rw [show k = j by omega]
        exact hQ
      | succ t ih =>
        intro k hk
        have := ih (k + 1) (by omega)
        simp only [zs_82_0, zs_82_0u, zs_82_1, zs_82_2, zt_82_2, zs_82_5, zs_82_5u, zs_82_6, zs_82_9, zs_82_12, zs_82_12u, zs_82_13, zs_82_16, zs_82_19, zs_82_20, zt_82_20, zs_82_23, zt_82_23, zs_82_26, zs_82_27, zs_82_28, zs_82_31, zs_82_32, zs_82_33, zt_82_33, zs_82_36, zs_82_49, zs_82_50, zs_82_52, zs_82_54, zs_82_55, zs_82_59, zs_82_60, zs_82_61, zs_82_62, zs_82_63, zs_82_64, zs_82_67, zs_82_70, zs_82_71, zt_82_71, zs_82_74, zc_isO, zr_fld_mk, zc_isA, zc_len, zr_elt_mk, zr_kill_i, zr_kill_l, zr_kill_r, zr_kill_u, zr_kill_f, zr_kill_n, zc_cat, zr_cat_i, zr_cat_l, zr_cat_r, zr_cat_f, zr_cat_d, zr_cat_u, beq_self_eq_true, Nat.zero_le, Nat.le_refl, Nat.reduceSub, Nat.reduceAdd, Nat.reduceLeDiff, csl_f, csr_f, cn_f, lg_cmp_eq, lg_cmp_le, lg_cmp_lt, lg_cmp_ge, lg_cmp_gt, nI_1, zr_up_self, zp_O, zr_fup_self, zr_fup_ne, ne_eq, Nat.reduceEqDiff, not_false_eq_true, pk_mul]
        refine ⟨fun z => absurd z (nI_ge (by omega) (by omega)), fun _ => ?_⟩
        simp only [zs_82_0, zs_82_0u, zs_82_1, zs_82_2, zt_82_2, zs_82_5, zs_82_5u, zs_82_6, zs_82_9, zs_82_12, zs_82_12u, zs_82_13, zs_82_16, zs_82_19, zs_82_20, zt_82_20, zs_82_23, zt_82_23, zs_82_26, zs_82_27, zs_82_28, zs_82_31, zs_82_32, zs_82_33, zt_82_33, zs_82_36, zs_82_49, zs_82_50, zs_82_54, zs_82_55, zs_82_58, zs_82_59, zs_82_60, zs_82_61, zs_82_62, zs_82_63, zs_82_64, zs_82_67, zs_82_70, zs_82_71, zt_82_71, zs_82_74, zc_isO, zr_fld_mk, zc_isA, zc_len, zr_elt_mk, zr_kill_i, zr_kill_l, zr_kill_r, zr_kill_u, zr_kill_f, zr_kill_n, zc_cat, zr_cat_i, zr_cat_l, zr_cat_r, zr_cat_f, zr_cat_d, zr_cat_u, beq_self_eq_true, Nat.zero_le, Nat.le_refl, Nat.reduceSub, Nat.reduceAdd, Nat.reduceLeDiff, csl_f, csr_f, cn_f, lg_cmp_eq, lg_cmp_le, lg_cmp_lt, lg_cmp_ge, lg_cmp_gt, nI_1, zr_up_self, zp_O, zr_fup_self, zr_fup_ne, ne_eq, Nat.reduceEqDiff, not_false_eq_true, pk_mul]
        exact this
    exact loop j 0 (Nat.zero_add _)
  · rw [plq_n hn e] at hQ
    rw [zk_thr zf_hh_82]
    exact hQ
end FACE
