def clq (y : Int32) : Option Nat := if y = 1 then some 1 else if y = 2 then some 2 else none
theorem clq_s {c : Nat} (hc : c = 1 ∨ c = 2) : clq (nI c) = some c := by rcases hc with e | e <;> subst e <;> rfl
theorem clq_n {y : Int32} (h : ¬ (y = 1 ∨ y = 2)) : clq y = none := by
  unfold clq
  rw [if_neg (fun e => h (Or.inl e)), if_neg (fun e => h (Or.inr e))]
theorem col_nI {y : Int32} (h : y = 1 ∨ y = 2) : ∃ c, (c = 1 ∨ c = 2) ∧ y = nI c := by
  rcases h with e | e
  · exact ⟨1, Or.inl rfl, e⟩
  · exact ⟨2, Or.inr rfl, e⟩
def rxChains (R S : Nat) (b w : Int64) (y z : Int32) : Int32 ⊕ Nat := match clq y with
  | none => .inr 1
  | some c => .inl (nI (cnt (cwP R S b w c z) (R * S)))
def rxWeak (R S : Nat) (b w : Int64) (y : Int32) : Int32 ⊕ Nat := match clq y with
  | none => .inr 1
  | some c => if so c b w = 0 then .inr 3 else .inl (oI (wk R S b w (so c b w) (R * S)).1)
def rxReason (R S : Nat) (b w : Int64) (P : List (Int64 × Int64)) (I : Nat → Int32) (y z : Int32) : Int32 ⊕ Nat := match plq (R * S) y with
  | none => .inr 2
  | some p => match clq z with
    | none => .inr 1
    | some c => .inl (nI (rf R S b w P I p c))
def rxAlive (R S : Nat) (b w : Int64) (y : Int32) : Int32 ⊕ Nat := match clq y with
  | none => .inr 1
  | some c => .inl (nI (ct (lv R S b w c (R * S)).1))
def rxCaught (R S : Nat) (b w : Int64) (y : Int32) : Int32 ⊕ Nat := match plq (R * S) y with
  | none => .inr 2
  | some p => if co b w p = 0 then .inr 3 else .inl (if hF R S b w p ≤ 8 then nI (hF R S b w p) else -1)
def rxArea (R S : Nat) (b w : Int64) (y : Int32) : Int32 ⊕ Nat := match clq y with
  | none => .inr 1
  | some c => .inl (nI (ct (so c b w) + ct (op R S b w c)))
def rxScore (R S : Nat) (b w : Int64) (I : Nat → Int32) : Int32 ⊕ Nat := .inl (nI (ct (so 1 b w) + ct (op R S b w 1)) - nI (ct (so 2 b w) + ct (op R S b w 2)) - I 9)
section FACE
variable {d : Nat} {h : zr_H} {Q : zr_K} {x ea sl rd wr : Nat} {u l : Int32} {A : Nat → Nat} {R S g : Nat} {b w : Int64} {P : List (Int64 × Int64)} {I : Nat → Int32}
theorem k_chains (hX : h x = some (zxs (A 0) ea sl rd wr u l)) (v : vM h A R S b w P I g) {y z : Int32} (hQ : Q (oc (rxChains R S b w y z)) h) : zr_E (d + 5) 83 [.ref x, .int y, .int z] h Q := by
  obtain ⟨hM, hB, hG, hg, -⟩ := id v
  unfold rxChains at hQ
  rw [ze_83]
  simp only [zs_83_0, zs_83_1, zt_83_1, zs_83_4, zs_83_4u, zs_83_5, zs_83_8, zs_83_11, zs_83_12, zs_83_13, zt_83_13, zs_83_16, zc_isO, zr_fld_mk, zc_isA, zc_len, zr_elt_mk, zr_kill_i, zr_kill_l, zr_kill_r, zr_kill_u, zr_kill_f, zr_kill_n, zc_cat, zr_cat_i, zr_cat_l, zr_cat_r, zr_cat_f, zr_cat_d, zr_cat_u, beq_self_eq_true, Nat.zero_le, Nat.le_refl, Nat.reduceSub, Nat.reduceAdd, Nat.reduceLeDiff, csl_f, csr_f, cn_f, lg_cmp_eq, lg_cmp_le, lg_cmp_lt, lg_cmp_ge, lg_cmp_gt, nI_1, zr_up_self, zp_O, zr_fup_self, zr_fup_ne, ne_eq, Nat.reduceEqDiff, not_false_eq_true, pk_mul, hX, zx_I]
  refine k_col (fun e => ?_) (fun e => ?_)
  · obtain ⟨c, hc, e⟩ := col_nI e
    subst e
    rw [clq_s hc] at hQ
    simp only [zs_83_0, zs_83_1, zt_83_1, zs_83_4, zs_83_4u, zs_83_5, zs_83_8, zs_83_11, zs_83_12, zs_83_13, zt_83_13, zs_83_16, zc_isO, zr_fld_mk, zc_isA, zc_len, zr_elt_mk, zr_kill_i, zr_kill_l, zr_kill_r, zr_kill_u, zr_kill_f, zr_kill_n, zc_cat, zr_cat_i, zr_cat_l, zr_cat_r, zr_cat_f, zr_cat_d, zr_cat_u, beq_self_eq_true, Nat.zero_le, Nat.le_refl, Nat.reduceSub, Nat.reduceAdd, Nat.reduceLeDiff, csl_f, csr_f, cn_f, lg_cmp_eq, lg_cmp_le, lg_cmp_lt, lg_cmp_ge, lg_cmp_gt, nI_1, zr_up_self, zp_O, zr_fup_self, zr_fup_ne, ne_eq, Nat.reduceEqDiff, not_false_eq_true, pk_mul, hX, zx_I, zx_0, hM, zm_I, zm_0, hB, zb_O]
    refine k_cw hg hB hG (by omega) ?_
    simp only [zs_83_0, zs_83_1, zt_83_1, zs_83_4, zs_83_4u, zs_83_5, zs_83_8, zs_83_11, zs_83_12, zs_83_13, zt_83_13, zs_83_16, zc_isO, zr_fld_mk, zc_isA, zc_len, zr_elt_mk, zr_kill_i, zr_kill_l, zr_kill_r, zr_kill_u, zr_kill_f, zr_kill_n, zc_cat, zr_cat_i, zr_cat_l, zr_cat_r, zr_cat_f, zr_cat_d, zr_cat_u, beq_self_eq_true, Nat.zero_le, Nat.le_refl, Nat.reduceSub, Nat.reduceAdd, Nat.reduceLeDiff, csl_f, csr_f, cn_f, lg_cmp_eq, lg_cmp_le, lg_cmp_lt, lg_cmp_ge, lg_cmp_gt, nI_1, zr_up_self, zp_O, zr_fup_self, zr_fup_ne, ne_eq, Nat.reduceEqDiff, not_false_eq_true, pk_mul]
    exact hQ
  · rw [clq_n e] at hQ
    rw [zk_thr zf_hh_83]
    exact hQ
theorem k_weak (hX : h x = some (zxs (A 0) ea sl rd wr u l)) (v : vM h A R S b w P I g) {y : Int32} (hQ : Q (oc (rxWeak R S b w y)) h) : zr_E (d + 5) 84 [.ref x, .int y] h Q := by
  obtain ⟨hM, hB, hG, hg, -⟩ := id v
  unfold rxWeak at hQ
  rw [ze_84]
  simp only [zs_84_0, zs_84_1, zt_84_1, zs_84_4, zs_84_4u, zs_84_5, zs_84_8, zs_84_11, zs_84_12, zt_84_12, zs_84_15, zs_84_16, zs_84_17, zs_84_30, zs_84_30u, zs_84_31, zs_84_34, zs_84_37, zs_84_38, zt_84_38, zs_84_41, zc_isO, zr_fld_mk, zc_isA, zc_len, zr_elt_mk, zr_kill_i, zr_kill_l, zr_kill_r, zr_kill_u, zr_kill_f, zr_kill_n, zc_cat, zr_cat_i, zr_cat_l, zr_cat_r, zr_cat_f, zr_cat_d, zr_cat_u, beq_self_eq_true, Nat.zero_le, Nat.le_refl, Nat.reduceSub, Nat.reduceAdd, Nat.reduceLeDiff, csl_f, csr_f, cn_f, lg_cmp_eq, lg_cmp_le, lg_cmp_lt, lg_cmp_ge, lg_cmp_gt, nI_1, zr_up_self, zp_O, zr_fup_self, zr_fup_ne, ne_eq, Nat.reduceEqDiff, not_false_eq_true, pk_mul, hX, zx_I]
  refine k_col (fun e => ?_) (fun e => ?_)
  · obtain ⟨c, hc, e⟩ := col_nI e
    subst e
    rw [clq_s hc] at hQ
    simp only [zs_84_0, zs_84_1, zt_84_1, zs_84_4, zs_84_4u, zs_84_5, zs_84_8, zs_84_11, zs_84_12, zt_84_12, zs_84_15, zs_84_16, zs_84_17, zs_84_30, zs_84_30u, zs_84_31, zs_84_34, zs_84_37, zs_84_38, zt_84_38, zs_84_41, zc_isO, zr_fld_mk, zc_isA, zc_len, zr_elt_mk, zr_kill_i, zr_kill_l, zr_kill_r, zr_kill_u, zr_kill_f, zr_kill_n, zc_cat, zr_cat_i, zr_cat_l, zr_cat_r, zr_cat_f, zr_cat_d, zr_cat_u, beq_self_eq_true, Nat.zero_le, Nat.le_refl, Nat.reduceSub, Nat.reduceAdd, Nat.reduceLeDiff, csl_f, csr_f, cn_f, lg_cmp_eq, lg_cmp_le, lg_cmp_lt, lg_cmp_ge, lg_cmp_gt, nI_1, zr_up_self, zp_O, zr_fup_self, zr_fup_ne, ne_eq, Nat.reduceEqDiff, not_false_eq_true, pk_mul, hX, zx_I, zx_0, hM, zm_I, zm_0, hB, zb_O]
    refine k_so hB (by omega) ?_
    simp only [zs_84_0, zs_84_1, zt_84_1, zs_84_4, zs_84_4u, zs_84_5, zs_84_8, zs_84_11, zs_84_12, zt_84_12, zs_84_15, zs_84_16, zs_84_17, zs_84_31, zs_84_34, zs_84_37, zs_84_38, zt_84_38, zs_84_41, zc_isO, zr_fld_mk, zc_isA, zc_len, zr_elt_mk, zr_kill_i, zr_kill_l, zr_kill_r, zr_kill_u, zr_kill_f, zr_kill_n, zc_cat, zr_cat_i, zr_cat_l, zr_cat_r, zr_cat_f, zr_cat_d, zr_cat_u, beq_self_eq_true, Nat.zero_le, Nat.le_refl, Nat.reduceSub, Nat.reduceAdd, Nat.reduceLeDiff, csl_f, csr_f, cn_f, lg_cmp_eq, lg_cmp_le, lg_cmp_lt, lg_cmp_ge, lg_cmp_gt, nI_1, zr_up_self, zp_O, zr_fup_self, zr_fup_ne, ne_eq, Nat.reduceEqDiff, not_false_eq_true, pk_mul, hX, zx_I, zx_0, hM, zm_I, zm_0, hB, zb_O]
    refine ⟨fun z => ?_, fun z => ?_⟩
    · have hQ : Q (oc (.inl (oI (wk R S b w (so c b w) (R * S)).1))) h := by
        have hQ : Q (oc (if so c b w = 0 then .inr 3 else .inl (oI (wk R S b w (so c b w) (R * S)).1))) h := hQ
        rw [if_neg z] at hQ; exact hQ
      simp only [zs_84_0, zs_84_1, zt_84_1, zs_84_4, zs_84_4u, zs_84_5, zs_84_8, zs_84_11, zs_84_12, zt_84_12, zs_84_15, zs_84_16, zs_84_17, zs_84_30, zs_84_30u, zs_84_31, zs_84_34, zs_84_37, zs_84_38, zt_84_38, zs_84_41, zc_isO, zr_fld_mk, zc_isA, zc_len, zr_elt_mk, zr_kill_i, zr_kill_l, zr_kill_r, zr_kill_u, zr_kill_f, zr_kill_n, zc_cat, zr_cat_i, zr_cat_l, zr_cat_r, zr_cat_f, zr_cat_d, zr_cat_u, beq_self_eq_true, Nat.zero_le, Nat.le_refl, Nat.reduceSub, Nat.reduceAdd, Nat.reduceLeDiff, csl_f, csr_f, cn_f, lg_cmp_eq, lg_cmp_le, lg_cmp_lt, lg_cmp_ge, lg_cmp_gt, nI_1, zr_up_self, zp_O, zr_fup_self, zr_fup_ne, ne_eq, Nat.reduceEqDiff, not_false_eq_true, pk_mul, hX, zx_I, zx_0, hM, zm_I, zm_0, hB, zb_O]
      refine k_wk hg hB hG (by omega) ?_
      simp only [zs_84_0, zs_84_1, zt_84_1, zs_84_4, zs_84_4u, zs_84_5, zs_84_8, zs_84_11, zs_84_12, zt_84_12, zs_84_15, zs_84_16, zs_84_17, zs_84_30, zs_84_30u, zs_84_31, zs_84_34, zs_84_37, zs_84_38, zt_84_38, zs_84_41, zc_isO, zr_fld_mk, zc_isA, zc_len, zr_elt_mk, zr_kill_i, zr_kill_l, zr_kill_r, zr_kill_u, zr_kill_f, zr_kill_n, zc_cat, zr_cat_i, zr_cat_l, zr_cat_r, zr_cat_f, zr_cat_d, zr_cat_u, beq_self_eq_true, Nat.zero_le, Nat.le_refl, Nat.reduceSub, Nat.reduceAdd, Nat.reduceLeDiff, csl_f, csr_f, cn_f, lg_cmp_eq, lg_cmp_le, lg_cmp_lt, lg_cmp_ge, lg_cmp_gt, nI_1, zr_up_self, zp_O, zr_fup_self, zr_fup_ne, ne_eq, Nat.reduceEqDiff, not_false_eq_true, pk_mul]
      exact hQ
    · have hQ : Q (oc (if so c b w = 0 then .inr 3 else .inl (oI (wk R S b w (so c b w) (R * S)).1))) h := hQ
      rw [if_pos z] at hQ
      refine zs_84_20 (by decide) (by decide) (by rw [zr_cat_0]; decide) ?_
      exact hQ
  · rw [clq_n e] at hQ
    rw [zk_thr zf_hh_84]
    exact hQ
theorem k_reason (hX : h x = some (zxs (A 0) ea sl rd wr u l)) (v : vM h A R S b w P I g) {y z : Int32} (hQ : Q (oc (rxReason R S b w P I y z)) h) : zr_E (d + 7) 85 [.ref x, .int y, .int z] h Q := by
  obtain ⟨hM, hB, hG, hg, -⟩ := id v
  have hn := g_n hg
  unfold rxReason at hQ
  rw [ze_85]
  simp only [zs_85_0, zs_85_0u, zs_85_1, zs_85_2, zt_85_2, zs_85_5, zs_85_6, zt_85_6, zs_85_9, zs_85_9u, zs_85_10, zs_85_13, zs_85_14, zs_85_15, zt_85_15, zs_85_18, zc_isO, zr_fld_mk, zc_isA, zc_len, zr_elt_mk, zr_kill_i, zr_kill_l, zr_kill_r, zr_kill_u, zr_kill_f, zr_kill_n, zc_cat, zr_cat_i, zr_cat_l, zr_cat_r, zr_cat_f, zr_cat_d, zr_cat_u, beq_self_eq_true, Nat.zero_le, Nat.le_refl, Nat.reduceSub, Nat.reduceAdd, Nat.reduceLeDiff, csl_f, csr_f, cn_f, lg_cmp_eq, lg_cmp_le, lg_cmp_lt, lg_cmp_ge, lg_cmp_gt, nI_1, zr_up_self, zp_O, zr_fup_self, zr_fup_ne, ne_eq, Nat.reduceEqDiff, not_false_eq_true, pk_mul, hX, zx_I]
  refine k_plc hX v (fun p hp e => ?_) (fun e => ?_)
  · subst e
    rw [plq_s hp hn] at hQ
    simp only [zs_85_0, zs_85_0u, zs_85_1, zs_85_2, zt_85_2, zs_85_5, zs_85_6, zt_85_6, zs_85_9, zs_85_9u, zs_85_10, zs_85_13, zs_85_14, zs_85_15, zt_85_15, zs_85_18, zc_isO, zr_fld_mk, zc_isA, zc_len, zr_elt_mk, zr_kill_i, zr_kill_l, zr_kill_r, zr_kill_u, zr_kill_f, zr_kill_n, zc_cat, zr_cat_i, zr_cat_l, zr_cat_r, zr_cat_f, zr_cat_d, zr_cat_u, beq_self_eq_true, Nat.zero_le, Nat.le_refl, Nat.reduceSub, Nat.reduceAdd, Nat.reduceLeDiff, csl_f, csr_f, cn_f, lg_cmp_eq, lg_cmp_le, lg_cmp_lt, lg_cmp_ge, lg_cmp_gt, nI_1, zr_up_self, zp_O, zr_fup_self, zr_fup_ne, ne_eq, Nat.reduceEqDiff, not_false_eq_true, pk_mul, hX, zx_I]
    refine k_col (fun e => ?_) (fun e => ?_)
    · obtain ⟨c, hc, e⟩ := col_nI e
      subst e
      rw [clq_s hc] at hQ
      simp only [zs_85_0, zs_85_0u, zs_85_1, zs_85_2, zt_85_2, zs_85_5, zs_85_6, zt_85_6, zs_85_9, zs_85_9u, zs_85_10, zs_85_13, zs_85_14, zs_85_15, zt_85_15, zs_85_18, zc_isO, zr_fld_mk, zc_isA, zc_len, zr_elt_mk, zr_kill_i, zr_kill_l, zr_kill_r, zr_kill_u, zr_kill_f, zr_kill_n, zc_cat, zr_cat_i, zr_cat_l, zr_cat_r, zr_cat_f, zr_cat_d, zr_cat_u, beq_self_eq_true, Nat.zero_le, Nat.le_refl, Nat.reduceSub, Nat.reduceAdd, Nat.reduceLeDiff, csl_f, csr_f, cn_f, lg_cmp_eq, lg_cmp_le, lg_cmp_lt, lg_cmp_ge, lg_cmp_gt, nI_1, zr_up_self, zp_O, zr_fup_self, zr_fup_ne, ne_eq, Nat.reduceEqDiff, not_false_eq_true, pk_mul, hX, zx_I, zx_0, hM, zm_I]
      refine k_ref v hp (by omega) ?_
      simp only [zs_85_0, zs_85_0u, zs_85_1, zs_85_2, zt_85_2, zs_85_5, zs_85_6, zt_85_6, zs_85_9, zs_85_9u, zs_85_10, zs_85_13, zs_85_14, zs_85_15, zt_85_15, zs_85_18, zc_isO, zr_fld_mk, zc_isA, zc_len, zr_elt_mk, zr_kill_i, zr_kill_l, zr_kill_r, zr_kill_u, zr_kill_f, zr_kill_n, zc_cat, zr_cat_i, zr_cat_l, zr_cat_r, zr_cat_f, zr_cat_d, zr_cat_u, beq_self_eq_true, Nat.zero_le, Nat.le_refl, Nat.reduceSub, Nat.reduceAdd, Nat.reduceLeDiff, csl_f, csr_f, cn_f, lg_cmp_eq, lg_cmp_le, lg_cmp_lt, lg_cmp_ge, lg_cmp_gt, nI_1, zr_up_self, zp_O, zr_fup_self, zr_fup_ne, ne_eq, Nat.reduceEqDiff, not_false_eq_true, pk_mul]
      exact hQ
    · rw [clq_n e] at hQ
      rw [zk_thr zf_hh_85]
      exact hQ
  · rw [plq_n hn e] at hQ
    rw [zk_thr zf_hh_85]
    exact hQ
theorem k_alive (hX : h x = some (zxs (A 0) ea sl rd wr u l)) (v : vM h A R S b w P I g) {y : Int32} (hQ : Q (oc (rxAlive R S b w y)) h) : zr_E (d + 7) 100 [.ref x, .int y] h Q := by
  obtain ⟨hM, hB, hG, hg, -⟩ := id v
  unfold rxAlive at hQ
  rw [ze_100]
  simp only [zs_100_0, zs_100_1, zt_100_1, zs_100_4, zs_100_4u, zs_100_5, zs_100_8, zs_100_11, zs_100_12, zt_100_12, zs_100_15, zt_100_15, zs_100_18, zc_isO, zr_fld_mk, zc_isA, zc_len, zr_elt_mk, zr_kill_i, zr_kill_l, zr_kill_r, zr_kill_u, zr_kill_f, zr_kill_n, zc_cat, zr_cat_i, zr_cat_l, zr_cat_r, zr_cat_f, zr_cat_d, zr_cat_u, beq_self_eq_true, Nat.zero_le, Nat.le_refl, Nat.reduceSub, Nat.reduceAdd, Nat.reduceLeDiff, csl_f, csr_f, cn_f, lg_cmp_eq, lg_cmp_le, lg_cmp_lt, lg_cmp_ge, lg_cmp_gt, nI_1, zr_up_self, zp_O, zr_fup_self, zr_fup_ne, ne_eq, Nat.reduceEqDiff, not_false_eq_true, pk_mul, hX, zx_I]
  refine k_col (fun e => ?_) (fun e => ?_)
  · obtain ⟨c, hc, e⟩ := col_nI e
    subst e
    rw [clq_s hc] at hQ
    simp only [zs_100_0, zs_100_1, zt_100_1, zs_100_4, zs_100_4u, zs_100_5, zs_100_8, zs_100_11, zs_100_12, zt_100_12, zs_100_15, zt_100_15, zs_100_18, zc_isO, zr_fld_mk, zc_isA, zc_len, zr_elt_mk, zr_kill_i, zr_kill_l, zr_kill_r, zr_kill_u, zr_kill_f, zr_kill_n, zc_cat, zr_cat_i, zr_cat_l, zr_cat_r, zr_cat_f, zr_cat_d, zr_cat_u, beq_self_eq_true, Nat.zero_le, Nat.le_refl, Nat.reduceSub, Nat.reduceAdd, Nat.reduceLeDiff, csl_f, csr_f, cn_f, lg_cmp_eq, lg_cmp_le, lg_cmp_lt, lg_cmp_ge, lg_cmp_gt, nI_1, zr_up_self, zp_O, zr_fup_self, zr_fup_ne, ne_eq, Nat.reduceEqDiff, not_false_eq_true, pk_mul, hX, zx_I, zx_0, hM, zm_I, zm_0, hB, zb_O]
    refine k_lv hg hB hG (by omega) ?_
    simp only [zs_100_0, zs_100_1, zt_100_1, zs_100_4, zs_100_4u, zs_100_5, zs_100_8, zs_100_11, zs_100_12, zt_100_12, zs_100_15, zt_100_15, zs_100_18, zc_isO, zr_fld_mk, zc_isA, zc_len, zr_elt_mk, zr_kill_i, zr_kill_l, zr_kill_r, zr_kill_u, zr_kill_f, zr_kill_n, zc_cat, zr_cat_i, zr_cat_l, zr_cat_r, zr_cat_f, zr_cat_d, zr_cat_u, beq_self_eq_true, Nat.zero_le, Nat.le_refl, Nat.reduceSub, Nat.reduceAdd, Nat.reduceLeDiff, csl_f, csr_f, cn_f, lg_cmp_eq, lg_cmp_le, lg_cmp_lt, lg_cmp_ge, lg_cmp_gt, nI_1, zr_up_self, zp_O, zr_fup_self, zr_fup_ne, ne_eq, Nat.reduceEqDiff, not_false_eq_true, pk_mul]
    refine k_bits ?_
    simp only [zs_100_0, zs_100_1, zt_100_1, zs_100_4, zs_100_4u, zs_100_5, zs_100_8, zs_100_11, zs_100_12, zt_100_12, zs_100_15, zt_100_15, zs_100_18, zc_isO, zr_fld_mk, zc_isA, zc_len, zr_elt_mk, zr_kill_i, zr_kill_l, zr_kill_r, zr_kill_u, zr_kill_f, zr_kill_n, zc_cat, zr_cat_i, zr_cat_l, zr_cat_r, zr_cat_f, zr_cat_d, zr_cat_u, beq_self_eq_true, Nat.zero_le, Nat.le_refl, Nat.reduceSub, Nat.reduceAdd, Nat.reduceLeDiff, csl_f, csr_f, cn_f, lg_cmp_eq, lg_cmp_le, lg_cmp_lt, lg_cmp_ge, lg_cmp_gt, nI_1, zr_up_self, zp_O, zr_fup_self, zr_fup_ne, ne_eq, Nat.reduceEqDiff, not_false_eq_true, pk_mul]
    exact hQ
  · rw [clq_n e] at hQ
    rw [zk_thr zf_hh_100]
    exact hQ
theorem k_caught (hX : h x = some (zxs (A 0) ea sl rd wr u l)) (v : vM h A R S b w P I g) {y : Int32} (hQ : Q (oc (rxCaught R S b w y)) h) : zr_E (d + 29) 101 [.ref x, .int y] h Q := by
  obtain ⟨hM, hB, hG, hg, -⟩ := id v
  have hn := g_n hg
  unfold rxCaught at hQ
  rw [ze_101]
  simp only [zs_101_0, zs_101_0u, zs_101_1, zs_101_2, zt_101_2, zs_101_5, zs_101_5u, zs_101_6, zs_101_7, zt_101_7, zs_101_10, zs_101_10u, zs_101_11, zs_101_14, zs_101_17, zs_101_18, zt_101_18, zs_101_21, zc_isO, zr_fld_mk, zc_isA, zc_len, zr_elt_mk, zr_kill_i, zr_kill_l, zr_kill_r, zr_kill_u, zr_kill_f, zr_kill_n, zc_cat, zr_cat_i, zr_cat_l, zr_cat_r, zr_cat_f, zr_cat_d, zr_cat_u, beq_self_eq_true, Nat.zero_le, Nat.le_refl, Nat.reduceSub, Nat.reduceAdd, Nat.reduceLeDiff, csl_f, csr_f, cn_f, lg_cmp_eq, lg_cmp_le, lg_cmp_lt, lg_cmp_ge, lg_cmp_gt, nI_1, zr_up_self, zp_O, zr_fup_self, zr_fup_ne, ne_eq, Nat.reduceEqDiff, not_false_eq_true, pk_mul, hX, zx_I]
  refine k_plc hX v (fun p hp e => ?_) (fun e => ?_)
  · subst e
    rw [plq_s hp hn] at hQ
    have hQ : Q (oc (if co b w p = 0 then .inr 3 else .inl (if hF R S b w p ≤ 8 then nI (hF R S b w p) else -1))) h := hQ
    simp only [zs_101_0, zs_101_0u, zs_101_1, zs_101_2, zt_101_2, zs_101_5, zs_101_5u, zs_101_6, zs_101_7, zt_101_7, zs_101_10, zs_101_10u, zs_101_11, zs_101_14, zs_101_17, zs_101_18, zt_101_18, zs_101_21, zc_isO, zr_fld_mk, zc_isA, zc_len, zr_elt_mk, zr_kill_i, zr_kill_l, zr_kill_r, zr_kill_u, zr_kill_f, zr_kill_n, zc_cat, zr_cat_i, zr_cat_l, zr_cat_r, zr_cat_f, zr_cat_d, zr_cat_u, beq_self_eq_true, Nat.zero_le, Nat.le_refl, Nat.reduceSub, Nat.reduceAdd, Nat.reduceLeDiff, csl_f, csr_f, cn_f, lg_cmp_eq, lg_cmp_le, lg_cmp_lt, lg_cmp_ge, lg_cmp_gt, nI_1, zr_up_self, zp_O, zr_fup_self, zr_fup_ne, ne_eq, Nat.reduceEqDiff, not_false_eq_true, pk_mul, hX, zx_I]
    refine k_sat hX v hp (fun e => ?_) (fun e => ?_)
    · rw [if_neg e] at hQ
      simp only [zs_101_0, zs_101_0u, zs_101_1, zs_101_2, zt_101_2, zs_101_5, zs_101_5u, zs_101_6, zs_101_7, zt_101_7, zs_101_10, zs_101_10u, zs_101_11, zs_101_14, zs_101_17, zs_101_18, zt_101_18, zs_101_21, zc_isO, zr_fld_mk, zc_isA, zc_len, zr_elt_mk, zr_kill_i, zr_kill_l, zr_kill_r, zr_kill_u, zr_kill_f, zr_kill_n, zc_cat, zr_cat_i, zr_cat_l, zr_cat_r, zr_cat_f, zr_cat_d, zr_cat_u, beq_self_eq_true, Nat.zero_le, Nat.le_refl, Nat.reduceSub, Nat.reduceAdd, Nat.reduceLeDiff, csl_f, csr_f, cn_f, lg_cmp_eq, lg_cmp_le, lg_cmp_lt, lg_cmp_ge, lg_cmp_gt, nI_1, zr_up_self, zp_O, zr_fup_self, zr_fup_ne, ne_eq, Nat.reduceEqDiff, not_false_eq_true, pk_mul, hX, zx_I, zx_0, hM, zm_I, zm_0]
      refine k_hF hg hB hG hp ?_
      simp only [zs_101_0, zs_101_0u, zs_101_1, zs_101_2, zt_101_2, zs_101_5, zs_101_5u, zs_101_6, zs_101_7, zt_101_7, zs_101_10, zs_101_10u, zs_101_11, zs_101_14, zs_101_17, zs_101_18, zt_101_18, zs_101_21, zc_isO, zr_fld_mk, zc_isA, zc_len, zr_elt_mk, zr_kill_i, zr_kill_l, zr_kill_r, zr_kill_u, zr_kill_f, zr_kill_n, zc_cat, zr_cat_i, zr_cat_l, zr_cat_r, zr_cat_f, zr_cat_d, zr_cat_u, beq_self_eq_true, Nat.zero_le, Nat.le_refl, Nat.reduceSub, Nat.reduceAdd, Nat.reduceLeDiff, csl_f, csr_f, cn_f, lg_cmp_eq, lg_cmp_le, lg_cmp_lt, lg_cmp_ge, lg_cmp_gt, nI_1, zr_up_self, zp_O, zr_fup_self, zr_fup_ne, ne_eq, Nat.reduceEqDiff, not_false_eq_true, pk_mul]
      exact hQ
    · rw [if_pos e] at hQ
      rw [zk_thr zf_hh_101]
      exact hQ
  · rw [plq_n hn e] at hQ
    rw [zk_thr zf_hh_101]
    exact hQ
theorem k_areaX (hX : h x = some (zxs (A 0) ea sl rd wr u l)) (v : vM h A R S b w P I g) {y : Int32} (hQ : Q (oc (rxArea R S b w y)) h) : zr_E (d + 6) 102 [.ref x, .int y] h Q := by
  obtain ⟨hM, hB, hG, hg, -⟩ := id v
  unfold rxArea at hQ
  rw [ze_102]
  simp only [zs_102_0, zs_102_1, zt_102_1, zs_102_4, zs_102_4u, zs_102_5, zs_102_8, zs_102_11, zs_102_12, zt_102_12, zs_102_15, zc_isO, zr_fld_mk, zc_isA, zc_len, zr_elt_mk, zr_kill_i, zr_kill_l, zr_kill_r, zr_kill_u, zr_kill_f, zr_kill_n, zc_cat, zr_cat_i, zr_cat_l, zr_cat_r, zr_cat_f, zr_cat_d, zr_cat_u, beq_self_eq_true, Nat.zero_le, Nat.le_refl, Nat.reduceSub, Nat.reduceAdd, Nat.reduceLeDiff, csl_f, csr_f, cn_f, lg_cmp_eq, lg_cmp_le, lg_cmp_lt, lg_cmp_ge, lg_cmp_gt, nI_1, zr_up_self, zp_O, zr_fup_self, zr_fup_ne, ne_eq, Nat.reduceEqDiff, not_false_eq_true, pk_mul, hX, zx_I]
  refine k_col (fun e => ?_) (fun e => ?_)
  · obtain ⟨c, hc, e⟩ := col_nI e
    subst e
    rw [clq_s hc] at hQ
    simp only [zs_102_0, zs_102_1, zt_102_1, zs_102_4, zs_102_4u, zs_102_5, zs_102_8, zs_102_11, zs_102_12, zt_102_12, zs_102_15, zc_isO, zr_fld_mk, zc_isA, zc_len, zr_elt_mk, zr_kill_i, zr_kill_l, zr_kill_r, zr_kill_u, zr_kill_f, zr_kill_n, zc_cat, zr_cat_i, zr_cat_l, zr_cat_r, zr_cat_f, zr_cat_d, zr_cat_u, beq_self_eq_true, Nat.zero_le, Nat.le_refl, Nat.reduceSub, Nat.reduceAdd, Nat.reduceLeDiff, csl_f, csr_f, cn_f, lg_cmp_eq, lg_cmp_le, lg_cmp_lt, lg_cmp_ge, lg_cmp_gt, nI_1, zr_up_self, zp_O, zr_fup_self, zr_fup_ne, ne_eq, Nat.reduceEqDiff, not_false_eq_true, pk_mul, hX, zx_I, zx_0, hM, zm_I, zm_0, hB, zb_O]
    refine k_area hg hB hG (by omega) ?_
    simp only [zs_102_0, zs_102_1, zt_102_1, zs_102_4, zs_102_4u, zs_102_5, zs_102_8, zs_102_11, zs_102_12, zt_102_12, zs_102_15, zc_isO, zr_fld_mk, zc_isA, zc_len, zr_elt_mk, zr_kill_i, zr_kill_l, zr_kill_r, zr_kill_u, zr_kill_f, zr_kill_n, zc_cat, zr_cat_i, zr_cat_l, zr_cat_r, zr_cat_f, zr_cat_d, zr_cat_u, beq_self_eq_true, Nat.zero_le, Nat.le_refl, Nat.reduceSub, Nat.reduceAdd, Nat.reduceLeDiff, csl_f, csr_f, cn_f, lg_cmp_eq, lg_cmp_le, lg_cmp_lt, lg_cmp_ge, lg_cmp_gt, nI_1, zr_up_self, zp_O, zr_fup_self, zr_fup_ne, ne_eq, Nat.reduceEqDiff, not_false_eq_true, pk_mul]
    exact hQ
  · rw [clq_n e] at hQ
    rw [zk_thr zf_hh_102]
    exact hQ
theorem k_score (hX : h x = some (zxs (A 0) ea sl rd wr u l)) (v : vM h A R S b w P I g) (hQ : Q (oc (rxScore R S b w I)) h) : zr_E (d + 6) 103 [.ref x] h Q := by
  obtain ⟨hM, hB, hG, hg, -⟩ := id v
  rw [ze_103]
  simp only [zs_103_0, zs_103_0u, zs_103_1, zs_103_4, zs_103_7, zs_103_8, zt_103_8, zs_103_11, zs_103_11u, zs_103_12, zs_103_15, zs_103_18, zs_103_19, zt_103_19, zs_103_22, zs_103_23, zs_103_23u, zs_103_24, zs_103_27, zs_103_30, zs_103_31, zc_isO, zr_fld_mk, zc_isA, zc_len, zr_elt_mk, zr_kill_i, zr_kill_l, zr_kill_r, zr_kill_u, zr_kill_f, zr_kill_n, zc_cat, zr_cat_i, zr_cat_l, zr_cat_r, zr_cat_f, zr_cat_d, zr_cat_u, beq_self_eq_true, Nat.zero_le, Nat.le_refl, Nat.reduceSub, Nat.reduceAdd, Nat.reduceLeDiff, csl_f, csr_f, cn_f, lg_cmp_eq, lg_cmp_le, lg_cmp_lt, lg_cmp_ge, lg_cmp_gt, nI_1, zr_up_self, zp_O, zr_fup_self, zr_fup_ne, ne_eq, Nat.reduceEqDiff, not_false_eq_true, pk_mul, hX, zx_I, zx_0, hM, zm_I, zm_0, hB, zb_O]
  refine k_area hg hB hG (c := 1) (by omega) ?_
  simp only [zs_103_0, zs_103_0u, zs_103_1, zs_103_4, zs_103_7, zs_103_8, zt_103_8, zs_103_11, zs_103_11u, zs_103_12, zs_103_15, zs_103_18, zs_103_19, zt_103_19, zs_103_22, zs_103_23, zs_103_23u, zs_103_24, zs_103_27, zs_103_30, zs_103_31, zc_isO, zr_fld_mk, zc_isA, zc_len, zr_elt_mk, zr_kill_i, zr_kill_l, zr_kill_r, zr_kill_u, zr_kill_f, zr_kill_n, zc_cat, zr_cat_i, zr_cat_l, zr_cat_r, zr_cat_f, zr_cat_d, zr_cat_u, beq_self_eq_true, Nat.zero_le, Nat.le_refl, Nat.reduceSub, Nat.reduceAdd, Nat.reduceLeDiff, csl_f, csr_f, cn_f, lg_cmp_eq, lg_cmp_le, lg_cmp_lt, lg_cmp_ge, lg_cmp_gt, nI_1, zr_up_self, zp_O, zr_fup_self, zr_fup_ne, ne_eq, Nat.reduceEqDiff, not_false_eq_true, pk_mul, hX, zx_I, zx_0, hM, zm_I, zm_0, hB, zb_O]
  refine k_area hg hB hG (c := 2) (by omega) ?_
  simp only [zs_103_0, zs_103_0u, zs_103_1, zs_103_4, zs_103_7, zs_103_8, zt_103_8, zs_103_11, zs_103_11u, zs_103_12, zs_103_15, zs_103_18, zs_103_19, zt_103_19, zs_103_22, zs_103_23, zs_103_23u, zs_103_24, zs_103_27, zs_103_30, zs_103_31, zc_isO, zr_fld_mk, zc_isA, zc_len, zr_elt_mk, zr_kill_i, zr_kill_l, zr_kill_r, zr_kill_u, zr_kill_f, zr_kill_n, zc_cat, zr_cat_i, zr_cat_l, zr_cat_r, zr_cat_f, zr_cat_d, zr_cat_u, beq_self_eq_true, Nat.zero_le, Nat.le_refl, Nat.reduceSub, Nat.reduceAdd, Nat.reduceLeDiff, csl_f, csr_f, cn_f, lg_cmp_eq, lg_cmp_le, lg_cmp_lt, lg_cmp_ge, lg_cmp_gt, nI_1, zr_up_self, zp_O, zr_fup_self, zr_fup_ne, ne_eq, Nat.reduceEqDiff, not_false_eq_true, pk_mul, hX, zx_I, zx_0, hM, zm_I, zm_0, zm_9, hB, zb_O]
  exact hQ
end FACE
