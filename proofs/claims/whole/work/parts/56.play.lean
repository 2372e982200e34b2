section STATE
variable {d : Nat} {Q : zr_K} {h h' : zr_H} {O : Nat → Prop} {B : Nat → Nat → Nat} {D : Nat → Nat} {V : Nat → Option gm} {u l : Nat} {J : Nat → Int32} {rb rw : Int64} {tf wf : Nat → Int32} {R S g : Nat} {b w : Int64} {P : List (Int64 × Int64)} {I : Nat → Int32}
theorem vC_v0 {G : gm} (v : vC h O B D V u l J rb rw tf wf) (h0 : V 0 = some G) : ∃ g, vM h (B 0) G.1 G.2.1 G.2.2.1 G.2.2.2.1 G.2.2.2.2.1 G.2.2.2.2.2 g ∧ ¬ O g := (v.2.2.2.2.2.2.2.1.1 0 G (by omega) h0).1
/-- the game behind a change -/
def chV (V : Nat → Option gm) (G G' : gm) : Nat → Option gm := vu (rmV V G) 0 (some G')
def plG (R S : Nat) (b w : Int64) (P : List (Int64 × Int64)) (I : Nat → Int32) (p c : Nat) : gm := (R, S, sb R S b w p c 1, sb R S b w p c 2, ((sb R S b w p c 1, sb R S b w p c 2) :: P).take 30, ptI R S b w p c I)
theorem k_play (v : vC h O B D V u l J rb rw tf wf) (h0 : V 0 = some (R, S, b, w, P, I)) {c : Nat} (hc : c = 1 ∨ c = 2) (ht : I 2 = nI c) {y : Int32} (q2 : (∀ p, p < R * S → y ≠ nI p) → Q (.inr 2) h) (q0 : ∀ p, p < R * S → y = nI p → ¬ rf R S b w P I p c = 0 → Q (.inr 0) h)
    (hQ : ∀ p, p < R * S → y = nI p → rf R S b w P I p c = 0 → ∀ h' B', (∀ q, O q → h' q = h q) → vC h' O B' D (chV V (R, S, b, w, P, I) (plG R S b w P I p c)) (min (u + 1) 8) l J rb rw tf wf → Q (.inl (some (.int (nI (ct (cb R S b w p c)))))) h') : zr_E (d + 7) 86 [.ref (D 0), .int y] h Q := by
  obtain ⟨g, w0, n0⟩ := vC_v0 v h0
  have hX := v.1
  have m0 := w0.1
  rw [ze_86]
  simp only [zs_86_0, zs_86_0u, zs_86_1, zs_86_2, zt_86_2, zs_86_6, zs_86_9, zs_86_10, zs_86_10u, zs_86_11, zs_86_14, zs_86_17, zt_86_17, zs_86_20, zs_86_33, zs_86_33u, zs_86_34, zt_86_34, zs_86_37, zs_86_37u, zs_86_38, zs_86_41, zs_86_42, zt_86_42, zs_86_45, zc_isO, zr_fld_mk, zc_isA, zc_len, zr_elt_mk, zr_kill_i, zr_kill_l, zr_kill_r, zr_kill_u, zr_kill_f, zr_kill_n, zc_cat, zr_cat_i, zr_cat_l, zr_cat_r, zr_cat_f, zr_cat_d, zr_cat_u, beq_self_eq_true, Nat.zero_le, Nat.le_refl, Nat.reduceSub, Nat.reduceAdd, Nat.reduceLeDiff, csl_f, csr_f, cn_f, lg_cmp_eq, lg_cmp_le, lg_cmp_lt, lg_cmp_ge, lg_cmp_gt, nI_1, zr_up_self, zp_O, zr_fup_self, zr_fup_ne, ne_eq, Nat.reduceEqDiff, not_false_eq_true, pk_mul, hX, zx_I]
  refine k_plc hX w0 (fun p hp e => ?_) (fun e => ?_)
  · subst e
    simp only [zs_86_0, zs_86_0u, zs_86_1, zs_86_2, zt_86_2, zs_86_5, zs_86_5u, zs_86_6, zs_86_9, zs_86_10, zs_86_10u, zs_86_11, zs_86_14, zs_86_17, zt_86_17, zs_86_20, zs_86_33, zs_86_33u, zs_86_34, zt_86_34, zs_86_37, zs_86_37u, zs_86_38, zs_86_41, zs_86_42, zt_86_42, zs_86_45, zc_isO, zr_fld_mk, zc_isA, zc_len, zr_elt_mk, zr_kill_i, zr_kill_l, zr_kill_r, zr_kill_u, zr_kill_f, zr_kill_n, zc_cat, zr_cat_i, zr_cat_l, zr_cat_r, zr_cat_f, zr_cat_d, zr_cat_u, beq_self_eq_true, Nat.zero_le, Nat.le_refl, Nat.reduceSub, Nat.reduceAdd, Nat.reduceLeDiff, csl_f, csr_f, cn_f, lg_cmp_eq, lg_cmp_le, lg_cmp_lt, lg_cmp_ge, lg_cmp_gt, nI_1, zr_up_self, zp_O, zr_fup_self, zr_fup_ne, ne_eq, Nat.reduceEqDiff, not_false_eq_true, pk_mul, hX, zx_I, zx_0, m0, zm_I, zm_2, ht]
    refine k_ref w0 hp (by omega) ?_
    have hr : rf R S b w P I p c < 6 := by unfold rf; split; omega; split; omega; split; omega; split; omega; split; omega; split <;> omega
    simp only [zs_86_0, zs_86_0u, zs_86_1, zs_86_2, zt_86_2, zs_86_5, zs_86_5u, zs_86_6, zs_86_9, zs_86_10, zs_86_10u, zs_86_11, zs_86_14, zs_86_17, zt_86_17, zs_86_20, zs_86_34, zt_86_34, zs_86_37, zs_86_37u, zs_86_38, zs_86_41, zs_86_42, zt_86_42, zs_86_45, zc_isO, zr_fld_mk, zc_isA, zc_len, zr_elt_mk, zr_kill_i, zr_kill_l, zr_kill_r, zr_kill_u, zr_kill_f, zr_kill_n, zc_cat, zr_cat_i, zr_cat_l, zr_cat_r, zr_cat_f, zr_cat_d, zr_cat_u, beq_self_eq_true, Nat.zero_le, Nat.le_refl, Nat.reduceSub, Nat.reduceAdd, Nat.reduceLeDiff, csl_f, csr_f, cn_f, lg_cmp_eq, lg_cmp_le, lg_cmp_lt, lg_cmp_ge, lg_cmp_gt, nI_1, zr_up_self, zp_O, zr_fup_self, zr_fup_ne, ne_eq, Nat.reduceEqDiff, not_false_eq_true, pk_mul]
    rw [nI_eq0 (by omega)]
    refine ⟨fun z => ?_, fun z => ?_⟩
    · have hQ := hQ p hp rfl z
      simp only [zs_86_0, zs_86_0u, zs_86_1, zs_86_2, zt_86_2, zs_86_5, zs_86_5u, zs_86_6, zs_86_9, zs_86_10, zs_86_10u, zs_86_11, zs_86_14, zs_86_17, zt_86_17, zs_86_20, zs_86_33, zs_86_33u, zs_86_34, zt_86_34, zs_86_37, zs_86_37u, zs_86_38, zs_86_41, zs_86_42, zt_86_42, zs_86_45, zc_isO, zr_fld_mk, zc_isA, zc_len, zr_elt_mk, zr_kill_i, zr_kill_l, zr_kill_r, zr_kill_u, zr_kill_f, zr_kill_n, zc_cat, zr_cat_i, zr_cat_l, zr_cat_r, zr_cat_f, zr_cat_d, zr_cat_u, beq_self_eq_true, Nat.zero_le, Nat.le_refl, Nat.reduceSub, Nat.reduceAdd, Nat.reduceLeDiff, csl_f, csr_f, cn_f, lg_cmp_eq, lg_cmp_le, lg_cmp_lt, lg_cmp_ge, lg_cmp_gt, nI_1, zr_up_self, zp_O, zr_fup_self, zr_fup_ne, ne_eq, Nat.reduceEqDiff, not_false_eq_true, pk_mul, hX, zx_I]
      refine k_rem v h0 (fun h1 B1 o1 v1 => ?_)
      obtain ⟨g1, w1, n1⟩ := vC_v0 v1 (G := (R, S, b, w, P, I)) h0
      have hX1 := v1.1
      have m1 := w1.1
      simp only [zs_86_0, zs_86_0u, zs_86_1, zs_86_2, zt_86_2, zs_86_5, zs_86_5u, zs_86_6, zs_86_9, zs_86_10, zs_86_10u, zs_86_11, zs_86_14, zs_86_17, zt_86_17, zs_86_20, zs_86_33, zs_86_33u, zs_86_34, zt_86_34, zs_86_37, zs_86_37u, zs_86_38, zs_86_41, zs_86_42, zt_86_42, zs_86_45, zc_isO, zr_fld_mk, zc_isA, zc_len, zr_elt_mk, zr_kill_i, zr_kill_l, zr_kill_r, zr_kill_u, zr_kill_f, zr_kill_n, zc_cat, zr_cat_i, zr_cat_l, zr_cat_r, zr_cat_f, zr_cat_d, zr_cat_u, beq_self_eq_true, Nat.zero_le, Nat.le_refl, Nat.reduceSub, Nat.reduceAdd, Nat.reduceLeDiff, csl_f, csr_f, cn_f, lg_cmp_eq, lg_cmp_le, lg_cmp_lt, lg_cmp_ge, lg_cmp_gt, nI_1, zr_up_self, zp_O, zr_fup_self, zr_fup_ne, ne_eq, Nat.reduceEqDiff, not_false_eq_true, pk_mul, hX1, zx_I, zx_0, m1, zm_I]
      refine k_put w1 hp hc ht (fun h2 f2 w2 => ?_)
      obtain ⟨v2, o2⟩ := vC_upd v1 (i := 0) (G := plG R S b w P I p c) (by omega) h0 f2 w2 n1
      simp only [zs_86_0, zs_86_0u, zs_86_1, zs_86_2, zt_86_2, zs_86_5, zs_86_5u, zs_86_6, zs_86_9, zs_86_10, zs_86_10u, zs_86_11, zs_86_14, zs_86_17, zt_86_17, zs_86_20, zs_86_33, zs_86_33u, zs_86_34, zt_86_34, zs_86_37, zs_86_37u, zs_86_38, zs_86_41, zs_86_42, zt_86_42, zs_86_45, zc_isO, zr_fld_mk, zc_isA, zc_len, zr_elt_mk, zr_kill_i, zr_kill_l, zr_kill_r, zr_kill_u, zr_kill_f, zr_kill_n, zc_cat, zr_cat_i, zr_cat_l, zr_cat_r, zr_cat_f, zr_cat_d, zr_cat_u, beq_self_eq_true, Nat.zero_le, Nat.le_refl, Nat.reduceSub, Nat.reduceAdd, Nat.reduceLeDiff, csl_f, csr_f, cn_f, lg_cmp_eq, lg_cmp_le, lg_cmp_lt, lg_cmp_ge, lg_cmp_gt, nI_1, zr_up_self, zp_O, zr_fup_self, zr_fup_ne, ne_eq, Nat.reduceEqDiff, not_false_eq_true, pk_mul]
      exact hQ _ B1 (fun q o => (o2 q o).trans (o1 q o)) v2
    · exact zs_86_23 (by decide) (by decide) (by rw [zr_cat_0]; decide) (q0 p hp rfl z)
  · rw [zk_thr zf_hh_86]
    exact q2 e
theorem k_pass (v : vC h O B D V u l J rb rw tf wf) (h0 : V 0 = some (R, S, b, w, P, I)) (q0 : 2 ≤ I 4 → Q (.inr 0) h)
    (hQ : ¬ 2 ≤ I 4 → ∀ h' B', (∀ q, O q → h' q = h q) → vC h' O B' D (chV V (R, S, b, w, P, I) (R, S, b, w, P, fI (fI (fI I 4 (I 4 + 1)) 7 (-1)) 2 (3 - I 2))) (min (u + 1) 8) l J rb rw tf wf → Q (.inl (some (.int (I 4 + 1)))) h') : zr_E (d + 4) 87 [.ref (D 0)] h Q := by
  obtain ⟨g, w0, n0⟩ := vC_v0 v h0
  have hX := v.1
  have m0 := w0.1
  rw [ze_87]
  simp only [zs_87_0, zs_87_0u, zs_87_1, zs_87_4, zt_87_4, zs_87_7, zs_87_20, zs_87_20u, zs_87_21, zt_87_21, zs_87_24, zs_87_24u, zs_87_25, zs_87_28, zt_87_28, zs_87_31, zc_isO, zr_fld_mk, zc_isA, zc_len, zr_elt_mk, zr_kill_i, zr_kill_l, zr_kill_r, zr_kill_u, zr_kill_f, zr_kill_n, zc_cat, zr_cat_i, zr_cat_l, zr_cat_r, zr_cat_f, zr_cat_d, zr_cat_u, beq_self_eq_true, Nat.zero_le, Nat.le_refl, Nat.reduceSub, Nat.reduceAdd, Nat.reduceLeDiff, csl_f, csr_f, cn_f, lg_cmp_eq, lg_cmp_le, lg_cmp_lt, lg_cmp_ge, lg_cmp_gt, nI_1, zr_up_self, zp_O, zr_fup_self, zr_fup_ne, ne_eq, Nat.reduceEqDiff, not_false_eq_true, pk_mul, hX, zx_I, zx_0, m0, zm_I]
  refine k_over w0 (fun z => ?_) (fun z => ?_)
  · simp only [zs_87_0, zs_87_0u, zs_87_1, zs_87_4, zt_87_4, zs_87_7, zs_87_20, zs_87_20u, zs_87_21, zt_87_21, zs_87_24, zs_87_24u, zs_87_25, zs_87_28, zt_87_28, zs_87_31, zc_isO, zr_fld_mk, zc_isA, zc_len, zr_elt_mk, zr_kill_i, zr_kill_l, zr_kill_r, zr_kill_u, zr_kill_f, zr_kill_n, zc_cat, zr_cat_i, zr_cat_l, zr_cat_r, zr_cat_f, zr_cat_d, zr_cat_u, beq_self_eq_true, Nat.zero_le, Nat.le_refl, Nat.reduceSub, Nat.reduceAdd, Nat.reduceLeDiff, csl_f, csr_f, cn_f, lg_cmp_eq, lg_cmp_le, lg_cmp_lt, lg_cmp_ge, lg_cmp_gt, nI_1, zr_up_self, zp_O, zr_fup_self, zr_fup_ne, ne_eq, Nat.reduceEqDiff, not_false_eq_true, pk_mul]
    refine ⟨fun z => absurd z (by decide), fun _ => ?_⟩
    exact zs_87_10 (by decide) (by decide) (by rw [zr_cat_0]; decide) (q0 z)
  · simp only [zs_87_0, zs_87_0u, zs_87_1, zs_87_4, zt_87_4, zs_87_7, zs_87_21, zt_87_21, zs_87_24, zs_87_24u, zs_87_25, zs_87_28, zt_87_28, zs_87_31, zc_isO, zr_fld_mk, zc_isA, zc_len, zr_elt_mk, zr_kill_i, zr_kill_l, zr_kill_r, zr_kill_u, zr_kill_f, zr_kill_n, zc_cat, zr_cat_i, zr_cat_l, zr_cat_r, zr_cat_f, zr_cat_d, zr_cat_u, beq_self_eq_true, Nat.zero_le, Nat.le_refl, Nat.reduceSub, Nat.reduceAdd, Nat.reduceLeDiff, csl_f, csr_f, cn_f, lg_cmp_eq, lg_cmp_le, lg_cmp_lt, lg_cmp_ge, lg_cmp_gt, nI_1, zr_up_self, zp_O, zr_fup_self, zr_fup_ne, ne_eq, Nat.reduceEqDiff, not_false_eq_true, pk_mul]
    refine ⟨fun _ => ?_, fun z => absurd trivial z⟩
    have hQ := hQ z
    simp only [zs_87_0, zs_87_0u, zs_87_1, zs_87_4, zt_87_4, zs_87_7, zs_87_20, zs_87_20u, zs_87_21, zt_87_21, zs_87_24, zs_87_24u, zs_87_25, zs_87_28, zt_87_28, zs_87_31, zc_isO, zr_fld_mk, zc_isA, zc_len, zr_elt_mk, zr_kill_i, zr_kill_l, zr_kill_r, zr_kill_u, zr_kill_f, zr_kill_n, zc_cat, zr_cat_i, zr_cat_l, zr_cat_r, zr_cat_f, zr_cat_d, zr_cat_u, beq_self_eq_true, Nat.zero_le, Nat.le_refl, Nat.reduceSub, Nat.reduceAdd, Nat.reduceLeDiff, csl_f, csr_f, cn_f, lg_cmp_eq, lg_cmp_le, lg_cmp_lt, lg_cmp_ge, lg_cmp_gt, nI_1, zr_up_self, zp_O, zr_fup_self, zr_fup_ne, ne_eq, Nat.reduceEqDiff, not_false_eq_true, pk_mul, hX, zx_I]
    refine k_rem v h0 (fun h1 B1 o1 v1 => ?_)
    obtain ⟨g1, w1, n1⟩ := vC_v0 v1 (G := (R, S, b, w, P, I)) h0
    have hX1 := v1.1
    have m1 := w1.1
    simp only [zs_87_0, zs_87_0u, zs_87_1, zs_87_4, zt_87_4, zs_87_7, zs_87_20, zs_87_20u, zs_87_21, zt_87_21, zs_87_24, zs_87_24u, zs_87_25, zs_87_28, zt_87_28, zs_87_31, zc_isO, zr_fld_mk, zc_isA, zc_len, zr_elt_mk, zr_kill_i, zr_kill_l, zr_kill_r, zr_kill_u, zr_kill_f, zr_kill_n, zc_cat, zr_cat_i, zr_cat_l, zr_cat_r, zr_cat_f, zr_cat_d, zr_cat_u, beq_self_eq_true, Nat.zero_le, Nat.le_refl, Nat.reduceSub, Nat.reduceAdd, Nat.reduceLeDiff, csl_f, csr_f, cn_f, lg_cmp_eq, lg_cmp_le, lg_cmp_lt, lg_cmp_ge, lg_cmp_gt, nI_1, zr_up_self, zp_O, zr_fup_self, zr_fup_ne, ne_eq, Nat.reduceEqDiff, not_false_eq_true, pk_mul, hX1, zx_I, zx_0, m1, zm_I]
    refine k_pas w1 (fun h2 f2 w2 => ?_)
    obtain ⟨v2, o2⟩ := vC_upd v1 (i := 0) (G := (R, S, b, w, P, fI (fI (fI I 4 (I 4 + 1)) 7 (-1)) 2 (3 - I 2))) (by omega) h0 f2 w2 n1
    simp only [zs_87_0, zs_87_0u, zs_87_1, zs_87_4, zt_87_4, zs_87_7, zs_87_20, zs_87_20u, zs_87_21, zt_87_21, zs_87_24, zs_87_24u, zs_87_25, zs_87_28, zt_87_28, zs_87_31, zc_isO, zr_fld_mk, zc_isA, zc_len, zr_elt_mk, zr_kill_i, zr_kill_l, zr_kill_r, zr_kill_u, zr_kill_f, zr_kill_n, zc_cat, zr_cat_i, zr_cat_l, zr_cat_r, zr_cat_f, zr_cat_d, zr_cat_u, beq_self_eq_true, Nat.zero_le, Nat.le_refl, Nat.reduceSub, Nat.reduceAdd, Nat.reduceLeDiff, csl_f, csr_f, cn_f, lg_cmp_eq, lg_cmp_le, lg_cmp_lt, lg_cmp_ge, lg_cmp_gt, nI_1, zr_up_self, zp_O, zr_fup_self, zr_fup_ne, ne_eq, Nat.reduceEqDiff, not_false_eq_true, pk_mul]
    exact hQ _ B1 (fun q o => (o2 q o).trans (o1 q o)) v2
end STATE
