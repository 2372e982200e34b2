/-! THE FACE: answers, as (answer | exception's number) -/
def oc (r : Int32 ⊕ Nat) : (Option Value) ⊕ Nat := match r with
  | .inl v => .inl (some (.int v))
  | .inr e => .inr e
def plq (n : Nat) (y : Int32) : Option Nat := if y < 0 then none else if y.toNatClampNeg < n then some y.toNatClampNeg else none
theorem plq_s {n p : Nat} (hp : p < n) (hn : n ≤ 60) : plq n (nI p) = some p := by
  unfold plq
  rw [if_neg (nI_pos (by omega)), nI_clamp (by omega), if_pos hp]
theorem plq_n {n : Nat} {y : Int32} (hn : n ≤ 60) (h : ∀ p, p < n → y ≠ nI p) : plq n y = none := by
  unfold plq
  by_cases g : y < 0
  · rw [if_pos g]
  · rw [if_neg g]
    obtain ⟨j, hj, e⟩ := nI_of g
    subst e
    rw [nI_clamp hj]
    by_cases f : j < n
    · exact (h j f rfl).elim
    · rw [if_neg f]
def rxStone (R S : Nat) (b w : Int64) (y : Int32) : Int32 ⊕ Nat := match plq (R * S) y with
  | none => .inr 2
  | some p => .inl (nI (co b w p))
def rxPlace (R S : Nat) (y z : Int32) : Int32 ⊕ Nat := match plq R y with
  | none => .inr 2
  | some p => match plq S z with
    | none => .inr 2
    | some s => .inl (nI (S * p + s))
def rxNeigh (R S : Nat) (y z : Int32) : Int32 ⊕ Nat := match plq (R * S) y with
  | none => .inr 2
  | some p => match plq 4 z with
    | none => .inr 1
    | some k => .inl (oI (bs R S p k))
section FACE
variable {d : Nat} {h : zr_H} {Q : zr_K} {x ea sl rd wr : Nat} {u l : Int32} {A : Nat → Nat} {R S g : Nat} {b w : Int64} {P : List (Int64 × Int64)} {I : Nat → Int32}
theorem k_stone (hX : h x = some (zxs (A 0) ea sl rd wr u l)) (v : vM h A R S b w P I g) {y : Int32} (hQ : Q (oc (rxStone R S b w y)) h) : zr_E (d + 2) 80 [.ref x, .int y] h Q := by
  obtain ⟨hM, hB, hG, hg, -⟩ := id v
  have hn := g_n hg
  unfold rxStone at hQ
  rw [ze_80]
  simp only [zs_80_0, zs_80_0u, zs_80_1, zs_80_2, zt_80_2, zs_80_5, zs_80_5u, zs_80_6, zs_80_9, zs_80_12, zs_80_13, zt_80_13, zs_80_16, zc_isO, zr_fld_mk, zc_isA, zc_len, zr_elt_mk, zr_kill_i, zr_kill_l, zr_kill_r, zr_kill_u, zr_kill_f, zr_kill_n, zc_cat, zr_cat_i, zr_cat_l, zr_cat_r, zr_cat_f, zr_cat_d, zr_cat_u, beq_self_eq_true, Nat.zero_le, Nat.le_refl, Nat.reduceSub, Nat.reduceAdd, Nat.reduceLeDiff, csl_f, csr_f, cn_f, lg_cmp_eq, lg_cmp_le, lg_cmp_lt, lg_cmp_ge, lg_cmp_gt, nI_1, zr_up_self, zp_O, zr_fup_self, zr_fup_ne, ne_eq, Nat.reduceEqDiff, not_false_eq_true, pk_mul, hX, zx_I]
  refine k_plc hX v (fun p hp e => ?_) (fun e => ?_)
  · subst e
    rw [plq_s hp hn] at hQ
    simp only [zs_80_0, zs_80_0u, zs_80_1, zs_80_2, zt_80_2, zs_80_5, zs_80_5u, zs_80_6, zs_80_9, zs_80_12, zs_80_13, zt_80_13, zs_80_16, zc_isO, zr_fld_mk, zc_isA, zc_len, zr_elt_mk, zr_kill_i, zr_kill_l, zr_kill_r, zr_kill_u, zr_kill_f, zr_kill_n, zc_cat, zr_cat_i, zr_cat_l, zr_cat_r, zr_cat_f, zr_cat_d, zr_cat_u, beq_self_eq_true, Nat.zero_le, Nat.le_refl, Nat.reduceSub, Nat.reduceAdd, Nat.reduceLeDiff, csl_f, csr_f, cn_f, lg_cmp_eq, lg_cmp_le, lg_cmp_lt, lg_cmp_ge, lg_cmp_gt, nI_1, zr_up_self, zp_O, zr_fup_self, zr_fup_ne, ne_eq, Nat.reduceEqDiff, not_false_eq_true, pk_mul, hX, zx_I, zx_0, hM, zm_I, zm_0, hB, zb_O]
    refine k_co hB (by omega) ?_
    simp only [zs_80_0, zs_80_0u, zs_80_1, zs_80_2, zt_80_2, zs_80_5, zs_80_5u, zs_80_6, zs_80_9, zs_80_12, zs_80_13, zt_80_13, zs_80_16, zc_isO, zr_fld_mk, zc_isA, zc_len, zr_elt_mk, zr_kill_i, zr_kill_l, zr_kill_r, zr_kill_u, zr_kill_f, zr_kill_n, zc_cat, zr_cat_i, zr_cat_l, zr_cat_r, zr_cat_f, zr_cat_d, zr_cat_u, beq_self_eq_true, Nat.zero_le, Nat.le_refl, Nat.reduceSub, Nat.reduceAdd, Nat.reduceLeDiff, csl_f, csr_f, cn_f, lg_cmp_eq, lg_cmp_le, lg_cmp_lt, lg_cmp_ge, lg_cmp_gt, nI_1, zr_up_self, zp_O, zr_fup_self, zr_fup_ne, ne_eq, Nat.reduceEqDiff, not_false_eq_true, pk_mul]
    exact hQ
  · rw [plq_n hn e] at hQ
    rw [zk_thr zf_hh_80]
    exact hQ
theorem k_place (hX : h x = some (zxs (A 0) ea sl rd wr u l)) (v : vM h A R S b w P I g) {y z : Int32} (hQ : Q (oc (rxPlace R S y z)) h) : zr_E (d + 2) 78 [.ref x, .int y, .int z] h Q := by
  obtain ⟨hM, hB, hG, hg, -⟩ := id v
  have hn := g_n hg
  have hl := g_lt hg
  unfold rxPlace at hQ
  rw [ze_78]
  simp only [zs_78_0, zs_78_0u, zs_78_1, zs_78_2, zt_78_2, zs_78_5, zs_78_6, zs_78_9, zs_78_10, zs_78_10u, zs_78_11, zs_78_14, zs_78_17, zs_78_20, zs_78_23, zs_78_36, zs_78_36u, zs_78_37, zs_78_40, zs_78_43, zs_78_46, zs_78_49, zs_78_50, zs_78_51, zs_78_52, zs_78_53, zc_isO, zr_fld_mk, zc_isA, zc_len, zr_elt_mk, zr_kill_i, zr_kill_l, zr_kill_r, zr_kill_u, zr_kill_f, zr_kill_n, zc_cat, zr_cat_i, zr_cat_l, zr_cat_r, zr_cat_f, zr_cat_d, zr_cat_u, beq_self_eq_true, Nat.zero_le, Nat.le_refl, Nat.reduceSub, Nat.reduceAdd, Nat.reduceLeDiff, csl_f, csr_f, cn_f, lg_cmp_eq, lg_cmp_le, lg_cmp_lt, lg_cmp_ge, lg_cmp_gt, nI_1, zr_up_self, zp_O, zr_fup_self, zr_fup_ne, ne_eq, Nat.reduceEqDiff, not_false_eq_true, pk_mul, hX, zx_I]
  refine k_rin hX v (fun p hp e => ?_) (fun e => ?_)
  · subst e
    rw [plq_s hp (by omega)] at hQ
    have no : (∀ s, s < S → z ≠ nI s) → zr_Z (d + 1) 78 Q 26 [some (.ref x), some (.int (nI p)), some (.int z)] [] h (2 - 1) (12 - 6) := fun f => by
      rw [plq_n (by omega) f] at hQ
      exact zs_78_26 (by decide) (by decide) (by rw [zr_cat_0]; decide) hQ
    simp only [zs_78_0, zs_78_0u, zs_78_1, zs_78_2, zt_78_2, zs_78_5, zs_78_6, zs_78_9, zs_78_10, zs_78_10u, zs_78_11, zs_78_14, zs_78_17, zs_78_20, zs_78_23, zs_78_36, zs_78_36u, zs_78_37, zs_78_40, zs_78_43, zs_78_46, zs_78_49, zs_78_50, zs_78_51, zs_78_52, zs_78_53, zc_isO, zr_fld_mk, zc_isA, zc_len, zr_elt_mk, zr_kill_i, zr_kill_l, zr_kill_r, zr_kill_u, zr_kill_f, zr_kill_n, zc_cat, zr_cat_i, zr_cat_l, zr_cat_r, zr_cat_f, zr_cat_d, zr_cat_u, beq_self_eq_true, Nat.zero_le, Nat.le_refl, Nat.reduceSub, Nat.reduceAdd, Nat.reduceLeDiff, csl_f, csr_f, cn_f, lg_cmp_eq, lg_cmp_le, lg_cmp_lt, lg_cmp_ge, lg_cmp_gt, nI_1, zr_up_self, zp_O, zr_fup_self, zr_fup_ne, ne_eq, Nat.reduceEqDiff, not_false_eq_true, pk_mul, hX, zx_I, zx_0, hM, zm_I, zm_0, hB, zb_O, zb_0, hG, zg_O, zg_1]
    refine ⟨fun f => no (fun s hs e => ?_), fun f => ⟨fun f2 => ?_, fun f2 => no (fun s hs e => ?_)⟩⟩
    · subst e
      exact absurd f (nI_pos (by omega))
    · obtain ⟨j, hj, e⟩ := nI_of f
      subst e
      rw [plq_s ((nI_ltI hj (by omega)).mp f2) (by omega)] at hQ
      rw [nI_add]
      exact hQ
    · subst e
      exact f2 (nI_lt hs (by omega))
  · rw [plq_n (by omega) e] at hQ
    rw [zk_thr zf_hh_78]
    exact hQ
theorem rng_3 {z : Int32} : (0 ≤ z ∧ z ≤ 3) ↔ ∃ k, k < 4 ∧ z = nI k := by
  refine ⟨fun ⟨a, c⟩ => ?_, fun ⟨k, hk, e⟩ => ?_⟩
  · obtain ⟨j, hj, e⟩ := nI_of (Int32.not_lt.mpr a)
    subst e
    have := (nI_leI (b := 3) hj (by omega)).mp c
    exact ⟨j, by omega, rfl⟩
  · subst e
    exact ⟨nI_pos' (by omega), nI_le (b := 3) (by omega) (by omega)⟩
theorem k_neigh (hX : h x = some (zxs (A 0) ea sl rd wr u l)) (v : vM h A R S b w P I g) {y z : Int32} (hQ : Q (oc (rxNeigh R S y z)) h) : zr_E (d + 2) 79 [.ref x, .int y, .int z] h Q := by
  obtain ⟨hM, hB, hG, hg, -⟩ := id v
  have hn := g_n hg
  unfold rxNeigh at hQ
  rw [ze_79]
  simp only [zs_79_0, zs_79_0u, zs_79_1, zs_79_2, zt_79_2, zs_79_5, zs_79_6, zs_79_7, zs_79_8, zt_79_8, zs_79_11, zs_79_11u, zs_79_12, zs_79_15, zs_79_18, zs_79_21, zs_79_22, zs_79_23, zt_79_23, zs_79_26, zc_isO, zr_fld_mk, zc_isA, zc_len, zr_elt_mk, zr_kill_i, zr_kill_l, zr_kill_r, zr_kill_u, zr_kill_f, zr_kill_n, zc_cat, zr_cat_i, zr_cat_l, zr_cat_r, zr_cat_f, zr_cat_d, zr_cat_u, beq_self_eq_true, Nat.zero_le, Nat.le_refl, Nat.reduceSub, Nat.reduceAdd, Nat.reduceLeDiff, csl_f, csr_f, cn_f, lg_cmp_eq, lg_cmp_le, lg_cmp_lt, lg_cmp_ge, lg_cmp_gt, nI_1, zr_up_self, zp_O, zr_fup_self, zr_fup_ne, ne_eq, Nat.reduceEqDiff, not_false_eq_true, pk_mul, hX, zx_I]
  refine k_plc hX v (fun p hp e => ?_) (fun e => ?_)
  · subst e
    rw [plq_s hp hn] at hQ
    simp only [zs_79_0, zs_79_0u, zs_79_1, zs_79_2, zt_79_2, zs_79_5, zs_79_6, zs_79_7, zs_79_8, zt_79_8, zs_79_11, zs_79_11u, zs_79_12, zs_79_15, zs_79_18, zs_79_21, zs_79_22, zs_79_23, zt_79_23, zs_79_26, zc_isO, zr_fld_mk, zc_isA, zc_len, zr_elt_mk, zr_kill_i, zr_kill_l, zr_kill_r, zr_kill_u, zr_kill_f, zr_kill_n, zc_cat, zr_cat_i, zr_cat_l, zr_cat_r, zr_cat_f, zr_cat_d, zr_cat_u, beq_self_eq_true, Nat.zero_le, Nat.le_refl, Nat.reduceSub, Nat.reduceAdd, Nat.reduceLeDiff, csl_f, csr_f, cn_f, lg_cmp_eq, lg_cmp_le, lg_cmp_lt, lg_cmp_ge, lg_cmp_gt, nI_1, zr_up_self, zp_O, zr_fup_self, zr_fup_ne, ne_eq, Nat.reduceEqDiff, not_false_eq_true, pk_mul, hX, zx_I]
    refine k_rng (fun f => ?_) (fun f => ?_)
    · obtain ⟨k, hk, e⟩ := rng_3.mp f
      subst e
      rw [plq_s hk (by omega)] at hQ
      simp only [zs_79_0, zs_79_0u, zs_79_1, zs_79_2, zt_79_2, zs_79_5, zs_79_6, zs_79_7, zs_79_8, zt_79_8, zs_79_11, zs_79_11u, zs_79_12, zs_79_15, zs_79_18, zs_79_21, zs_79_22, zs_79_23, zt_79_23, zs_79_26, zc_isO, zr_fld_mk, zc_isA, zc_len, zr_elt_mk, zr_kill_i, zr_kill_l, zr_kill_r, zr_kill_u, zr_kill_f, zr_kill_n, zc_cat, zr_cat_i, zr_cat_l, zr_cat_r, zr_cat_f, zr_cat_d, zr_cat_u, beq_self_eq_true, Nat.zero_le, Nat.le_refl, Nat.reduceSub, Nat.reduceAdd, Nat.reduceLeDiff, csl_f, csr_f, cn_f, lg_cmp_eq, lg_cmp_le, lg_cmp_lt, lg_cmp_ge, lg_cmp_gt, nI_1, zr_up_self, zp_O, zr_fup_self, zr_fup_ne, ne_eq, Nat.reduceEqDiff, not_false_eq_true, pk_mul, hX, zx_I, zx_0, hM, zm_I, zm_0, hB, zb_O, zb_0, hG, zg_O]
      refine k_beside hg hG hp hk ?_
      simp only [zs_79_0, zs_79_0u, zs_79_1, zs_79_2, zt_79_2, zs_79_5, zs_79_6, zs_79_7, zs_79_8, zt_79_8, zs_79_11, zs_79_11u, zs_79_12, zs_79_15, zs_79_18, zs_79_21, zs_79_22, zs_79_23, zt_79_23, zs_79_26, zc_isO, zr_fld_mk, zc_isA, zc_len, zr_elt_mk, zr_kill_i, zr_kill_l, zr_kill_r, zr_kill_u, zr_kill_f, zr_kill_n, zc_cat, zr_cat_i, zr_cat_l, zr_cat_r, zr_cat_f, zr_cat_d, zr_cat_u, beq_self_eq_true, Nat.zero_le, Nat.le_refl, Nat.reduceSub, Nat.reduceAdd, Nat.reduceLeDiff, csl_f, csr_f, cn_f, lg_cmp_eq, lg_cmp_le, lg_cmp_lt, lg_cmp_ge, lg_cmp_gt, nI_1, zr_up_self, zp_O, zr_fup_self, zr_fup_ne, ne_eq, Nat.reduceEqDiff, not_false_eq_true, pk_mul]
      exact hQ
    · rw [plq_n (by omega) (fun k hk e => f (rng_3.mpr ⟨k, hk, e⟩))] at hQ
      rw [zk_thr zf_hh_79]
      exact hQ
  · rw [plq_n hn e] at hQ
    rw [zk_thr zf_hh_79]
    exact hQ
end FACE
