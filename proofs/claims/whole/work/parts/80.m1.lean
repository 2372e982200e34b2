/-! THE MODEL: sets, neighbours, what can be reached -/
section MODEL
variable {d : Nat} {h : zr_H} {Q : zr_K}
theorem k_isin {a l m : Int64} (h1 : l ≤ a ∧ a ≤ m → Q (.inl (some (.int 1))) h) (h0 : ¬ (l ≤ a ∧ a ≤ m) → Q (.inl (some (.int 0))) h) : zr_E (d + 1) 124 [.long a, .long l, .long m] h Q := by
  rw [ze_124]
  simp only [zs_124_0, zs_124_1, zs_124_2, zs_124_3, zs_124_6, zs_124_7, zs_124_9, zs_124_10, zs_124_13, zs_124_14, zs_124_17, zs_124_18_0, zs_124_18_1, zs_124_18, zc_isO, zr_fld_mk, zc_isA, zc_len, zr_elt_mk, zr_kill_i, zr_kill_l, zr_kill_r, zr_kill_u, zr_kill_f, zr_kill_n, zc_cat, zr_cat_i, zr_cat_l, zr_cat_r, zr_cat_f, zr_cat_d, zr_cat_u, beq_self_eq_true, Nat.zero_le, Nat.le_refl, Nat.reduceSub, Nat.reduceAdd, Nat.reduceLeDiff, csl_f, csr_f, cn_f, lg_cmp_eq, lg_cmp_le, lg_cmp_lt, lg_cmp_ge, lg_cmp_gt, nI_1, zr_up_self, zp_O, zr_fup_self, zr_fup_ne, ne_eq, Nat.reduceEqDiff, not_false_eq_true, pk_mul]
  refine ⟨fun z => h0 (fun y => absurd y.1 (Int64.not_le.mpr z)), fun z => ⟨fun y => h0 (fun y2 => absurd y2.2 (Int64.not_le.mpr y)), fun y => h1 ⟨Int64.not_lt.mp z, Int64.not_lt.mp y⟩⟩⟩
theorem k_hasb {x : Int64} {p : Nat} (hp : p < 64) (hQ : Q (.inl (some (.int (bI (tb x p))))) h) : zr_E (d + 1) 152 [.long x, .int (nI p)] h Q := by
  rw [ze_152]
  simp only [zs_152_0, zs_152_1, zs_152_2, zs_152_3, zs_152_4, zs_152_5, zs_152_6, zs_152_7, zs_152_10, zs_152_11, zs_152_14, zs_152_15_0, zs_152_15_1, zs_152_15, zc_isO, zr_fld_mk, zc_isA, zc_len, zr_elt_mk, zr_kill_i, zr_kill_l, zr_kill_r, zr_kill_u, zr_kill_f, zr_kill_n, zc_cat, zr_cat_i, zr_cat_l, zr_cat_r, zr_cat_f, zr_cat_d, zr_cat_u, beq_self_eq_true, Nat.zero_le, Nat.le_refl, Nat.reduceSub, Nat.reduceAdd, Nat.reduceLeDiff, csl_f, csr_f, cn_f, lg_cmp_eq, lg_cmp_le, lg_cmp_lt, lg_cmp_ge, lg_cmp_gt, nI_1, zr_up_self, zp_O, zr_fup_self, zr_fup_ne, ne_eq, Nat.reduceEqDiff, not_false_eq_true, pk_mul]
  rw [tb_has hp]
  refine ⟨fun z => ?_, fun z => ?_⟩
  · have : tb x p = false := by cases e : tb x p; rfl; exact (z e).elim
    rw [this] at hQ
    exact hQ
  · rw [z] at hQ
    exact hQ
theorem k_mbits {x : Int64} (hQ : Q (.inl (some (.int (nI (nb x 60))))) h) : zr_E (d + 2) 153 [.long x] h Q := by
  have loop : ∀ t k, k + t = 60 → zr_Z (d + 1) 153 Q 4 [some (.long x), none, some (.int (nI (nb x k))), some (.int (nI k))] [] h 0 0 := by
    intro t
    induction t with
    | zero =>
      intro k hk
      have : k = 60 := by omega
      subst this
      simp only [zs_153_0, zs_153_1, zs_153_2, zs_153_3, zs_153_4, zs_153_5, zs_153_7, zs_153_11, zs_153_12, zs_153_13, zt_153_13, zs_153_16, zs_153_19, zs_153_20, zs_153_23, zs_153_24, zs_153_25, zs_153_26, zs_153_29, zs_153_32, zs_153_33, zc_isO, zr_fld_mk, zc_isA, zc_len, zr_elt_mk, zr_kill_i, zr_kill_l, zr_kill_r, zr_kill_u, zr_kill_f, zr_kill_n, zc_cat, zr_cat_i, zr_cat_l, zr_cat_r, zr_cat_f, zr_cat_d, zr_cat_u, beq_self_eq_true, Nat.zero_le, Nat.le_refl, Nat.reduceSub, Nat.reduceAdd, Nat.reduceLeDiff, csl_f, csr_f, cn_f, lg_cmp_eq, lg_cmp_le, lg_cmp_lt, lg_cmp_ge, lg_cmp_gt, nI_1, zr_up_self, zp_O, zr_fup_self, zr_fup_ne, ne_eq, Nat.reduceEqDiff, not_false_eq_true, pk_mul]
      exact ⟨fun _ => hQ, fun z => absurd (by decide) z⟩
    | succ t ih =>
      intro k hk
      simp only [zs_153_0, zs_153_1, zs_153_2, zs_153_3, zs_153_4, zs_153_5, zs_153_7, zs_153_11, zs_153_12, zs_153_13, zt_153_13, zs_153_16, zs_153_19, zs_153_20, zs_153_23, zs_153_24, zs_153_25, zs_153_26, zs_153_29, zs_153_32, zs_153_33, zc_isO, zr_fld_mk, zc_isA, zc_len, zr_elt_mk, zr_kill_i, zr_kill_l, zr_kill_r, zr_kill_u, zr_kill_f, zr_kill_n, zc_cat, zr_cat_i, zr_cat_l, zr_cat_r, zr_cat_f, zr_cat_d, zr_cat_u, beq_self_eq_true, Nat.zero_le, Nat.le_refl, Nat.reduceSub, Nat.reduceAdd, Nat.reduceLeDiff, csl_f, csr_f, cn_f, lg_cmp_eq, lg_cmp_le, lg_cmp_lt, lg_cmp_ge, lg_cmp_gt, nI_1, zr_up_self, zp_O, zr_fup_self, zr_fup_ne, ne_eq, Nat.reduceEqDiff, not_false_eq_true, pk_mul]
      refine ⟨fun z => absurd z (nI_ge (b := 60) (by omega) (by omega)), fun _ => ?_⟩
      simp only [zs_153_0, zs_153_1, zs_153_2, zs_153_3, zs_153_4, zs_153_5, zs_153_7, zs_153_10, zs_153_11, zs_153_12, zs_153_13, zt_153_13, zs_153_16, zs_153_19, zs_153_20, zs_153_23, zs_153_24, zs_153_25, zs_153_26, zs_153_29, zs_153_32, zs_153_33, zc_isO, zr_fld_mk, zc_isA, zc_len, zr_elt_mk, zr_kill_i, zr_kill_l, zr_kill_r, zr_kill_u, zr_kill_f, zr_kill_n, zc_cat, zr_cat_i, zr_cat_l, zr_cat_r, zr_cat_f, zr_cat_d, zr_cat_u, beq_self_eq_true, Nat.zero_le, Nat.le_refl, Nat.reduceSub, Nat.reduceAdd, Nat.reduceLeDiff, csl_f, csr_f, cn_f, lg_cmp_eq, lg_cmp_le, lg_cmp_lt, lg_cmp_ge, lg_cmp_gt, nI_1, zr_up_self, zp_O, zr_fup_self, zr_fup_ne, ne_eq, Nat.reduceEqDiff, not_false_eq_true, pk_mul]
      refine k_hasb (d := d) (by omega) ?_
      have := ih (k + 1) (by omega)
      have e : nb x (k + 1) = nb x k + if tb x k then 1 else 0 := rfl
      cases z : tb x k
      · rw [e, z] at this
        simp only [zs_153_0, zs_153_1, zs_153_2, zs_153_3, zs_153_5, zs_153_7, zs_153_10, zs_153_11, zs_153_12, zs_153_13, zt_153_13, zs_153_16, zs_153_19, zs_153_20, zs_153_23, zs_153_24, zs_153_25, zs_153_26, zs_153_29, zs_153_32, zs_153_33, zc_isO, zr_fld_mk, zc_isA, zc_len, zr_elt_mk, zr_kill_i, zr_kill_l, zr_kill_r, zr_kill_u, zr_kill_f, zr_kill_n, zc_cat, zr_cat_i, zr_cat_l, zr_cat_r, zr_cat_f, zr_cat_d, zr_cat_u, beq_self_eq_true, Nat.zero_le, Nat.le_refl, Nat.reduceSub, Nat.reduceAdd, Nat.reduceLeDiff, csl_f, csr_f, cn_f, lg_cmp_eq, lg_cmp_le, lg_cmp_lt, lg_cmp_ge, lg_cmp_gt, nI_1, zr_up_self, zp_O, zr_fup_self, zr_fup_ne, ne_eq, Nat.reduceEqDiff, not_false_eq_true, pk_mul, bI_f]
        refine ⟨fun _ => ?_, fun y => absurd trivial y⟩
        have e0 : nI (nb x k) + 0 = nI (nb x k + 0) := nI_add _ 0
        rw [e0]
        exact this
      · rw [e, z] at this
        simp only [zs_153_0, zs_153_1, zs_153_2, zs_153_3, zs_153_5, zs_153_7, zs_153_10, zs_153_11, zs_153_12, zs_153_13, zt_153_13, zs_153_16, zs_153_19, zs_153_20, zs_153_23, zs_153_24, zs_153_25, zs_153_26, zs_153_29, zs_153_32, zs_153_33, zc_isO, zr_fld_mk, zc_isA, zc_len, zr_elt_mk, zr_kill_i, zr_kill_l, zr_kill_r, zr_kill_u, zr_kill_f, zr_kill_n, zc_cat, zr_cat_i, zr_cat_l, zr_cat_r, zr_cat_f, zr_cat_d, zr_cat_u, beq_self_eq_true, Nat.zero_le, Nat.le_refl, Nat.reduceSub, Nat.reduceAdd, Nat.reduceLeDiff, csl_f, csr_f, cn_f, lg_cmp_eq, lg_cmp_le, lg_cmp_lt, lg_cmp_ge, lg_cmp_gt, nI_1, zr_up_self, zp_O, zr_fup_self, zr_fup_ne, ne_eq, Nat.reduceEqDiff, not_false_eq_true, pk_mul, bI_t]
        exact ⟨fun y => absurd y (by decide), fun _ => this⟩
  rw [ze_153]
  simp only [zs_153_0, zs_153_1, zs_153_2, zs_153_3, zs_153_5, zs_153_7, zs_153_10, zs_153_11, zs_153_12, zs_153_13, zt_153_13, zs_153_16, zs_153_19, zs_153_20, zs_153_23, zs_153_24, zs_153_25, zs_153_26, zs_153_29, zs_153_32, zs_153_33, zc_isO, zr_fld_mk, zc_isA, zc_len, zr_elt_mk, zr_kill_i, zr_kill_l, zr_kill_r, zr_kill_u, zr_kill_f, zr_kill_n, zc_cat, zr_cat_i, zr_cat_l, zr_cat_r, zr_cat_f, zr_cat_d, zr_cat_u, beq_self_eq_true, Nat.zero_le, Nat.le_refl, Nat.reduceSub, Nat.reduceAdd, Nat.reduceLeDiff, csl_f, csr_f, cn_f, lg_cmp_eq, lg_cmp_le, lg_cmp_lt, lg_cmp_ge, lg_cmp_gt, nI_1, zr_up_self, zp_O, zr_fup_self, zr_fup_ne, ne_eq, Nat.reduceEqDiff, not_false_eq_true, pk_mul]
  exact loop 60 0 rfl
theorem nb_ct {x : Int64} (hx : wi 60 x) : nb x 60 = ct x := (nb_hi hx (by omega)).symm
theorem tb_neg (x : Int64) {i : Nat} (hi : i < 64) : tb (-x) i = (tb x i ^^ decide (∃ j, j < i ∧ tb x j = true)) := by
  unfold tb
  rw [Int64.toBitVec_neg, BitVec.getLsbD_neg]
  rw [decide_eq_true hi, Bool.true_and]
theorem lo_of {x : Int64} {p : Nat} (hp : tb x p = true) (hl : ∀ q, q < p → tb x q = false) : lo x = p := by
  have h64 := tb_lt hp
  have e : x &&& -x = ob p := by
    refine tb_ext (fun i hi => ?_)
    rw [tb_and, tb_neg x hi, tb_ob h64 hi]
    by_cases g : i < p
    · rw [hl i g, Bool.false_and, decide_eq_false (by omega)]
    · by_cases g2 : i = p
      · subst g2
        rw [hp, decide_eq_true rfl, decide_eq_false (fun ⟨j, hj, ej⟩ => by rw [hl j hj] at ej; cases ej)]
        rfl
      · rw [decide_eq_false g2, decide_eq_true (p := ∃ j, j < i ∧ tb x j = true) ⟨p, by omega, hp⟩]
        cases tb x i <;> rfl
  unfold lo
  rw [e]
  show ct (fa p) = p
  have hw : ∀ i, tb (fa p) i = true → i < p := fun i h => by rw [tb_fa h64, decide_eq_true_eq] at h; exact h
  have : ∀ k, k ≤ p → nb (fa p) k = k := by
    intro k
    induction k with
    | zero => intro _; rfl
    | succ k ih =>
      intro hk
      show nb (fa p) k + (if tb (fa p) k then 1 else 0) = k + 1
      rw [ih (by omega), tb_fa h64, decide_eq_true (by omega)]
      rfl
  unfold ct
  rw [nb_hi hw (by omega)]
  exact this p (Nat.le_refl _)
theorem lo_tb {x : Int64} (hx : ¬ x = 0) : tb x (lo x) = true ∧ (∀ q, q < lo x → tb x q = false) ∧ lo x < 64 := by
  obtain ⟨i, hi, ei⟩ := tb_ne0 hx
  have key : ∀ n, ∀ i, i < n → tb x i = true → ∃ p, tb x p = true ∧ ∀ q, q < p → tb x q = false := by
    intro n
    induction n with
    | zero => intro i h; omega
    | succ n ih =>
      intro i h e
      by_cases c : ∃ j, j < i ∧ tb x j = true
      · obtain ⟨j, hj, ej⟩ := c
        exact ih j (by omega) ej
      · exact ⟨i, e, fun q hq => by cases z : tb x q; rfl; exact (c ⟨q, hq, z⟩).elim⟩
  obtain ⟨p, e1, e2⟩ := key 64 i hi ei
  rw [lo_of e1 e2]
  exact ⟨e1, e2, tb_lt e1⟩
theorem k_mlow {x : Int64} (hx : ¬ x = 0) (hQ : Q (.inl (some (.int (nI (lo x))))) h) : zr_E (d + 2) 154 [.long x] h Q := by
  obtain ⟨e1, e2, e3⟩ := lo_tb hx
  have loop : ∀ t k, k + t = lo x → zr_Z (d + 1) 154 Q 2 [some (.long x), none, some (.int (nI k))] [] h 0 0 := by
    intro t
    induction t with
    | zero =>
      intro k hk
      have : k = lo x := by omega
      subst this
      simp only [zs_154_0, zs_154_1, zs_154_2, zs_154_3, zs_154_4, zt_154_4, zs_154_7, zs_154_13, zs_154_17, zc_isO, zr_fld_mk, zc_isA, zc_len, zr_elt_mk, zr_kill_i, zr_kill_l, zr_kill_r, zr_kill_u, zr_kill_f, zr_kill_n, zc_cat, zr_cat_i, zr_cat_l, zr_cat_r, zr_cat_f, zr_cat_d, zr_cat_u, beq_self_eq_true, Nat.zero_le, Nat.le_refl, Nat.reduceSub, Nat.reduceAdd, Nat.reduceLeDiff, csl_f, csr_f, cn_f, lg_cmp_eq, lg_cmp_le, lg_cmp_lt, lg_cmp_ge, lg_cmp_gt, nI_1, zr_up_self, zp_O, zr_fup_self, zr_fup_ne, ne_eq, Nat.reduceEqDiff, not_false_eq_true, pk_mul]
      refine k_hasb (d := d) e3 ?_
      rw [e1]
      simp only [zs_154_0, zs_154_1, zs_154_2, zs_154_3, zs_154_4, zt_154_4, zs_154_7, zs_154_13, zs_154_16, zs_154_17, zc_isO, zr_fld_mk, zc_isA, zc_len, zr_elt_mk, zr_kill_i, zr_kill_l, zr_kill_r, zr_kill_u, zr_kill_f, zr_kill_n, zc_cat, zr_cat_i, zr_cat_l, zr_cat_r, zr_cat_f, zr_cat_d, zr_cat_u, beq_self_eq_true, Nat.zero_le, Nat.le_refl, Nat.reduceSub, Nat.reduceAdd, Nat.reduceLeDiff, csl_f, csr_f, cn_f, lg_cmp_eq, lg_cmp_le, lg_cmp_lt, lg_cmp_ge, lg_cmp_gt, nI_1, zr_up_self, zp_O, zr_fup_self, zr_fup_ne, ne_eq, Nat.reduceEqDiff, not_false_eq_true, pk_mul, bI_t]
      exact ⟨fun _ => hQ, fun z => absurd z (by decide)⟩
    | succ t ih =>
      intro k hk
      have := ih (k + 1) (by omega)
      simp only [zs_154_0, zs_154_1, zs_154_2, zs_154_3, zs_154_4, zt_154_4, zs_154_7, zs_154_13, zs_154_17, zc_isO, zr_fld_mk, zc_isA, zc_len, zr_elt_mk, zr_kill_i, zr_kill_l, zr_kill_r, zr_kill_u, zr_kill_f, zr_kill_n, zc_cat, zr_cat_i, zr_cat_l, zr_cat_r, zr_cat_f, zr_cat_d, zr_cat_u, beq_self_eq_true, Nat.zero_le, Nat.le_refl, Nat.reduceSub, Nat.reduceAdd, Nat.reduceLeDiff, csl_f, csr_f, cn_f, lg_cmp_eq, lg_cmp_le, lg_cmp_lt, lg_cmp_ge, lg_cmp_gt, nI_1, zr_up_self, zp_O, zr_fup_self, zr_fup_ne, ne_eq, Nat.reduceEqDiff, not_false_eq_true, pk_mul]
      refine k_hasb (d := d) (by omega) ?_
      rw [e2 k (by omega)]
      simp only [zs_154_0, zs_154_1, zs_154_3, zs_154_4, zt_154_4, zs_154_7, zs_154_10, zs_154_13, zs_154_17, zc_isO, zr_fld_mk, zc_isA, zc_len, zr_elt_mk, zr_kill_i, zr_kill_l, zr_kill_r, zr_kill_u, zr_kill_f, zr_kill_n, zc_cat, zr_cat_i, zr_cat_l, zr_cat_r, zr_cat_f, zr_cat_d, zr_cat_u, beq_self_eq_true, Nat.zero_le, Nat.le_refl, Nat.reduceSub, Nat.reduceAdd, Nat.reduceLeDiff, csl_f, csr_f, cn_f, lg_cmp_eq, lg_cmp_le, lg_cmp_lt, lg_cmp_ge, lg_cmp_gt, nI_1, zr_up_self, zp_O, zr_fup_self, zr_fup_ne, ne_eq, Nat.reduceEqDiff, not_false_eq_true, pk_mul, bI_f]
      exact ⟨fun z => absurd trivial z, fun _ => this⟩
  rw [ze_154]
  simp only [zs_154_0, zs_154_1, zs_154_3, zs_154_4, zt_154_4, zs_154_7, zs_154_10, zs_154_13, zs_154_16, zs_154_17, zc_isO, zr_fld_mk, zc_isA, zc_len, zr_elt_mk, zr_kill_i, zr_kill_l, zr_kill_r, zr_kill_u, zr_kill_f, zr_kill_n, zc_cat, zr_cat_i, zr_cat_l, zr_cat_r, zr_cat_f, zr_cat_d, zr_cat_u, beq_self_eq_true, Nat.zero_le, Nat.le_refl, Nat.reduceSub, Nat.reduceAdd, Nat.reduceLeDiff, csl_f, csr_f, cn_f, lg_cmp_eq, lg_cmp_le, lg_cmp_lt, lg_cmp_ge, lg_cmp_gt, nI_1, zr_up_self, zp_O, zr_fup_self, zr_fup_ne, ne_eq, Nat.reduceEqDiff, not_false_eq_true, pk_mul]
  exact loop (lo x) 0 (Nat.zero_add _)
end MODEL
/-- a row: rings and sectors -/
def rwA (h : zr_H) (q : Nat) (f : Nat → Int64) (R S : Nat) : Prop := aL h q 73 f ∧ f 0 = lN R ∧ f 1 = lN S ∧ vG R S
def og : Option Nat → Int64
  | none => 0
  | some q => ob q
def nbs (R S p : Nat) : Nat → Int64 → Int64
  | 0, a => a
  | k + 1, a => nbs R S p k a ||| og (bs R S p k)
def abt (R S : Nat) (x : Int64) : Nat → Int64
  | 0 => 0
  | k + 1 => if tb x k then nbs R S k 4 (abt R S x k) else abt R S x k
section MODEL
variable {d : Nat} {h : zr_H} {Q : zr_K} {q : Nat} {f : Nat → Int64} {R S : Nat}
theorem rw_facts (r : rwA h q f R S) : zr_isA (h q) 1 = true ∧ vp_in 0 (zr_len (h q)) ∧ vp_in 1 (zr_len (h q)) ∧ zr_elt (h q) (0 : Int32).toNatClampNeg = .long (lN R) ∧ zr_elt (h q) (1 : Int32).toNatClampNeg = .long (lN S) := by
  obtain ⟨a, e0, e1, hg⟩ := r
  refine ⟨aL_isA a, aL_in a (k := 0) (by omega) (by omega), aL_in a (k := 1) (by omega) (by omega), ?_, ?_⟩
  · rw [← e0]; exact aL_elt a (k := 0) (by omega) (by omega)
  · rw [← e1]; exact aL_elt a (k := 1) (by omega) (by omega)
theorem k_mbes (r : rwA h q f R S) {p k : Nat} (hp : p < R * S) (hk : k < 4) (hQ : Q (.inl (some (.int (oI (bs R S p k))))) h) : zr_E (d + 1) 151 [.ref q, .int (nI p), .int (nI k)] h Q := by
  obtain ⟨a1, a2, a3, a4, a5⟩ := rw_facts r
  have hg := r.2.2.2
  have hl := g_lt hg
  have hn := g_n hg
  have c1 : (lN S).toInt32 = nI S := lN_i S
  have hS : ¬ nI S = 0 := by rw [nI_eq0 (by omega)]; omega
  have d1 : nI p / nI S = nI (p / S) := pk_div (by omega) (by omega) (by omega)
  have d2 : nI p - nI (p / S) * nI S = nI (p % S) := by rw [← d1]; exact pk_rem (by omega) (by omega) (by omega)
  have d2' : nI p - nI (p / S * S) = nI (p % S) := by rw [← pk_mul]; exact d2
  have hm : p % S < S := Nat.mod_lt _ (by omega)
  have hd := Nat.div_add_mod p S
  have hq : p / S < R := Nat.div_lt_of_lt_mul (by rw [Nat.mul_comm]; exact hp)
  have rem : ∀ x, x < 100 → nI x - nI (x / S * S) = nI (x % S) := fun x hx => by rw [← pk_mul, ← pk_div (by omega) (by omega) (by omega)]; exact pk_rem (by omega) (by omega) (by omega)
  have dv : ∀ x, x < 100 → nI x / nI S = nI (x / S) := fun x hx => pk_div (by omega) (by omega) (by omega)
  have kk : k = 0 ∨ k = 1 ∨ k = 2 ∨ k = 3 := by omega
  rw [ze_151]
  simp only [zs_151_0, zs_151_0u, zs_151_1, zs_151_2, zs_151_3, zs_151_4, zs_151_5, zs_151_6, zs_151_7, zs_151_8, zs_151_10, zs_151_11, zs_151_12, zs_151_13, zs_151_15, zs_151_16, zs_151_20, zs_151_22, zs_151_23, zs_151_25, zs_151_26, zs_151_27, zs_151_28, zs_151_29, zs_151_30, zs_151_32, zs_151_33, zs_151_36, zs_151_37, zs_151_39, zs_151_40, zs_151_42, zs_151_43, zs_151_44, zs_151_45, zs_151_46, zs_151_47, zs_151_48, zs_151_49, zs_151_50, zs_151_51, zs_151_52, zs_151_55, zs_151_57, zs_151_58, zs_151_59, zs_151_60, zs_151_60u, zs_151_61, zs_151_62, zs_151_63, zs_151_64, zs_151_67, zs_151_68, zs_151_69, zs_151_70, zs_151_73, zs_151_74, zs_151_75, zs_151_76, zs_151_77, zs_151_78, zs_151_81, zs_151_82, zs_151_85, zs_151_86, zs_151_87, zs_151_88, zc_isO, zr_fld_mk, zc_isA, zc_len, zr_elt_mk, zr_kill_i, zr_kill_l, zr_kill_r, zr_kill_u, zr_kill_f, zr_kill_n, zc_cat, zr_cat_i, zr_cat_l, zr_cat_r, zr_cat_f, zr_cat_d, zr_cat_u, beq_self_eq_true, Nat.zero_le, Nat.le_refl, Nat.reduceSub, Nat.reduceAdd, Nat.reduceLeDiff, csl_f, csr_f, cn_f, lg_cmp_eq, lg_cmp_le, lg_cmp_lt, lg_cmp_ge, lg_cmp_gt, nI_1, zr_up_self, zp_O, zr_fup_self, zr_fup_ne, ne_eq, Nat.reduceEqDiff, not_false_eq_true, pk_mul, a1, a2, a3, a4, a5, c1, hS, d1, d2']
  rw [nI_eq0 (by omega)]
  refine ⟨fun z => ?_, fun z => ?_⟩
  · simp only [zs_151_0, zs_151_0u, zs_151_1, zs_151_2, zs_151_3, zs_151_4, zs_151_5, zs_151_6, zs_151_7, zs_151_8, zs_151_10, zs_151_11, zs_151_12, zs_151_13, zs_151_15, zs_151_16, zs_151_19, zs_151_20, zs_151_22, zs_151_23, zs_151_25, zs_151_26, zs_151_27, zs_151_28, zs_151_29, zs_151_30, zs_151_31, zs_151_32, zs_151_33, zs_151_37, zs_151_39, zs_151_40, zs_151_42, zs_151_43, zs_151_44, zs_151_45, zs_151_46, zs_151_47, zs_151_48, zs_151_49, zs_151_51, zs_151_52, zs_151_55, zs_151_57, zs_151_58, zs_151_59, zs_151_60, zs_151_60u, zs_151_61, zs_151_62, zs_151_63, zs_151_64, zs_151_67, zs_151_68, zs_151_69, zs_151_70, zs_151_73, zs_151_74, zs_151_75, zs_151_76, zs_151_77, zs_151_78, zs_151_81, zs_151_82, zs_151_85, zs_151_86, zs_151_87, zs_151_88, zc_isO, zr_fld_mk, zc_isA, zc_len, zr_elt_mk, zr_kill_i, zr_kill_l, zr_kill_r, zr_kill_u, zr_kill_f, zr_kill_n, zc_cat, zr_cat_i, zr_cat_l, zr_cat_r, zr_cat_f, zr_cat_d, zr_cat_u, beq_self_eq_true, Nat.zero_le, Nat.le_refl, Nat.reduceSub, Nat.reduceAdd, Nat.reduceLeDiff, csl_f, csr_f, cn_f, lg_cmp_eq, lg_cmp_le, lg_cmp_lt, lg_cmp_ge, lg_cmp_gt, nI_1, zr_up_self, zp_O, zr_fup_self, zr_fup_ne, ne_eq, Nat.reduceEqDiff, not_false_eq_true, pk_mul]
    rw [nI_eq1 (by omega)]
    refine ⟨fun z2 => ?_, fun z2 => ?_⟩
    · simp only [zs_151_0, zs_151_0u, zs_151_1, zs_151_2, zs_151_3, zs_151_4, zs_151_5, zs_151_6, zs_151_7, zs_151_8, zs_151_10, zs_151_11, zs_151_12, zs_151_13, zs_151_15, zs_151_16, zs_151_19, zs_151_20, zs_151_22, zs_151_23, zs_151_25, zs_151_26, zs_151_27, zs_151_28, zs_151_29, zs_151_30, zs_151_31, zs_151_32, zs_151_33, zs_151_36, zs_151_37, zs_151_39, zs_151_40, zs_151_42, zs_151_43, zs_151_44, zs_151_45, zs_151_46, zs_151_47, zs_151_48, zs_151_49, zs_151_50, zs_151_51, zs_151_52, zs_151_57, zs_151_58, zs_151_59, zs_151_60, zs_151_60u, zs_151_61, zs_151_62, zs_151_63, zs_151_64, zs_151_67, zs_151_68, zs_151_69, zs_151_70, zs_151_73, zs_151_74, zs_151_76, zs_151_77, zs_151_78, zs_151_81, zs_151_82, zs_151_85, zs_151_86, zs_151_87, zs_151_88, zc_isO, zr_fld_mk, zc_isA, zc_len, zr_elt_mk, zr_kill_i, zr_kill_l, zr_kill_r, zr_kill_u, zr_kill_f, zr_kill_n, zc_cat, zr_cat_i, zr_cat_l, zr_cat_r, zr_cat_f, zr_cat_d, zr_cat_u, beq_self_eq_true, Nat.zero_le, Nat.le_refl, Nat.reduceSub, Nat.reduceAdd, Nat.reduceLeDiff, csl_f, csr_f, cn_f, lg_cmp_eq, lg_cmp_le, lg_cmp_lt, lg_cmp_ge, lg_cmp_gt, nI_1, zr_up_self, zp_O, zr_fup_self, zr_fup_ne, ne_eq, Nat.reduceEqDiff, not_false_eq_true, pk_mul]
      have e2k : nI k = 2 ↔ k = 2 := nI_eq (b := 2) (by omega) (by omega)
      rw [e2k]
      refine ⟨fun z3 => ?_, fun z3 => ?_⟩
      · have : k = 3 := by omega
        subst this
        rw [bs3] at hQ
        simp only [zs_151_0, zs_151_0u, zs_151_1, zs_151_2, zs_151_3, zs_151_4, zs_151_5, zs_151_6, zs_151_7, zs_151_8, zs_151_10, zs_151_11, zs_151_12, zs_151_13, zs_151_15, zs_151_16, zs_151_19, zs_151_20, zs_151_22, zs_151_23, zs_151_25, zs_151_26, zs_151_27, zs_151_28, zs_151_29, zs_151_30, zs_151_31, zs_151_32, zs_151_33, zs_151_36, zs_151_37, zs_151_39, zs_151_40, zs_151_42, zs_151_43, zs_151_44, zs_151_45, zs_151_46, zs_151_47, zs_151_48, zs_151_49, zs_151_50, zs_151_51, zs_151_52, zs_151_55, zs_151_57, zs_151_58, zs_151_59, zs_151_60, zs_151_60u, zs_151_61, zs_151_62, zs_151_63, zs_151_64, zs_151_67, zs_151_68, zs_151_69, zs_151_70, zs_151_73, zs_151_74, zs_151_75, zs_151_76, zs_151_77, zs_151_78, zs_151_82, zs_151_86, zs_151_87, zs_151_88, zc_isO, zr_fld_mk, zc_isA, zc_len, zr_elt_mk, zr_kill_i, zr_kill_l, zr_kill_r, zr_kill_u, zr_kill_f, zr_kill_n, zc_cat, zr_cat_i, zr_cat_l, zr_cat_r, zr_cat_f, zr_cat_d, zr_cat_u, beq_self_eq_true, Nat.zero_le, Nat.le_refl, Nat.reduceSub, Nat.reduceAdd, Nat.reduceLeDiff, csl_f, csr_f, cn_f, lg_cmp_eq, lg_cmp_le, lg_cmp_lt, lg_cmp_ge, lg_cmp_gt, nI_1, zr_up_self, zp_O, zr_fup_self, zr_fup_ne, ne_eq, Nat.reduceEqDiff, not_false_eq_true, pk_mul]
        by_cases g : S ≤ p
        · rw [if_pos g] at hQ
          have e : nI p - nI S = nI (p - S) := pk_sub g
          rw [e]
          refine ⟨fun _ => ?_, fun y => (y (nI_le (a := 0) (by omega) (by omega))).elim⟩
          simp only [zs_151_0, zs_151_0u, zs_151_1, zs_151_2, zs_151_3, zs_151_4, zs_151_5, zs_151_6, zs_151_7, zs_151_8, zs_151_10, zs_151_11, zs_151_12, zs_151_13, zs_151_15, zs_151_16, zs_151_19, zs_151_20, zs_151_22, zs_151_23, zs_151_25, zs_151_26, zs_151_27, zs_151_28, zs_151_29, zs_151_30, zs_151_31, zs_151_32, zs_151_33, zs_151_36, zs_151_37, zs_151_39, zs_151_40, zs_151_42, zs_151_43, zs_151_44, zs_151_45, zs_151_46, zs_151_47, zs_151_48, zs_151_49, zs_151_50, zs_151_51, zs_151_52, zs_151_55, zs_151_57, zs_151_58, zs_151_59, zs_151_60, zs_151_60u, zs_151_61, zs_151_62, zs_151_63, zs_151_64, zs_151_67, zs_151_68, zs_151_69, zs_151_70, zs_151_73, zs_151_74, zs_151_75, zs_151_76, zs_151_77, zs_151_78, zs_151_81, zs_151_82, zs_151_85, zs_151_86, zs_151_87, zs_151_88, zc_isO, zr_fld_mk, zc_isA, zc_len, zr_elt_mk, zr_kill_i, zr_kill_l, zr_kill_r, zr_kill_u, zr_kill_f, zr_kill_n, zc_cat, zr_cat_i, zr_cat_l, zr_cat_r, zr_cat_f, zr_cat_d, zr_cat_u, beq_self_eq_true, Nat.zero_le, Nat.le_refl, Nat.reduceSub, Nat.reduceAdd, Nat.reduceLeDiff, csl_f, csr_f, cn_f, lg_cmp_eq, lg_cmp_le, lg_cmp_lt, lg_cmp_ge, lg_cmp_gt, nI_1, zr_up_self, zp_O, zr_fup_self, zr_fup_ne, ne_eq, Nat.reduceEqDiff, not_false_eq_true, pk_mul, e]
          exact hQ
        · rw [if_neg g] at hQ
          have e : nI p - nI S < 0 := pk_sneg (by omega) (by omega)
          refine ⟨fun y => absurd e (Int32.not_lt.mpr y), fun _ => ?_⟩
          simp only [zs_151_0, zs_151_0u, zs_151_1, zs_151_2, zs_151_3, zs_151_4, zs_151_5, zs_151_6, zs_151_7, zs_151_8, zs_151_10, zs_151_11, zs_151_12, zs_151_13, zs_151_15, zs_151_16, zs_151_19, zs_151_20, zs_151_22, zs_151_23, zs_151_25, zs_151_26, zs_151_27, zs_151_28, zs_151_29, zs_151_30, zs_151_31, zs_151_32, zs_151_33, zs_151_36, zs_151_37, zs_151_39, zs_151_40, zs_151_42, zs_151_43, zs_151_44, zs_151_45, zs_151_46, zs_151_47, zs_151_48, zs_151_49, zs_151_50, zs_151_51, zs_151_52, zs_151_55, zs_151_57, zs_151_58, zs_151_59, zs_151_60, zs_151_60u, zs_151_61, zs_151_62, zs_151_63, zs_151_64, zs_151_67, zs_151_68, zs_151_69, zs_151_70, zs_151_73, zs_151_74, zs_151_75, zs_151_76, zs_151_77, zs_151_78, zs_151_81, zs_151_82, zs_151_85, zs_151_86, zs_151_87, zs_151_88, zc_isO, zr_fld_mk, zc_isA, zc_len, zr_elt_mk, zr_kill_i, zr_kill_l, zr_kill_r, zr_kill_u, zr_kill_f, zr_kill_n, zc_cat, zr_cat_i, zr_cat_l, zr_cat_r, zr_cat_f, zr_cat_d, zr_cat_u, beq_self_eq_true, Nat.zero_le, Nat.le_refl, Nat.reduceSub, Nat.reduceAdd, Nat.reduceLeDiff, csl_f, csr_f, cn_f, lg_cmp_eq, lg_cmp_le, lg_cmp_lt, lg_cmp_ge, lg_cmp_gt, nI_1, zr_up_self, zp_O, zr_fup_self, zr_fup_ne, ne_eq, Nat.reduceEqDiff, not_false_eq_true, pk_mul]
          exact hQ
      · subst z3
        rw [bs2] at hQ
        have c2 : (nI (p / S + 1)).toInt64 = lN (p / S + 1) := nI_l (by omega)
        simp only [zs_151_0, zs_151_0u, zs_151_1, zs_151_2, zs_151_3, zs_151_4, zs_151_5, zs_151_6, zs_151_7, zs_151_8, zs_151_10, zs_151_11, zs_151_12, zs_151_13, zs_151_15, zs_151_16, zs_151_19, zs_151_20, zs_151_22, zs_151_23, zs_151_25, zs_151_26, zs_151_27, zs_151_28, zs_151_29, zs_151_30, zs_151_31, zs_151_32, zs_151_33, zs_151_36, zs_151_37, zs_151_39, zs_151_40, zs_151_42, zs_151_43, zs_151_44, zs_151_45, zs_151_46, zs_151_47, zs_151_48, zs_151_49, zs_151_50, zs_151_51, zs_151_52, zs_151_55, zs_151_57, zs_151_58, zs_151_59, zs_151_60, zs_151_60u, zs_151_61, zs_151_62, zs_151_63, zs_151_64, zs_151_68, zs_151_69, zs_151_70, zs_151_74, zs_151_75, zs_151_76, zs_151_77, zs_151_78, zs_151_81, zs_151_82, zs_151_85, zs_151_86, zs_151_87, zs_151_88, zc_isO, zr_fld_mk, zc_isA, zc_len, zr_elt_mk, zr_kill_i, zr_kill_l, zr_kill_r, zr_kill_u, zr_kill_f, zr_kill_n, zc_cat, zr_cat_i, zr_cat_l, zr_cat_r, zr_cat_f, zr_cat_d, zr_cat_u, beq_self_eq_true, Nat.zero_le, Nat.le_refl, Nat.reduceSub, Nat.reduceAdd, Nat.reduceLeDiff, csl_f, csr_f, cn_f, lg_cmp_eq, lg_cmp_le, lg_cmp_lt, lg_cmp_ge, lg_cmp_gt, nI_1, zr_up_self, zp_O, zr_fup_self, zr_fup_ne, ne_eq, Nat.reduceEqDiff, not_false_eq_true, pk_mul, a1, a2, a3, a4, a5, c2]
        rw [lN_le (by omega) (by omega)]
        have : p + S < R * S ↔ p / S + 1 < R := by
          constructor
          · intro y
            rcases Nat.lt_or_ge (p / S + 1) R with g | g
            · exact g
            · have e : R = p / S + 1 := by omega
              rw [e, Nat.add_mul, Nat.one_mul, Nat.mul_comm (p / S) S] at y
              omega
          · intro y
            have := Nat.mul_le_mul_right S (show p / S + 2 ≤ R by omega)
            rw [Nat.add_mul, Nat.mul_comm (p / S) S] at this
            omega
        refine ⟨fun y => ?_, fun y => ?_⟩
        · rw [if_neg (by rw [this]; omega)] at hQ
          simp only [zs_151_0, zs_151_0u, zs_151_1, zs_151_2, zs_151_3, zs_151_4, zs_151_5, zs_151_6, zs_151_7, zs_151_8, zs_151_10, zs_151_11, zs_151_12, zs_151_13, zs_151_15, zs_151_16, zs_151_19, zs_151_20, zs_151_22, zs_151_23, zs_151_25, zs_151_26, zs_151_27, zs_151_28, zs_151_29, zs_151_30, zs_151_31, zs_151_32, zs_151_33, zs_151_36, zs_151_37, zs_151_39, zs_151_40, zs_151_42, zs_151_43, zs_151_44, zs_151_45, zs_151_46, zs_151_47, zs_151_48, zs_151_49, zs_151_50, zs_151_51, zs_151_52, zs_151_55, zs_151_57, zs_151_58, zs_151_59, zs_151_60, zs_151_60u, zs_151_61, zs_151_62, zs_151_63, zs_151_64, zs_151_67, zs_151_68, zs_151_69, zs_151_70, zs_151_73, zs_151_74, zs_151_75, zs_151_76, zs_151_77, zs_151_78, zs_151_81, zs_151_82, zs_151_85, zs_151_86, zs_151_87, zs_151_88, zc_isO, zr_fld_mk, zc_isA, zc_len, zr_elt_mk, zr_kill_i, zr_kill_l, zr_kill_r, zr_kill_u, zr_kill_f, zr_kill_n, zc_cat, zr_cat_i, zr_cat_l, zr_cat_r, zr_cat_f, zr_cat_d, zr_cat_u, beq_self_eq_true, Nat.zero_le, Nat.le_refl, Nat.reduceSub, Nat.reduceAdd, Nat.reduceLeDiff, csl_f, csr_f, cn_f, lg_cmp_eq, lg_cmp_le, lg_cmp_lt, lg_cmp_ge, lg_cmp_gt, nI_1, zr_up_self, zp_O, zr_fup_self, zr_fup_ne, ne_eq, Nat.reduceEqDiff, not_false_eq_true, pk_mul]
          exact hQ
        · rw [if_pos (by rw [this]; omega)] at hQ
          simp only [zs_151_0, zs_151_0u, zs_151_1, zs_151_2, zs_151_3, zs_151_4, zs_151_5, zs_151_6, zs_151_7, zs_151_8, zs_151_10, zs_151_11, zs_151_12, zs_151_13, zs_151_15, zs_151_16, zs_151_19, zs_151_20, zs_151_22, zs_151_23, zs_151_25, zs_151_26, zs_151_27, zs_151_28, zs_151_29, zs_151_30, zs_151_31, zs_151_32, zs_151_33, zs_151_36, zs_151_37, zs_151_39, zs_151_40, zs_151_42, zs_151_43, zs_151_44, zs_151_45, zs_151_46, zs_151_47, zs_151_48, zs_151_49, zs_151_50, zs_151_51, zs_151_52, zs_151_55, zs_151_57, zs_151_58, zs_151_59, zs_151_60, zs_151_60u, zs_151_61, zs_151_62, zs_151_63, zs_151_64, zs_151_67, zs_151_68, zs_151_69, zs_151_70, zs_151_73, zs_151_74, zs_151_75, zs_151_76, zs_151_77, zs_151_78, zs_151_81, zs_151_82, zs_151_85, zs_151_86, zs_151_87, zs_151_88, zc_isO, zr_fld_mk, zc_isA, zc_len, zr_elt_mk, zr_kill_i, zr_kill_l, zr_kill_r, zr_kill_u, zr_kill_f, zr_kill_n, zc_cat, zr_cat_i, zr_cat_l, zr_cat_r, zr_cat_f, zr_cat_d, zr_cat_u, beq_self_eq_true, Nat.zero_le, Nat.le_refl, Nat.reduceSub, Nat.reduceAdd, Nat.reduceLeDiff, csl_f, csr_f, cn_f, lg_cmp_eq, lg_cmp_le, lg_cmp_lt, lg_cmp_ge, lg_cmp_gt, nI_1, zr_up_self, zp_O, zr_fup_self, zr_fup_ne, ne_eq, Nat.reduceEqDiff, not_false_eq_true, pk_mul, nI_add]
          exact hQ
    · subst z2
      rw [bs1] at hQ
      have e1 : nI (p % S + S) - 1 = nI (p % S + S - 1) := pk_sub (b := 1) (by omega)
      have dv1 := dv (p % S + S - 1) (by omega)
      have rem1 := rem (p % S + S - 1) (by omega)
      simp only [zs_151_0, zs_151_0u, zs_151_1, zs_151_2, zs_151_3, zs_151_4, zs_151_5, zs_151_6, zs_151_7, zs_151_8, zs_151_10, zs_151_11, zs_151_12, zs_151_13, zs_151_15, zs_151_16, zs_151_19, zs_151_20, zs_151_22, zs_151_23, zs_151_25, zs_151_26, zs_151_27, zs_151_28, zs_151_29, zs_151_30, zs_151_31, zs_151_32, zs_151_33, zs_151_36, zs_151_37, zs_151_39, zs_151_40, zs_151_42, zs_151_43, zs_151_44, zs_151_45, zs_151_46, zs_151_47, zs_151_48, zs_151_49, zs_151_50, zs_151_51, zs_151_52, zs_151_55, zs_151_57, zs_151_58, zs_151_59, zs_151_60, zs_151_60u, zs_151_61, zs_151_62, zs_151_63, zs_151_64, zs_151_67, zs_151_68, zs_151_69, zs_151_70, zs_151_73, zs_151_74, zs_151_75, zs_151_76, zs_151_77, zs_151_78, zs_151_81, zs_151_82, zs_151_85, zs_151_86, zs_151_87, zs_151_88, zc_isO, zr_fld_mk, zc_isA, zc_len, zr_elt_mk, zr_kill_i, zr_kill_l, zr_kill_r, zr_kill_u, zr_kill_f, zr_kill_n, zc_cat, zr_cat_i, zr_cat_l, zr_cat_r, zr_cat_f, zr_cat_d, zr_cat_u, beq_self_eq_true, Nat.zero_le, Nat.le_refl, Nat.reduceSub, Nat.reduceAdd, Nat.reduceLeDiff, csl_f, csr_f, cn_f, lg_cmp_eq, lg_cmp_le, lg_cmp_lt, lg_cmp_ge, lg_cmp_gt, nI_1, zr_up_self, zp_O, zr_fup_self, zr_fup_ne, ne_eq, Nat.reduceEqDiff, not_false_eq_true, pk_mul, nI_add, e1, hS, dv1, rem1]
      have e : S * (p / S) + (p % S + S - 1) % S = if p % S = 0 then p + S - 1 else p - 1 := by
        by_cases g : p % S = 0
        · rw [if_pos g, g, Nat.mod_eq_of_lt (by omega)]; omega
        · rw [if_neg g, show p % S + S - 1 = (p % S - 1) + S by omega, Nat.add_mod_right, Nat.mod_eq_of_lt (by omega)]; omega
      rw [e]
      exact hQ
  · subst z
    rw [bs0] at hQ
    have dv1 := dv (p % S + 1) (by omega)
    have rem1 := rem (p % S + 1) (by omega)
    simp only [zs_151_0, zs_151_0u, zs_151_1, zs_151_2, zs_151_3, zs_151_4, zs_151_5, zs_151_6, zs_151_7, zs_151_8, zs_151_10, zs_151_11, zs_151_12, zs_151_13, zs_151_15, zs_151_16, zs_151_19, zs_151_20, zs_151_22, zs_151_23, zs_151_25, zs_151_26, zs_151_27, zs_151_28, zs_151_29, zs_151_30, zs_151_31, zs_151_32, zs_151_33, zs_151_36, zs_151_37, zs_151_39, zs_151_40, zs_151_42, zs_151_43, zs_151_44, zs_151_45, zs_151_46, zs_151_47, zs_151_48, zs_151_49, zs_151_50, zs_151_51, zs_151_52, zs_151_55, zs_151_57, zs_151_58, zs_151_59, zs_151_60, zs_151_60u, zs_151_61, zs_151_62, zs_151_63, zs_151_64, zs_151_67, zs_151_68, zs_151_69, zs_151_70, zs_151_73, zs_151_74, zs_151_75, zs_151_76, zs_151_77, zs_151_78, zs_151_81, zs_151_82, zs_151_85, zs_151_86, zs_151_87, zs_151_88, zc_isO, zr_fld_mk, zc_isA, zc_len, zr_elt_mk, zr_kill_i, zr_kill_l, zr_kill_r, zr_kill_u, zr_kill_f, zr_kill_n, zc_cat, zr_cat_i, zr_cat_l, zr_cat_r, zr_cat_f, zr_cat_d, zr_cat_u, beq_self_eq_true, Nat.zero_le, Nat.le_refl, Nat.reduceSub, Nat.reduceAdd, Nat.reduceLeDiff, csl_f, csr_f, cn_f, lg_cmp_eq, lg_cmp_le, lg_cmp_lt, lg_cmp_ge, lg_cmp_gt, nI_1, zr_up_self, zp_O, zr_fup_self, zr_fup_ne, ne_eq, Nat.reduceEqDiff, not_false_eq_true, pk_mul, nI_add, hS, dv1, rem1]
    have e : S * (p / S) + (p % S + 1) % S = if p % S + 1 = S then p + 1 - S else p + 1 := by
      by_cases g : p % S + 1 = S
      · rw [if_pos g, g, Nat.mod_self]; omega
      · rw [if_neg g, Nat.mod_eq_of_lt (by omega)]; omega
    rw [e]
    exact hQ
theorem nbs_tb (hg : vG R S) {p : Nat} (hp : p < R * S) {a : Int64} {j : Nat} (hj : j < 64) (k : Nat) : k ≤ 4 → (tb (nbs R S p k a) j = true ↔ tb a j = true ∨ ∃ e, e < k ∧ bs R S p e = some j) := by
  have hl := g_lt hg
  have hn := g_n hg
  induction k with
  | zero => intro _; exact ⟨fun z => Or.inl z, fun z => z.elim (fun y => y) (fun ⟨e, he, _⟩ => by omega)⟩
  | succ k ih =>
    intro hk
    show tb (nbs R S p k a ||| og (bs R S p k)) j = true ↔ _
    rw [tb_or, Bool.or_eq_true, ih (by omega)]
    cases e : bs R S p k with
    | none =>
      show _ ∨ tb 0 j = true ↔ _
      rw [tb_0]
      refine ⟨fun z => z.elim (fun y => y.elim Or.inl (fun ⟨e2, h2, h3⟩ => Or.inr ⟨e2, by omega, h3⟩)) (fun y => by cases y), fun z => Or.inl (z.elim Or.inl (fun ⟨e2, h2, h3⟩ => Or.inr ⟨e2, ?_, h3⟩))⟩
      have : e2 ≠ k := fun g => by rw [g, e] at h3; cases h3
      omega
    | some q =>
      have hq : q < R * S := g_in R hl.1 S hl.2.1 hl.2.2.1 hl.2.2.2 p hp k (by omega) q e
      show _ ∨ tb (ob q) j = true ↔ _
      rw [tb_ob (by omega) hj, decide_eq_true_eq]
      refine ⟨fun z => z.elim (fun y => y.elim Or.inl (fun ⟨e2, h2, h3⟩ => Or.inr ⟨e2, by omega, h3⟩)) (fun y => Or.inr ⟨k, by omega, by rw [e, y]⟩), fun z => z.elim (fun y => Or.inl (Or.inl y)) (fun ⟨e2, h2, h3⟩ => ?_)⟩
      by_cases g : e2 = k
      · rw [g, e] at h3
        exact Or.inr (Option.some.inj h3).symm
      · exact Or.inl (Or.inr ⟨e2, by omega, h3⟩)
theorem abt_eq (hg : vG R S) {x : Int64} (hx : wi (R * S) x) : abt R S x (R * S) = cAround R S x := by
  have hv := ar_vn hg
  have key : ∀ k, k ≤ R * S → ∀ j, j < 64 → (tb (abt R S x k) j = true ↔ ∃ i, i < k ∧ tb x i = true ∧ ∃ e, e < 4 ∧ bs R S i e = some j) := by
    intro k
    induction k with
    | zero => intro _ j _; exact ⟨fun z => (by rw [show abt R S x 0 = 0 from rfl, tb_0] at z; cases z), fun ⟨i, hi, _⟩ => by omega⟩
    | succ k ih =>
      intro hk j hj
      show tb (if tb x k then nbs R S k 4 (abt R S x k) else abt R S x k) j = true ↔ _
      cases z : tb x k
      · rw [if_neg (by decide), ih (by omega) j hj]
        refine ⟨fun ⟨i, hi, e⟩ => ⟨i, by omega, e⟩, fun ⟨i, hi, e1, e2⟩ => ⟨i, ?_, e1, e2⟩⟩
        have : i ≠ k := fun g => by rw [g, z] at e1; cases e1
        omega
      · rw [if_pos rfl, nbs_tb hg (by omega) hj 4 (Nat.le_refl _), ih (by omega) j hj]
        refine ⟨fun y => y.elim (fun ⟨i, hi, e⟩ => ⟨i, by omega, e⟩) (fun y => ⟨k, by omega, z, y⟩), fun ⟨i, hi, e1, e2⟩ => ?_⟩
        by_cases g : i = k
        · subst g; exact Or.inr e2
        · exact Or.inl ⟨i, by omega, e1, e2⟩
  refine tb_ext (fun j hj => ?_)
  rw [Bool.eq_iff_iff, key _ (Nat.le_refl _) j hj, hv.2.1 x hx j]
  refine ⟨fun ⟨i, hi, e1, e2⟩ => ⟨i, e1, ad_bs.mpr ⟨hi, e2⟩⟩, fun ⟨i, e1, e2⟩ => ⟨i, (ad_bs.mp e2).1, e1, (ad_bs.mp e2).2⟩⟩
theorem oI_og (hg : vG R S) {p k : Nat} (hp : p < R * S) (hk : k < 4) : (oI (bs R S p k) = -1 ∧ og (bs R S p k) = 0) ∨ ∃ q, q < R * S ∧ bs R S p k = some q ∧ oI (bs R S p k) = nI q ∧ og (bs R S p k) = ob q := by
  have hl := g_lt hg
  cases e : bs R S p k with
  | none => exact Or.inl ⟨rfl, rfl⟩
  | some q => exact Or.inr ⟨q, g_in R hl.1 S hl.2.1 hl.2.2.1 hl.2.2.2 p hp k hk q e, rfl, rfl, rfl⟩
theorem k_mabo (r : rwA h q f R S) {x : Int64} (hx : wi (R * S) x) (hQ : Q (.inl (some (.long (cAround R S x)))) h) : zr_E (d + 2) 155 [.ref q, .long x] h Q := by
  obtain ⟨a1, a2, a3, a4, a5⟩ := rw_facts r
  have hg := r.2.2.2
  have hl := g_lt hg
  have hn := g_n hg
  rw [← abt_eq hg hx] at hQ
  have loop : ∀ t k, k + t = R * S → ∀ x6 x7 : Option Value, zr_Z (d + 1) 155 Q 5 [some (.ref q), some (.long x), none, some (.long (abt R S x k)), none, some (.int (nI k)), x6, x7] [] h 0 0 := by
    intro t
    induction t with
    | zero =>
      intro k hk x6 x7
      have e : k = R * S := by omega
      have c1 : (nI k).toInt64 = lN k := nI_l (by omega)
      simp only [zs_155_0, zs_155_1, zs_155_2, zs_155_3, zs_155_5, zs_155_7, zs_155_8, zs_155_8u, zs_155_9, zs_155_10, zs_155_11, zs_155_11u, zs_155_12, zs_155_13, zs_155_14, zs_155_15, zs_155_16, zs_155_20, zs_155_22, zt_155_22, zs_155_25, zs_155_28, zs_155_31, zs_155_32, zs_155_34, zs_155_36, zs_155_37, zs_155_40, zs_155_40u, zs_155_41, zs_155_43, zs_155_45, zt_155_45, zs_155_48, zs_155_50, zs_155_51, zs_155_53, zs_155_54, zs_155_57, zs_155_58, zs_155_61, zs_155_62, zs_155_64, zs_155_65, zs_155_66, zs_155_67, zs_155_70, zs_155_73, zs_155_76, zs_155_80, zc_isO, zr_fld_mk, zc_isA, zc_len, zr_elt_mk, zr_kill_i, zr_kill_l, zr_kill_r, zr_kill_u, zr_kill_f, zr_kill_n, zc_cat, zr_cat_i, zr_cat_l, zr_cat_r, zr_cat_f, zr_cat_d, zr_cat_u, beq_self_eq_true, Nat.zero_le, Nat.le_refl, Nat.reduceSub, Nat.reduceAdd, Nat.reduceLeDiff, csl_f, csr_f, cn_f, lg_cmp_eq, lg_cmp_le, lg_cmp_lt, lg_cmp_ge, lg_cmp_gt, nI_1, zr_up_self, zp_O, zr_fup_self, zr_fup_ne, ne_eq, Nat.reduceEqDiff, not_false_eq_true, pk_mul, a1, a2, a3, a4, a5, c1, lN_mul]
      rw [lN_le (by omega) (by omega)]
      refine ⟨fun _ => ?_, fun z => absurd (by omega) z⟩
      simp only [zs_155_0, zs_155_1, zs_155_2, zs_155_3, zs_155_5, zs_155_7, zs_155_8, zs_155_8u, zs_155_9, zs_155_10, zs_155_11, zs_155_11u, zs_155_12, zs_155_13, zs_155_14, zs_155_15, zs_155_16, zs_155_19, zs_155_20, zs_155_22, zt_155_22, zs_155_25, zs_155_28, zs_155_31, zs_155_32, zs_155_34, zs_155_36, zs_155_37, zs_155_40, zs_155_40u, zs_155_41, zs_155_43, zs_155_45, zt_155_45, zs_155_48, zs_155_50, zs_155_51, zs_155_53, zs_155_54, zs_155_57, zs_155_58, zs_155_61, zs_155_62, zs_155_64, zs_155_65, zs_155_66, zs_155_67, zs_155_70, zs_155_73, zs_155_76, zs_155_79, zs_155_80, zc_isO, zr_fld_mk, zc_isA, zc_len, zr_elt_mk, zr_kill_i, zr_kill_l, zr_kill_r, zr_kill_u, zr_kill_f, zr_kill_n, zc_cat, zr_cat_i, zr_cat_l, zr_cat_r, zr_cat_f, zr_cat_d, zr_cat_u, beq_self_eq_true, Nat.zero_le, Nat.le_refl, Nat.reduceSub, Nat.reduceAdd, Nat.reduceLeDiff, csl_f, csr_f, cn_f, lg_cmp_eq, lg_cmp_le, lg_cmp_lt, lg_cmp_ge, lg_cmp_gt, nI_1, zr_up_self, zp_O, zr_fup_self, zr_fup_ne, ne_eq, Nat.reduceEqDiff, not_false_eq_true, pk_mul]
      rw [e]
      exact hQ
    | succ t ih =>
      intro k hk x6 x7
      have c1 : (nI k).toInt64 = lN k := nI_l (by omega)
      simp only [zs_155_0, zs_155_1, zs_155_2, zs_155_3, zs_155_5, zs_155_7, zs_155_8, zs_155_8u, zs_155_9, zs_155_10, zs_155_11, zs_155_11u, zs_155_12, zs_155_13, zs_155_14, zs_155_15, zs_155_16, zs_155_20, zs_155_22, zt_155_22, zs_155_25, zs_155_28, zs_155_31, zs_155_32, zs_155_34, zs_155_36, zs_155_37, zs_155_40, zs_155_40u, zs_155_41, zs_155_43, zs_155_45, zt_155_45, zs_155_48, zs_155_50, zs_155_51, zs_155_53, zs_155_54, zs_155_57, zs_155_58, zs_155_61, zs_155_62, zs_155_64, zs_155_65, zs_155_66, zs_155_67, zs_155_70, zs_155_73, zs_155_76, zs_155_80, zc_isO, zr_fld_mk, zc_isA, zc_len, zr_elt_mk, zr_kill_i, zr_kill_l, zr_kill_r, zr_kill_u, zr_kill_f, zr_kill_n, zc_cat, zr_cat_i, zr_cat_l, zr_cat_r, zr_cat_f, zr_cat_d, zr_cat_u, beq_self_eq_true, Nat.zero_le, Nat.le_refl, Nat.reduceSub, Nat.reduceAdd, Nat.reduceLeDiff, csl_f, csr_f, cn_f, lg_cmp_eq, lg_cmp_le, lg_cmp_lt, lg_cmp_ge, lg_cmp_gt, nI_1, zr_up_self, zp_O, zr_fup_self, zr_fup_ne, ne_eq, Nat.reduceEqDiff, not_false_eq_true, pk_mul, a1, a2, a3, a4, a5, c1, lN_mul]
      rw [lN_le (by omega) (by omega)]
      refine ⟨fun z => absurd z (by omega), fun _ => ?_⟩
      simp only [zs_155_0, zs_155_1, zs_155_2, zs_155_3, zs_155_5, zs_155_7, zs_155_8, zs_155_8u, zs_155_9, zs_155_10, zs_155_11, zs_155_11u, zs_155_12, zs_155_13, zs_155_14, zs_155_15, zs_155_16, zs_155_19, zs_155_20, zs_155_22, zt_155_22, zs_155_25, zs_155_32, zs_155_34, zs_155_36, zs_155_37, zs_155_40, zs_155_40u, zs_155_41, zs_155_43, zs_155_45, zt_155_45, zs_155_48, zs_155_50, zs_155_51, zs_155_53, zs_155_54, zs_155_57, zs_155_58, zs_155_61, zs_155_62, zs_155_64, zs_155_65, zs_155_66, zs_155_67, zs_155_70, zs_155_73, zs_155_76, zs_155_79, zs_155_80, zc_isO, zr_fld_mk, zc_isA, zc_len, zr_elt_mk, zr_kill_i, zr_kill_l, zr_kill_r, zr_kill_u, zr_kill_f, zr_kill_n, zc_cat, zr_cat_i, zr_cat_l, zr_cat_r, zr_cat_f, zr_cat_d, zr_cat_u, beq_self_eq_true, Nat.zero_le, Nat.le_refl, Nat.reduceSub, Nat.reduceAdd, Nat.reduceLeDiff, csl_f, csr_f, cn_f, lg_cmp_eq, lg_cmp_le, lg_cmp_lt, lg_cmp_ge, lg_cmp_gt, nI_1, zr_up_self, zp_O, zr_fup_self, zr_fup_ne, ne_eq, Nat.reduceEqDiff, not_false_eq_true, pk_mul]
      refine k_hasb (d := d) (by omega) ?_
      simp only [zs_155_0, zs_155_1, zs_155_2, zs_155_3, zs_155_5, zs_155_7, zs_155_8, zs_155_8u, zs_155_9, zs_155_10, zs_155_11, zs_155_11u, zs_155_12, zs_155_13, zs_155_14, zs_155_15, zs_155_16, zs_155_19, zs_155_20, zs_155_22, zt_155_22, zs_155_25, zs_155_32, zs_155_34, zs_155_36, zs_155_37, zs_155_40, zs_155_40u, zs_155_41, zs_155_43, zs_155_45, zt_155_45, zs_155_48, zs_155_50, zs_155_51, zs_155_53, zs_155_54, zs_155_57, zs_155_58, zs_155_61, zs_155_62, zs_155_64, zs_155_65, zs_155_66, zs_155_67, zs_155_70, zs_155_73, zs_155_76, zs_155_79, zs_155_80, zc_isO, zr_fld_mk, zc_isA, zc_len, zr_elt_mk, zr_kill_i, zr_kill_l, zr_kill_r, zr_kill_u, zr_kill_f, zr_kill_n, zc_cat, zr_cat_i, zr_cat_l, zr_cat_r, zr_cat_f, zr_cat_d, zr_cat_u, beq_self_eq_true, Nat.zero_le, Nat.le_refl, Nat.reduceSub, Nat.reduceAdd, Nat.reduceLeDiff, csl_f, csr_f, cn_f, lg_cmp_eq, lg_cmp_le, lg_cmp_lt, lg_cmp_ge, lg_cmp_gt, nI_1, zr_up_self, zp_O, zr_fup_self, zr_fup_ne, ne_eq, Nat.reduceEqDiff, not_false_eq_true, pk_mul]
      have e : abt R S x (k + 1) = if tb x k then nbs R S k 4 (abt R S x k) else abt R S x k := rfl
      cases z : tb x k
      · refine ⟨fun y => absurd rfl y, fun _ => ?_⟩
        have := ih (k + 1) (by omega) x6 x7
        rw [e, z] at this
        simp only [zs_155_0, zs_155_1, zs_155_2, zs_155_3, zs_155_7, zs_155_8, zs_155_8u, zs_155_9, zs_155_10, zs_155_11, zs_155_11u, zs_155_12, zs_155_13, zs_155_14, zs_155_15, zs_155_16, zs_155_19, zs_155_20, zs_155_22, zt_155_22, zs_155_25, zs_155_28, zs_155_31, zs_155_32, zs_155_34, zs_155_36, zs_155_37, zs_155_40, zs_155_40u, zs_155_41, zs_155_43, zs_155_45, zt_155_45, zs_155_48, zs_155_50, zs_155_51, zs_155_53, zs_155_54, zs_155_57, zs_155_58, zs_155_61, zs_155_62, zs_155_64, zs_155_65, zs_155_66, zs_155_67, zs_155_70, zs_155_73, zs_155_76, zs_155_79, zs_155_80, zc_isO, zr_fld_mk, zc_isA, zc_len, zr_elt_mk, zr_kill_i, zr_kill_l, zr_kill_r, zr_kill_u, zr_kill_f, zr_kill_n, zc_cat, zr_cat_i, zr_cat_l, zr_cat_r, zr_cat_f, zr_cat_d, zr_cat_u, beq_self_eq_true, Nat.zero_le, Nat.le_refl, Nat.reduceSub, Nat.reduceAdd, Nat.reduceLeDiff, csl_f, csr_f, cn_f, lg_cmp_eq, lg_cmp_le, lg_cmp_lt, lg_cmp_ge, lg_cmp_gt, nI_1, zr_up_self, zp_O, zr_fup_self, zr_fup_ne, ne_eq, Nat.reduceEqDiff, not_false_eq_true, pk_mul]
        exact this
      · refine ⟨fun _ => ?_, fun y => absurd y (by decide)⟩
        have inner : ∀ t2 k2, k2 + t2 = 4 → ∀ x7 : Option Value, zr_Z (d + 1) 155 Q 34 [some (.ref q), some (.long x), none, some (.long (nbs R S k k2 (abt R S x k))), none, some (.int (nI k)), some (.int (nI k2)), x7] [] h 0 0 := by
          intro t2
          induction t2 with
          | zero =>
            intro k2 hk2 x7
            have : k2 = 4 := by omega
            subst this
            simp only [zs_155_0, zs_155_1, zs_155_2, zs_155_3, zs_155_5, zs_155_7, zs_155_8, zs_155_8u, zs_155_9, zs_155_10, zs_155_11, zs_155_11u, zs_155_12, zs_155_13, zs_155_14, zs_155_15, zs_155_16, zs_155_19, zs_155_20, zs_155_22, zt_155_22, zs_155_25, zs_155_28, zs_155_31, zs_155_32, zs_155_34, zs_155_36, zs_155_37, zs_155_41, zs_155_43, zs_155_45, zt_155_45, zs_155_48, zs_155_50, zs_155_51, zs_155_53, zs_155_54, zs_155_57, zs_155_58, zs_155_61, zs_155_62, zs_155_64, zs_155_65, zs_155_66, zs_155_67, zs_155_70, zs_155_76, zs_155_79, zs_155_80, zc_isO, zr_fld_mk, zc_isA, zc_len, zr_elt_mk, zr_kill_i, zr_kill_l, zr_kill_r, zr_kill_u, zr_kill_f, zr_kill_n, zc_cat, zr_cat_i, zr_cat_l, zr_cat_r, zr_cat_f, zr_cat_d, zr_cat_u, beq_self_eq_true, Nat.zero_le, Nat.le_refl, Nat.reduceSub, Nat.reduceAdd, Nat.reduceLeDiff, csl_f, csr_f, cn_f, lg_cmp_eq, lg_cmp_le, lg_cmp_lt, lg_cmp_ge, lg_cmp_gt, nI_1, zr_up_self, zp_O, zr_fup_self, zr_fup_ne, ne_eq, Nat.reduceEqDiff, not_false_eq_true, pk_mul]
            refine ⟨fun _ => ?_, fun z => absurd (by decide) z⟩
            have := ih (k + 1) (by omega) (some (.int (nI 4))) x7
            rw [e, z] at this
            simp only [zs_155_0, zs_155_1, zs_155_2, zs_155_3, zs_155_7, zs_155_8, zs_155_8u, zs_155_9, zs_155_10, zs_155_11, zs_155_11u, zs_155_12, zs_155_13, zs_155_14, zs_155_15, zs_155_16, zs_155_19, zs_155_20, zs_155_22, zt_155_22, zs_155_25, zs_155_28, zs_155_31, zs_155_32, zs_155_34, zs_155_36, zs_155_37, zs_155_40, zs_155_40u, zs_155_41, zs_155_43, zs_155_45, zt_155_45, zs_155_48, zs_155_50, zs_155_51, zs_155_53, zs_155_54, zs_155_57, zs_155_58, zs_155_61, zs_155_62, zs_155_64, zs_155_65, zs_155_66, zs_155_67, zs_155_70, zs_155_73, zs_155_76, zs_155_79, zs_155_80, zc_isO, zr_fld_mk, zc_isA, zc_len, zr_elt_mk, zr_kill_i, zr_kill_l, zr_kill_r, zr_kill_u, zr_kill_f, zr_kill_n, zc_cat, zr_cat_i, zr_cat_l, zr_cat_r, zr_cat_f, zr_cat_d, zr_cat_u, beq_self_eq_true, Nat.zero_le, Nat.le_refl, Nat.reduceSub, Nat.reduceAdd, Nat.reduceLeDiff, csl_f, csr_f, cn_f, lg_cmp_eq, lg_cmp_le, lg_cmp_lt, lg_cmp_ge, lg_cmp_gt, nI_1, zr_up_self, zp_O, zr_fup_self, zr_fup_ne, ne_eq, Nat.reduceEqDiff, not_false_eq_true, pk_mul]
            exact this
          | succ t2 ih2 =>
            intro k2 hk2 x7
            simp only [zs_155_0, zs_155_1, zs_155_2, zs_155_3, zs_155_5, zs_155_7, zs_155_8, zs_155_8u, zs_155_9, zs_155_10, zs_155_11, zs_155_11u, zs_155_12, zs_155_13, zs_155_14, zs_155_15, zs_155_16, zs_155_19, zs_155_20, zs_155_22, zt_155_22, zs_155_25, zs_155_28, zs_155_31, zs_155_32, zs_155_34, zs_155_36, zs_155_37, zs_155_41, zs_155_43, zs_155_45, zt_155_45, zs_155_48, zs_155_50, zs_155_51, zs_155_53, zs_155_54, zs_155_57, zs_155_58, zs_155_61, zs_155_62, zs_155_64, zs_155_65, zs_155_66, zs_155_67, zs_155_70, zs_155_76, zs_155_79, zs_155_80, zc_isO, zr_fld_mk, zc_isA, zc_len, zr_elt_mk, zr_kill_i, zr_kill_l, zr_kill_r, zr_kill_u, zr_kill_f, zr_kill_n, zc_cat, zr_cat_i, zr_cat_l, zr_cat_r, zr_cat_f, zr_cat_d, zr_cat_u, beq_self_eq_true, Nat.zero_le, Nat.le_refl, Nat.reduceSub, Nat.reduceAdd, Nat.reduceLeDiff, csl_f, csr_f, cn_f, lg_cmp_eq, lg_cmp_le, lg_cmp_lt, lg_cmp_ge, lg_cmp_gt, nI_1, zr_up_self, zp_O, zr_fup_self, zr_fup_ne, ne_eq, Nat.reduceEqDiff, not_false_eq_true, pk_mul]
            refine ⟨fun z => absurd z (nI_ge (b := 4) (by omega) (by omega)), fun _ => ?_⟩
            simp only [zs_155_0, zs_155_1, zs_155_2, zs_155_3, zs_155_5, zs_155_7, zs_155_8, zs_155_8u, zs_155_9, zs_155_10, zs_155_11, zs_155_11u, zs_155_12, zs_155_13, zs_155_14, zs_155_15, zs_155_16, zs_155_19, zs_155_20, zs_155_22, zt_155_22, zs_155_25, zs_155_28, zs_155_31, zs_155_32, zs_155_34, zs_155_36, zs_155_37, zs_155_40, zs_155_40u, zs_155_41, zs_155_43, zs_155_45, zt_155_45, zs_155_48, zs_155_50, zs_155_51, zs_155_53, zs_155_54, zs_155_57, zs_155_58, zs_155_61, zs_155_62, zs_155_64, zs_155_65, zs_155_66, zs_155_67, zs_155_70, zs_155_73, zs_155_76, zs_155_79, zs_155_80, zc_isO, zr_fld_mk, zc_isA, zc_len, zr_elt_mk, zr_kill_i, zr_kill_l, zr_kill_r, zr_kill_u, zr_kill_f, zr_kill_n, zc_cat, zr_cat_i, zr_cat_l, zr_cat_r, zr_cat_f, zr_cat_d, zr_cat_u, beq_self_eq_true, Nat.zero_le, Nat.le_refl, Nat.reduceSub, Nat.reduceAdd, Nat.reduceLeDiff, csl_f, csr_f, cn_f, lg_cmp_eq, lg_cmp_le, lg_cmp_lt, lg_cmp_ge, lg_cmp_gt, nI_1, zr_up_self, zp_O, zr_fup_self, zr_fup_ne, ne_eq, Nat.reduceEqDiff, not_false_eq_true, pk_mul]
            refine k_mbes (d := d) r (by omega) (by omega) ?_
            simp only [zs_155_0, zs_155_1, zs_155_2, zs_155_3, zs_155_5, zs_155_7, zs_155_8, zs_155_8u, zs_155_9, zs_155_10, zs_155_11, zs_155_11u, zs_155_12, zs_155_13, zs_155_14, zs_155_15, zs_155_16, zs_155_19, zs_155_20, zs_155_22, zt_155_22, zs_155_25, zs_155_28, zs_155_31, zs_155_32, zs_155_34, zs_155_36, zs_155_37, zs_155_40, zs_155_40u, zs_155_41, zs_155_43, zs_155_45, zt_155_45, zs_155_48, zs_155_50, zs_155_51, zs_155_53, zs_155_54, zs_155_58, zs_155_62, zs_155_64, zs_155_65, zs_155_66, zs_155_67, zs_155_70, zs_155_73, zs_155_76, zs_155_79, zs_155_80, zc_isO, zr_fld_mk, zc_isA, zc_len, zr_elt_mk, zr_kill_i, zr_kill_l, zr_kill_r, zr_kill_u, zr_kill_f, zr_kill_n, zc_cat, zr_cat_i, zr_cat_l, zr_cat_r, zr_cat_f, zr_cat_d, zr_cat_u, beq_self_eq_true, Nat.zero_le, Nat.le_refl, Nat.reduceSub, Nat.reduceAdd, Nat.reduceLeDiff, csl_f, csr_f, cn_f, lg_cmp_eq, lg_cmp_le, lg_cmp_lt, lg_cmp_ge, lg_cmp_gt, nI_1, zr_up_self, zp_O, zr_fup_self, zr_fup_ne, ne_eq, Nat.reduceEqDiff, not_false_eq_true, pk_mul]
            have e2 : nbs R S k (k2 + 1) (abt R S x k) = nbs R S k k2 (abt R S x k) ||| og (bs R S k k2) := rfl
            rcases oI_og hg (p := k) (k := k2) (by omega) (by omega) with ⟨o1, o2⟩ | ⟨q2, hq2, ob2, o1, o2⟩
            · rw [o1]
              have := ih2 (k2 + 1) (by omega) (some (.int (-1)))
              rw [e2, o2] at this
              refine ⟨fun y => absurd rfl y, fun _ => ?_⟩
              simp only [zs_155_0, zs_155_1, zs_155_2, zs_155_3, zs_155_5, zs_155_7, zs_155_8, zs_155_8u, zs_155_9, zs_155_10, zs_155_11, zs_155_11u, zs_155_12, zs_155_13, zs_155_14, zs_155_15, zs_155_16, zs_155_19, zs_155_20, zs_155_22, zt_155_22, zs_155_25, zs_155_28, zs_155_31, zs_155_32, zs_155_36, zs_155_37, zs_155_40, zs_155_40u, zs_155_41, zs_155_43, zs_155_45, zt_155_45, zs_155_48, zs_155_50, zs_155_51, zs_155_53, zs_155_54, zs_155_57, zs_155_58, zs_155_61, zs_155_62, zs_155_64, zs_155_65, zs_155_66, zs_155_67, zs_155_70, zs_155_73, zs_155_76, zs_155_79, zs_155_80, zc_isO, zr_fld_mk, zc_isA, zc_len, zr_elt_mk, zr_kill_i, zr_kill_l, zr_kill_r, zr_kill_u, zr_kill_f, zr_kill_n, zc_cat, zr_cat_i, zr_cat_l, zr_cat_r, zr_cat_f, zr_cat_d, zr_cat_u, beq_self_eq_true, Nat.zero_le, Nat.le_refl, Nat.reduceSub, Nat.reduceAdd, Nat.reduceLeDiff, csl_f, csr_f, cn_f, lg_cmp_eq, lg_cmp_le, lg_cmp_lt, lg_cmp_ge, lg_cmp_gt, nI_1, zr_up_self, zp_O, zr_fup_self, zr_fup_ne, ne_eq, Nat.reduceEqDiff, not_false_eq_true, pk_mul]
              exact this
            · rw [o1]
              have := ih2 (k2 + 1) (by omega) (some (.int (nI q2)))
              rw [e2, o2] at this
              refine ⟨fun _ => ?_, fun y => ?_⟩
              · simp only [zs_155_0, zs_155_1, zs_155_2, zs_155_3, zs_155_5, zs_155_7, zs_155_8, zs_155_8u, zs_155_9, zs_155_10, zs_155_11, zs_155_11u, zs_155_12, zs_155_13, zs_155_14, zs_155_15, zs_155_16, zs_155_19, zs_155_20, zs_155_22, zt_155_22, zs_155_25, zs_155_28, zs_155_31, zs_155_32, zs_155_36, zs_155_37, zs_155_40, zs_155_40u, zs_155_41, zs_155_43, zs_155_45, zt_155_45, zs_155_48, zs_155_50, zs_155_51, zs_155_53, zs_155_54, zs_155_57, zs_155_58, zs_155_61, zs_155_62, zs_155_64, zs_155_65, zs_155_66, zs_155_67, zs_155_70, zs_155_73, zs_155_76, zs_155_79, zs_155_80, zc_isO, zr_fld_mk, zc_isA, zc_len, zr_elt_mk, zr_kill_i, zr_kill_l, zr_kill_r, zr_kill_u, zr_kill_f, zr_kill_n, zc_cat, zr_cat_i, zr_cat_l, zr_cat_r, zr_cat_f, zr_cat_d, zr_cat_u, beq_self_eq_true, Nat.zero_le, Nat.le_refl, Nat.reduceSub, Nat.reduceAdd, Nat.reduceLeDiff, csl_f, csr_f, cn_f, lg_cmp_eq, lg_cmp_le, lg_cmp_lt, lg_cmp_ge, lg_cmp_gt, nI_1, zr_up_self, zp_O, zr_fup_self, zr_fup_ne, ne_eq, Nat.reduceEqDiff, not_false_eq_true, pk_mul, ob_f]
                exact this
              · have : nI q2 < 0 := by rw [y]; decide
                exact absurd this (nI_pos (by omega))
        simp only [zs_155_0, zs_155_1, zs_155_2, zs_155_3, zs_155_5, zs_155_7, zs_155_8, zs_155_8u, zs_155_9, zs_155_10, zs_155_11, zs_155_11u, zs_155_12, zs_155_13, zs_155_14, zs_155_15, zs_155_16, zs_155_19, zs_155_20, zs_155_22, zt_155_22, zs_155_25, zs_155_28, zs_155_31, zs_155_32, zs_155_36, zs_155_37, zs_155_40, zs_155_40u, zs_155_41, zs_155_43, zs_155_45, zt_155_45, zs_155_48, zs_155_50, zs_155_51, zs_155_53, zs_155_54, zs_155_57, zs_155_58, zs_155_61, zs_155_62, zs_155_64, zs_155_65, zs_155_66, zs_155_67, zs_155_70, zs_155_73, zs_155_76, zs_155_79, zs_155_80, zc_isO, zr_fld_mk, zc_isA, zc_len, zr_elt_mk, zr_kill_i, zr_kill_l, zr_kill_r, zr_kill_u, zr_kill_f, zr_kill_n, zc_cat, zr_cat_i, zr_cat_l, zr_cat_r, zr_cat_f, zr_cat_d, zr_cat_u, beq_self_eq_true, Nat.zero_le, Nat.le_refl, Nat.reduceSub, Nat.reduceAdd, Nat.reduceLeDiff, csl_f, csr_f, cn_f, lg_cmp_eq, lg_cmp_le, lg_cmp_lt, lg_cmp_ge, lg_cmp_gt, nI_1, zr_up_self, zp_O, zr_fup_self, zr_fup_ne, ne_eq, Nat.reduceEqDiff, not_false_eq_true, pk_mul]
        exact inner 4 0 rfl x7
  rw [ze_155]
  simp only [zs_155_0, zs_155_1, zs_155_2, zs_155_3, zs_155_7, zs_155_8, zs_155_8u, zs_155_9, zs_155_10, zs_155_11, zs_155_11u, zs_155_12, zs_155_13, zs_155_14, zs_155_15, zs_155_16, zs_155_19, zs_155_20, zs_155_22, zt_155_22, zs_155_25, zs_155_28, zs_155_31, zs_155_32, zs_155_34, zs_155_36, zs_155_37, zs_155_40, zs_155_40u, zs_155_41, zs_155_43, zs_155_45, zt_155_45, zs_155_48, zs_155_50, zs_155_51, zs_155_53, zs_155_54, zs_155_57, zs_155_58, zs_155_61, zs_155_62, zs_155_64, zs_155_65, zs_155_66, zs_155_67, zs_155_70, zs_155_73, zs_155_76, zs_155_79, zs_155_80, zc_isO, zr_fld_mk, zc_isA, zc_len, zr_elt_mk, zr_kill_i, zr_kill_l, zr_kill_r, zr_kill_u, zr_kill_f, zr_kill_n, zc_cat, zr_cat_i, zr_cat_l, zr_cat_r, zr_cat_f, zr_cat_d, zr_cat_u, beq_self_eq_true, Nat.zero_le, Nat.le_refl, Nat.reduceSub, Nat.reduceAdd, Nat.reduceLeDiff, csl_f, csr_f, cn_f, lg_cmp_eq, lg_cmp_le, lg_cmp_lt, lg_cmp_ge, lg_cmp_gt, nI_1, zr_up_self, zp_O, zr_fup_self, zr_fup_ne, ne_eq, Nat.reduceEqDiff, not_false_eq_true, pk_mul]
  exact loop (R * S) 0 (Nat.zero_add _) _ _
theorem k_mspr (r : rwA h q f R S) {x : Int64} {p : Nat} (hx : wi (R * S) x) (hp : tb x p = true) (hQ : Q (.inl (some (.long (rc R S x (ob p))))) h) : zr_E (d + 3) 157 [.ref q, .long x, .int (nI p)] h Q := by
  have hg := r.2.2.2
  have hv := ar_vn hg
  have hn := g_n hg
  have hpn := hx p hp
  have w0 : wi (R * S) (ob p) := wi_ob hpn (by omega)
  have hin : ∀ k i, tb (it (cAround R S) x k (ob p)) i = true → tb x i = true := by
    intro k
    induction k with
    | zero =>
      intro i h
      have h : tb (ob p) i = true := h
      have hi := w0 i h
      rw [tb_ob (by omega) (by omega), decide_eq_true_eq] at h
      rw [h]; exact hp
    | succ k ih =>
      intro i h
      have h : tb (cs (cAround R S) x (it (cAround R S) x k (ob p))) i = true := h
      rw [cs_tb, Bool.or_eq_true, Bool.and_eq_true] at h
      rcases h with a | a
      · exact ih i a
      · exact a.2
  have st : ∀ k, (it (cAround R S) x k (ob p) ||| cAround R S (it (cAround R S) x k (ob p))) &&& x = it (cAround R S) x (k + 1) (ob p) := by
    intro k
    refine tb_ext (fun i hi => ?_)
    show _ = tb (cs (cAround R S) x (it (cAround R S) x k (ob p))) i
    rw [cs_tb, tb_and, tb_or]
    cases z : tb (it (cAround R S) x k (ob p)) i
    · rw [Bool.false_or, Bool.false_or]
    · rw [hin k i z, Bool.true_or, Bool.true_or, Bool.true_and]
  have loop : ∀ t k, k + t = 64 → ∀ its : Int64, (k = 0 → its = 0) → (∀ m, k = m + 1 → its = it (cAround R S) x m (ob p)) → zr_Z (d + 2) 157 Q 8 [some (.ref q), some (.long x), none, some (.int (nI p)), some (.long its), none, some (.long (it (cAround R S) x k (ob p))), none] [] h 0 0 := by
    intro t
    induction t with
    | zero =>
      intro k hk its e0 e1
      have ek : k = 63 + 1 := by omega
      subst ek
      have := e1 63 rfl
      subst this
      have hf : it (cAround R S) x (63 + 1) (ob p) = it (cAround R S) x 63 (ob p) := it_fix (k := R * S) (it_n hv w0) (by omega) |>.trans (it_fix (k := R * S) (it_n hv w0) (by omega)).symm
      simp only [zs_157_0, zs_157_1, zs_157_3, zs_157_4, zs_157_5, zs_157_6, zs_157_8, zs_157_10, zs_157_12, zs_157_13, zs_157_18, zs_157_20, zs_157_22, zs_157_22u, zs_157_23, zs_157_25, zt_157_25, zs_157_28, zs_157_29, zs_157_30, zs_157_31, zs_157_33, zs_157_38, zc_isO, zr_fld_mk, zc_isA, zc_len, zr_elt_mk, zr_kill_i, zr_kill_l, zr_kill_r, zr_kill_u, zr_kill_f, zr_kill_n, zc_cat, zr_cat_i, zr_cat_l, zr_cat_r, zr_cat_f, zr_cat_d, zr_cat_u, beq_self_eq_true, Nat.zero_le, Nat.le_refl, Nat.reduceSub, Nat.reduceAdd, Nat.reduceLeDiff, csl_f, csr_f, cn_f, lg_cmp_eq, lg_cmp_le, lg_cmp_lt, lg_cmp_ge, lg_cmp_gt, nI_1, zr_up_self, zp_O, zr_fup_self, zr_fup_ne, ne_eq, Nat.reduceEqDiff, not_false_eq_true, pk_mul]
      refine ⟨fun _ => ?_, fun z => absurd hf z⟩
      simp only [zs_157_0, zs_157_1, zs_157_3, zs_157_4, zs_157_5, zs_157_6, zs_157_8, zs_157_10, zs_157_12, zs_157_13, zs_157_16, zs_157_18, zs_157_20, zs_157_22, zs_157_22u, zs_157_23, zs_157_25, zt_157_25, zs_157_28, zs_157_29, zs_157_30, zs_157_31, zs_157_33, zs_157_36, zs_157_38, zc_isO, zr_fld_mk, zc_isA, zc_len, zr_elt_mk, zr_kill_i, zr_kill_l, zr_kill_r, zr_kill_u, zr_kill_f, zr_kill_n, zc_cat, zr_cat_i, zr_cat_l, zr_cat_r, zr_cat_f, zr_cat_d, zr_cat_u, beq_self_eq_true, Nat.zero_le, Nat.le_refl, Nat.reduceSub, Nat.reduceAdd, Nat.reduceLeDiff, csl_f, csr_f, cn_f, lg_cmp_eq, lg_cmp_le, lg_cmp_lt, lg_cmp_ge, lg_cmp_gt, nI_1, zr_up_self, zp_O, zr_fup_self, zr_fup_ne, ne_eq, Nat.reduceEqDiff, not_false_eq_true, pk_mul]
      have : it (cAround R S) x 63 (ob p) = rc R S x (ob p) := by
        show _ = it (cAround R S) x 64 (ob p)
        exact hf.symm
      rw [this]
      exact hQ
    | succ t ih =>
      intro k hk its e0 e1
      simp only [zs_157_0, zs_157_1, zs_157_3, zs_157_4, zs_157_5, zs_157_6, zs_157_8, zs_157_10, zs_157_12, zs_157_13, zs_157_18, zs_157_20, zs_157_22, zs_157_22u, zs_157_23, zs_157_25, zt_157_25, zs_157_28, zs_157_29, zs_157_30, zs_157_31, zs_157_33, zs_157_38, zc_isO, zr_fld_mk, zc_isA, zc_len, zr_elt_mk, zr_kill_i, zr_kill_l, zr_kill_r, zr_kill_u, zr_kill_f, zr_kill_n, zc_cat, zr_cat_i, zr_cat_l, zr_cat_r, zr_cat_f, zr_cat_d, zr_cat_u, beq_self_eq_true, Nat.zero_le, Nat.le_refl, Nat.reduceSub, Nat.reduceAdd, Nat.reduceLeDiff, csl_f, csr_f, cn_f, lg_cmp_eq, lg_cmp_le, lg_cmp_lt, lg_cmp_ge, lg_cmp_gt, nI_1, zr_up_self, zp_O, zr_fup_self, zr_fup_ne, ne_eq, Nat.reduceEqDiff, not_false_eq_true, pk_mul]
      refine ⟨fun z => ?_, fun z => ?_⟩
      · have ek : k ≠ 0 := fun g => by
          subst g
          rw [e0 rfl] at z
          have : tb (ob p) p = true := by rw [tb_ob (by omega) (by omega), decide_eq_true rfl]
          have z : ob p = 0 := z
          rw [z, tb_0] at this
          cases this
        obtain ⟨m, em⟩ : ∃ m, k = m + 1 := ⟨k - 1, by omega⟩
        subst em
        have := e1 m rfl
        subst this
        simp only [zs_157_0, zs_157_1, zs_157_3, zs_157_4, zs_157_5, zs_157_6, zs_157_8, zs_157_10, zs_157_12, zs_157_13, zs_157_16, zs_157_18, zs_157_20, zs_157_22, zs_157_22u, zs_157_23, zs_157_25, zt_157_25, zs_157_28, zs_157_29, zs_157_30, zs_157_31, zs_157_33, zs_157_36, zs_157_38, zc_isO, zr_fld_mk, zc_isA, zc_len, zr_elt_mk, zr_kill_i, zr_kill_l, zr_kill_r, zr_kill_u, zr_kill_f, zr_kill_n, zc_cat, zr_cat_i, zr_cat_l, zr_cat_r, zr_cat_f, zr_cat_d, zr_cat_u, beq_self_eq_true, Nat.zero_le, Nat.le_refl, Nat.reduceSub, Nat.reduceAdd, Nat.reduceLeDiff, csl_f, csr_f, cn_f, lg_cmp_eq, lg_cmp_le, lg_cmp_lt, lg_cmp_ge, lg_cmp_gt, nI_1, zr_up_self, zp_O, zr_fup_self, zr_fup_ne, ne_eq, Nat.reduceEqDiff, not_false_eq_true, pk_mul]
        have : it (cAround R S) x m (ob p) = rc R S x (ob p) := clo_k (by omega) z
        rw [this]
        exact hQ
      · simp only [zs_157_0, zs_157_1, zs_157_3, zs_157_4, zs_157_5, zs_157_6, zs_157_10, zs_157_12, zs_157_13, zs_157_16, zs_157_18, zs_157_20, zs_157_22, zs_157_22u, zs_157_23, zs_157_25, zt_157_25, zs_157_28, zs_157_29, zs_157_30, zs_157_31, zs_157_33, zs_157_36, zs_157_38, zc_isO, zr_fld_mk, zc_isA, zc_len, zr_elt_mk, zr_kill_i, zr_kill_l, zr_kill_r, zr_kill_u, zr_kill_f, zr_kill_n, zc_cat, zr_cat_i, zr_cat_l, zr_cat_r, zr_cat_f, zr_cat_d, zr_cat_u, beq_self_eq_true, Nat.zero_le, Nat.le_refl, Nat.reduceSub, Nat.reduceAdd, Nat.reduceLeDiff, csl_f, csr_f, cn_f, lg_cmp_eq, lg_cmp_le, lg_cmp_lt, lg_cmp_ge, lg_cmp_gt, nI_1, zr_up_self, zp_O, zr_fup_self, zr_fup_ne, ne_eq, Nat.reduceEqDiff, not_false_eq_true, pk_mul]
        refine k_mabo (d := d) r (it_wi hv w0 k) ?_
        simp only [zs_157_0, zs_157_1, zs_157_3, zs_157_4, zs_157_5, zs_157_6, zs_157_10, zs_157_12, zs_157_13, zs_157_16, zs_157_18, zs_157_20, zs_157_22, zs_157_22u, zs_157_23, zs_157_25, zt_157_25, zs_157_28, zs_157_29, zs_157_30, zs_157_31, zs_157_33, zs_157_36, zs_157_38, zc_isO, zr_fld_mk, zc_isA, zc_len, zr_elt_mk, zr_kill_i, zr_kill_l, zr_kill_r, zr_kill_u, zr_kill_f, zr_kill_n, zc_cat, zr_cat_i, zr_cat_l, zr_cat_r, zr_cat_f, zr_cat_d, zr_cat_u, beq_self_eq_true, Nat.zero_le, Nat.le_refl, Nat.reduceSub, Nat.reduceAdd, Nat.reduceLeDiff, csl_f, csr_f, cn_f, lg_cmp_eq, lg_cmp_le, lg_cmp_lt, lg_cmp_ge, lg_cmp_gt, nI_1, zr_up_self, zp_O, zr_fup_self, zr_fup_ne, ne_eq, Nat.reduceEqDiff, not_false_eq_true, pk_mul]
        rw [st k]
        exact ih (k + 1) (by omega) _ (fun g => by omega) (fun m em => by rw [show k = m by omega])
  rw [ze_157]
  simp only [zs_157_0, zs_157_1, zs_157_3, zs_157_4, zs_157_5, zs_157_6, zs_157_10, zs_157_12, zs_157_13, zs_157_16, zs_157_18, zs_157_20, zs_157_22, zs_157_22u, zs_157_23, zs_157_25, zt_157_25, zs_157_28, zs_157_29, zs_157_30, zs_157_31, zs_157_33, zs_157_36, zs_157_38, zc_isO, zr_fld_mk, zc_isA, zc_len, zr_elt_mk, zr_kill_i, zr_kill_l, zr_kill_r, zr_kill_u, zr_kill_f, zr_kill_n, zc_cat, zr_cat_i, zr_cat_l, zr_cat_r, zr_cat_f, zr_cat_d, zr_cat_u, beq_self_eq_true, Nat.zero_le, Nat.le_refl, Nat.reduceSub, Nat.reduceAdd, Nat.reduceLeDiff, csl_f, csr_f, cn_f, lg_cmp_eq, lg_cmp_le, lg_cmp_lt, lg_cmp_ge, lg_cmp_gt, nI_1, zr_up_self, zp_O, zr_fup_self, zr_fup_ne, ne_eq, Nat.reduceEqDiff, not_false_eq_true, pk_mul, ob_f]
  exact loop 64 0 rfl 0 (fun _ => rfl) (fun m em => by omega)
end MODEL
