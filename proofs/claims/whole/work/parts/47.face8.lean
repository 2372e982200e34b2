/-- the greediest move so far: place and captured stones -/
def grB (R S : Nat) (b w : Int64) (P : List (Int64 × Int64)) (I : Nat → Int32) (c : Nat) (z : Option (Nat × Nat)) (k : Nat) : Bool := decide (rf R S b w P I k c = 0) && (match z with
  | none => true
  | some a => decide (a.2 < ct (cb R S b w k c)))
def gr (R S : Nat) (b w : Int64) (P : List (Int64 × Int64)) (I : Nat → Int32) (c : Nat) : Nat → Option (Nat × Nat)
  | 0 => none
  | k + 1 => if grB R S b w P I c (gr R S b w P I c k) k = true then some (k, ct (cb R S b w k c)) else gr R S b w P I c k
def rxGreed (R S : Nat) (b w : Int64) (P : List (Int64 × Int64)) (I : Nat → Int32) (y : Int32) : Int32 ⊕ Nat := match clq y with
  | none => .inr 1
  | some c => match gr R S b w P I c (R * S) with
    | none => .inr 3
    | some a => .inl (nI a.1)
def o1 (z : Option (Nat × Nat)) : Int32 := match z with
  | none => -1
  | some a => nI a.1
def o2 (z : Option (Nat × Nat)) : Int32 := match z with
  | none => -1
  | some a => nI a.2
section FACE
variable {d : Nat} {h : zr_H} {Q : zr_K} {x ea sl rd wr : Nat} {u l : Int32} {A : Nat → Nat} {R S g : Nat} {b w : Int64} {P : List (Int64 × Int64)} {I : Nat → Int32}
theorem gr_y {c k : Nat} (h : grB R S b w P I c (gr R S b w P I c k) k = true) : gr R S b w P I c (k + 1) = some (k, ct (cb R S b w k c)) := by
  show (if _ then _ else _) = _
  rw [if_pos h]
theorem gr_n {c k : Nat} (h : grB R S b w P I c (gr R S b w P I c k) k = false) : gr R S b w P I c (k + 1) = gr R S b w P I c k := by
  show (if _ then _ else _) = _
  rw [h]; rfl
theorem gr_lt {c : Nat} (k : Nat) : ∀ a, gr R S b w P I c k = some a → a.1 < k ∧ a.2 ≤ 64 := by
  induction k with
  | zero => intro a e; cases e
  | succ k ih =>
    intro a e
    cases f : grB R S b w P I c (gr R S b w P I c k) k
    · rw [gr_n f] at e
      have := ih a e
      exact ⟨by omega, this.2⟩
    · rw [gr_y f] at e
      cases e
      exact ⟨by simp, ct_le _⟩
theorem k_greed_ (hX : h x = some (zxs (A 0) ea sl rd wr u l)) (v : vM h A R S b w P I g) {c : Nat} (hc : c < 4) (h1 : ∀ a, gr R S b w P I c (R * S) = some a → Q (.inl (some (.int (nI a.1)))) h) (h0 : gr R S b w P I c (R * S) = none → Q (.inr 3) h) (t : Nat) :
    ∀ k, k + t = R * S → ∀ x5 : Option Value, zr_Z (d + 6) 90 Q 11 [some (.ref x), some (.int (nI c)), some (.int (o1 (gr R S b w P I c k))), some (.int (o2 (gr R S b w P I c k))), some (.int (nI k)), x5] [] h (2 - 1) (12 - 6) := by
  obtain ⟨hM, hB, hG, hg, -⟩ := id v
  have hn := g_n hg
  induction t with
  | zero =>
    intro k hk x5
    have e : k = R * S := by omega
    subst e
    simp only [zs_90_0, zs_90_1, zt_90_1, zs_90_4, zs_90_5, zs_90_6, zs_90_7, zs_90_8, zs_90_9, zs_90_11, zs_90_13, zs_90_13u, zs_90_14, zs_90_17, zs_90_20, zs_90_23, zs_90_26, zs_90_30, zs_90_33, zs_90_35, zs_90_36, zt_90_36, zs_90_39, zs_90_42, zs_90_42u, zs_90_43, zs_90_46, zs_90_49, zs_90_51, zs_90_52, zt_90_52, zs_90_55, zt_90_55, zs_90_58, zs_90_60, zs_90_62, zs_90_63, zs_90_66, zs_90_68, zs_90_69, zs_90_71, zs_90_72, zs_90_75, zs_90_78, zs_90_79, zs_90_80, zs_90_93, zs_90_94, zc_isO, zr_fld_mk, zc_isA, zc_len, zr_elt_mk, zr_kill_i, zr_kill_l, zr_kill_r, zr_kill_u, zr_kill_f, zr_kill_n, zc_cat, zr_cat_i, zr_cat_l, zr_cat_r, zr_cat_f, zr_cat_d, zr_cat_u, beq_self_eq_true, Nat.zero_le, Nat.le_refl, Nat.reduceSub, Nat.reduceAdd, Nat.reduceLeDiff, csl_f, csr_f, cn_f, lg_cmp_eq, lg_cmp_le, lg_cmp_lt, lg_cmp_ge, lg_cmp_gt, nI_1, zr_up_self, zp_O, zr_fup_self, zr_fup_ne, ne_eq, Nat.reduceEqDiff, not_false_eq_true, pk_mul, hX, zx_I, zx_0, hM, zm_I, zm_0, hB, zb_O, zb_0, hG, zg_O, zg_2]
    refine ⟨fun _ => ?_, fun z => (z (nI_le (by omega) (by omega))).elim⟩
    cases f : gr R S b w P I c (R * S) with
    | none =>
      refine ⟨fun z => absurd rfl z, fun _ => ?_⟩
      exact zs_90_83 (by decide) (by decide) (by rw [zr_cat_0]; decide) (h0 f)
    | some a =>
      have l := gr_lt _ a f
      have nm : ¬ nI a.1 = -1 := (by decide +kernel : ∀ j, j < 64 → ¬ nI j = -1) a.1 (by omega)
      exact ⟨fun _ => h1 a f, fun z => absurd z nm⟩
  | succ t ih =>
    intro k hk x5
    simp only [zs_90_0, zs_90_1, zt_90_1, zs_90_4, zs_90_5, zs_90_6, zs_90_7, zs_90_8, zs_90_9, zs_90_11, zs_90_13, zs_90_13u, zs_90_14, zs_90_17, zs_90_20, zs_90_23, zs_90_26, zs_90_29, zs_90_29u, zs_90_30, zs_90_33, zs_90_35, zs_90_36, zt_90_36, zs_90_39, zs_90_42, zs_90_42u, zs_90_43, zs_90_46, zs_90_49, zs_90_51, zs_90_52, zt_90_52, zs_90_55, zt_90_55, zs_90_58, zs_90_60, zs_90_62, zs_90_63, zs_90_66, zs_90_68, zs_90_69, zs_90_71, zs_90_75, zs_90_78, zs_90_79, zs_90_80, zs_90_93, zs_90_94, zc_isO, zr_fld_mk, zc_isA, zc_len, zr_elt_mk, zr_kill_i, zr_kill_l, zr_kill_r, zr_kill_u, zr_kill_f, zr_kill_n, zc_cat, zr_cat_i, zr_cat_l, zr_cat_r, zr_cat_f, zr_cat_d, zr_cat_u, beq_self_eq_true, Nat.zero_le, Nat.le_refl, Nat.reduceSub, Nat.reduceAdd, Nat.reduceLeDiff, csl_f, csr_f, cn_f, lg_cmp_eq, lg_cmp_le, lg_cmp_lt, lg_cmp_ge, lg_cmp_gt, nI_1, zr_up_self, zp_O, zr_fup_self, zr_fup_ne, ne_eq, Nat.reduceEqDiff, not_false_eq_true, pk_mul, hX, zx_I, zx_0, hM, zm_I, zm_0, hB, zb_O, zb_0, hG, zg_O, zg_2]
    refine ⟨fun z => absurd z (nI_ge (by omega) (by omega)), fun _ => ?_⟩
    refine k_ref v (by omega) hc ?_
    have hr := rf_lt (R := R) (S := S) (b := b) (w := w) (P := P) (I := I) (p := k) (c := c)
    simp only [zs_90_0, zs_90_1, zt_90_1, zs_90_4, zs_90_5, zs_90_6, zs_90_7, zs_90_8, zs_90_9, zs_90_11, zs_90_13, zs_90_13u, zs_90_14, zs_90_17, zs_90_20, zs_90_23, zs_90_26, zs_90_29, zs_90_29u, zs_90_30, zs_90_33, zs_90_35, zs_90_36, zt_90_36, zs_90_39, zs_90_42, zs_90_42u, zs_90_43, zs_90_46, zs_90_49, zs_90_51, zs_90_52, zt_90_52, zs_90_55, zt_90_55, zs_90_58, zs_90_60, zs_90_62, zs_90_63, zs_90_66, zs_90_68, zs_90_69, zs_90_71, zs_90_75, zs_90_78, zs_90_79, zs_90_80, zs_90_93, zs_90_94, zc_isO, zr_fld_mk, zc_isA, zc_len, zr_elt_mk, zr_kill_i, zr_kill_l, zr_kill_r, zr_kill_u, zr_kill_f, zr_kill_n, zc_cat, zr_cat_i, zr_cat_l, zr_cat_r, zr_cat_f, zr_cat_d, zr_cat_u, beq_self_eq_true, Nat.zero_le, Nat.le_refl, Nat.reduceSub, Nat.reduceAdd, Nat.reduceLeDiff, csl_f, csr_f, cn_f, lg_cmp_eq, lg_cmp_le, lg_cmp_lt, lg_cmp_ge, lg_cmp_gt, nI_1, zr_up_self, zp_O, zr_fup_self, zr_fup_ne, ne_eq, Nat.reduceEqDiff, not_false_eq_true, pk_mul, hX, zx_I, zx_0, hM, zm_I, zm_0, hB, zb_O]
    rw [nI_eq0 (by omega)]
    have nx := fun y5 => ih (k + 1) (by omega) y5
    refine ⟨fun z => ?_, fun z => ?_⟩
    · have nx := nx x5
      rw [gr_n (show grB R S b w P I c (gr R S b w P I c k) k = false by unfold grB; rw [decide_eq_false z, Bool.false_and])] at nx
      simp only [zs_90_0, zs_90_1, zt_90_1, zs_90_4, zs_90_5, zs_90_6, zs_90_7, zs_90_8, zs_90_9, zs_90_13, zs_90_13u, zs_90_14, zs_90_17, zs_90_20, zs_90_23, zs_90_26, zs_90_29, zs_90_29u, zs_90_30, zs_90_33, zs_90_35, zs_90_36, zt_90_36, zs_90_39, zs_90_42, zs_90_42u, zs_90_43, zs_90_46, zs_90_49, zs_90_51, zs_90_52, zt_90_52, zs_90_55, zt_90_55, zs_90_58, zs_90_60, zs_90_62, zs_90_63, zs_90_66, zs_90_68, zs_90_69, zs_90_71, zs_90_72, zs_90_75, zs_90_78, zs_90_79, zs_90_80, zs_90_93, zs_90_94, zc_isO, zr_fld_mk, zc_isA, zc_len, zr_elt_mk, zr_kill_i, zr_kill_l, zr_kill_r, zr_kill_u, zr_kill_f, zr_kill_n, zc_cat, zr_cat_i, zr_cat_l, zr_cat_r, zr_cat_f, zr_cat_d, zr_cat_u, beq_self_eq_true, Nat.zero_le, Nat.le_refl, Nat.reduceSub, Nat.reduceAdd, Nat.reduceLeDiff, csl_f, csr_f, cn_f, lg_cmp_eq, lg_cmp_le, lg_cmp_lt, lg_cmp_ge, lg_cmp_gt, nI_1, zr_up_self, zp_O, zr_fup_self, zr_fup_ne, ne_eq, Nat.reduceEqDiff, not_false_eq_true, pk_mul]
      exact nx
    · refine k_cb hg hB hG hc ?_
      simp only [zs_90_0, zs_90_1, zt_90_1, zs_90_4, zs_90_5, zs_90_6, zs_90_7, zs_90_8, zs_90_9, zs_90_11, zs_90_13, zs_90_13u, zs_90_14, zs_90_17, zs_90_20, zs_90_23, zs_90_26, zs_90_29, zs_90_29u, zs_90_30, zs_90_33, zs_90_35, zs_90_36, zt_90_36, zs_90_39, zs_90_42, zs_90_42u, zs_90_43, zs_90_46, zs_90_49, zs_90_51, zs_90_52, zt_90_52, zs_90_55, zt_90_55, zs_90_58, zs_90_60, zs_90_62, zs_90_63, zs_90_66, zs_90_68, zs_90_69, zs_90_71, zs_90_75, zs_90_78, zs_90_79, zs_90_80, zs_90_93, zs_90_94, zc_isO, zr_fld_mk, zc_isA, zc_len, zr_elt_mk, zr_kill_i, zr_kill_l, zr_kill_r, zr_kill_u, zr_kill_f, zr_kill_n, zc_cat, zr_cat_i, zr_cat_l, zr_cat_r, zr_cat_f, zr_cat_d, zr_cat_u, beq_self_eq_true, Nat.zero_le, Nat.le_refl, Nat.reduceSub, Nat.reduceAdd, Nat.reduceLeDiff, csl_f, csr_f, cn_f, lg_cmp_eq, lg_cmp_le, lg_cmp_lt, lg_cmp_ge, lg_cmp_gt, nI_1, zr_up_self, zp_O, zr_fup_self, zr_fup_ne, ne_eq, Nat.reduceEqDiff, not_false_eq_true, pk_mul, hX, zx_I, zx_0, hM, zm_I, zm_0, hB, zb_O]
      refine k_bits ?_
      simp only [zs_90_0, zs_90_1, zt_90_1, zs_90_4, zs_90_5, zs_90_6, zs_90_7, zs_90_8, zs_90_9, zs_90_11, zs_90_13, zs_90_13u, zs_90_14, zs_90_17, zs_90_20, zs_90_23, zs_90_26, zs_90_29, zs_90_29u, zs_90_30, zs_90_33, zs_90_35, zs_90_36, zt_90_36, zs_90_39, zs_90_42, zs_90_42u, zs_90_43, zs_90_46, zs_90_49, zs_90_51, zs_90_52, zt_90_52, zs_90_55, zt_90_55, zs_90_58, zs_90_60, zs_90_62, zs_90_63, zs_90_68, zs_90_69, zs_90_71, zs_90_75, zs_90_78, zs_90_79, zs_90_80, zs_90_93, zs_90_94, zc_isO, zr_fld_mk, zc_isA, zc_len, zr_elt_mk, zr_kill_i, zr_kill_l, zr_kill_r, zr_kill_u, zr_kill_f, zr_kill_n, zc_cat, zr_cat_i, zr_cat_l, zr_cat_r, zr_cat_f, zr_cat_d, zr_cat_u, beq_self_eq_true, Nat.zero_le, Nat.le_refl, Nat.reduceSub, Nat.reduceAdd, Nat.reduceLeDiff, csl_f, csr_f, cn_f, lg_cmp_eq, lg_cmp_le, lg_cmp_lt, lg_cmp_ge, lg_cmp_gt, nI_1, zr_up_self, zp_O, zr_fup_self, zr_fup_ne, ne_eq, Nat.reduceEqDiff, not_false_eq_true, pk_mul]
      have nx := nx (some (.int (nI (ct (cb R S b w k c)))))
      have l1 := ct_le (cb R S b w k c)
      refine ⟨fun y => ?_, fun y => ?_⟩
      · have gf : grB R S b w P I c (gr R S b w P I c k) k = false := by
          unfold grB
          cases f : gr R S b w P I c k with
          | none =>
            rw [f] at y
            exact absurd y ((by decide +kernel : ∀ j, j < 65 → ¬ nI j ≤ -1) (ct (cb R S b w k c)) (by omega))
          | some a =>
            rw [f] at y
            have l := gr_lt _ a f
            have := (nI_leI (by omega) (by omega)).mp y
            simp only []
            rw [decide_eq_false (by omega : ¬ a.2 < ct (cb R S b w k c)), Bool.and_false]
        rw [gr_n gf] at nx
        simp only [zs_90_0, zs_90_1, zt_90_1, zs_90_4, zs_90_5, zs_90_6, zs_90_7, zs_90_8, zs_90_9, zs_90_13, zs_90_13u, zs_90_14, zs_90_17, zs_90_20, zs_90_23, zs_90_26, zs_90_29, zs_90_29u, zs_90_30, zs_90_33, zs_90_35, zs_90_36, zt_90_36, zs_90_39, zs_90_42, zs_90_42u, zs_90_43, zs_90_46, zs_90_49, zs_90_51, zs_90_52, zt_90_52, zs_90_55, zt_90_55, zs_90_58, zs_90_60, zs_90_62, zs_90_63, zs_90_66, zs_90_68, zs_90_69, zs_90_71, zs_90_72, zs_90_75, zs_90_78, zs_90_79, zs_90_80, zs_90_93, zs_90_94, zc_isO, zr_fld_mk, zc_isA, zc_len, zr_elt_mk, zr_kill_i, zr_kill_l, zr_kill_r, zr_kill_u, zr_kill_f, zr_kill_n, zc_cat, zr_cat_i, zr_cat_l, zr_cat_r, zr_cat_f, zr_cat_d, zr_cat_u, beq_self_eq_true, Nat.zero_le, Nat.le_refl, Nat.reduceSub, Nat.reduceAdd, Nat.reduceLeDiff, csl_f, csr_f, cn_f, lg_cmp_eq, lg_cmp_le, lg_cmp_lt, lg_cmp_ge, lg_cmp_gt, nI_1, zr_up_self, zp_O, zr_fup_self, zr_fup_ne, ne_eq, Nat.reduceEqDiff, not_false_eq_true, pk_mul]
        exact nx
      · have gt : grB R S b w P I c (gr R S b w P I c k) k = true := by
          unfold grB
          rw [decide_eq_true z, Bool.true_and]
          cases f : gr R S b w P I c k with
          | none => rfl
          | some a =>
            rw [f] at y
            have l := gr_lt _ a f
            have : ¬ ct (cb R S b w k c) ≤ a.2 := fun q => y (nI_le q (by omega))
            simp only []
            exact decide_eq_true (by omega)
        rw [gr_y gt] at nx
        simp only [zs_90_0, zs_90_1, zt_90_1, zs_90_4, zs_90_5, zs_90_6, zs_90_7, zs_90_8, zs_90_9, zs_90_13, zs_90_13u, zs_90_14, zs_90_17, zs_90_20, zs_90_23, zs_90_26, zs_90_29, zs_90_29u, zs_90_30, zs_90_33, zs_90_35, zs_90_36, zt_90_36, zs_90_39, zs_90_42, zs_90_42u, zs_90_43, zs_90_46, zs_90_49, zs_90_51, zs_90_52, zt_90_52, zs_90_55, zt_90_55, zs_90_58, zs_90_60, zs_90_62, zs_90_63, zs_90_66, zs_90_68, zs_90_69, zs_90_71, zs_90_72, zs_90_75, zs_90_78, zs_90_79, zs_90_80, zs_90_93, zs_90_94, zc_isO, zr_fld_mk, zc_isA, zc_len, zr_elt_mk, zr_kill_i, zr_kill_l, zr_kill_r, zr_kill_u, zr_kill_f, zr_kill_n, zc_cat, zr_cat_i, zr_cat_l, zr_cat_r, zr_cat_f, zr_cat_d, zr_cat_u, beq_self_eq_true, Nat.zero_le, Nat.le_refl, Nat.reduceSub, Nat.reduceAdd, Nat.reduceLeDiff, csl_f, csr_f, cn_f, lg_cmp_eq, lg_cmp_le, lg_cmp_lt, lg_cmp_ge, lg_cmp_gt, nI_1, zr_up_self, zp_O, zr_fup_self, zr_fup_ne, ne_eq, Nat.reduceEqDiff, not_false_eq_true, pk_mul]
        exact nx
theorem k_greed (hX : h x = some (zxs (A 0) ea sl rd wr u l)) (v : vM h A R S b w P I g) {y : Int32} (hQ : Q (oc (rxGreed R S b w P I y)) h) : zr_E (d + 7) 90 [.ref x, .int y] h Q := by
  unfold rxGreed at hQ
  rw [ze_90]
  simp only [zs_90_0, zs_90_1, zt_90_1, zs_90_4, zs_90_5, zs_90_6, zs_90_7, zs_90_8, zs_90_9, zs_90_13, zs_90_13u, zs_90_14, zs_90_17, zs_90_20, zs_90_23, zs_90_26, zs_90_29, zs_90_29u, zs_90_30, zs_90_33, zs_90_35, zs_90_36, zt_90_36, zs_90_39, zs_90_42, zs_90_42u, zs_90_43, zs_90_46, zs_90_49, zs_90_51, zs_90_52, zt_90_52, zs_90_55, zt_90_55, zs_90_58, zs_90_60, zs_90_62, zs_90_63, zs_90_66, zs_90_68, zs_90_69, zs_90_71, zs_90_72, zs_90_75, zs_90_78, zs_90_79, zs_90_80, zs_90_93, zs_90_94, zc_isO, zr_fld_mk, zc_isA, zc_len, zr_elt_mk, zr_kill_i, zr_kill_l, zr_kill_r, zr_kill_u, zr_kill_f, zr_kill_n, zc_cat, zr_cat_i, zr_cat_l, zr_cat_r, zr_cat_f, zr_cat_d, zr_cat_u, beq_self_eq_true, Nat.zero_le, Nat.le_refl, Nat.reduceSub, Nat.reduceAdd, Nat.reduceLeDiff, csl_f, csr_f, cn_f, lg_cmp_eq, lg_cmp_le, lg_cmp_lt, lg_cmp_ge, lg_cmp_gt, nI_1, zr_up_self, zp_O, zr_fup_self, zr_fup_ne, ne_eq, Nat.reduceEqDiff, not_false_eq_true, pk_mul, hX, zx_I]
  refine k_col (fun e => ?_) (fun e => ?_)
  · obtain ⟨c, hc, e⟩ := col_nI e
    subst e
    rw [clq_s hc] at hQ
    simp only [zs_90_0, zs_90_1, zt_90_1, zs_90_4, zs_90_5, zs_90_6, zs_90_7, zs_90_8, zs_90_9, zs_90_13, zs_90_13u, zs_90_14, zs_90_17, zs_90_20, zs_90_23, zs_90_26, zs_90_29, zs_90_29u, zs_90_30, zs_90_33, zs_90_35, zs_90_36, zt_90_36, zs_90_39, zs_90_42, zs_90_42u, zs_90_43, zs_90_46, zs_90_49, zs_90_51, zs_90_52, zt_90_52, zs_90_55, zt_90_55, zs_90_58, zs_90_60, zs_90_62, zs_90_63, zs_90_66, zs_90_68, zs_90_69, zs_90_71, zs_90_72, zs_90_75, zs_90_78, zs_90_79, zs_90_80, zs_90_93, zs_90_94, zc_isO, zr_fld_mk, zc_isA, zc_len, zr_elt_mk, zr_kill_i, zr_kill_l, zr_kill_r, zr_kill_u, zr_kill_f, zr_kill_n, zc_cat, zr_cat_i, zr_cat_l, zr_cat_r, zr_cat_f, zr_cat_d, zr_cat_u, beq_self_eq_true, Nat.zero_le, Nat.le_refl, Nat.reduceSub, Nat.reduceAdd, Nat.reduceLeDiff, csl_f, csr_f, cn_f, lg_cmp_eq, lg_cmp_le, lg_cmp_lt, lg_cmp_ge, lg_cmp_gt, nI_1, zr_up_self, zp_O, zr_fup_self, zr_fup_ne, ne_eq, Nat.reduceEqDiff, not_false_eq_true, pk_mul]
    refine k_greed_ hX v (by omega) (fun a f => ?_) (fun f => ?_) (R * S) 0 (Nat.zero_add _) _
    · have hQ : Q (oc (match gr R S b w P I c (R * S) with | none => .inr 3 | some a => .inl (nI a.1))) h := hQ
      rw [f] at hQ; exact hQ
    · have hQ : Q (oc (match gr R S b w P I c (R * S) with | none => .inr 3 | some a => .inl (nI a.1))) h := hQ
      rw [f] at hQ; exact hQ
  · rw [clq_n e] at hQ
    rw [zk_thr zf_hh_90]
    exact hQ
end FACE
