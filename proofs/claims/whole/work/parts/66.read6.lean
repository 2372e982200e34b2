/-! THE READER: rows, the whole text -/
def pr (s s2 : rst) : Prop := s2.2.1 4 = s.2.1 4 ∧ s2.2.1 5 = s.2.1 5
theorem pr_r (s : rst) : pr s s := ⟨rfl, rfl⟩
theorem pr_t {s s2 s3 : rst} (a : pr s s2) (b : pr s2 s3) : pr s s3 := ⟨b.1.trans a.1, b.2.trans a.2⟩
theorem pr_A (s : rst) (a : Nat) : pr s (sAt s a) := ⟨rfl, rfl⟩
theorem pr_E (s : rst) (c : Int32) (a : Nat) : pr s (sEr s c a) := ⟨rfl, rfl⟩
theorem pr_S (s : rst) {k : Nat} (c : Int32) (h4 : k ≠ 4) (h5 : k ≠ 5) : pr s (sSet s k c) := ⟨fI_n _ _ (Ne.symm h4), fI_n _ _ (Ne.symm h5)⟩
section READER
variable {n : Nat} {f : Nat → Int32} {W : List Int32} {s : rst}
theorem pr_word : pr s (fWord f n W s).2 := by unfold fWord; split <;> exact pr_A _ _
theorem pr_semi : pr s (fSemi f n s).2 := by unfold fSemi; split; exact pr_A _ _; exact pr_t (pr_A _ _) (pr_E _ _ _)
theorem pr_num {lo hi : Int32} : pr s (fNum f n lo hi s).2 := by
  unfold fNum
  split
  · exact pr_t (pr_A _ _) (pr_E _ _ _)
  · split
    · exact pr_A _ _
    · exact pr_t (pr_A _ _) (pr_E _ _ _)
theorem pr_orE {r : Bool × rst} (h : pr s r.2) : pr s (orE r).2 := by unfold orE; split; exact h; exact pr_t h (pr_E _ _ _)
theorem pr_orV {r : Bool × rst} {m : Nat} (h : pr s r.2) : pr s (orV r m).2 := by unfold orV; split; exact h; exact pr_t h (pr_E _ _ _)
theorem pr_and {r : Bool × rst} {g : rst → Bool × rst} (h : pr s r.2) (hg : ∀ s2, pr s2 (g s2).2) : pr s (andT r g).2 := by unfold andT; split; exact pr_t h (hg _); exact h
theorem pr_numS {k : Nat} {lo hi : Int32} (h4 : k ≠ 4) (h5 : k ≠ 5) : pr s (numS f n k lo hi s).2 := pr_t pr_num (pr_S _ _ h4 h5)
theorem pr_turn : pr s (fTurn f n s).2 := by
  unfold fTurn
  split
  · exact pr_t pr_word (pr_S _ _ (by omega) (by omega))
  · exact pr_orE (pr_t (pr_t pr_word (pr_S _ _ (by omega) (by omega))) pr_word)
theorem pr_opts (t : Nat) : ∀ s, pr s (fOpts f n t s).2 := by
  induction t with
  | zero => intro s; exact pr_r s
  | succ t ih =>
    intro s
    unfold fOpts
    have p1 := pr_word (f := f) (n := n) (W := wRule) (s := s)
    generalize fWord f n wRule s = r1 at *
    have p2 := pr_t p1 (pr_word (f := f) (n := n) (W := wBonus) (s := r1.2))
    generalize fWord f n wBonus r1.2 = r2 at *
    have p3 := pr_t p2 (pr_word (f := f) (n := n) (W := wTurn) (s := r2.2))
    generalize fWord f n wTurn r2.2 = r3 at *
    split
    · have p4 := pr_t p1 (pr_numS (f := f) (n := n) (k := 8) (lo := 0) (hi := 1) (s := r1.2) (by omega) (by omega))
      generalize numS f n 8 0 1 r1.2 = r4 at *
      exact pr_and (pr_and p4 (fun s2 => pr_semi)) ih
    · split
      · have p4 := pr_t p2 (pr_numS (f := f) (n := n) (k := 9) (lo := 0) (hi := 99) (s := r2.2) (by omega) (by omega))
        generalize numS f n 9 0 99 r2.2 = r4 at *
        exact pr_and (pr_and p4 (fun s2 => pr_semi)) ih
      · split
        · have p4 := pr_t p3 (pr_turn (f := f) (n := n) (s := r3.2))
          generalize fTurn f n r3.2 = r4 at *
          exact pr_and (pr_and p4 (fun s2 => pr_semi)) ih
        · exact p3
theorem pr_put {c : Int32} {m : Int64} : pr s (fPut c m s).2 := by
  have := (fPut_1 (s := s) (c := c) (m := m)).2
  exact ⟨by rw [this], by rw [this]⟩
theorem pr_lets {m p : Nat} (t : Nat) : ∀ i s, pr s (fLets f n m p t i s).2 := by
  induction t with
  | zero => intro i s; exact pr_r s
  | succ t ih => intro i s; unfold fLets; exact pr_and (pr_orV pr_put) (ih (i + 1))
theorem pr_let {S p : Nat} : pr s (fLet f n S p s).2 := by
  unfold fLet
  split
  · exact pr_t (pr_A _ _) (pr_E _ _ _)
  · split
    · exact pr_t (pr_A _ _) (pr_E _ _ _)
    · exact pr_and (pr_t (pr_A _ _) (pr_lets _ _ _)) (fun s2 => pr_A _ _)
theorem num_rng {lo hi : Int32} (e : ¬ (fNum f n lo hi s).1 = -1) : lo ≤ (fNum f n lo hi s).1 ∧ (fNum f n lo hi s).1 ≤ hi := by
  unfold fNum at e ⊢
  split
  · next c => rw [if_pos c] at e; exact (e rfl).elim
  · next c =>
    rw [if_neg c] at e
    split
    · next c2 => exact c2
    · next c2 => rw [if_neg c2] at e; exact (e rfl).elim
theorem sml_n {lo hi : Nat} {x : Int32} (hl : lo ≤ 12) (hh : hi ≤ 12) (h1 : nI lo ≤ x) (h2 : x ≤ nI hi) : ∃ k, lo ≤ k ∧ k ≤ hi ∧ x = nI k := by
  rw [Int32.le_iff_toInt_le, nI_toInt (by omega)] at h1 h2
  obtain ⟨k, hk, e⟩ := nI_of (x := x) (fun y => by
    rw [Int32.lt_iff_toInt_lt] at y
    have : (0 : Int32).toInt = 0 := rfl
    omega)
  subst e
  rw [nI_toInt (by omega)] at h1 h2
  exact ⟨k, by omega, by omega, rfl⟩
theorem size_RS (h : (fSize f n s).1 = true) : ∃ R S, vG R S ∧ (fSize f n s).2.2.1 4 = nI R ∧ (fSize f n s).2.2.1 5 = nI S := by
  unfold fSize at h ⊢
  rcases tf_c (orE (fWord f n wBoard s)).1 with z | z
  · rw [andT_t z] at h ⊢
    generalize (orE (fWord f n wBoard s)).2 = s1 at *
    rw [show numS f n 4 1 5 s1 = (decide (¬ (fNum f n 1 5 s1).1 = -1), sSet (fNum f n 1 5 s1).2 4 (fNum f n 1 5 s1).1) from rfl] at h ⊢
    have r1 := num_rng (f := f) (n := n) (lo := 1) (hi := 5) (s := s1)
    generalize fNum f n 1 5 s1 = x1 at *
    have q4 : (sSet x1.2 4 x1.1).2.1 4 = x1.1 := by show fI x1.2.2.1 4 x1.1 4 = x1.1; rw [fI_s]
    generalize sSet x1.2 4 x1.1 = s2 at *
    rcases tf_c (decide (¬ x1.1 = -1)) with z2 | z2
    · rw [andT_t (by exact z2)] at h ⊢
      change (andT (decide (¬ (fNum f n 3 12 s2).1 = -1), sSet (fNum f n 3 12 s2).2 5 (fNum f n 3 12 s2).1) (fSemi f n)).1 = true at h
      show ∃ R S, vG R S ∧ (andT (decide (¬ (fNum f n 3 12 s2).1 = -1), sSet (fNum f n 3 12 s2).2 5 (fNum f n 3 12 s2).1) (fSemi f n)).2.2.1 4 = nI R ∧ (andT (decide (¬ (fNum f n 3 12 s2).1 = -1), sSet (fNum f n 3 12 s2).2 5 (fNum f n 3 12 s2).1) (fSemi f n)).2.2.1 5 = nI S
      have r2 := num_rng (f := f) (n := n) (lo := 3) (hi := 12) (s := s2)
      have p2 := pr_num (f := f) (n := n) (lo := 3) (hi := 12) (s := s2)
      generalize fNum f n 3 12 s2 = x2 at *
      have q5 : (sSet x2.2 5 x2.1).2.1 5 = x2.1 := by show fI x2.2.2.1 5 x2.1 5 = x2.1; rw [fI_s]
      have q6 : (sSet x2.2 5 x2.1).2.1 4 = x2.2.2.1 4 := by show fI x2.2.2.1 5 x2.1 4 = x2.2.2.1 4; rw [fI_n _ _ (by omega)]
      generalize sSet x2.2 5 x2.1 = s3 at *
      rcases tf_c (decide (¬ x2.1 = -1)) with z3 | z3
      · rw [andT_t (by exact z3)] at h ⊢
        have r1 := r1 (of_decide_eq_true z2)
        have r2 := r2 (of_decide_eq_true z3)
        obtain ⟨R, a1, a2, a3⟩ := sml_n (lo := 1) (hi := 5) (by omega) (by omega) r1.1 r1.2
        obtain ⟨S, b1, b2, b3⟩ := sml_n (lo := 3) (hi := 12) (by omega) (by omega) r2.1 r2.2
        have p6 := pr_semi (f := f) (n := n) (s := s3)
        refine ⟨R, S, ⟨⟨a1, a2⟩, b1, b2⟩, ?_, ?_⟩
        · rw [p6.1, q6, p2.1, q4, a3]
        · rw [p6.2, q5, b3]
      · rw [andT_f (by exact z3)] at h
        have h : decide (¬ x2.1 = -1) = true := h
        rw [h] at z3
        cases z3
    · rw [andT_f (by exact z2)] at h
      have h : decide (¬ x1.1 = -1) = true := h
      rw [h] at z2
      cases z2
  · rw [andT_f z] at h
    rw [h] at z
    cases z
end READER
section READER
variable {d : Nat} {h : zr_H} {Q : zr_K} {rd tx gr n a : Nat} {f : Nat → Int32} {W : List Int32} {q : Nat} {s : rst}
theorem k_rows {R S : Nat} (v : rT h rd tx gr f n s) (h4 : s.2.1 4 = nI R) (h5 : s.2.1 5 = nI S) (hg : vG R S) (hQ : rQ h rd tx gr f n Q (fRows f n S R 0 s)) : zr_E (d + 6) 60 [.ref rd] h Q := by
  have hl := g_lt hg
  have hRS := g_n hg
  have key : ∀ t r s h, r + t = R → rT h rd tx gr f n s → s.2.1 4 = nI R → s.2.1 5 = nI S → rQ h rd tx gr f n Q (fRows f n S t r s) → zr_Z (d + 5) 60 Q 2 [some (.ref rd), some (.int (nI r))] [] h 0 0 := by
    intro t
    induction t with
    | zero =>
      intro r s h hi v h4 h5 hQ
      simp only [zs_60_0, zs_60_1, zs_60_2, zs_60_3, zs_60_3u, zs_60_4, zs_60_7, zs_60_11, zs_60_13, zt_60_13, zs_60_16, zs_60_19, zs_60_19u, zs_60_20, zs_60_22, zs_60_22u, zs_60_23, zs_60_26, zt_60_26, zs_60_29_0, zs_60_29_1, zs_60_29, zs_60_30, zs_60_30u, zs_60_31, zs_60_31u, zs_60_32, zs_60_35, zs_60_36, zs_60_37, zt_60_37, zs_60_40, zs_60_43, zs_60_43u, zs_60_44, zt_60_44, zs_60_47, zs_60_50, zs_60_51_0, zs_60_51_1, zs_60_51, zs_60_52, zs_60_55, zs_60_58, zs_60_59_0, zs_60_59_1, zs_60_59, zc_isO, zr_fld_mk, zc_isA, zc_len, zr_elt_mk, zr_kill_i, zr_kill_l, zr_kill_r, zr_kill_u, zr_kill_f, zr_kill_n, zc_cat, zr_cat_i, zr_cat_l, zr_cat_r, zr_cat_f, zr_cat_d, zr_cat_u, beq_self_eq_true, Nat.zero_le, Nat.le_refl, Nat.reduceSub, Nat.reduceAdd, Nat.reduceLeDiff, csl_f, csr_f, cn_f, lg_cmp_eq, lg_cmp_le, lg_cmp_lt, lg_cmp_ge, lg_cmp_gt, nI_1, zr_up_self, zp_O, zr_fup_self, zr_fup_ne, ne_eq, Nat.reduceEqDiff, not_false_eq_true, pk_mul, v.1, zt_I, zt_f4, h4]
      refine ⟨fun _ => ?_, fun z => (z (nI_le (by omega) (by omega))).elim⟩
      exact rQ_id v hQ
    | succ t ih =>
      intro r s h hi v h4 h5 hQ
      simp only [zs_60_0, zs_60_1, zs_60_2, zs_60_3, zs_60_3u, zs_60_4, zs_60_7, zs_60_11, zs_60_13, zt_60_13, zs_60_16, zs_60_19, zs_60_19u, zs_60_20, zs_60_22, zs_60_22u, zs_60_23, zs_60_26, zt_60_26, zs_60_29_0, zs_60_29_1, zs_60_29, zs_60_30, zs_60_30u, zs_60_31, zs_60_31u, zs_60_32, zs_60_35, zs_60_36, zs_60_37, zt_60_37, zs_60_40, zs_60_43, zs_60_43u, zs_60_44, zt_60_44, zs_60_47, zs_60_50, zs_60_51_0, zs_60_51_1, zs_60_51, zs_60_52, zs_60_55, zs_60_58, zs_60_59_0, zs_60_59_1, zs_60_59, zc_isO, zr_fld_mk, zc_isA, zc_len, zr_elt_mk, zr_kill_i, zr_kill_l, zr_kill_r, zr_kill_u, zr_kill_f, zr_kill_n, zc_cat, zr_cat_i, zr_cat_l, zr_cat_r, zr_cat_f, zr_cat_d, zr_cat_u, beq_self_eq_true, Nat.zero_le, Nat.le_refl, Nat.reduceSub, Nat.reduceAdd, Nat.reduceLeDiff, csl_f, csr_f, cn_f, lg_cmp_eq, lg_cmp_le, lg_cmp_lt, lg_cmp_ge, lg_cmp_gt, nI_1, zr_up_self, zp_O, zr_fup_self, zr_fup_ne, ne_eq, Nat.reduceEqDiff, not_false_eq_true, pk_mul, v.1, zt_I, zt_f4, h4]
      refine ⟨fun z => absurd z (nI_ge (by omega) (by omega)), fun _ => ?_⟩
      simp only [zs_60_0, zs_60_1, zs_60_2, zs_60_3, zs_60_3u, zs_60_4, zs_60_7, zs_60_10, zs_60_10u, zs_60_11, zs_60_13, zt_60_13, zs_60_19, zs_60_19u, zs_60_20, zs_60_22, zs_60_22u, zs_60_23, zs_60_26, zt_60_26, zs_60_29_0, zs_60_29_1, zs_60_29, zs_60_30, zs_60_30u, zs_60_31, zs_60_31u, zs_60_32, zs_60_35, zs_60_36, zs_60_37, zt_60_37, zs_60_40, zs_60_43, zs_60_43u, zs_60_44, zt_60_44, zs_60_47, zs_60_50, zs_60_51_0, zs_60_51_1, zs_60_51, zs_60_52, zs_60_55, zs_60_58, zs_60_59_0, zs_60_59_1, zs_60_59, zc_isO, zr_fld_mk, zc_isA, zc_len, zr_elt_mk, zr_kill_i, zr_kill_l, zr_kill_r, zr_kill_u, zr_kill_f, zr_kill_n, zc_cat, zr_cat_i, zr_cat_l, zr_cat_r, zr_cat_f, zr_cat_d, zr_cat_u, beq_self_eq_true, Nat.zero_le, Nat.le_refl, Nat.reduceSub, Nat.reduceAdd, Nat.reduceLeDiff, csl_f, csr_f, cn_f, lg_cmp_eq, lg_cmp_le, lg_cmp_lt, lg_cmp_ge, lg_cmp_gt, nI_1, zr_up_self, zp_O, zr_fup_self, zr_fup_ne, ne_eq, Nat.reduceEqDiff, not_false_eq_true, pk_mul, v.1, zt_I]
      intro q hs
      refine k_wq (d := d) v (ws_row hs) ok_row (fun v1 => ?_)
      unfold fRows at hQ
      have p1 := pr_word (f := f) (n := n) (W := wRow) (s := s)
      generalize fWord f n wRow s = r1 at *
      have hQ := rQ_on (c := zrs tx gr r1.2) hQ
      generalize zr_up h rd (zrs tx gr r1.2) = h1 at *
      have h51 : r1.2.2.1 5 = nI S := by rw [p1.2, h5]
      simp only [zs_60_0, zs_60_1, zs_60_2, zs_60_3, zs_60_3u, zs_60_4, zs_60_7, zs_60_10, zs_60_10u, zs_60_11, zs_60_13, zt_60_13, zs_60_16, zs_60_20, zs_60_22, zs_60_22u, zs_60_23, zs_60_26, zt_60_26, zs_60_29_0, zs_60_29_1, zs_60_29, zs_60_31, zs_60_31u, zs_60_32, zs_60_35, zs_60_36, zs_60_37, zt_60_37, zs_60_40, zs_60_43, zs_60_43u, zs_60_44, zt_60_44, zs_60_47, zs_60_50, zs_60_51_0, zs_60_51_1, zs_60_51, zs_60_52, zs_60_55, zs_60_58, zs_60_59_0, zs_60_59_1, zs_60_59, zc_isO, zr_fld_mk, zc_isA, zc_len, zr_elt_mk, zr_kill_i, zr_kill_l, zr_kill_r, zr_kill_u, zr_kill_f, zr_kill_n, zc_cat, zr_cat_i, zr_cat_l, zr_cat_r, zr_cat_f, zr_cat_d, zr_cat_u, beq_self_eq_true, Nat.zero_le, Nat.le_refl, Nat.reduceSub, Nat.reduceAdd, Nat.reduceLeDiff, csl_f, csr_f, cn_f, lg_cmp_eq, lg_cmp_le, lg_cmp_lt, lg_cmp_ge, lg_cmp_gt, nI_1, zr_up_self, zp_O, zr_fup_self, zr_fup_ne, ne_eq, Nat.reduceEqDiff, not_false_eq_true, pk_mul]
      rcases tf_c r1.1 with z | z
      · rw [orE_t z, andT_t z] at hQ
        rw [z]
        refine ⟨fun _ => ?_, fun y => absurd y (by decide)⟩
        have hp : S * r + S ≤ 60 := by
          have : S * (r + 1) ≤ S * R := Nat.mul_le_mul_left S (by omega)
          rw [Nat.mul_add, Nat.mul_one, Nat.mul_comm S R] at this
          omega
        simp only [zs_60_0, zs_60_1, zs_60_2, zs_60_3, zs_60_3u, zs_60_4, zs_60_7, zs_60_10, zs_60_10u, zs_60_11, zs_60_13, zt_60_13, zs_60_16, zs_60_19, zs_60_19u, zs_60_20, zs_60_22, zs_60_22u, zs_60_23, zs_60_26, zt_60_26, zs_60_29_0, zs_60_29_1, zs_60_29, zs_60_30, zs_60_30u, zs_60_31, zs_60_31u, zs_60_32, zs_60_35, zs_60_36, zs_60_37, zt_60_37, zs_60_43, zs_60_43u, zs_60_44, zt_60_44, zs_60_47, zs_60_50, zs_60_51_0, zs_60_51_1, zs_60_51, zs_60_52, zs_60_55, zs_60_58, zs_60_59_0, zs_60_59_1, zs_60_59, zc_isO, zr_fld_mk, zc_isA, zc_len, zr_elt_mk, zr_kill_i, zr_kill_l, zr_kill_r, zr_kill_u, zr_kill_f, zr_kill_n, zc_cat, zr_cat_i, zr_cat_l, zr_cat_r, zr_cat_f, zr_cat_d, zr_cat_u, beq_self_eq_true, Nat.zero_le, Nat.le_refl, Nat.reduceSub, Nat.reduceAdd, Nat.reduceLeDiff, csl_f, csr_f, cn_f, lg_cmp_eq, lg_cmp_le, lg_cmp_lt, lg_cmp_ge, lg_cmp_gt, nI_1, zr_up_self, zp_O, zr_fup_self, zr_fup_ne, ne_eq, Nat.reduceEqDiff, not_false_eq_true, pk_mul, v1.1, zt_I, zt_f5, h51]
        refine k_let_ (d := d + 2) v1 h51 (by omega) hp (fun v2 => ?_)
        have p2 := pr_let (f := f) (n := n) (S := S) (p := S * r) (s := r1.2)
        generalize fLet f n S (S * r) r1.2 = r2 at *
        have hQ := rQ_on (c := zrs tx gr r2.2) hQ
        generalize zr_up h1 rd (zrs tx gr r2.2) = h2 at *
        simp only [zs_60_0, zs_60_1, zs_60_2, zs_60_3, zs_60_3u, zs_60_4, zs_60_7, zs_60_10, zs_60_10u, zs_60_11, zs_60_13, zt_60_13, zs_60_16, zs_60_19, zs_60_19u, zs_60_20, zs_60_22, zs_60_22u, zs_60_23, zs_60_26, zt_60_26, zs_60_29_0, zs_60_29_1, zs_60_29, zs_60_30, zs_60_30u, zs_60_31, zs_60_31u, zs_60_32, zs_60_35, zs_60_36, zs_60_37, zt_60_37, zs_60_40, zs_60_44, zt_60_44, zs_60_47, zs_60_51_0, zs_60_51_1, zs_60_51, zs_60_52, zs_60_55, zs_60_58, zs_60_59_0, zs_60_59_1, zs_60_59, zc_isO, zr_fld_mk, zc_isA, zc_len, zr_elt_mk, zr_kill_i, zr_kill_l, zr_kill_r, zr_kill_u, zr_kill_f, zr_kill_n, zc_cat, zr_cat_i, zr_cat_l, zr_cat_r, zr_cat_f, zr_cat_d, zr_cat_u, beq_self_eq_true, Nat.zero_le, Nat.le_refl, Nat.reduceSub, Nat.reduceAdd, Nat.reduceLeDiff, csl_f, csr_f, cn_f, lg_cmp_eq, lg_cmp_le, lg_cmp_lt, lg_cmp_ge, lg_cmp_gt, nI_1, zr_up_self, zp_O, zr_fup_self, zr_fup_ne, ne_eq, Nat.reduceEqDiff, not_false_eq_true, pk_mul]
        rcases tf_c r2.1 with z | z
        · rw [andT_t z] at hQ
          rw [z]
          refine ⟨fun y => absurd y (by decide), fun _ => ?_⟩
          simp only [zs_60_0, zs_60_1, zs_60_2, zs_60_3, zs_60_3u, zs_60_4, zs_60_7, zs_60_10, zs_60_10u, zs_60_11, zs_60_13, zt_60_13, zs_60_16, zs_60_19, zs_60_19u, zs_60_20, zs_60_22, zs_60_22u, zs_60_23, zs_60_26, zt_60_26, zs_60_29_0, zs_60_29_1, zs_60_29, zs_60_30, zs_60_30u, zs_60_31, zs_60_31u, zs_60_32, zs_60_35, zs_60_36, zs_60_37, zt_60_37, zs_60_40, zs_60_43, zs_60_43u, zs_60_44, zt_60_44, zs_60_50, zs_60_51_0, zs_60_51_1, zs_60_51, zs_60_52, zs_60_55, zs_60_58, zs_60_59_0, zs_60_59_1, zs_60_59, zc_isO, zr_fld_mk, zc_isA, zc_len, zr_elt_mk, zr_kill_i, zr_kill_l, zr_kill_r, zr_kill_u, zr_kill_f, zr_kill_n, zc_cat, zr_cat_i, zr_cat_l, zr_cat_r, zr_cat_f, zr_cat_d, zr_cat_u, beq_self_eq_true, Nat.zero_le, Nat.le_refl, Nat.reduceSub, Nat.reduceAdd, Nat.reduceLeDiff, csl_f, csr_f, cn_f, lg_cmp_eq, lg_cmp_le, lg_cmp_lt, lg_cmp_ge, lg_cmp_gt, nI_1, zr_up_self, zp_O, zr_fup_self, zr_fup_ne, ne_eq, Nat.reduceEqDiff, not_false_eq_true, pk_mul, v2.1, zt_I]
          refine k_sq (d := d + 2) v2 (fun v3 => ?_)
          have p3 := pr_semi (f := f) (n := n) (s := r2.2)
          generalize fSemi f n r2.2 = r3 at *
          have hQ := rQ_on (c := zrs tx gr r3.2) hQ
          generalize zr_up h2 rd (zrs tx gr r3.2) = h3 at *
          simp only [zs_60_0, zs_60_1, zs_60_2, zs_60_3, zs_60_3u, zs_60_4, zs_60_7, zs_60_10, zs_60_10u, zs_60_11, zs_60_13, zt_60_13, zs_60_16, zs_60_19, zs_60_19u, zs_60_20, zs_60_22, zs_60_22u, zs_60_23, zs_60_26, zt_60_26, zs_60_29_0, zs_60_29_1, zs_60_29, zs_60_30, zs_60_30u, zs_60_31, zs_60_31u, zs_60_32, zs_60_35, zs_60_36, zs_60_37, zt_60_37, zs_60_40, zs_60_43, zs_60_43u, zs_60_44, zt_60_44, zs_60_47, zs_60_51_0, zs_60_51_1, zs_60_51, zs_60_55, zs_60_58, zs_60_59_0, zs_60_59_1, zs_60_59, zc_isO, zr_fld_mk, zc_isA, zc_len, zr_elt_mk, zr_kill_i, zr_kill_l, zr_kill_r, zr_kill_u, zr_kill_f, zr_kill_n, zc_cat, zr_cat_i, zr_cat_l, zr_cat_r, zr_cat_f, zr_cat_d, zr_cat_u, beq_self_eq_true, Nat.zero_le, Nat.le_refl, Nat.reduceSub, Nat.reduceAdd, Nat.reduceLeDiff, csl_f, csr_f, cn_f, lg_cmp_eq, lg_cmp_le, lg_cmp_lt, lg_cmp_ge, lg_cmp_gt, nI_1, zr_up_self, zp_O, zr_fup_self, zr_fup_ne, ne_eq, Nat.reduceEqDiff, not_false_eq_true, pk_mul]
          rcases tf_c r3.1 with z | z
          · rw [andT_t z] at hQ
            rw [z]
            refine ⟨fun _ => ?_, fun y => absurd y (by decide)⟩
            have pp := pr_t p1 (pr_t p2 p3)
            have := ih (r + 1) r3.2 h3 (by omega) v3 (by rw [pp.1, h4]) (by rw [pp.2, h5]) hQ
            simp only [zs_60_0, zs_60_1, zs_60_3, zs_60_3u, zs_60_4, zs_60_7, zs_60_10, zs_60_10u, zs_60_11, zs_60_13, zt_60_13, zs_60_16, zs_60_19, zs_60_19u, zs_60_20, zs_60_22, zs_60_22u, zs_60_23, zs_60_26, zt_60_26, zs_60_29_0, zs_60_29_1, zs_60_29, zs_60_30, zs_60_30u, zs_60_31, zs_60_31u, zs_60_32, zs_60_35, zs_60_36, zs_60_37, zt_60_37, zs_60_40, zs_60_43, zs_60_43u, zs_60_44, zt_60_44, zs_60_47, zs_60_50, zs_60_51_0, zs_60_51_1, zs_60_51, zs_60_52, zs_60_55, zs_60_58, zs_60_59_0, zs_60_59_1, zs_60_59, zc_isO, zr_fld_mk, zc_isA, zc_len, zr_elt_mk, zr_kill_i, zr_kill_l, zr_kill_r, zr_kill_u, zr_kill_f, zr_kill_n, zc_cat, zr_cat_i, zr_cat_l, zr_cat_r, zr_cat_f, zr_cat_d, zr_cat_u, beq_self_eq_true, Nat.zero_le, Nat.le_refl, Nat.reduceSub, Nat.reduceAdd, Nat.reduceLeDiff, csl_f, csr_f, cn_f, lg_cmp_eq, lg_cmp_le, lg_cmp_lt, lg_cmp_ge, lg_cmp_gt, nI_1, zr_up_self, zp_O, zr_fup_self, zr_fup_ne, ne_eq, Nat.reduceEqDiff, not_false_eq_true, pk_mul]
            exact this
          · rw [andT_f z] at hQ
            rw [z]
            refine ⟨fun y => absurd rfl y, fun _ => ?_⟩
            simp only [zs_60_0, zs_60_1, zs_60_2, zs_60_3, zs_60_3u, zs_60_4, zs_60_7, zs_60_10, zs_60_10u, zs_60_11, zs_60_13, zt_60_13, zs_60_16, zs_60_19, zs_60_19u, zs_60_20, zs_60_22, zs_60_22u, zs_60_23, zs_60_26, zt_60_26, zs_60_29_0, zs_60_29_1, zs_60_29, zs_60_30, zs_60_30u, zs_60_31, zs_60_31u, zs_60_32, zs_60_35, zs_60_36, zs_60_37, zt_60_37, zs_60_40, zs_60_43, zs_60_43u, zs_60_44, zt_60_44, zs_60_47, zs_60_50, zs_60_51_0, zs_60_51_1, zs_60_51, zs_60_52, zs_60_55, zs_60_58, zs_60_59_0, zs_60_59_1, zs_60_59, zc_isO, zr_fld_mk, zc_isA, zc_len, zr_elt_mk, zr_kill_i, zr_kill_l, zr_kill_r, zr_kill_u, zr_kill_f, zr_kill_n, zc_cat, zr_cat_i, zr_cat_l, zr_cat_r, zr_cat_f, zr_cat_d, zr_cat_u, beq_self_eq_true, Nat.zero_le, Nat.le_refl, Nat.reduceSub, Nat.reduceAdd, Nat.reduceLeDiff, csl_f, csr_f, cn_f, lg_cmp_eq, lg_cmp_le, lg_cmp_lt, lg_cmp_ge, lg_cmp_gt, nI_1, zr_up_self, zp_O, zr_fup_self, zr_fup_ne, ne_eq, Nat.reduceEqDiff, not_false_eq_true, pk_mul]
            have := rQ_id v3 hQ
            rw [z] at this
            exact this
        · rw [andT_f z, andT_f z] at hQ
          rw [z]
          refine ⟨fun _ => ?_, fun y => absurd rfl y⟩
          simp only [zs_60_0, zs_60_1, zs_60_2, zs_60_3, zs_60_3u, zs_60_4, zs_60_7, zs_60_10, zs_60_10u, zs_60_11, zs_60_13, zt_60_13, zs_60_16, zs_60_19, zs_60_19u, zs_60_20, zs_60_22, zs_60_22u, zs_60_23, zs_60_26, zt_60_26, zs_60_29_0, zs_60_29_1, zs_60_29, zs_60_30, zs_60_30u, zs_60_31, zs_60_31u, zs_60_32, zs_60_35, zs_60_36, zs_60_37, zt_60_37, zs_60_40, zs_60_43, zs_60_43u, zs_60_44, zt_60_44, zs_60_47, zs_60_50, zs_60_51_0, zs_60_51_1, zs_60_51, zs_60_52, zs_60_55, zs_60_58, zs_60_59_0, zs_60_59_1, zs_60_59, zc_isO, zr_fld_mk, zc_isA, zc_len, zr_elt_mk, zr_kill_i, zr_kill_l, zr_kill_r, zr_kill_u, zr_kill_f, zr_kill_n, zc_cat, zr_cat_i, zr_cat_l, zr_cat_r, zr_cat_f, zr_cat_d, zr_cat_u, beq_self_eq_true, Nat.zero_le, Nat.le_refl, Nat.reduceSub, Nat.reduceAdd, Nat.reduceLeDiff, csl_f, csr_f, cn_f, lg_cmp_eq, lg_cmp_le, lg_cmp_lt, lg_cmp_ge, lg_cmp_gt, nI_1, zr_up_self, zp_O, zr_fup_self, zr_fup_ne, ne_eq, Nat.reduceEqDiff, not_false_eq_true, pk_mul]
          have := rQ_id v2 hQ
          rw [z] at this
          exact this
      · rw [orE_f z, andT_f (by rfl), andT_f (by rfl), andT_f (by rfl)] at hQ
        rw [z]
        refine ⟨fun y => absurd rfl y, fun _ => ?_⟩
        simp only [zs_60_0, zs_60_1, zs_60_2, zs_60_3, zs_60_3u, zs_60_4, zs_60_7, zs_60_10, zs_60_10u, zs_60_11, zs_60_13, zt_60_13, zs_60_16, zs_60_19, zs_60_19u, zs_60_20, zs_60_22, zs_60_22u, zs_60_23, zs_60_26, zt_60_26, zs_60_29_0, zs_60_29_1, zs_60_29, zs_60_30, zs_60_30u, zs_60_31, zs_60_31u, zs_60_32, zs_60_35, zs_60_36, zs_60_37, zt_60_37, zs_60_40, zs_60_43, zs_60_43u, zs_60_44, zt_60_44, zs_60_47, zs_60_50, zs_60_51_0, zs_60_51_1, zs_60_51, zs_60_52, zs_60_55, zs_60_58, zs_60_59_0, zs_60_59_1, zs_60_59, zc_isO, zr_fld_mk, zc_isA, zc_len, zr_elt_mk, zr_kill_i, zr_kill_l, zr_kill_r, zr_kill_u, zr_kill_f, zr_kill_n, zc_cat, zr_cat_i, zr_cat_l, zr_cat_r, zr_cat_f, zr_cat_d, zr_cat_u, beq_self_eq_true, Nat.zero_le, Nat.le_refl, Nat.reduceSub, Nat.reduceAdd, Nat.reduceLeDiff, csl_f, csr_f, cn_f, lg_cmp_eq, lg_cmp_le, lg_cmp_lt, lg_cmp_ge, lg_cmp_gt, nI_1, zr_up_self, zp_O, zr_fup_self, zr_fup_ne, ne_eq, Nat.reduceEqDiff, not_false_eq_true, pk_mul, v1.1, zt_I, zt_f2, v1.2.2.2.2.1]
        refine k_fail (d := d + 4) v1.1 ?_
        simp only [zs_60_0, zs_60_1, zs_60_2, zs_60_3, zs_60_3u, zs_60_4, zs_60_7, zs_60_10, zs_60_10u, zs_60_11, zs_60_13, zt_60_13, zs_60_16, zs_60_19, zs_60_19u, zs_60_20, zs_60_22, zs_60_22u, zs_60_23, zs_60_26, zt_60_26, zs_60_29_0, zs_60_29_1, zs_60_29, zs_60_30, zs_60_30u, zs_60_31, zs_60_31u, zs_60_32, zs_60_35, zs_60_36, zs_60_37, zt_60_37, zs_60_40, zs_60_43, zs_60_43u, zs_60_44, zt_60_44, zs_60_47, zs_60_50, zs_60_51_0, zs_60_51_1, zs_60_51, zs_60_52, zs_60_55, zs_60_58, zs_60_59_0, zs_60_59_1, zs_60_59, zc_isO, zr_fld_mk, zc_isA, zc_len, zr_elt_mk, zr_kill_i, zr_kill_l, zr_kill_r, zr_kill_u, zr_kill_f, zr_kill_n, zc_cat, zr_cat_i, zr_cat_l, zr_cat_r, zr_cat_f, zr_cat_d, zr_cat_u, beq_self_eq_true, Nat.zero_le, Nat.le_refl, Nat.reduceSub, Nat.reduceAdd, Nat.reduceLeDiff, csl_f, csr_f, cn_f, lg_cmp_eq, lg_cmp_le, lg_cmp_lt, lg_cmp_ge, lg_cmp_gt, nI_1, zr_up_self, zp_O, zr_fup_self, zr_fup_ne, ne_eq, Nat.reduceEqDiff, not_false_eq_true, pk_mul]
        exact hQ (rT_E v1)
  rw [ze_60]
  simp only [zs_60_0, zs_60_1, zs_60_3, zs_60_3u, zs_60_4, zs_60_7, zs_60_10, zs_60_10u, zs_60_11, zs_60_13, zt_60_13, zs_60_16, zs_60_19, zs_60_19u, zs_60_20, zs_60_22, zs_60_22u, zs_60_23, zs_60_26, zt_60_26, zs_60_29_0, zs_60_29_1, zs_60_29, zs_60_30, zs_60_30u, zs_60_31, zs_60_31u, zs_60_32, zs_60_35, zs_60_36, zs_60_37, zt_60_37, zs_60_40, zs_60_43, zs_60_43u, zs_60_44, zt_60_44, zs_60_47, zs_60_50, zs_60_51_0, zs_60_51_1, zs_60_51, zs_60_52, zs_60_55, zs_60_58, zs_60_59_0, zs_60_59_1, zs_60_59, zc_isO, zr_fld_mk, zc_isA, zc_len, zr_elt_mk, zr_kill_i, zr_kill_l, zr_kill_r, zr_kill_u, zr_kill_f, zr_kill_n, zc_cat, zr_cat_i, zr_cat_l, zr_cat_r, zr_cat_f, zr_cat_d, zr_cat_u, beq_self_eq_true, Nat.zero_le, Nat.le_refl, Nat.reduceSub, Nat.reduceAdd, Nat.reduceLeDiff, csl_f, csr_f, cn_f, lg_cmp_eq, lg_cmp_le, lg_cmp_lt, lg_cmp_ge, lg_cmp_gt, nI_1, zr_up_self, zp_O, zr_fup_self, zr_fup_ne, ne_eq, Nat.reduceEqDiff, not_false_eq_true, pk_mul]
  exact key R 0 s h (Nat.zero_add _) v h4 h5 hQ
end READER
