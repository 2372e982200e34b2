/-! LOAD -/
def kp (s s2 : rst) : Prop := s2.2.1 3 = s.2.1 3 ∧ s2.2.1 7 = s.2.1 7
def eo (s : rst) (r : Bool × rst) : Prop := (r.1 = true → kp s r.2) ∧ (r.1 = false → r.2.2.1 3 = -2 ∨ r.2.2.1 3 = -3)
theorem kp_r (s : rst) : kp s s := ⟨rfl, rfl⟩
theorem kp_t {s s2 s3 : rst} (a : kp s s2) (b : kp s2 s3) : kp s s3 := ⟨b.1.trans a.1, b.2.trans a.2⟩
theorem kp_A (s : rst) (a : Nat) : kp s (sAt s a) := ⟨rfl, rfl⟩
theorem kp_S (s : rst) {k : Nat} (c : Int32) (h3 : k ≠ 3) (h7 : k ≠ 7) : kp s (sSet s k c) := ⟨fI_n _ _ (Ne.symm h3), fI_n _ _ (Ne.symm h7)⟩
theorem sEr_3 (s : rst) (c : Int32) (a : Nat) : (sEr s c a).2.1 3 = c := rfl
theorem eo_pre {s s2 : rst} {r : Bool × rst} (a : kp s s2) (b : eo s2 r) : eo s r := ⟨fun z => kp_t a (b.1 z), b.2⟩
section READER
variable {n : Nat} {f : Nat → Int32} {W : List Int32} {s : rst}
theorem kp_word : kp s (fWord f n W s).2 := by unfold fWord; split <;> exact kp_A _ _
theorem eo_semi : eo s (fSemi f n s) := by
  unfold fSemi
  split
  · exact ⟨fun _ => kp_A _ _, fun z => by cases z⟩
  · exact ⟨fun z => (by cases z), fun _ => Or.inl (sEr_3 _ _ _)⟩
theorem eo_orE {r : Bool × rst} (h : kp s r.2) : eo s (orE r) := by
  rcases tf_c r.1 with z | z
  · rw [orE_t z]
    exact ⟨fun _ => h, fun y => by rw [z] at y; cases y⟩
  · rw [orE_f z]
    exact ⟨fun y => (by cases y), fun _ => Or.inl (sEr_3 _ _ _)⟩
theorem eo_orV {r : Bool × rst} {m : Nat} (h : kp s r.2) : eo s (orV r m) := by
  rcases tf_c r.1 with z | z
  · rw [orV_t z]
    exact ⟨fun _ => h, fun y => by rw [z] at y; cases y⟩
  · rw [orV_f z]
    exact ⟨fun y => (by cases y), fun _ => Or.inr (sEr_3 _ _ _)⟩
theorem eo_and {r : Bool × rst} {g : rst → Bool × rst} (h : eo s r) (hg : ∀ s2, eo s2 (g s2)) : eo s (andT r g) := by
  rcases tf_c r.1 with z | z
  · rw [andT_t z]
    exact eo_pre (h.1 z) (hg _)
  · rw [andT_f z]
    exact h
theorem num_eo {lo hi : Int32} (hl : 0 ≤ lo) : (¬ (fNum f n lo hi s).1 = -1 → kp s (fNum f n lo hi s).2) ∧ ((fNum f n lo hi s).1 = -1 → (fNum f n lo hi s).2.2.1 3 = -2 ∨ (fNum f n lo hi s).2.2.1 3 = -3) := by
  unfold fNum
  split
  · exact ⟨fun e => (e rfl).elim, fun _ => Or.inl (sEr_3 _ _ _)⟩
  · split
    · next c =>
      refine ⟨fun _ => kp_A _ _, fun e => ?_⟩
      have e : nvl f n (n - sp iSp f n s.1) (sp iSp f n s.1) 0 = -1 := e
      rw [e] at c
      have := Int32.le_trans hl c.1
      exact absurd this (by decide)
    · exact ⟨fun e => (e rfl).elim, fun _ => Or.inr (sEr_3 _ _ _)⟩
theorem eo_numS {k : Nat} {lo hi : Int32} (hl : 0 ≤ lo) (h3 : k ≠ 3) (h7 : k ≠ 7) : eo s (numS f n k lo hi s) := by
  have e := num_eo (f := f) (n := n) (s := s) (hi := hi) hl
  unfold numS
  generalize fNum f n lo hi s = r at *
  refine ⟨fun z => kp_t (e.1 (of_decide_eq_true z)) (kp_S _ _ h3 h7), fun z => ?_⟩
  have : r.1 = -1 := Classical.byContradiction (fun y => of_decide_eq_false z y)
  have := e.2 this
  show fI r.2.2.1 k r.1 3 = _ ∨ fI r.2.2.1 k r.1 3 = _
  rw [fI_n _ _ (Ne.symm h3)]
  exact this
theorem eo_turn : eo s (fTurn f n s) := by
  unfold fTurn
  have p := kp_word (f := f) (n := n) (W := wBlack) (s := s)
  generalize fWord f n wBlack s = r at *
  split
  · exact ⟨fun _ => kp_t p (kp_S _ _ (by omega) (by omega)), fun z => by cases z⟩
  · have p2 := kp_t p (kp_S r.2 2 (k := 10) (by omega) (by omega))
    generalize sSet r.2 10 2 = s2 at *
    exact eo_pre p2 (eo_orE kp_word)
theorem eo_opts (t : Nat) : ∀ s, eo s (fOpts f n t s) := by
  induction t with
  | zero => intro s; exact ⟨fun _ => kp_r s, fun z => by cases z⟩
  | succ t ih =>
    intro s
    unfold fOpts
    have p1 := kp_word (f := f) (n := n) (W := wRule) (s := s)
    generalize fWord f n wRule s = r1 at *
    have p2 := kp_t p1 (kp_word (f := f) (n := n) (W := wBonus) (s := r1.2))
    generalize fWord f n wBonus r1.2 = r2 at *
    have p3 := kp_t p2 (kp_word (f := f) (n := n) (W := wTurn) (s := r2.2))
    generalize fWord f n wTurn r2.2 = r3 at *
    split
    · have p4 := eo_pre p1 (eo_numS (f := f) (n := n) (k := 8) (lo := 0) (hi := 1) (s := r1.2) (by decide) (by omega) (by omega))
      generalize numS f n 8 0 1 r1.2 = r4 at *
      exact eo_and (eo_and p4 (fun s2 => eo_semi)) ih
    · split
      · have p4 := eo_pre p2 (eo_numS (f := f) (n := n) (k := 9) (lo := 0) (hi := 99) (s := r2.2) (by decide) (by omega) (by omega))
        generalize numS f n 9 0 99 r2.2 = r4 at *
        exact eo_and (eo_and p4 (fun s2 => eo_semi)) ih
      · split
        · have p4 := eo_pre p3 (eo_turn (f := f) (n := n) (s := r3.2))
          generalize fTurn f n r3.2 = r4 at *
          exact eo_and (eo_and p4 (fun s2 => eo_semi)) ih
        · exact ⟨fun _ => p3, fun z => by cases z⟩
theorem kp_put {c : Int32} {m : Int64} : kp s (fPut c m s).2 := by
  have := (fPut_1 (s := s) (c := c) (m := m)).2
  exact ⟨by rw [this], by rw [this]⟩
theorem eo_lets {m p : Nat} (t : Nat) : ∀ i s, eo s (fLets f n m p t i s) := by
  induction t with
  | zero => intro i s; exact ⟨fun _ => kp_r s, fun z => by cases z⟩
  | succ t ih => intro i s; unfold fLets; exact eo_and (eo_orV kp_put) (ih (i + 1))
theorem eo_let {S p : Nat} : eo s (fLet f n S p s) := by
  unfold fLet
  split
  · exact ⟨fun z => (by cases z), fun _ => Or.inl (sEr_3 _ _ _)⟩
  · split
    · exact ⟨fun z => (by cases z), fun _ => Or.inr (sEr_3 _ _ _)⟩
    · exact eo_and (eo_pre (kp_A _ _) (eo_lets _ _ _)) (fun s2 => ⟨fun _ => kp_A _ _, fun z => by cases z⟩)
theorem eo_rows {S : Nat} (t : Nat) : ∀ r s, eo s (fRows f n S t r s) := by
  induction t with
  | zero => intro r s; exact ⟨fun _ => kp_r s, fun z => by cases z⟩
  | succ t ih =>
    intro r s
    unfold fRows
    have p1 := eo_orE (kp_word (f := f) (n := n) (W := wRow) (s := s))
    generalize orE (fWord f n wRow s) = r1 at *
    exact eo_and (eo_and (eo_and p1 (fun s2 => eo_let)) (fun s2 => eo_semi)) (ih (r + 1))
theorem eo_end : eo s (fEnd f n s) := by
  unfold fEnd
  split
  · exact ⟨fun _ => kp_A _ _, fun z => by cases z⟩
  · exact ⟨fun z => (by cases z), fun _ => Or.inl (sEr_3 _ _ _)⟩
theorem eo_size : eo s (fSize f n s) := by
  unfold fSize
  have p1 := eo_orE (kp_word (f := f) (n := n) (W := wBoard) (s := s))
  generalize orE (fWord f n wBoard s) = r1 at *
  exact eo_and p1 (fun s2 => eo_and (eo_numS (by decide) (by omega) (by omega)) (fun s3 => eo_and (eo_numS (by decide) (by omega) (by omega)) (fun s4 => eo_semi)))
theorem eo_all : eo s (fAll f n s) := by
  unfold fAll
  have p1 := eo_size (f := f) (n := n) (s := s)
  generalize fSize f n s = r1 at *
  exact eo_and (eo_and (eo_and p1 (eo_opts n)) (fun s2 => eo_rows _ _ _)) (fun s2 => eo_end)
end READER
section STATE
variable {d : Nat} {Q : zr_K} {h h' : zr_H} {O : Nat → Prop} {B : Nat → Nat → Nat} {D : Nat → Nat} {V : Nat → Option gm} {u l m : Nat} {J : Nat → Int32} {rb rw : Int64} {tf wf : Nat → Int32} {R S : Nat} {b w : Int64} {P : List (Int64 × Int64)} {I : Nat → Int32}
/-- the reader has a new grid -/
theorem vC_rg (v : vC h O B D V u l J rb rw tf wf) {J2 : Nat → Int32} {b2 w2 : Int64} {g' R2 S2 : Nat} (hn : h g' = none) (hg2 : vG R2 S2) (f : fx [D 3, g'] h h') (e1 : h' (D 3) = some (zrd (D 5) g' J2 b2 w2)) (e2 : h' g' = some (zg R2 S2)) : vC h' O B (vu D 6 g') V u l J2 b2 w2 tf wf ∧ ∀ q, O q → h' q = h q := by
  have dd := vC_dd v
  have ng := vC_ng v
  obtain ⟨c0, c1, c2, c3, ⟨R, S, c6, hg⟩, c5, c4, k, hnn, ne, hD, ho, hu⟩ := v
  have sn : ∀ {q : Nat}, h q ≠ none → q ≠ D 3 → h' q = h q := fun a b => f _ (fun m => by
    simp at m
    rcases m with z | z
    · exact b z
    · rw [z] at a; exact a hn)
  have nn : ∀ {q : Nat} {c : zr_C}, h q = some c → h q ≠ none := fun e z => by rw [e] at z; cases z
  have fo : ∀ q, O q → h' q = h q := fun q o => sn (ho q o) (fun z => hD 3 (by omega) (z ▸ o))
  obtain ⟨F1, d1, d1'⟩ := c1
  obtain ⟨F2, d2, d2'⟩ := c2
  obtain ⟨F5, d5, d5'⟩ := c5
  obtain ⟨F4, d4, d4'⟩ := c4
  refine ⟨⟨?_, ⟨F1, ?_, d1'⟩, ⟨F2, ?_, d2'⟩, e1, ⟨R2, S2, e2, hg2⟩, ⟨F5, ?_, d5'⟩, ⟨F4, ?_, d4'⟩, zK_fx k (fun q _ o => ?_), hnn, ne, ?_, fun q o => by rw [fo q o]; exact ho q o, hu⟩, fo⟩
  · show h' (D 0) = _
    rw [sn (nn c0) (dd 0 3 (by omega) (by omega) (by omega)), c0]; rfl
  · show h' (D 1) = _
    rw [sn (nn d1) (dd 1 3 (by omega) (by omega) (by omega)), d1]
  · show h' (D 2) = _
    rw [sn (nn d2) (dd 2 3 (by omega) (by omega) (by omega)), d2]
  · show h' (D 5) = _
    rw [sn (nn d5) (dd 5 3 (by omega) (by omega) (by omega)), d5]
  · show h' (D 4) = _
    rw [sn (nn d4) (dd 4 3 (by omega) (by omega) (by omega)), d4]
  · obtain ⟨c, ec, gc⟩ := o
    refine sn (nn ec) (fun z => ng 3 (by omega) ⟨c, z ▸ ec, gc⟩)
  · intro i hi
    by_cases e : i = 6
    · rw [e, vu_s]
      exact fun o => ho _ o hn
    · rw [vu_n _ _ e]
      exact hD i hi
/-- what a text has brought: an error, or a board -/
def ldE (tf : Nat → Int32) (J : Nat → Int32) (n : Nat) (e pos : Int32) : Prop :=
  ((fAll tf n (t0 J n)).1 = false ∧ e = (fAll tf n (t0 J n)).2.2.1 3 ∧ pos = (fAll tf n (t0 J n)).2.2.1 7) ∨
  ((fAll tf n (t0 J n)).1 = true ∧ (∃ R S, vG R S ∧ (fAll tf n (t0 J n)).2.2.1 4 = nI R ∧ (fAll tf n (t0 J n)).2.2.1 5 = nI S ∧ hs R S (fAll tf n (t0 J n)).2.2.2.1 (fAll tf n (t0 J n)).2.2.2.2) ∧ e = -3 ∧ pos = nI n)
theorem k_load (v : vC h O B D V u l J rb rw tf wf) (h0 : V 0 = some (R, S, b, w, P, I)) (hJ : J 6 = nI m) (hm : m ≤ 300) {y : Int32} (q1 : (∀ n, n ≤ m → y ≠ nI n) → Q (.inr 1) h)
    (qE : ∀ n, n ≤ m → y = nI n → ∀ e pos, ldE tf J n e pos → ∀ h' D' J' rb' rw', D' 0 = D 0 → (∀ q, O q → h' q = h q) → J' 6 = 0 → J' 7 = pos → vC h' O B D' V u l J' rb' rw' tf wf → Q (.inl (some (.int e))) h')
    (qT : ∀ n, n ≤ m → y = nI n → (fAll tf n (t0 J n)).1 = true → ∀ R2 S2, vG R2 S2 → (fAll tf n (t0 J n)).2.2.1 4 = nI R2 → (fAll tf n (t0 J n)).2.2.1 5 = nI S2 → ¬ hs R2 S2 (fAll tf n (t0 J n)).2.2.2.1 (fAll tf n (t0 J n)).2.2.2.2 → ∀ h' B' D' J' rb' rw', D' 0 = D 0 → (∀ q, O q → h' q = h q) → J' 6 = 0 → J' 7 = -1 →
      vC h' O B' D' (chV V (R, S, b, w, P, I) (R2, S2, (fAll tf n (t0 J n)).2.2.2.1, (fAll tf n (t0 J n)).2.2.2.2, [((fAll tf n (t0 J n)).2.2.2.1, (fAll tf n (t0 J n)).2.2.2.2)], fI (fI (fI (bgI I) 2 ((fAll tf n (t0 J n)).2.2.1 10)) 8 ((fAll tf n (t0 J n)).2.2.1 8)) 9 ((fAll tf n (t0 J n)).2.2.1 9))) (min (u + 1) 8) l J' rb' rw' tf wf → Q (.inl (some (.int (nI (ct ((fAll tf n (t0 J n)).2.2.2.1 ||| (fAll tf n (t0 J n)).2.2.2.2)))))) h') : zr_E (d + 9) 75 [.ref (D 0), .int y] h Q := by
  have hX := v.1
  have hR := v.2.2.2.1
  have hT := v.2.2.2.2.2.1
  have dd := vC_dd v
  have no : (∀ n, n ≤ m → y ≠ nI n) → zr_Z (d + 8) 75 Q 15 [some (.ref (D 0)), some (.int y), none] [] h 2 12 := fun f => zs_75_15 (by decide) (by decide) (by rw [zr_cat_0]; decide) (q1 f)
  rw [ze_75]
  simp only [zs_75_0, zs_75_1, zs_75_4, zs_75_5, zs_75_5u, zs_75_6, zs_75_9, zs_75_12, zs_75_26, zs_75_29, zs_75_30, zt_75_30, zs_75_33, zs_75_34, zs_75_35, zs_75_38, zs_75_39, zs_75_40, zs_75_40u, zs_75_41, zt_75_41, zs_75_44, zs_75_44u, zs_75_45, zs_75_48, zs_75_48u, zs_75_49, zs_75_52, zs_75_55, zs_75_55u, zs_75_56, zs_75_59, zs_75_62, zs_75_62u, zs_75_63, zs_75_66, zs_75_69, zt_75_69, zs_75_72, zs_75_72u, zs_75_73, zs_75_76, zs_75_76u, zs_75_77, zs_75_80, zs_75_83, zs_75_86, zs_75_86u, zs_75_87, zs_75_90, zs_75_90u, zs_75_91, zs_75_94, zs_75_97, zs_75_100, zs_75_100u, zs_75_101, zs_75_104, zs_75_104u, zs_75_105, zs_75_108, zs_75_111, zs_75_114, zs_75_114u, zs_75_115, zs_75_118, zs_75_121, zt_75_121, zs_75_124, zc_isO, zr_fld_mk, zc_isA, zc_len, zr_elt_mk, zr_kill_i, zr_kill_l, zr_kill_r, zr_kill_u, zr_kill_f, zr_kill_n, zc_cat, zr_cat_i, zr_cat_l, zr_cat_r, zr_cat_f, zr_cat_d, zr_cat_u, beq_self_eq_true, Nat.zero_le, Nat.le_refl, Nat.reduceSub, Nat.reduceAdd, Nat.reduceLeDiff, csl_f, csr_f, cn_f, lg_cmp_eq, lg_cmp_le, lg_cmp_lt, lg_cmp_ge, lg_cmp_gt, nI_1, zr_up_self, zp_O, zr_fup_self, zr_fup_ne, ne_eq, Nat.reduceEqDiff, not_false_eq_true, pk_mul, hX, zx_I, zx_3, hR, zt_I, zt_f6, hJ]
  refine ⟨fun z => no (fun n hn e => ?_), fun z => ?_⟩
  · subst e; exact absurd z (nI_pos (by omega))
  obtain ⟨n, hn', en⟩ := nI_of z
  by_cases hle : n ≤ m
  rotate_left
  · refine ⟨fun z2 => ?_, fun _ => no (fun k hk e => ?_)⟩
    · subst en; exact absurd z2 (nI_ge (by omega) (by omega))
    · rw [en] at e
      have := (nI_eq (a := n) (b := k) (by omega) (by omega)).mp e
      omega
  refine ⟨fun _ => ?_, fun z2 => (z2 (by rw [en]; exact nI_le hle (by omega))).elim⟩
  have qE := qE n hle en
  have qT := qT n hle en
  clear no q1
  rw [en]
  have eo := eo_all (f := tf) (n := n) (s := t0 J n)
  have kt : kp (t0 J n) (t0 J n) := kp_r _
  have t3 : (t0 J n).2.1 3 = 0 := rfl
  have t7 : (t0 J n).2.1 7 = -1 := rfl
  simp only [zs_75_0, zs_75_1, zs_75_4, zs_75_5, zs_75_5u, zs_75_6, zs_75_9, zs_75_12, zs_75_25, zs_75_25u, zs_75_26, zs_75_29, zs_75_30, zt_75_30, zs_75_33, zs_75_34, zs_75_35, zs_75_38, zs_75_39, zs_75_40, zs_75_40u, zs_75_41, zt_75_41, zs_75_44, zs_75_44u, zs_75_45, zs_75_48, zs_75_48u, zs_75_49, zs_75_52, zs_75_55, zs_75_55u, zs_75_56, zs_75_59, zs_75_62, zs_75_62u, zs_75_63, zs_75_66, zs_75_69, zt_75_69, zs_75_72, zs_75_72u, zs_75_73, zs_75_76, zs_75_76u, zs_75_77, zs_75_80, zs_75_83, zs_75_86, zs_75_86u, zs_75_87, zs_75_90, zs_75_90u, zs_75_91, zs_75_94, zs_75_97, zs_75_100, zs_75_100u, zs_75_101, zs_75_104, zs_75_104u, zs_75_105, zs_75_108, zs_75_111, zs_75_114, zs_75_114u, zs_75_115, zs_75_118, zs_75_121, zt_75_121, zs_75_124, zc_isO, zr_fld_mk, zc_isA, zc_len, zr_elt_mk, zr_kill_i, zr_kill_l, zr_kill_r, zr_kill_u, zr_kill_f, zr_kill_n, zc_cat, zr_cat_i, zr_cat_l, zr_cat_r, zr_cat_f, zr_cat_d, zr_cat_u, beq_self_eq_true, Nat.zero_le, Nat.le_refl, Nat.reduceSub, Nat.reduceAdd, Nat.reduceLeDiff, csl_f, csr_f, cn_f, lg_cmp_eq, lg_cmp_le, lg_cmp_lt, lg_cmp_ge, lg_cmp_gt, nI_1, zr_up_self, zp_O, zr_fup_self, zr_fup_ne, ne_eq, Nat.reduceEqDiff, not_false_eq_true, pk_mul, hX, zx_I, zx_3, hR, zt_I]
  refine k_text (d := d) hR hT (by omega) (fun z1 h1 f1 r1 => ?_) (fun z1 R2 S2 hg2 h4 h5 g' gn h1 f1 y1 J1 j1 r1 => ?_)
  · obtain ⟨v1, o1⟩ := vC_rd v (fx_sub f1 (by simp)) r1 (aB_to hT (f1 _ (by simp; exact dd 5 3 (by omega) (by omega) (by omega))))
    have qE := qE _ _ (Or.inl ⟨z1, rfl, rfl⟩) h1 D _ _ _ rfl o1 (fI_s _ _ _) (fI_n _ _ (by omega)) v1
    have e3 := eo.2 z1
    generalize (fAll tf n (t0 J n)).2.2.1 3 = e at *
    simp only [zs_75_0, zs_75_1, zs_75_4, zs_75_5, zs_75_5u, zs_75_6, zs_75_9, zs_75_12, zs_75_25, zs_75_25u, zs_75_26, zs_75_29, zs_75_30, zt_75_30, zs_75_33, zs_75_34, zs_75_35, zs_75_38, zs_75_39, zs_75_40, zs_75_40u, zs_75_41, zt_75_41, zs_75_44, zs_75_44u, zs_75_45, zs_75_48, zs_75_48u, zs_75_49, zs_75_52, zs_75_55, zs_75_55u, zs_75_56, zs_75_59, zs_75_62, zs_75_62u, zs_75_63, zs_75_66, zs_75_69, zt_75_69, zs_75_72, zs_75_72u, zs_75_73, zs_75_76, zs_75_76u, zs_75_77, zs_75_80, zs_75_83, zs_75_86, zs_75_86u, zs_75_87, zs_75_90, zs_75_90u, zs_75_91, zs_75_94, zs_75_97, zs_75_100, zs_75_100u, zs_75_101, zs_75_104, zs_75_104u, zs_75_105, zs_75_108, zs_75_111, zs_75_114, zs_75_114u, zs_75_115, zs_75_118, zs_75_121, zt_75_121, zs_75_124, zc_isO, zr_fld_mk, zc_isA, zc_len, zr_elt_mk, zr_kill_i, zr_kill_l, zr_kill_r, zr_kill_u, zr_kill_f, zr_kill_n, zc_cat, zr_cat_i, zr_cat_l, zr_cat_r, zr_cat_f, zr_cat_d, zr_cat_u, beq_self_eq_true, Nat.zero_le, Nat.le_refl, Nat.reduceSub, Nat.reduceAdd, Nat.reduceLeDiff, csl_f, csr_f, cn_f, lg_cmp_eq, lg_cmp_le, lg_cmp_lt, lg_cmp_ge, lg_cmp_gt, nI_1, zr_up_self, zp_O, zr_fup_self, zr_fup_ne, ne_eq, Nat.reduceEqDiff, not_false_eq_true, pk_mul]
    refine ⟨fun z => ?_, fun _ => qE⟩
    subst z
    rcases e3 with z | z <;> exact absurd z (by decide)
  · obtain ⟨v1, o1⟩ := vC_rg v gn hg2 f1 r1 y1
    by_cases st : hs R2 S2 (fAll tf n (t0 J n)).2.2.2.1 (fAll tf n (t0 J n)).2.2.2.2
    · have ej := j1.1 st
      have e3 : J1 3 = -3 := by rw [ej]; rfl
      have qE := qE _ _ (Or.inr ⟨z1, ⟨R2, S2, hg2, h4, h5, st⟩, rfl, rfl⟩) h1 _ _ _ _ (by rw [vu_n _ _ (by omega)]) o1 (fI_s _ _ _) (by rw [fI_n _ _ (by omega), ej]; rfl) v1
      rw [e3]
      simp only [zs_75_0, zs_75_1, zs_75_4, zs_75_5, zs_75_5u, zs_75_6, zs_75_9, zs_75_12, zs_75_25, zs_75_25u, zs_75_26, zs_75_29, zs_75_30, zt_75_30, zs_75_33, zs_75_34, zs_75_35, zs_75_38, zs_75_39, zs_75_40, zs_75_40u, zs_75_41, zt_75_41, zs_75_44, zs_75_44u, zs_75_45, zs_75_48, zs_75_48u, zs_75_49, zs_75_52, zs_75_55, zs_75_55u, zs_75_56, zs_75_59, zs_75_62, zs_75_62u, zs_75_63, zs_75_66, zs_75_69, zt_75_69, zs_75_72, zs_75_72u, zs_75_73, zs_75_76, zs_75_76u, zs_75_77, zs_75_80, zs_75_83, zs_75_86, zs_75_86u, zs_75_87, zs_75_90, zs_75_90u, zs_75_91, zs_75_94, zs_75_97, zs_75_100, zs_75_100u, zs_75_101, zs_75_104, zs_75_104u, zs_75_105, zs_75_108, zs_75_111, zs_75_114, zs_75_114u, zs_75_115, zs_75_118, zs_75_121, zt_75_121, zs_75_124, zc_isO, zr_fld_mk, zc_isA, zc_len, zr_elt_mk, zr_kill_i, zr_kill_l, zr_kill_r, zr_kill_u, zr_kill_f, zr_kill_n, zc_cat, zr_cat_i, zr_cat_l, zr_cat_r, zr_cat_f, zr_cat_d, zr_cat_u, beq_self_eq_true, Nat.zero_le, Nat.le_refl, Nat.reduceSub, Nat.reduceAdd, Nat.reduceLeDiff, csl_f, csr_f, cn_f, lg_cmp_eq, lg_cmp_le, lg_cmp_lt, lg_cmp_ge, lg_cmp_gt, nI_1, zr_up_self, zp_O, zr_fup_self, zr_fup_ne, ne_eq, Nat.reduceEqDiff, not_false_eq_true, pk_mul]
      exact ⟨fun z => absurd z (by decide), fun _ => qE⟩
    · have ej := j1.2 st
      subst ej
      have ek := eo.1 z1
      have e3 : (fAll tf n (t0 J n)).2.2.1 3 = 0 := ek.1.trans t3
      have e7 : (fAll tf n (t0 J n)).2.2.1 7 = -1 := ek.2.trans t7
      have qT := qT z1 R2 S2 hg2 h4 h5 st
      generalize fAll tf n (t0 J n) = r at *
      rw [e3]
      simp only [zs_75_0, zs_75_1, zs_75_4, zs_75_5, zs_75_5u, zs_75_6, zs_75_9, zs_75_12, zs_75_25, zs_75_25u, zs_75_26, zs_75_29, zs_75_30, zt_75_30, zs_75_33, zs_75_34, zs_75_35, zs_75_38, zs_75_39, zs_75_41, zt_75_41, zs_75_44, zs_75_44u, zs_75_45, zs_75_48, zs_75_48u, zs_75_49, zs_75_52, zs_75_55, zs_75_55u, zs_75_56, zs_75_59, zs_75_62, zs_75_62u, zs_75_63, zs_75_66, zs_75_69, zt_75_69, zs_75_72, zs_75_72u, zs_75_73, zs_75_76, zs_75_76u, zs_75_77, zs_75_80, zs_75_83, zs_75_86, zs_75_86u, zs_75_87, zs_75_90, zs_75_90u, zs_75_91, zs_75_94, zs_75_97, zs_75_100, zs_75_100u, zs_75_101, zs_75_104, zs_75_104u, zs_75_105, zs_75_108, zs_75_111, zs_75_114, zs_75_114u, zs_75_115, zs_75_118, zs_75_121, zt_75_121, zs_75_124, zc_isO, zr_fld_mk, zc_isA, zc_len, zr_elt_mk, zr_kill_i, zr_kill_l, zr_kill_r, zr_kill_u, zr_kill_f, zr_kill_n, zc_cat, zr_cat_i, zr_cat_l, zr_cat_r, zr_cat_f, zr_cat_d, zr_cat_u, beq_self_eq_true, Nat.zero_le, Nat.le_refl, Nat.reduceSub, Nat.reduceAdd, Nat.reduceLeDiff, csl_f, csr_f, cn_f, lg_cmp_eq, lg_cmp_le, lg_cmp_lt, lg_cmp_ge, lg_cmp_gt, nI_1, zr_up_self, zp_O, zr_fup_self, zr_fup_ne, ne_eq, Nat.reduceEqDiff, not_false_eq_true, pk_mul]
      refine ⟨fun _ => ?_, fun z => absurd trivial z⟩
      have hX1 := v1.1
      have hD0 : vu D 6 g' 0 = D 0 := vu_n _ _ (by omega)
      rw [← hD0]
      have hD6 : vu D 6 g' 6 = g' := vu_s _ _ _
      generalize vu D 6 g' = D1 at *
      simp only [zs_75_0, zs_75_1, zs_75_4, zs_75_5, zs_75_5u, zs_75_6, zs_75_9, zs_75_12, zs_75_25, zs_75_25u, zs_75_26, zs_75_29, zs_75_30, zt_75_30, zs_75_33, zs_75_34, zs_75_35, zs_75_38, zs_75_39, zs_75_40, zs_75_40u, zs_75_41, zt_75_41, zs_75_44, zs_75_44u, zs_75_45, zs_75_48, zs_75_48u, zs_75_49, zs_75_52, zs_75_55, zs_75_55u, zs_75_56, zs_75_59, zs_75_62, zs_75_62u, zs_75_63, zs_75_66, zs_75_69, zt_75_69, zs_75_72, zs_75_72u, zs_75_73, zs_75_76, zs_75_76u, zs_75_77, zs_75_80, zs_75_83, zs_75_86, zs_75_86u, zs_75_87, zs_75_90, zs_75_90u, zs_75_91, zs_75_94, zs_75_97, zs_75_100, zs_75_100u, zs_75_101, zs_75_104, zs_75_104u, zs_75_105, zs_75_108, zs_75_111, zs_75_114, zs_75_114u, zs_75_115, zs_75_118, zs_75_121, zt_75_121, zs_75_124, zc_isO, zr_fld_mk, zc_isA, zc_len, zr_elt_mk, zr_kill_i, zr_kill_l, zr_kill_r, zr_kill_u, zr_kill_f, zr_kill_n, zc_cat, zr_cat_i, zr_cat_l, zr_cat_r, zr_cat_f, zr_cat_d, zr_cat_u, beq_self_eq_true, Nat.zero_le, Nat.le_refl, Nat.reduceSub, Nat.reduceAdd, Nat.reduceLeDiff, csl_f, csr_f, cn_f, lg_cmp_eq, lg_cmp_le, lg_cmp_lt, lg_cmp_ge, lg_cmp_gt, nI_1, zr_up_self, zp_O, zr_fup_self, zr_fup_ne, ne_eq, Nat.reduceEqDiff, not_false_eq_true, pk_mul, hX1, zx_I]
      refine k_remB (d := d + 5) v1 h0 (fun h2 B2 eB e6 o2 v2 => ?_)
      obtain ⟨g2, w2, n2⟩ := vC_v0 v2 (G := (R, S, b, w, P, I)) h0
      have w2 : vM h2 (B2 0) R S b w P I g2 := w2
      have hX2 := v2.1
      have hR2 := v2.2.2.2.1
      have hG2 : h2 (D1 6) = some (zg R2 S2) := by rw [e6, hD6]; exact y1
      have nG2 : ¬ O (D1 6) := v2.2.2.2.2.2.2.2.2.2.2.1 6 (by omega)
      have nx := vC_nx v2 (i := 0) (by omega) h0
      simp only [zs_75_0, zs_75_1, zs_75_4, zs_75_5, zs_75_5u, zs_75_6, zs_75_9, zs_75_12, zs_75_25, zs_75_25u, zs_75_26, zs_75_29, zs_75_30, zt_75_30, zs_75_33, zs_75_34, zs_75_35, zs_75_38, zs_75_39, zs_75_40, zs_75_40u, zs_75_41, zt_75_41, zs_75_44, zs_75_44u, zs_75_45, zs_75_48, zs_75_48u, zs_75_49, zs_75_52, zs_75_55, zs_75_55u, zs_75_56, zs_75_59, zs_75_62, zs_75_62u, zs_75_63, zs_75_66, zs_75_69, zt_75_69, zs_75_73, zs_75_76, zs_75_76u, zs_75_77, zs_75_80, zs_75_83, zs_75_86, zs_75_86u, zs_75_87, zs_75_90, zs_75_90u, zs_75_91, zs_75_94, zs_75_97, zs_75_100, zs_75_100u, zs_75_101, zs_75_104, zs_75_104u, zs_75_105, zs_75_108, zs_75_111, zs_75_114, zs_75_114u, zs_75_115, zs_75_118, zs_75_121, zt_75_121, zs_75_124, zc_isO, zr_fld_mk, zc_isA, zc_len, zr_elt_mk, zr_kill_i, zr_kill_l, zr_kill_r, zr_kill_u, zr_kill_f, zr_kill_n, zc_cat, zr_cat_i, zr_cat_l, zr_cat_r, zr_cat_f, zr_cat_d, zr_cat_u, beq_self_eq_true, Nat.zero_le, Nat.le_refl, Nat.reduceSub, Nat.reduceAdd, Nat.reduceLeDiff, csl_f, csr_f, cn_f, lg_cmp_eq, lg_cmp_le, lg_cmp_lt, lg_cmp_ge, lg_cmp_gt, nI_1, zr_up_self, zp_O, zr_fup_self, zr_fup_ne, ne_eq, Nat.reduceEqDiff, not_false_eq_true, pk_mul, hX2, zx_I, zx_0, zx_3, hR2, zt_I, zt_f13, zt_f11, zt_f12, w2.1, zm_I, hG2, zg_O]
      refine k_beg (d := d + 4) w2 hG2 hg2 (fun h3 f3 w3 => ?_)
      have x3 := fx_get f3 (nx 0 (by omega)) hX2
      have r3 := fx_get f3 (nx 3 (by omega)) hR2
      have i10 : fI r.2.2.1 6 0 10 = r.2.2.1 10 := fI_n _ _ (by omega)
      have i8 : fI r.2.2.1 6 0 8 = r.2.2.1 8 := fI_n _ _ (by omega)
      have i9 : fI r.2.2.1 6 0 9 = r.2.2.1 9 := fI_n _ _ (by omega)
      simp only [zs_75_0, zs_75_1, zs_75_4, zs_75_5, zs_75_5u, zs_75_6, zs_75_9, zs_75_12, zs_75_25, zs_75_25u, zs_75_26, zs_75_29, zs_75_30, zt_75_30, zs_75_33, zs_75_34, zs_75_35, zs_75_38, zs_75_39, zs_75_40, zs_75_40u, zs_75_41, zt_75_41, zs_75_44, zs_75_44u, zs_75_45, zs_75_48, zs_75_48u, zs_75_49, zs_75_52, zs_75_55, zs_75_55u, zs_75_56, zs_75_59, zs_75_62, zs_75_62u, zs_75_63, zs_75_66, zs_75_69, zt_75_69, zs_75_72, zs_75_72u, zs_75_73, zs_75_76, zs_75_76u, zs_75_77, zs_75_80, zs_75_83, zs_75_87, zs_75_90, zs_75_90u, zs_75_91, zs_75_94, zs_75_97, zs_75_100, zs_75_100u, zs_75_101, zs_75_104, zs_75_104u, zs_75_105, zs_75_108, zs_75_111, zs_75_114, zs_75_114u, zs_75_115, zs_75_118, zs_75_121, zt_75_121, zs_75_124, zc_isO, zr_fld_mk, zc_isA, zc_len, zr_elt_mk, zr_kill_i, zr_kill_l, zr_kill_r, zr_kill_u, zr_kill_f, zr_kill_n, zc_cat, zr_cat_i, zr_cat_l, zr_cat_r, zr_cat_f, zr_cat_d, zr_cat_u, beq_self_eq_true, Nat.zero_le, Nat.le_refl, Nat.reduceSub, Nat.reduceAdd, Nat.reduceLeDiff, csl_f, csr_f, cn_f, lg_cmp_eq, lg_cmp_le, lg_cmp_lt, lg_cmp_ge, lg_cmp_gt, nI_1, zr_up_self, zp_O, zr_fup_self, zr_fup_ne, ne_eq, Nat.reduceEqDiff, not_false_eq_true, pk_mul, x3, zx_I, zx_0, zx_3, r3, zt_I, zt_f10, w3.1, zm_I, i10]
      rw [putM w3.1 (by omega) (by omega)]
      obtain ⟨w4, f4⟩ := vM_I w3 (fI (bgI I) 2 (r.2.2.1 10))
      have f4 := fx_trans f3 f4
      have x4 := fx_get f4 (nx 0 (by omega)) hX2
      have r4 := fx_get f4 (nx 3 (by omega)) hR2
      generalize zr_up h3 (B2 0 0) _ = h4' at *
      simp only [zs_75_0, zs_75_1, zs_75_4, zs_75_5, zs_75_5u, zs_75_6, zs_75_9, zs_75_12, zs_75_25, zs_75_25u, zs_75_26, zs_75_29, zs_75_30, zt_75_30, zs_75_33, zs_75_34, zs_75_35, zs_75_38, zs_75_39, zs_75_40, zs_75_40u, zs_75_41, zt_75_41, zs_75_44, zs_75_44u, zs_75_45, zs_75_48, zs_75_48u, zs_75_49, zs_75_52, zs_75_55, zs_75_55u, zs_75_56, zs_75_59, zs_75_62, zs_75_62u, zs_75_63, zs_75_66, zs_75_69, zt_75_69, zs_75_72, zs_75_72u, zs_75_73, zs_75_76, zs_75_76u, zs_75_77, zs_75_80, zs_75_83, zs_75_86, zs_75_86u, zs_75_87, zs_75_90, zs_75_90u, zs_75_91, zs_75_94, zs_75_97, zs_75_101, zs_75_104, zs_75_104u, zs_75_105, zs_75_108, zs_75_111, zs_75_114, zs_75_114u, zs_75_115, zs_75_118, zs_75_121, zt_75_121, zs_75_124, zc_isO, zr_fld_mk, zc_isA, zc_len, zr_elt_mk, zr_kill_i, zr_kill_l, zr_kill_r, zr_kill_u, zr_kill_f, zr_kill_n, zc_cat, zr_cat_i, zr_cat_l, zr_cat_r, zr_cat_f, zr_cat_d, zr_cat_u, beq_self_eq_true, Nat.zero_le, Nat.le_refl, Nat.reduceSub, Nat.reduceAdd, Nat.reduceLeDiff, csl_f, csr_f, cn_f, lg_cmp_eq, lg_cmp_le, lg_cmp_lt, lg_cmp_ge, lg_cmp_gt, nI_1, zr_up_self, zp_O, zr_fup_self, zr_fup_ne, ne_eq, Nat.reduceEqDiff, not_false_eq_true, pk_mul, x4, zx_I, zx_0, zx_3, r4, zt_I, zt_f8, w4.1, zm_I, i8]
      rw [putM w4.1 (by omega) (by omega)]
      obtain ⟨w5, f5⟩ := vM_I w4 (fI (fI (bgI I) 2 (r.2.2.1 10)) 8 (r.2.2.1 8))
      have f5 := fx_trans f4 f5
      have x5 := fx_get f5 (nx 0 (by omega)) hX2
      have r5 := fx_get f5 (nx 3 (by omega)) hR2
      generalize zr_up h4' (B2 0 0) _ = h5' at *
      simp only [zs_75_0, zs_75_1, zs_75_4, zs_75_5, zs_75_5u, zs_75_6, zs_75_9, zs_75_12, zs_75_25, zs_75_25u, zs_75_26, zs_75_29, zs_75_30, zt_75_30, zs_75_33, zs_75_34, zs_75_35, zs_75_38, zs_75_39, zs_75_40, zs_75_40u, zs_75_41, zt_75_41, zs_75_44, zs_75_44u, zs_75_45, zs_75_48, zs_75_48u, zs_75_49, zs_75_52, zs_75_55, zs_75_55u, zs_75_56, zs_75_59, zs_75_62, zs_75_62u, zs_75_63, zs_75_66, zs_75_69, zt_75_69, zs_75_72, zs_75_72u, zs_75_73, zs_75_76, zs_75_76u, zs_75_77, zs_75_80, zs_75_83, zs_75_86, zs_75_86u, zs_75_87, zs_75_90, zs_75_90u, zs_75_91, zs_75_94, zs_75_97, zs_75_100, zs_75_100u, zs_75_101, zs_75_104, zs_75_104u, zs_75_105, zs_75_108, zs_75_111, zs_75_115, zs_75_118, zs_75_121, zt_75_121, zs_75_124, zc_isO, zr_fld_mk, zc_isA, zc_len, zr_elt_mk, zr_kill_i, zr_kill_l, zr_kill_r, zr_kill_u, zr_kill_f, zr_kill_n, zc_cat, zr_cat_i, zr_cat_l, zr_cat_r, zr_cat_f, zr_cat_d, zr_cat_u, beq_self_eq_true, Nat.zero_le, Nat.le_refl, Nat.reduceSub, Nat.reduceAdd, Nat.reduceLeDiff, csl_f, csr_f, cn_f, lg_cmp_eq, lg_cmp_le, lg_cmp_lt, lg_cmp_ge, lg_cmp_gt, nI_1, zr_up_self, zp_O, zr_fup_self, zr_fup_ne, ne_eq, Nat.reduceEqDiff, not_false_eq_true, pk_mul, x5, zx_I, zx_0, zx_3, r5, zt_I, zt_f9, w5.1, zm_I, i9]
      rw [putM w5.1 (by omega) (by omega)]
      obtain ⟨w6, f6⟩ := vM_I w5 (fI (fI (fI (bgI I) 2 (r.2.2.1 10)) 8 (r.2.2.1 8)) 9 (r.2.2.1 9))
      have f6 := fx_trans f5 f6
      have x6 := fx_get f6 (nx 0 (by omega)) hX2
      generalize zr_up h5' (B2 0 0) _ = h6' at *
      simp only [zs_75_0, zs_75_1, zs_75_4, zs_75_5, zs_75_5u, zs_75_6, zs_75_9, zs_75_12, zs_75_25, zs_75_25u, zs_75_26, zs_75_29, zs_75_30, zt_75_30, zs_75_33, zs_75_34, zs_75_35, zs_75_38, zs_75_39, zs_75_40, zs_75_40u, zs_75_41, zt_75_41, zs_75_44, zs_75_44u, zs_75_45, zs_75_48, zs_75_48u, zs_75_49, zs_75_52, zs_75_55, zs_75_55u, zs_75_56, zs_75_59, zs_75_62, zs_75_62u, zs_75_63, zs_75_66, zs_75_69, zt_75_69, zs_75_72, zs_75_72u, zs_75_73, zs_75_76, zs_75_76u, zs_75_77, zs_75_80, zs_75_83, zs_75_86, zs_75_86u, zs_75_87, zs_75_90, zs_75_90u, zs_75_91, zs_75_94, zs_75_97, zs_75_100, zs_75_100u, zs_75_101, zs_75_104, zs_75_104u, zs_75_105, zs_75_108, zs_75_111, zs_75_114, zs_75_114u, zs_75_115, zs_75_118, zs_75_121, zt_75_121, zs_75_124, zc_isO, zr_fld_mk, zc_isA, zc_len, zr_elt_mk, zr_kill_i, zr_kill_l, zr_kill_r, zr_kill_u, zr_kill_f, zr_kill_n, zc_cat, zr_cat_i, zr_cat_l, zr_cat_r, zr_cat_f, zr_cat_d, zr_cat_u, beq_self_eq_true, Nat.zero_le, Nat.le_refl, Nat.reduceSub, Nat.reduceAdd, Nat.reduceLeDiff, csl_f, csr_f, cn_f, lg_cmp_eq, lg_cmp_le, lg_cmp_lt, lg_cmp_ge, lg_cmp_gt, nI_1, zr_up_self, zp_O, zr_fup_self, zr_fup_ne, ne_eq, Nat.reduceEqDiff, not_false_eq_true, pk_mul, x6, zx_I, zx_0, w6.1, zm_I, zm_0, w6.2.1, zb_O]
      refine k_sn (d := d + 6) w6.2.1 ?_
      simp only [zs_75_0, zs_75_1, zs_75_4, zs_75_5, zs_75_5u, zs_75_6, zs_75_9, zs_75_12, zs_75_25, zs_75_25u, zs_75_26, zs_75_29, zs_75_30, zt_75_30, zs_75_33, zs_75_34, zs_75_35, zs_75_38, zs_75_39, zs_75_40, zs_75_40u, zs_75_41, zt_75_41, zs_75_44, zs_75_44u, zs_75_45, zs_75_48, zs_75_48u, zs_75_49, zs_75_52, zs_75_55, zs_75_55u, zs_75_56, zs_75_59, zs_75_62, zs_75_62u, zs_75_63, zs_75_66, zs_75_69, zt_75_69, zs_75_72, zs_75_72u, zs_75_73, zs_75_76, zs_75_76u, zs_75_77, zs_75_80, zs_75_83, zs_75_86, zs_75_86u, zs_75_87, zs_75_90, zs_75_90u, zs_75_91, zs_75_94, zs_75_97, zs_75_100, zs_75_100u, zs_75_101, zs_75_104, zs_75_104u, zs_75_105, zs_75_108, zs_75_111, zs_75_114, zs_75_114u, zs_75_115, zs_75_118, zs_75_121, zt_75_121, zs_75_124, zc_isO, zr_fld_mk, zc_isA, zc_len, zr_elt_mk, zr_kill_i, zr_kill_l, zr_kill_r, zr_kill_u, zr_kill_f, zr_kill_n, zc_cat, zr_cat_i, zr_cat_l, zr_cat_r, zr_cat_f, zr_cat_d, zr_cat_u, beq_self_eq_true, Nat.zero_le, Nat.le_refl, Nat.reduceSub, Nat.reduceAdd, Nat.reduceLeDiff, csl_f, csr_f, cn_f, lg_cmp_eq, lg_cmp_le, lg_cmp_lt, lg_cmp_ge, lg_cmp_gt, nI_1, zr_up_self, zp_O, zr_fup_self, zr_fup_ne, ne_eq, Nat.reduceEqDiff, not_false_eq_true, pk_mul]
      obtain ⟨v6, o6⟩ := vC_upd v2 (i := 0) (G := (R2, S2, r.2.2.2.1, r.2.2.2.2, [(r.2.2.2.1, r.2.2.2.2)], fI (fI (fI (bgI I) 2 (r.2.2.1 10)) 8 (r.2.2.1 8)) 9 (r.2.2.1 9))) (by omega) h0 f6 w6 nG2
      exact qT h6' B2 D1 _ _ _ hD0 (fun q o => ((o6 q o).trans (o2 q o)).trans (o1 q o)) (fI_s _ _ _) (by rw [fI_n _ _ (by omega)]; exact e7) v6
end STATE
