/-! THE MODEL'S READER: what a read text keeps -/
section PURE
variable {f : Nat → Int32} {n p k k2 k3 P S : Nat} {s s2 : rst} {r : Bool × rst} {g : rst → Bool × rst}
def IV (k : Nat) (s : rst) : Prop := (s.2.1 10 = 1 ∨ s.2.1 10 = 2) ∧ (s.2.1 8 = 0 ∨ s.2.1 8 = 1) ∧ wi k s.2.2.1 ∧ wi k s.2.2.2 ∧ ∀ i, tb s.2.2.1 i = true → tb s.2.2.2 i = false
def PI (k k2 : Nat) (s : rst) (r : Bool × rst) : Prop := r.1 = true → s.1 ≤ r.2.1 ∧ (IV k s → IV k2 r.2)
theorem PI_r (s : rst) (x : Bool) : PI k k s (x, s) := fun _ => ⟨Nat.le_refl _, id⟩
theorem PI_and (a : PI k k2 s r) (b : r.1 = true → PI k2 k3 r.2 (g r.2)) : PI k k3 s (andT r g) := by
  rcases tf_c r.1 with z | z
  · rw [andT_t z]
    intro y
    obtain ⟨a1, a2⟩ := a z
    obtain ⟨b1, b2⟩ := b z y
    exact ⟨Nat.le_trans a1 b1, fun i => b2 (a2 i)⟩
  · rw [andT_f z]
    intro y
    rw [z] at y
    cases y
theorem PI_must {x : Bool} (h : s.1 ≤ n) : PI k k s (fMust f n x s) := by
  unfold fMust
  cases x
  · intro y; cases y
  · intro _
    exact ⟨Nat.le_trans (sp_ge s.1) (tkE_le (sp_le h)).1, id⟩
theorem must_n {x : Bool} (h : s.1 ≤ n) (y : (fMust f n x s).1 = true) : (fMust f n x s).2.1 ≤ n := by
  unfold fMust at y ⊢
  cases x
  · cases y
  · exact (tkE_le (sp_le h)).2
theorem PI_num {j : Nat} {lo hi : Int32} (hl : 0 ≤ lo) (h : s.1 ≤ n) (hj : j = 4 ∨ j = 5 ∨ j = 9 ∨ (j = 8 ∧ hi = 1)) : PI k k s (numS f n j lo hi s) ∧ ((numS f n j lo hi s).1 = true → (numS f n j lo hi s).2.1 ≤ n) := by
  have key : (numS f n j lo hi s).1 = true → ∃ v, lo ≤ v ∧ v ≤ hi ∧ (numS f n j lo hi s).2 = sSet (sAt s (sp iDi f n (sp iSp f n s.1))) j v := by
    intro y
    unfold numS at y ⊢
    unfold fNum at y ⊢
    by_cases c1 : sp iDi f n (sp iSp f n s.1) = sp iSp f n s.1
    · rw [if_pos c1] at y
      exact absurd y (by show ¬ decide (¬ (-1 : Int32) = -1) = true; decide)
    · rw [if_neg c1] at y ⊢
      by_cases c2 : lo ≤ nvl f n (n - sp iSp f n s.1) (sp iSp f n s.1) 0 ∧ nvl f n (n - sp iSp f n s.1) (sp iSp f n s.1) 0 ≤ hi
      · rw [if_pos c2]
        exact ⟨_, c2.1, c2.2, rfl⟩
      · rw [if_neg c2] at y
        exact absurd y (by show ¬ decide (¬ (-1 : Int32) = -1) = true; decide)
  have hj2 : j = 4 ∨ j = 5 ∨ j = 9 ∨ j = 8 := by
    rcases hj with c | c | c | c
    · exact Or.inl c
    · exact Or.inr (Or.inl c)
    · exact Or.inr (Or.inr (Or.inl c))
    · exact Or.inr (Or.inr (Or.inr c.1))
  refine ⟨fun y => ?_, fun y => ?_⟩
  · obtain ⟨v, v1, v2, e⟩ := key y
    rw [e]
    refine ⟨Nat.le_trans (sp_ge (p := iSp) (f := f) (n := n) s.1) (sp_ge (p := iDi) (f := f) (n := n) _), fun i => ?_⟩
    obtain ⟨i1, i2, i3⟩ := i
    refine ⟨?_, ?_, i3⟩
    · show fI (fI s.2.1 2 (nI (sp iDi f n (sp iSp f n s.1)))) j v 10 = 1 ∨ fI (fI s.2.1 2 (nI (sp iDi f n (sp iSp f n s.1)))) j v 10 = 2
      rw [fI_n _ _ (by clear hj; omega), fI_n _ _ (by omega)]
      exact i1
    · show fI (fI s.2.1 2 (nI (sp iDi f n (sp iSp f n s.1)))) j v 8 = 0 ∨ fI (fI s.2.1 2 (nI (sp iDi f n (sp iSp f n s.1)))) j v 8 = 1
      by_cases c : j = 8
      · have e1 : hi = 1 := by
          rcases hj with c2 | c2 | c2 | c2
          · omega
          · omega
          · omega
          · exact c2.2
        clear hj
        subst c e1
        rw [fI_s]
        exact slt_in.mp ⟨Int32.le_trans hl v1, v2⟩
      · rw [fI_n _ _ (by clear hj; omega), fI_n _ _ (by omega)]
        exact i2
  · obtain ⟨v, v1, v2, e⟩ := key y
    rw [e]
    exact sp_le (sp_le h)
theorem PI_semi (h : s.1 ≤ n) : PI k k s (fSemi f n s) := by rw [must_semi]; exact PI_must h
theorem semi_n (h : s.1 ≤ n) (y : (fSemi f n s).1 = true) : (fSemi f n s).2.1 ≤ n := by rw [must_semi] at y ⊢; exact must_n h y
theorem PI_word {W : List Int32} (hW : 1 ≤ W.length) (h : s.1 ≤ n) : PI k k s (orE (fWord f n W s)) ∧ ((orE (fWord f n W s)).1 = true → (orE (fWord f n W s)).2.1 ≤ n) := by
  rw [must_word hW]
  exact ⟨PI_must h, must_n h⟩
theorem PI_turn (h : s.1 ≤ n) : PI k k s (fTurn f n s) ∧ ((fTurn f n s).1 = true → (fTurn f n s).2.1 ≤ n) := by
  obtain ⟨e1, e2, -, -, e5⟩ := turn_eq (f := f) (n := n) (s := s)
  refine ⟨fun y => ?_, fun y => ?_⟩
  · have y' := y
    rw [e1] at y'
    obtain ⟨a, b⟩ := PI_must (k := k) h y'
    rw [← e2] at a
    refine ⟨a, fun i => ?_⟩
    obtain ⟨q4, q5, q8, q9, q10, qb⟩ := e5 y
    obtain ⟨i1, i2, i3⟩ := i
    unfold IV
    rw [q8, q10, qb]
    refine ⟨?_, i2, i3⟩
    split
    · exact Or.inr rfl
    · exact Or.inl rfl
  · rw [e2]
    rw [e1] at y
    exact must_n h y
/-- one option goes on -/
theorem one_step (h : s.1 ≤ n) (e : oneOpt f n s = some r) : PI k k s r ∧ (r.1 = true → r.2.1 ≤ n ∧ sp iSp f n s.1 < r.2.1) := by
  have m1 : ∀ {W : List Int32} {s : rst}, 1 ≤ W.length → s.1 ≤ n → wmB f n (sp iSp f n s.1) W = true → sp iSp f n s.1 < (fMust f n true s).2.1 := by
    intro W s hW h z
    have w := wmB_iff.mp z
    show sp iSp f n s.1 < tkE f n (sp iSp f n s.1)
    rw [tkE_0 (wm_K w hW), w.1]
    omega
  have idem := sp_idem (q := iSp) (f := f) (n := n) s.1
  have hp := sp_le (p := iSp) (f := f) h
  have ge := sp_ge (p := iSp) (f := f) (n := n) s.1
  have fin : ∀ {s1 : rst} {r1 : Bool × rst}, PI k k s1 r1 → (r1.1 = true → r1.2.1 ≤ n) → PI k k s1 (andT r1 (fSemi f n)) ∧ ((andT r1 (fSemi f n)).1 = true → (andT r1 (fSemi f n)).2.1 ≤ n) := by
    intro s1 r1 a b
    refine ⟨PI_and a (fun z => PI_semi (b z)), fun z => ?_⟩
    rcases tf_c r1.1 with y | y
    · rw [andT_t y] at z ⊢
      exact semi_n (b y) z
    · rw [andT_f y, y] at z
      cases z
  have all : ∀ {W : List Int32} {s0 : rst} {G : rst → Bool × rst}, 1 ≤ W.length → s.1 ≤ s0.1 → (IV k s → IV k s0) → s0.1 ≤ n → sp iSp f n s0.1 = sp iSp f n s.1 → wmB f n (sp iSp f n s0.1) W = true → (∀ s1 : rst, s1.1 ≤ n → PI k k s1 (G s1) ∧ ((G s1).1 = true → (G s1).2.1 ≤ n)) → PI k k s (andT (G (fMust f n true s0).2) (fSemi f n)) ∧ ((andT (G (fMust f n true s0).2) (fSemi f n)).1 = true → (andT (G (fMust f n true s0).2) (fSemi f n)).2.1 ≤ n ∧ sp iSp f n s.1 < (andT (G (fMust f n true s0).2) (fSemi f n)).2.1) := by
    intro W s0 G hW g0 gi gn gs z hG
    have lt := m1 hW gn z
    have mn : (fMust f n true s0).2.1 ≤ n := must_n gn rfl
    have mI := PI_must (f := f) (x := true) (k := k) gn rfl
    obtain ⟨G1, G2⟩ := hG _ mn
    obtain ⟨F1, F2⟩ := fin G1 G2
    refine ⟨fun y => ?_, fun y => ⟨F2 y, ?_⟩⟩
    · obtain ⟨a, b⟩ := F1 y
      exact ⟨by have := mI.1; omega, fun i => b (mI.2 (gi i))⟩
    · have := (F1 y).1
      rw [gs] at lt
      omega
  unfold oneOpt at e
  cases z1 : wmB f n (sp iSp f n s.1) wRule
  rotate_left
  · have e1 : (fMust f n true s).1 = true := rfl
    rw [word_y (by decide) z1, if_pos e1] at e
    have e := Option.some.inj e
    subst e
    exact all (by decide) (Nat.le_refl _) id h rfl z1 (fun s1 h1 => PI_num (by decide) h1 (Or.inr (Or.inr (Or.inr ⟨rfl, rfl⟩))))
  rw [word_n z1, if_neg (fun y => by cases y)] at e
  have i1 : sp iSp f n (sAt s (sp iSp f n s.1)).1 = sp iSp f n s.1 := idem
  cases z2 : wmB f n (sp iSp f n (sAt s (sp iSp f n s.1)).1) wBonus
  rotate_left
  · have e1 : (fMust f n true (sAt s (sp iSp f n s.1))).1 = true := rfl
    rw [word_y (by decide) z2, if_pos e1] at e
    have e := Option.some.inj e
    subst e
    exact all (by decide) ge id hp i1 z2 (fun s1 h1 => PI_num (by decide) h1 (Or.inr (Or.inr (Or.inl rfl))))
  rw [word_n z2, if_neg (fun y => by cases y)] at e
  have i2 : sp iSp f n (sAt (sAt s (sp iSp f n s.1)) (sp iSp f n (sAt s (sp iSp f n s.1)).1)).1 = sp iSp f n s.1 := by
    show sp iSp f n (sp iSp f n (sp iSp f n s.1)) = _
    rw [idem, idem]
  cases z3 : wmB f n (sp iSp f n (sAt (sAt s (sp iSp f n s.1)) (sp iSp f n (sAt s (sp iSp f n s.1)).1)).1) wTurn
  rotate_left
  · have e1 : (fMust f n true (sAt (sAt s (sp iSp f n s.1)) (sp iSp f n (sAt s (sp iSp f n s.1)).1))).1 = true := rfl
    rw [word_y (by decide) z3, if_pos e1] at e
    have e := Option.some.inj e
    subst e
    refine all (by decide) ?_ id ?_ i2 z3 (fun s1 h1 => PI_turn h1)
    · show s.1 ≤ sp iSp f n (sp iSp f n s.1)
      rw [idem]; exact ge
    · show sp iSp f n (sp iSp f n s.1) ≤ n
      rw [idem]; exact hp
  · rw [word_n z3, if_neg (fun y => by cases y)] at e
    cases e
theorem opts_no (e : oneOpt f n s = none) : (fWord f n wTurn (fWord f n wBonus (fWord f n wRule s).2).2).2 = sAt (sAt (sAt s (sp iSp f n s.1)) (sp iSp f n s.1)) (sp iSp f n s.1) := by
  have idem := sp_idem (q := iSp) (f := f) (n := n) s.1
  unfold oneOpt at e
  have i1 : sp iSp f n (sAt s (sp iSp f n s.1)).1 = sp iSp f n s.1 := idem
  have i2 : sp iSp f n (sAt (sAt s (sp iSp f n s.1)) (sp iSp f n s.1)).1 = sp iSp f n s.1 := idem
  cases z1 : wmB f n (sp iSp f n s.1) wRule
  rotate_left
  · have e1 : (fMust f n true s).1 = true := rfl
    rw [word_y (by decide) z1, if_pos e1] at e
    cases e
  rw [word_n z1, if_neg (fun y => by cases y)] at e
  cases z2 : wmB f n (sp iSp f n (sAt s (sp iSp f n s.1)).1) wBonus
  rotate_left
  · have e1 : (fMust f n true (sAt s (sp iSp f n s.1))).1 = true := rfl
    rw [word_y (by decide) z2, if_pos e1] at e
    cases e
  rw [word_n z2, if_neg (fun y => by cases y)] at e
  rw [i1] at e z2
  cases z3 : wmB f n (sp iSp f n (sAt (sAt s (sp iSp f n s.1)) (sp iSp f n s.1)).1) wTurn
  rotate_left
  · have e1 : (fMust f n true (sAt (sAt s (sp iSp f n s.1)) (sp iSp f n s.1))).1 = true := rfl
    rw [word_y (by decide) z3, if_pos e1] at e
    cases e
  rw [word_n z1, word_n (s := sAt s (sp iSp f n s.1)) (by rw [i1]; exact z2), i1, word_n z3, i2]
theorem one_none (h : n ≤ sp iSp f n s.1) : oneOpt f n s = none := by
  have no : ∀ {W : List Int32} {p : Nat}, 1 ≤ W.length → n ≤ p → wmB f n p W = false := by
    intro W p hW hp
    cases z : wmB f n p W
    · rfl
    · have := wm_K (wmB_iff.mp z) hW
      unfold tkK at this
      rw [if_pos hp] at this
      cases this
  have idem := sp_idem (q := iSp) (f := f) (n := n) s.1
  unfold oneOpt
  rw [word_n (no (by decide) h), if_neg (fun y => by cases y)]
  have i1 : sp iSp f n (sAt s (sp iSp f n s.1)).1 = sp iSp f n s.1 := idem
  rw [word_n (s := sAt s (sp iSp f n s.1)) (no (by decide) (by rw [i1]; exact h)), if_neg (fun y => by cases y), i1]
  have i2 : sp iSp f n (sAt (sAt s (sp iSp f n s.1)) (sp iSp f n s.1)).1 = sp iSp f n s.1 := idem
  rw [word_n (s := sAt (sAt s (sp iSp f n s.1)) (sp iSp f n s.1)) (no (by decide) (by rw [i2]; exact h)), if_neg (fun y => by cases y)]
theorem andT_a {g1 g2 : rst → Bool × rst} : andT (andT r g1) g2 = andT r (fun s => andT (g1 s) g2) := by
  rcases tf_c r.1 with z | z
  · rw [andT_t z, andT_t z]
  · rw [andT_f z, andT_f z, andT_f z]
/-- a row's letters -/
theorem put_IV (hk : k < 64) (c : Int32) (h : IV k s) : IV (k + 1) (putS c (ob k) s) := by
  obtain ⟨h1, h2, h3, h4, h5⟩ := h
  have w1 : ∀ {x : Int64}, wi k x → wi (k + 1) x := fun hx i hi => by have := hx i hi; omega
  have w2 : ∀ {x : Int64}, wi k x → wi (k + 1) (x ||| ob k) := fun hx i hi => by
    rw [tb_or, Bool.or_eq_true] at hi
    rcases hi with hi | hi
    · have := hx i hi; omega
    · rw [tb_ob hk (tb_lt hi), decide_eq_true_eq] at hi
      omega
  have nk : ∀ {x : Int64}, wi k x → tb x k = false := fun hx => by
    rename_i x
    cases z : tb x k
    · rfl
    · have := hx k z; omega
  unfold putS
  split
  · exact ⟨h1, h2, w1 h3, w1 h4, h5⟩
  · split
    · refine ⟨h1, h2, w2 h3, w1 h4, fun i hi => ?_⟩
      rw [tb_or, Bool.or_eq_true] at hi
      rcases hi with hi | hi
      · exact h5 i hi
      · rw [tb_ob hk (tb_lt hi), decide_eq_true_eq] at hi
        rw [hi]; exact nk h4
    · refine ⟨h1, h2, w1 h3, w2 h4, fun i hi => ?_⟩
      show tb (s.2.2.2 ||| ob k) i = false
      rw [tb_or, h5 i hi, Bool.false_or]
      cases z : tb (ob k) i
      · rfl
      · rw [tb_ob hk (tb_lt z), decide_eq_true_eq] at z
        have := h3 i hi
        omega
theorem lets_IV (t : Nat) : ∀ i s, P + i + t ≤ 60 → IV (P + i) s → (fLets f n p P t i s).1 = true → IV (P + i + t) (fLets f n p P t i s).2 ∧ (fLets f n p P t i s).2.1 = s.1 := by
  induction t with
  | zero => intro i s _ h _; exact ⟨h, rfl⟩
  | succ t ih =>
    intro i s hi h y
    by_cases g : good (by_ f n (p + i))
    · rw [lets_y g] at y ⊢
      have := ih (i + 1) _ (by omega) (put_IV (k := P + i) (by omega) (by_ f n (p + i)) h) y
      rw [show P + i + (t + 1) = P + (i + 1) + t by omega]
      exact ⟨this.1, this.2.trans putS_1.1⟩
    · have e : fLets f n p P (t + 1) i s = (false, sEr s (-3) p) := by
        show andT (orV (fPut (by_ f n (p + i)) (ob (P + i)) s) p) (fLets f n p P t (i + 1)) = _
        rw [fPut_n g, orV_f rfl, andT_f rfl]
      rw [e] at y
      cases y
theorem let_IV (hP : P + S ≤ 60) (h : s.1 ≤ n) (y : (fLet f n S P s).1 = true) (i : IV P s) : IV (P + S) (fLet f n S P s).2 ∧ (fLet f n S P s).2.1 ≤ n := by
  have hp := sp_le (p := iSp) (f := f) h
  generalize ep : sp iSp f n s.1 = p at *
  by_cases hk : tkK f n p = 0
  · by_cases g : rowOk f n p S
    · have e := let_ok (f := f) (n := n) (P := P) (s := s) (S := S) (by rw [ep]; exact hk) (by rw [ep]; exact g)
      rw [ep] at e
      rw [e] at y ⊢
      rcases tf_c (fLets f n p P S 0 (sAt s p)).1 with z | z
      · rw [andT_t z]
        have := lets_IV S 0 (sAt s p) (by omega) i z
        exact ⟨this.1, sp_le hp⟩
      · rw [andT_f z, z] at y
        cases y
    · have := (let_bad (f := f) (n := n) (P := P) (s := s) (S := S) (by rw [ep]; exact hk) (by rw [ep]; exact g)).1
      rw [this] at y
      cases y
  · rw [let_no (by rw [ep]; exact hk)] at y
    cases y
theorem rows_IV (t : Nat) : ∀ ρ s, S * (ρ + t) ≤ 60 → s.1 ≤ n → (fRows f n S t ρ s).1 = true → IV (S * ρ) s → IV (S * (ρ + t)) (fRows f n S t ρ s).2 := by
  induction t with
  | zero => intro ρ s _ _ _ i; exact i
  | succ t ih =>
    intro ρ s hS h y i
    have m1 : S * (ρ + (t + 1)) = S * ρ + S + S * t := by rw [Nat.mul_add, Nat.mul_add, Nat.mul_one]; omega
    have m2 : S * (ρ + 1) = S * ρ + S := by rw [Nat.mul_add, Nat.mul_one]
    have m3 : S * (ρ + 1 + t) = S * ρ + S + S * t := by rw [Nat.mul_add, m2]
    change (andT (andT (andT (orE (fWord f n wRow s)) (fLet f n S (S * ρ))) (fSemi f n)) (fRows f n S t (ρ + 1))).1 = true at y
    show IV _ (andT (andT (andT (orE (fWord f n wRow s)) (fLet f n S (S * ρ))) (fSemi f n)) (fRows f n S t (ρ + 1))).2
    have w := PI_word (f := f) (n := n) (W := wRow) (k := S * ρ) (by decide) h
    generalize orE (fWord f n wRow s) = r1 at *
    rcases tf_c r1.1 with z1 | z1
    rotate_left
    · rw [andT_f z1, andT_f z1, andT_f z1, z1] at y; cases y
    rw [andT_t z1] at y ⊢
    have i1 := (w.1 z1).2 i
    have n1 := w.2 z1
    have l := let_IV (f := f) (n := n) (S := S) (P := S * ρ) (s := r1.2) (by omega) n1
    generalize fLet f n S (S * ρ) r1.2 = r2 at *
    rcases tf_c r2.1 with z2 | z2
    rotate_left
    · rw [andT_f z2, andT_f z2, z2] at y; cases y
    rw [andT_t z2] at y ⊢
    obtain ⟨i2, n2⟩ := l z2 i1
    have q1 := PI_semi (f := f) (k := S * ρ + S) n2
    have q2 := semi_n (f := f) n2
    generalize fSemi f n r2.2 = r3 at *
    rcases tf_c r3.1 with z3 | z3
    rotate_left
    · rw [andT_f z3, z3] at y; cases y
    rw [andT_t z3] at y ⊢
    have := ih (ρ + 1) r3.2 (by omega) (q2 z3) y (by rw [m2]; exact (q1 z3).2 i2)
    rw [m1, ← m3]
    exact this
end PURE
