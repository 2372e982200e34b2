/-! THE MODEL'S READER: an option -/
/-- the fresh row is that of the class's reader -/
def fl (lv : Nat) (ff : Nat → Int64) (s : rst) : Prop :=
  (1 ≤ lv → ff 0 = (s.2.1 4).toInt64) ∧ (2 ≤ lv → ff 1 = (s.2.1 5).toInt64) ∧ ff 2 = (s.2.1 10).toInt64 ∧ ff 8 = (s.2.1 8).toInt64 ∧ ff 9 = (s.2.1 9).toInt64 ∧ ff 11 = s.2.2.1 ∧ ff 12 = s.2.2.2 ∧ ∀ k, k < 73 → k ≠ 0 → k ≠ 1 → k ≠ 2 → k ≠ 8 → k ≠ 9 → k ≠ 11 → k ≠ 12 → ff k = fr0 k
def rX (h : zr_H) (m : Nat) (E : Nat → Nat) (K : Nat → Int32) (L : Nat → Int64) (f ff fk fs : Nat → Int64) (sv : Nat → Value) (bf : Nat → Int32) (wf : Nat → Value) (tf : Nat → Int32) (n lv : Nat) (r : Bool × rst) : Prop :=
  ms h m E K L f ff fk fs sv (fun k => .int (bf k)) wf ∧ K 9 = nI n ∧ n ≤ 300 ∧ (∀ k, k < n → bf k = tf k &&& 255) ∧ rlM tf n K r ∧ (r.1 = true → fl lv ff r.2)
section PURE
variable {f : Nat → Int32} {n p lv a : Nat} {K : Nat → Int32} {s s2 : rst} {r r2 : Bool × rst} {ff : Nat → Int64} {c : Int32}
theorem rlM_eq (h : rlM f n K r) (e1 : r2.1 = r.1) (e2 : r2.2.1 = r.2.1) (e3 : r2.2.2.1 3 = r.2.2.1 3) (e7 : r2.2.2.1 7 = r.2.2.1 7) : rlM f n K r2 := by
  unfold rlM
  rw [e1, e2, e3, e7]
  exact h
theorem fl_at (h : fl lv ff s) : fl lv ff (sAt s a) := h
theorem fl_eq (h : fl lv ff s) (e4 : s2.2.1 4 = s.2.1 4) (e5 : s2.2.1 5 = s.2.1 5) (e8 : s2.2.1 8 = s.2.1 8) (e9 : s2.2.1 9 = s.2.1 9) (e10 : s2.2.1 10 = s.2.1 10) (eb : s2.2.2 = s.2.2) : fl lv ff s2 := by
  unfold fl
  rw [e4, e5, e8, e9, e10, eb]
  exact h
theorem fl_must {x : Bool} (h : fl lv ff s) (z : (fMust f n x s).1 = true) : fl lv ff (fMust f n x s).2 := by
  unfold fMust at z ⊢
  cases x
  · cases z
  · exact h
theorem fl_semi (h : r.1 = true → fl lv ff r.2) (z : (andT r (fSemi f n)).1 = true) : fl lv ff (andT r (fSemi f n)).2 := by
  rcases tf_c r.1 with y | y
  · rw [andT_t y, must_semi] at z ⊢
    exact fl_must (h y) z
  · rw [andT_f y, y] at z
    cases z
theorem num_s {lo hi : Int32} (z : (fTk f n lo hi s).1 = true) : ∃ a, (fTk f n lo hi s).2 = sAt s a := by
  unfold fTk at z ⊢
  unfold fNum at z ⊢
  by_cases c1 : sp iDi f n (sp iSp f n s.1) = sp iSp f n s.1
  · rw [if_pos c1] at z
    exact absurd z (by show ¬ decide (¬ (-1 : Int32) = -1) = true; decide)
  · rw [if_neg c1] at z ⊢
    by_cases c2 : lo ≤ nvl f n (n - sp iSp f n s.1) (sp iSp f n s.1) 0 ∧ nvl f n (n - sp iSp f n s.1) (sp iSp f n s.1) 0 ≤ hi
    · rw [if_pos c2]
      exact ⟨_, rfl⟩
    · rw [if_neg c2] at z
      exact absurd z (by show ¬ decide (¬ (-1 : Int32) = -1) = true; decide)
theorem fl_put (h : fl lv ff s) {k kk : Nat} (hk : (k = 0 ∧ kk = 4) ∨ (k = 1 ∧ kk = 5) ∨ (k = 2 ∧ kk = 10) ∨ (k = 8 ∧ kk = 8) ∨ (k = 9 ∧ kk = 9)) : fl (if k = 0 then max lv 1 else if k = 1 ∧ 1 ≤ lv then 2 else lv) (vu ff k c.toInt64) (sSet s kk c) := by
  obtain ⟨h0, h1, h2, h8, h9, h11, h12, ho⟩ := h
  have sS : ∀ j, (sSet s kk c).2.1 j = if j = kk then c else s.2.1 j := fun j => by
    unfold sSet fI
    rfl
  have sB : (sSet s kk c).2.2 = s.2.2 := rfl
  unfold fl
  rw [sS, sS, sS, sS, sS, sB]
  rcases hk with ⟨a, b⟩ | ⟨a, b⟩ | ⟨a, b⟩ | ⟨a, b⟩ | ⟨a, b⟩ <;> subst a b
  all_goals
    refine ⟨fun g => ?_, fun g => ?_, ?_, ?_, ?_, ?_, ?_, fun k hk n0 n1 n2 n8 n9 n11 n12 => ?_⟩
    all_goals first
      | (rw [vu_s]; rfl)
      | (rw [vu_n _ _ (by omega), if_neg (by omega)]; first | exact h2 | exact h8 | exact h9 | exact h0 (by simp at g; omega) | exact h0 (by simp at g; split at g <;> omega) | exact h1 (by simp at g; omega))
      | (rw [vu_n _ _ (by omega)]; first | exact h11 | exact h12 | exact ho k hk n0 n1 n2 n8 n9 n11 n12)
/-- one option -/
def oneOpt (f : Nat → Int32) (n : Nat) (s : rst) : Option (Bool × rst) :=
  if (fWord f n wRule s).1 then some (andT (numS f n 8 0 1 (fWord f n wRule s).2) (fSemi f n))
  else if (fWord f n wBonus (fWord f n wRule s).2).1 then some (andT (numS f n 9 0 99 (fWord f n wBonus (fWord f n wRule s).2).2) (fSemi f n))
  else if (fWord f n wTurn (fWord f n wBonus (fWord f n wRule s).2).2).1 then some (andT (fTurn f n (fWord f n wTurn (fWord f n wBonus (fWord f n wRule s).2).2).2) (fSemi f n))
  else none
theorem opts_one (t : Nat) : fOpts f n (t + 1) s = match oneOpt f n s with
  | some r => andT r (fOpts f n t)
  | none => (true, (fWord f n wTurn (fWord f n wBonus (fWord f n wRule s).2).2).2) := by
  unfold oneOpt
  show (if (fWord f n wRule s).1 then andT (andT (numS f n 8 0 1 (fWord f n wRule s).2) (fSemi f n)) (fOpts f n t)
    else if (fWord f n wBonus (fWord f n wRule s).2).1 then andT (andT (numS f n 9 0 99 (fWord f n wBonus (fWord f n wRule s).2).2) (fSemi f n)) (fOpts f n t)
    else if (fWord f n wTurn (fWord f n wBonus (fWord f n wRule s).2).2).1 then andT (andT (fTurn f n (fWord f n wTurn (fWord f n wBonus (fWord f n wRule s).2).2).2) (fSemi f n)) (fOpts f n t)
    else (true, (fWord f n wTurn (fWord f n wBonus (fWord f n wRule s).2).2).2)) = _
  by_cases c1 : (fWord f n wRule s).1 = true
  · rw [if_pos c1, if_pos c1]
  · rw [if_neg c1, if_neg c1]
    by_cases c2 : (fWord f n wBonus (fWord f n wRule s).2).1 = true
    · rw [if_pos c2, if_pos c2]
    · rw [if_neg c2, if_neg c2]
      by_cases c3 : (fWord f n wTurn (fWord f n wBonus (fWord f n wRule s).2).2).1 = true
      · rw [if_pos c3, if_pos c3]
      · rw [if_neg c3, if_neg c3]
theorem word_n {W : List Int32} (z : wmB f n (sp iSp f n s.1) W = false) : fWord f n W s = (false, sAt s (sp iSp f n s.1)) := by
  unfold fWord
  rw [if_neg (by rw [z]; decide)]
theorem word_y {W : List Int32} (hW : 1 ≤ W.length) (z : wmB f n (sp iSp f n s.1) W = true) : fWord f n W s = fMust f n true s := by
  have : orE (fWord f n W s) = fMust f n (wmB f n (sp iSp f n s.1) W) s := must_word hW
  rw [z] at this
  rw [← this, orE_t]
  unfold fWord
  rw [if_pos z]
end PURE
