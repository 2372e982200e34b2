/-! WHAT A LEGAL STONE LEAVES: every chain has a freedom again -/
def iv (R S : Nat) (own other : Int64) : Prop := wi (R * S) own ∧ wi (R * S) other ∧ (∀ i, tb own i = true → tb other i = false) ∧ sk R S own (own ||| other) = 0 ∧ sk R S other (own ||| other) = 0
section PURE
variable {R S : Nat} {own other : Int64} {q : Nat}
theorem iv_sw (I : iv R S own other) : iv R S other own := ⟨I.2.1, I.1, fun i h => (by cases z : tb own i; rfl; rw [I.2.2.1 i z] at h; cases h), by rw [Int64.or_comm]; exact I.2.2.2.2, by rw [Int64.or_comm]; exact I.2.2.2.1⟩
theorem sk_n {x t : Int64} (hg : vG R S) (hx : wi (R * S) x) : sk R S x t = 0 ↔ ∀ i, tb x i = true → ∃ e, tb (cAround R S (rc R S x (ob i))) e = true ∧ e < R * S ∧ tb t e = false := by
  constructor
  · intro h i hi
    have : ¬ cAround R S (rc R S x (ob i)) &&& ab R S t = 0 := fun g => by
      have := (sk_tb hg hx hi).mpr g
      rw [h, tb_0] at this
      cases this
    obtain ⟨e, a, c⟩ := and_n0.mp this
    exact ⟨e, a, (ab_tb hg).mp c⟩
  · intro h
    refine Classical.byContradiction (fun g => ?_)
    obtain ⟨i, _, hi⟩ := tb_ne0 g
    have hx2 := sk_in hi
    obtain ⟨e, a, c⟩ := h i hx2
    have := and_0.mp ((sk_tb hg hx hx2).mp hi) e a
    rw [(ab_tb hg).mpr c] at this
    cases this
/-- what is taken is a union of chains -/
theorem trT_un (hg : vG R S) (hw : wi (R * S) other) : unG R S other (other &&& cn (trT R S own other q)) := by
  refine ⟨fun i h => (by rw [tb_and, Bool.and_eq_true] at h; exact h.1), fun i j hi hj => ?_⟩
  rw [tb_and, Bool.and_eq_true] at hi
  have ho := hi.1
  have hin := hw i ho
  have hjo := rc_in hg hin ho hj
  rw [tb_and, hjo, tb_cn _ (tb_lt hjo)]
  cases z : tb (trT R S own other q) j
  · rfl
  · exfalso
    have := (sk_tb hg hw hjo).mp z
    rw [rc_same hg hin ho hj] at this
    have := (sk_tb hg hw ho).mpr this
    have h2 := hi.2
    have this : tb (trT R S own other q) i = true := this
    rw [tb_cn _ (tb_lt ho), this] at h2
    cases h2
theorem trF_fr (hg : vG R S) (hq : q < R * S) : trF R S own other q = fr R S (trC R S own q) ((own ||| ob q) ||| (other &&& cn (trT R S own other q))) := by
  have hn := g_n hg
  have wc : wi (R * S) (cAround R S (trC R S own q)) := vn_N (ar_vn hg) (rc_wi' hg hq)
  unfold trF fr
  refine tb_ext (fun i hi => ?_)
  rw [tb_and, tb_and, tb_and]
  cases z : tb (cAround R S (trC R S own q)) i
  · rw [Bool.false_and, Bool.false_and]
  · rw [tb_fa (by omega), decide_eq_true (wc i z), Bool.true_and]
theorem trF_n (hg : vG R S) (hq : q < R * S) : ¬ trF R S own other q = 0 ↔ ∃ e, tb (cAround R S (trC R S own q)) e = true ∧ tb (own ||| ob q) e = false ∧ tb (other &&& cn (trT R S own other q)) e = false := by
  rw [trF_fr hg hq]
  unfold fr
  rw [and_n0]
  constructor
  · intro ⟨e, a, c⟩
    rw [tb_cn _ (tb_lt a)] at c
    have : tb ((own ||| ob q) ||| (other &&& cn (trT R S own other q))) e = false := by simpa using c
    rw [tb_or] at this
    exact ⟨e, a, (Bool.or_eq_false_iff.mp this).1, (Bool.or_eq_false_iff.mp this).2⟩
  · intro ⟨e, a, c1, c2⟩
    refine ⟨e, a, ?_⟩
    rw [tb_cn _ (tb_lt a), tb_or, c1, c2]
    rfl
theorem iv_legal (hg : vG R S) (I : iv R S own other) (hq : q < R * S) (h1 : tb own q = false) (h2 : tb other q = false) (hF : ¬ trF R S own other q = 0) : iv R S (own ||| ob q) (other &&& cn (trT R S own other q)) := by
  obtain ⟨wo, wt, dj, so1, so2⟩ := I
  have hn := g_n hg
  have wq : wi (R * S) (ob q) := wi_ob hq (by omega)
  have wo' : wi (R * S) (own ||| ob q) := wi_or wo wq
  have un := trT_un (own := own) (q := q) hg wt
  have sub : ∀ e, tb (own ||| ob q) e = false → tb (other &&& cn (trT R S own other q)) e = false → tb ((own ||| ob q) ||| (other &&& cn (trT R S own other q))) e = false := fun e a c => by rw [tb_or, a, c]; rfl
  have qin : tb (own ||| ob q) q = true := (tb_ob_or (by omega)).mpr (Or.inr rfl)
  refine ⟨wo', wi_l wt, fun i hi => ?_, ?_, ?_⟩
  · rcases (tb_ob_or (by omega)).mp hi with a | a
    · rw [tb_and, dj i a]; rfl
    · rw [a, tb_and, h2]; rfl
  · rw [sk_n hg wo']
    intro i hi
    by_cases c : tb (rc R S (own ||| ob q) (ob q)) i = true
    · obtain ⟨e, a, c1, c2⟩ := (trF_n hg hq).mp hF
      have same := rc_same hg hq qin c
      refine ⟨e, by rw [same]; exact a, vn_N (ar_vn hg) (rc_wi' hg hq) e a, sub e c1 c2⟩
    · have io : tb own i = true := by
        rcases (tb_ob_or (by omega)).mp hi with a | a
        · exact a
        · rw [a] at c
          exact (c (rc_self hg hq)).elim
      have hin := wo i io
      obtain ⟨e, a, en, et⟩ := (sk_n hg wo).mp so1 i io
      obtain ⟨j, hj1, hj2⟩ := (ar_iff hg (rc_wi' hg hin) e).mp a
      have hj3 : tb (rc R S (own ||| ob q) (ob i)) j = true := clo_3 (ar_vn hg) (wi_ob hin (by omega)) (T := fun j => tb (rc R S (own ||| ob q) (ob i)) j = true) (fun k hk => clo_1 hk) (fun k l hk ha hw => clo_2 (ar_vn hg) (wi_ob hin (by omega)) hk ha ((tb_ob_or (by omega)).mpr (Or.inl hw))) hj1
      have eq : e ≠ q := fun ee => by
        subst ee
        have : tb (rc R S (own ||| ob e) (ob i)) e = true := clo_2 (ar_vn hg) (wi_ob hin (by omega)) hj3 hj2 qin
        have s2 := rc_same hg hin hi this
        exact c (by rw [s2]; exact rc_self hg hin)
      rw [tb_or] at et
      have et := Bool.or_eq_false_iff.mp et
      refine ⟨e, (ar_iff hg (rc_wi' hg hin) e).mpr ⟨j, hj3, hj2⟩, en, sub e ?_ (by rw [tb_and, et.2]; rfl)⟩
      cases z : tb (own ||| ob q) e
      · rfl
      · rcases (tb_ob_or (by omega)).mp z with a2 | a2
        · rw [et.1] at a2; cases a2
        · exact (eq a2).elim
  · rw [sk_n hg (wi_l wt)]
    intro i hi
    have hi2 := hi
    rw [tb_and, Bool.and_eq_true] at hi2
    have hin := wt i hi2.1
    rw [rc_un hg wt un hi]
    have ns : ¬ cAround R S (rc R S other (ob i)) &&& ab R S (own ||| other ||| ob q) = 0 := fun g => by
      have := (sk_tb hg wt hi2.1).mpr g
      have this : tb (trT R S own other q) i = true := this
      have h3 := hi2.2
      rw [tb_cn _ (tb_lt hi), this] at h3
      cases h3
    obtain ⟨e, a, c⟩ := and_n0.mp ns
    have c := (ab_tb hg).mp c
    have c2 := tb_or3.mp c.2
    refine ⟨e, a, c.1, sub e ?_ (by rw [tb_and, c2.2.1]; rfl)⟩
    rw [tb_or, c2.1, c2.2.2]
    rfl
/-- what takes is never refused for want of a freedom -/
theorem trT_F (hg : vG R S) (I : iv R S own other) (hq : q < R * S) (h1 : tb own q = false) (h2 : tb other q = false) (hT : ¬ trT R S own other q = 0) : ¬ trF R S own other q = 0 := by
  have hn := g_n hg
  obtain ⟨wo, wt, dj, so1, so2⟩ := I
  obtain ⟨i, _, hi⟩ := tb_ne0 hT
  have hsk : sk R S other (own ||| other) = 0 := so2
  have ek := tkn_sk (own := own) hg wt hq hsk
  have hi' : tb (tkn R S own other q 4) i = true := by rw [ek]; exact hi
  obtain ⟨e, j, he, hb, ho, hs, hr⟩ := (tkn_iff hg hq 4 (Nat.le_refl _) i).mp hi'
  have jT : tb (trT R S own other q) j = true := by
    show tb (sk R S other (own ||| other ||| ob q)) j = true
    rw [← ek]
    exact (tkn_iff hg hq 4 (Nat.le_refl _) j).mpr ⟨e, j, he, hb, ho, hs, rc_self hg (wt j ho)⟩
  refine (trF_n hg hq).mpr ⟨j, (ar_iff hg (rc_wi' hg hq) j).mpr ⟨q, rc_self hg hq, ad_bs.mpr ⟨hq, e, he, hb⟩⟩, ?_, ?_⟩
  · cases z : tb (own ||| ob q) j
    · rfl
    · rcases (tb_ob_or (by omega)).mp z with a | a
      · rw [dj j a] at ho; cases ho
      · rw [a, h2] at ho; cases ho
  · rw [tb_and, tb_cn _ (tb_lt ho), jT, Bool.not_true, Bool.and_false]
end PURE
/-! THE HUNT, told the model's way -/
def lst (R S p : Nat) (o c : Int64) : Int64 := fr R S (rc R S o (ob p)) (o ||| c)
def cgt (R S p : Nat) : Nat → Int64 → Int64 → Prop
  | 0, _, _ => False
  | n + 1, o, c => ∃ q, q < R * S ∧ tb (lst R S p o c) q = true ∧ ¬ trF R S c o q = 0 ∧ (tb (o &&& cn (trT R S c o q)) p = false ∨ (¬ n = 0 ∧ ct (lst R S p (o &&& cn (trT R S c o q)) (c ||| ob q)) = 1 ∧
      (trF R S (o &&& cn (trT R S c o q)) (c ||| ob q) (lo (lst R S p (o &&& cn (trT R S c o q)) (c ||| ob q))) = 0 ∨
        cgt R S p n ((o &&& cn (trT R S c o q)) ||| ob (lo (lst R S p (o &&& cn (trT R S c o q)) (c ||| ob q)))) ((c ||| ob q) &&& cn (trT R S (o &&& cn (trT R S c o q)) (c ||| ob q) (lo (lst R S p (o &&& cn (trT R S c o q)) (c ||| ob q))))))))
section PURE
variable {R S : Nat} {p : Nat}
theorem hL_iff {O : Int64 → Nat} {f : Int64} {n : Nat} (hn : n < 100) (k : Nat) : hL O f k ≤ n ↔ ∃ j, j < k ∧ tb f j = true ∧ O (ob j) ≤ n := by
  induction k with
  | zero => exact ⟨fun h => absurd h (by show ¬ 100 ≤ n; omega), fun ⟨j, h, _⟩ => by omega⟩
  | succ k ih =>
    cases z : tb f k
    · rw [hL_n z, ih]
      refine ⟨fun ⟨j, a, c⟩ => ⟨j, by omega, c⟩, fun ⟨j, a, c⟩ => ⟨j, ?_, c⟩⟩
      have : j ≠ k := fun e => by rw [e, z] at c; cases c.1
      omega
    · rw [hL_y z]
      constructor
      · intro h
        by_cases g : O (ob k) < hL O f k
        · rw [if_pos g] at h
          exact ⟨k, by omega, z, h⟩
        · rw [if_neg g] at h
          obtain ⟨j, a, c⟩ := ih.mp h
          exact ⟨j, by omega, c⟩
      · intro ⟨j, a, c⟩
        by_cases e : j = k
        · subst e
          split <;> omega
        · have := ih.mpr ⟨j, by omega, c⟩
          split <;> omega
theorem ob_of1 {x : Int64} (h : ct x = 1) : x = ob (lo x) ∧ lo x < 64 ∧ tb x (lo x) = true := by
  have n0 : ¬ x = 0 := fun e => by rw [ct_0.mpr e] at h; omega
  obtain ⟨a1, a2, a3⟩ := lo_tb n0
  refine ⟨tb_ext (fun i hi => ?_), a3, a1⟩
  rw [tb_ob a3 hi]
  by_cases e : i = lo x
  · rw [e, a1, decide_eq_true rfl]
  · rw [decide_eq_false e]
    cases z : tb x i
    · rfl
    · exfalso
      have := ct_lt (x := ob (lo x)) (y := x) (fun k hk => by rw [tb_ob a3 (tb_lt hk), decide_eq_true_eq] at hk; rw [hk]; exact a1) (j := i) (by rw [tb_ob a3 hi, decide_eq_false e]) z
      have c1 : ct (ob (lo x)) ≠ 0 := fun y => by
        have := ct_0.mp y
        have t : tb (ob (lo x)) (lo x) = true := by rw [tb_ob a3 a3, decide_eq_true rfl]
        rw [this, tb_0] at t
        cases t
      omega
end PURE
