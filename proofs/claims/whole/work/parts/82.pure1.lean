/-! SETS: what meets a set, what is stuck, what a stone takes -/
section PURE
variable {R S : Nat} {W X x t : Int64} {i : Nat}
theorem rc_meet (hg : vG R S) (hX : wi (R * S) X) (hW : ∀ j, tb X j = true → tb W j = true) (hi : tb W i = true) (hin : i < R * S) : tb (rc R S W X) i = true ↔ ∃ j, tb X j = true ∧ tb (rc R S W (ob i)) j = true := by
  have hv := ar_vn hg
  show tb (clo (cAround R S) W X) i = true ↔ _
  rw [clo_one hv hX]
  refine ⟨fun ⟨j, h1, h2⟩ => ⟨j, h1, clo_sym hv (hX j h1) (hW j h1) h2⟩, fun ⟨j, h1, h2⟩ => ⟨j, h1, clo_sym hv hin hi h2⟩⟩
theorem rc_in (hg : vG R S) (hin : i < R * S) (hi : tb W i = true) {j : Nat} (h : tb (rc R S W (ob i)) j = true) : tb W j = true := clo_ob_in (ar_vn hg) hin hi h
theorem rc_lt (hg : vG R S) (hin : i < R * S) {j : Nat} (h : tb (rc R S W (ob i)) j = true) : j < R * S := rc_wi hg (wi_ob hin (by have := g_n hg; omega)) j h
theorem rc_self (hg : vG R S) (hin : i < R * S) : tb (rc R S W (ob i)) i = true := clo_self (by have := g_n hg; omega)
theorem rc_same (hg : vG R S) (hin : i < R * S) (hi : tb W i = true) {j : Nat} (h : tb (rc R S W (ob i)) j = true) : rc R S W (ob j) = rc R S W (ob i) := clo_eq (ar_vn hg) hin hi h
theorem ar_iff (hg : vG R S) (hx : wi (R * S) x) (j : Nat) : tb (cAround R S x) j = true ↔ ∃ i, tb x i = true ∧ ad R S i j = true := (ar_vn hg).2.1 x hx j
theorem ab_tb (hg : vG R S) {i : Nat} : tb (ab R S t) i = true ↔ i < R * S ∧ tb t i = false := by
  have hn := g_n hg
  unfold ab
  rw [tb_and, Bool.and_eq_true, tb_fa (by omega), decide_eq_true_eq]
  constructor
  · intro ⟨a, b⟩
    rw [tb_cn t (by omega)] at b
    exact ⟨a, by simpa using b⟩
  · intro ⟨a, b⟩
    rw [tb_cn t (by omega), b]
    exact ⟨a, rfl⟩
theorem and_0 {x y : Int64} : x &&& y = 0 ↔ ∀ i, tb x i = true → tb y i = false := by
  rw [tb_eq0]
  constructor
  · intro h i hx
    have := h i (tb_lt hx)
    rw [tb_and, hx, Bool.true_and] at this
    exact this
  · intro h i _
    rw [tb_and]
    cases z : tb x i
    · rfl
    · rw [h i z]; rfl
theorem sk_tb (hg : vG R S) (hx : wi (R * S) x) (hi : tb x i = true) : tb (sk R S x t) i = true ↔ cAround R S (rc R S x (ob i)) &&& ab R S t = 0 := by
  have hin := hx i hi
  have hn := g_n hg
  have hX : wi (R * S) (x &&& cAround R S (ab R S t)) := wi_l hx
  unfold sk
  rw [tb_and, Bool.and_eq_true, tb_cn _ (by omega)]
  have e : (tb (rc R S x (x &&& cAround R S (ab R S t))) i = true) ↔ ¬ (cAround R S (rc R S x (ob i)) &&& ab R S t = 0) := by
    rw [rc_meet hg hX (fun j h => by rw [tb_and, Bool.and_eq_true] at h; exact h.1) hi hin, and_0]
    constructor
    · intro ⟨j, h1, h2⟩ h3
      rw [tb_and, Bool.and_eq_true] at h1
      obtain ⟨e, he1, he2⟩ := (ar_iff hg (ab_wi hg) j).mp h1.2
      have : tb (cAround R S (rc R S x (ob i))) e = true := (ar_iff hg (rc_wi hg (wi_ob hin (by omega))) e).mpr ⟨j, h2, ad_sy hg e j he2⟩
      rw [h3 e this] at he1
      cases he1
    · intro h3
      refine Classical.byContradiction (fun h4 => h3 (fun e he => ?_))
      cases z : tb (ab R S t) e
      · rfl
      · obtain ⟨j, hj1, hj2⟩ := (ar_iff hg (rc_wi hg (wi_ob hin (by omega))) e).mp he
        refine (h4 ⟨j, ?_, hj1⟩).elim
        rw [tb_and, Bool.and_eq_true]
        exact ⟨rc_in hg hin hi hj1, (ar_iff hg (ab_wi hg) j).mpr ⟨e, z, ad_sy hg j e hj2⟩⟩
  constructor
  · intro ⟨_, h⟩
    refine Classical.byContradiction (fun h2 => ?_)
    rw [e.mpr h2] at h
    cases h
  · intro h
    refine ⟨hi, ?_⟩
    cases z : tb (rc R S x (x &&& cAround R S (ab R S t))) i
    · rfl
    · exact absurd h (e.mp z)
theorem sk_in {x t : Int64} {i : Nat} (h : tb (sk R S x t) i = true) : tb x i = true := by
  unfold sk at h
  rw [tb_and, Bool.and_eq_true] at h
  exact h.1
/-- what a stone at p takes, looked for beside it -/
def tkn (R S : Nat) (own other : Int64) (p : Nat) : Nat → Int64
  | 0 => 0
  | k + 1 => match bs R S p k with
    | none => tkn R S own other p k
    | some q => if tb other q = true ∧ (cAround R S (rc R S other (ob q)) &&& fa (R * S)) &&& cn (own ||| ob p ||| other) = 0 then tkn R S own other p k ||| rc R S other (ob q) else tkn R S own other p k
theorem tkn_iff {own other : Int64} {p : Nat} (hg : vG R S) (hp : p < R * S) (k : Nat) (hk : k ≤ 4) (i : Nat) : tb (tkn R S own other p k) i = true ↔ ∃ e q, e < k ∧ bs R S p e = some q ∧ tb other q = true ∧ (cAround R S (rc R S other (ob q)) &&& fa (R * S)) &&& cn (own ||| ob p ||| other) = 0 ∧ tb (rc R S other (ob q)) i = true := by
  induction k with
  | zero => exact ⟨fun z => (by rw [show tkn R S own other p 0 = 0 from rfl, tb_0] at z; cases z), fun ⟨e, q, h, _⟩ => by omega⟩
  | succ k ih =>
    have ih := ih (by omega)
    cases eb : bs R S p k with
    | none =>
      have : tkn R S own other p (k + 1) = tkn R S own other p k := by unfold tkn; rw [eb]; cases k <;> rfl
      rw [this, ih]
      refine ⟨fun ⟨e, q, h, r⟩ => ⟨e, q, by omega, r⟩, fun ⟨e, q, h, h2, r⟩ => ⟨e, q, ?_, h2, r⟩⟩
      have : e ≠ k := fun g => by rw [g, eb] at h2; cases h2
      omega
    | some q =>
      have : tkn R S own other p (k + 1) = if tb other q = true ∧ (cAround R S (rc R S other (ob q)) &&& fa (R * S)) &&& cn (own ||| ob p ||| other) = 0 then tkn R S own other p k ||| rc R S other (ob q) else tkn R S own other p k := by
        show (match bs R S p k with | none => tkn R S own other p k | some q => if tb other q = true ∧ (cAround R S (rc R S other (ob q)) &&& fa (R * S)) &&& cn (own ||| ob p ||| other) = 0 then tkn R S own other p k ||| rc R S other (ob q) else tkn R S own other p k) = _
        rw [eb]
      rw [this]
      by_cases c : tb other q = true ∧ (cAround R S (rc R S other (ob q)) &&& fa (R * S)) &&& cn (own ||| ob p ||| other) = 0
      · rw [if_pos c, tb_or, Bool.or_eq_true, ih]
        refine ⟨fun h => h.elim (fun ⟨e, q, h, r⟩ => ⟨e, q, by omega, r⟩) (fun h => ⟨k, q, by omega, eb, c.1, c.2, h⟩), fun ⟨e, q2, h, h2, r⟩ => ?_⟩
        by_cases g : e = k
        · subst g
          rw [eb] at h2
          cases h2
          exact Or.inr r.2.2
        · exact Or.inl ⟨e, q2, by omega, h2, r⟩
      · rw [if_neg c, ih]
        refine ⟨fun ⟨e, q, h, r⟩ => ⟨e, q, by omega, r⟩, fun ⟨e, q2, h, h2, r⟩ => ⟨e, q2, ?_, h2, r⟩⟩
        have : e ≠ k := fun g => by
          rw [g, eb] at h2
          cases h2
          exact c ⟨r.1, r.2.1⟩
        omega
theorem fa_ab (x : Int64) : (x &&& fa (R * S)) &&& cn t = x &&& ab R S t := by unfold ab; rw [Int64.and_assoc]
theorem tb_or3 {a b c : Int64} {i : Nat} : tb (a ||| b ||| c) i = false ↔ tb a i = false ∧ tb b i = false ∧ tb c i = false := by
  rw [tb_or, tb_or]
  cases tb a i <;> cases tb b i <;> cases tb c i <;> simp
/-- it is all that is stuck, if nothing was stuck before -/
theorem tkn_sk {own other : Int64} {p : Nat} (hg : vG R S) (hw : wi (R * S) other) (hp : p < R * S) (hn : sk R S other (own ||| other) = 0) : tkn R S own other p 4 = sk R S other (own ||| other ||| ob p) := by
  have hl := g_lt hg
  have h60 := g_n hg
  have comm : ab R S (own ||| ob p ||| other) = ab R S (own ||| other ||| ob p) := by
    have : own ||| ob p ||| other = own ||| other ||| ob p := by rw [Int64.or_assoc, Int64.or_comm (ob p), ← Int64.or_assoc]
    rw [this]
  refine tb_ext (fun i _ => ?_)
  rw [Bool.eq_iff_iff, tkn_iff hg hp 4 (Nat.le_refl _)]
  constructor
  · intro ⟨e, q, he, hb, ho, hs, hr⟩
    rw [fa_ab, comm] at hs
    have hq := hw q ho
    have hi := rc_in hg hq ho hr
    rw [sk_tb hg hw hi, rc_same hg hq ho hr]
    exact hs
  · intro h
    have hi := sk_in h
    have hin := hw i hi
    have hs := (sk_tb hg hw hi).mp h
    have hb : ¬ (cAround R S (rc R S other (ob i)) &&& ab R S (own ||| other) = 0) := fun g => by
      have := (sk_tb hg hw hi).mpr g
      rw [hn, tb_0] at this
      cases this
    obtain ⟨e, he1, he2⟩ : ∃ e, tb (cAround R S (rc R S other (ob i))) e = true ∧ tb (ab R S (own ||| other)) e = true := by
      refine Classical.byContradiction (fun g => hb (and_0.mpr (fun e h1 => ?_)))
      cases z : tb (ab R S (own ||| other)) e
      · rfl
      · exact (g ⟨e, h1, z⟩).elim
    have hen := (ab_tb hg).mp he2
    have hep : e = p := by
      have h3 := and_0.mp hs e he1
      refine Classical.byContradiction (fun g => ?_)
      have : tb (ab R S (own ||| other ||| ob p)) e = true := (ab_tb hg).mpr ⟨hen.1, by
        rw [tb_or, hen.2, tb_ob (by omega) (by omega), decide_eq_false g]; rfl⟩
      rw [h3] at this
      cases this
    subst hep
    obtain ⟨j, hj1, hj2⟩ := (ar_iff hg (rc_wi hg (wi_ob hin (by omega))) e).mp he1
    have hj3 := rc_in hg hin hi hj1
    obtain ⟨_, dd, hd, hbs⟩ := ad_bs.mp (ad_sy hg j e hj2)
    refine ⟨dd, j, hd, hbs, hj3, ?_, ?_⟩
    · rw [fa_ab, comm, rc_same hg hin hi hj1]
      exact hs
    · rw [rc_same hg hin hi hj1]
      exact rc_self hg hin
end PURE
