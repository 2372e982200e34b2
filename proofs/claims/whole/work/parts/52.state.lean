/-! THE CLASS'S GAMES: many in one heap, none touching another -/
def aV (t : Nat) (h : zr_H) (q n : Nat) (f : Nat → Value) : Prop := ∃ F, h q = some (.inr (t, n, F)) ∧ ∀ k, k < n → F k = f k
section STATE
variable {h h' : zr_H} {t q n k : Nat} {f f2 : Nat → Value}
theorem aV_isA (a : aV t h q n f) : zr_isA (h q) t = true := by obtain ⟨F, h1, -⟩ := a; rw [h1]; simp [zr_isA]
theorem aV_in (a : aV t h q n f) (hk : k < n) (hn : n < 2 ^ 31) : vp_in (nI k) (zr_len (h q)) := by obtain ⟨F, h1, -⟩ := a; rw [h1]; exact vp_in_nI hk hn
theorem aV_elt (a : aV t h q n f) (hk : k < n) (hn : n < 2 ^ 31) : zr_elt (h q) (nI k).toNatClampNeg = f k := by
  obtain ⟨F, h1, h2⟩ := a
  rw [h1, nI_clamp (by omega)]
  exact h2 k hk
theorem aV_put {i : Nat} {v : Value} (a : aV t h q n f) (e : ∀ k, k < n → f2 k = if k = i then v else f k) : aV t (zr_putA h q i v) q n f2 := by
  obtain ⟨F, h1, h2⟩ := a
  refine ⟨zr_fup F i v, ?_, fun k hk => ?_⟩
  · rw [zr_putA_mk h1, zr_up_self]
  · rw [e k hk]
    show (if k = i then _ else F k) = _
    by_cases c : k = i
    · rw [if_pos c, if_pos c]
    · rw [if_neg c, if_neg c]; exact h2 k hk
theorem aV_fx {X : List Nat} (a : aV t h q n f) (m : fx X h h') (hq : ¬ q ∈ X) : aV t h' q n f := by
  obtain ⟨F, h1, h2⟩ := a
  exact ⟨F, fx_get m hq h1, h2⟩
theorem aV_to (a : aV t h q n f) (e : h' q = h q) : aV t h' q n f := by
  obtain ⟨F, h1, h2⟩ := a
  exact ⟨F, e.trans h1, h2⟩
theorem aV_eq (a : aV t h q n f) (e : ∀ k, k < n → f2 k = f k) : aV t h q n f2 := by
  obtain ⟨F, h1, h2⟩ := a
  exact ⟨F, h1, fun k hk => by rw [h2 k hk, e k hk]⟩
theorem aB_to {f : Nat → Int32} (a : aB h q n f) (e : h' q = h q) : aB h' q n f := by
  obtain ⟨F, h1, h2⟩ := a
  exact ⟨F, e.trans h1, h2⟩
theorem aL_to {f : Nat → Int64} (a : aL h q n f) (e : h' q = h q) : aL h' q n f := by
  obtain ⟨F, h1, h2⟩ := a
  exact ⟨F, e.trans h1, h2⟩
end STATE
def gk (c : zr_C) : Bool := match c with
  | .inl (n, _) => n == 0 || n == 1 || n == 2 || n == 4
  | .inr (k, _, _) => k == 1
def gO (h : zr_H) (q : Nat) : Prop := ∃ c, h q = some c ∧ gk c = true
/-- a game: rings, sectors, stones, positions, numbers -/
abbrev gm := Nat × Nat × Int64 × Int64 × List (Int64 × Int64) × (Nat → Int32)
def vMg (h : zr_H) (A : Nat → Nat) (G : gm) (g : Nat) : Prop := vM h A G.1 G.2.1 G.2.2.1 G.2.2.2.1 G.2.2.2.2.1 G.2.2.2.2.2 g
/-- a game whose parts nobody else has -/
def vMo (h : zr_H) (O : Nat → Prop) (A : Nat → Nat) (G : gm) : Prop := (∃ g, vMg h A G g ∧ ¬ O g) ∧ ∀ j, j < 5 → ¬ O (A j)
def zK (h : zr_H) (O : Nat → Prop) (B : Nat → Nat → Nat) (V : Nat → Option gm) : Prop :=
  (∀ i G, i < 11 → V i = some G → vMo h O (B i) G) ∧ ∀ i k G G', i < 11 → k < 11 → i ≠ k → V i = some G → V k = some G' → ∀ j m, j < 5 → m < 5 → B i j ≠ B k m
def vu {α : Type} (V : Nat → α) (i : Nat) (x : α) : Nat → α := fun k => if k = i then x else V k
theorem vu_s {α : Type} (V : Nat → α) (i : Nat) (x : α) : vu V i x i = x := by simp [vu]
theorem vu_n {α : Type} (V : Nat → α) {i k : Nat} (x : α) (e : k ≠ i) : vu V i x k = V k := by simp [vu, e]
section STATE
variable {h h' : zr_H} {A : Nat → Nat} {R S g : Nat} {b w : Int64} {P : List (Int64 × Int64)} {I : Nat → Int32} {O : Nat → Prop} {B : Nat → Nat → Nat} {V : Nat → Option gm} {G : gm}
theorem vM_gO (v : vM h A R S b w P I g) : gO h g ∧ ∀ j, j < 5 → gO h (A j) := by
  obtain ⟨h0, h1, h2, -, fb, fw, ⟨p0, ⟨F1, p1, -⟩, ⟨F2, p2, -⟩, -⟩, -⟩ := v
  refine ⟨⟨_, h2, rfl⟩, fun j hj => ?_⟩
  have : j = 0 ∨ j = 1 ∨ j = 2 ∨ j = 3 ∨ j = 4 := by omega
  rcases this with e | e | e | e | e <;> subst e
  · exact ⟨_, h0, rfl⟩
  · exact ⟨_, h1, rfl⟩
  · exact ⟨_, p0, rfl⟩
  · exact ⟨_, p1, rfl⟩
  · exact ⟨_, p2, rfl⟩
theorem vM_loc (v : vM h A R S b w P I g) (eg : h' g = h g) (e : ∀ j, j < 5 → h' (A j) = h (A j)) : vM h' A R S b w P I g := by
  obtain ⟨h0, h1, h2, hg, fb, fw, ⟨p0, p1, p2, p3⟩, p4⟩ := v
  exact ⟨(e 0 (by omega)).trans h0, (e 1 (by omega)).trans h1, eg.trans h2, hg, fb, fw, ⟨(e 2 (by omega)).trans p0, aL_to p1 (e 3 (by omega)), aL_to p2 (e 4 (by omega)), p3⟩, p4⟩
theorem vMo_fx (v : vMo h O A G) (e : ∀ q, ¬ O q → gO h q → (q = A 0 ∨ q = A 1 ∨ q = A 2 ∨ q = A 3 ∨ q = A 4 ∨ ∃ R S, h q = some (zg R S)) → h' q = h q) : vMo h' O A G := by
  obtain ⟨⟨g, v, n⟩, m⟩ := v
  have o := vM_gO v
  refine ⟨⟨g, vM_loc v (e g n o.1 (Or.inr (Or.inr (Or.inr (Or.inr (Or.inr ⟨_, _, v.2.2.1⟩)))))) (fun j hj => e _ (m j hj) (o.2 j hj) ?_), n⟩, m⟩
  have : j = 0 ∨ j = 1 ∨ j = 2 ∨ j = 3 ∨ j = 4 := by omega
  rcases this with z | z | z | z | z <;> subst z <;> simp
theorem zK_fx (k : zK h O B V) (e : ∀ q, ¬ O q → gO h q → h' q = h q) : zK h' O B V :=
  ⟨fun i G hi hV => vMo_fx (k.1 i G hi hV) (fun q n o _ => e q n o), k.2⟩
theorem vM_xA (v : vM h A R S b w P I g) {q R2 S2 : Nat} (e : h q = some (zg R2 S2)) : ¬ q ∈ xA A := by
  obtain ⟨h0, h1, h2, -, fb, fw, ⟨p0, ⟨F1, p1, -⟩, ⟨F2, p2, -⟩, -⟩, -⟩ := v
  intro m
  simp [xA] at m
  rcases m with z | z | z | z | z <;> subst z
  · rw [e] at h0; exact absurd (Option.some.inj h0) (fun z => by simp [zg, zgm] at z)
  · rw [e] at h1; exact absurd (Option.some.inj h1) (fun z => by simp [zg, zbd] at z)
  · rw [e] at p0; exact absurd (Option.some.inj p0) (fun z => by simp [zg, zps] at z)
  · rw [e] at p1; exact absurd (Option.some.inj p1) (fun z => by simp [zg] at z)
  · rw [e] at p2; exact absurd (Option.some.inj p2) (fun z => by simp [zg] at z)
theorem xA_m {A : Nat → Nat} {q : Nat} : q ∈ xA A ↔ ∃ j, j < 5 ∧ q = A j := by
  simp [xA]
  constructor
  · intro m
    rcases m with z | z | z | z | z
    · exact ⟨0, by omega, z⟩
    · exact ⟨1, by omega, z⟩
    · exact ⟨2, by omega, z⟩
    · exact ⟨3, by omega, z⟩
    · exact ⟨4, by omega, z⟩
  · intro ⟨j, hj, e⟩
    have : j = 0 ∨ j = 1 ∨ j = 2 ∨ j = 3 ∨ j = 4 := by omega
    rcases this with z | z | z | z | z <;> subst z <;> simp [e]
/-- one game changes: the others stay -/
theorem zK_upd {i : Nat} {G0 : gm} (k : zK h O B V) (hi : i < 11) (hV : V i = some G0) (f : fx (xA (B i)) h h') (hv : vMg h' (B i) G g) (hO : ¬ O g) : zK h' O B (vu V i (some G)) := by
  obtain ⟨⟨g0, v0, -⟩, m0⟩ := k.1 i G0 hi hV
  refine ⟨fun j G' hj e => ?_, fun j m G1 G2 hj hm ne e1 e2 => ?_⟩
  · by_cases z : j = i
    · subst z
      rw [vu_s] at e
      cases e
      exact ⟨⟨g, hv, hO⟩, m0⟩
    · rw [vu_n _ _ z] at e
      refine vMo_fx (k.1 j G' hj e) (fun q _ _ c => f q (fun m => ?_))
      obtain ⟨l, hl, el⟩ := xA_m.mp m
      rcases c with c | c | c | c | c | ⟨R2, S2, c⟩
      · exact k.2 j i _ _ hj hi z e hV 0 l (by omega) hl (c.symm.trans el)
      · exact k.2 j i _ _ hj hi z e hV 1 l (by omega) hl (c.symm.trans el)
      · exact k.2 j i _ _ hj hi z e hV 2 l (by omega) hl (c.symm.trans el)
      · exact k.2 j i _ _ hj hi z e hV 3 l (by omega) hl (c.symm.trans el)
      · exact k.2 j i _ _ hj hi z e hV 4 l (by omega) hl (c.symm.trans el)
      · exact vM_xA v0 c m
  · by_cases z1 : j = i
    · subst z1
      rw [vu_n _ _ (Ne.symm ne)] at e2
      exact k.2 j m _ _ hj hm ne hV e2
    · rw [vu_n _ _ z1] at e1
      by_cases z2 : m = i
      · subst z2
        exact k.2 j m _ _ hj hm ne e1 hV
      · rw [vu_n _ _ z2] at e2
        exact k.2 j m _ _ hj hm ne e1 e2
/-- the games in another order -/
theorem zK_perm (k : zK h O B V) {π : Nat → Nat} (h1 : ∀ i, i < 11 → π i < 11) (h2 : ∀ i j, i < 11 → j < 11 → π i = π j → i = j) : zK h O (fun i => B (π i)) (fun i => V (π i)) :=
  ⟨fun i G hi e => k.1 (π i) G (h1 i hi) e, fun i j G1 G2 hi hj ne e1 e2 => k.2 (π i) (π j) _ _ (h1 i hi) (h1 j hj) (fun z => ne (h2 i j hi hj z)) e1 e2⟩
/-- one game more -/
theorem zK_new {i : Nat} (k : zK h O B V) (hi : i < 11) (hO : ∀ q, O q → h q ≠ none) (hV : V i = none) (n : ∀ j, j < 5 → h (A j) = none) (ng : h g = none) (f : fx (g :: xA A) h h') (hv : vMg h' A G g) : zK h' O (vu B i A) (vu V i (some G)) := by
  have st : ∀ q, gO h q → h' q = h q := by
    intro q ⟨c, e, _⟩
    refine f q (fun m => ?_)
    rcases List.mem_cons.mp m with z | z
    · subst z; rw [e] at ng; cases ng
    · obtain ⟨j, hj, z⟩ := xA_m.mp z
      subst z
      rw [n j hj] at e
      cases e
  have nA : ∀ j G', j < 11 → V j = some G' → ∀ a m, a < 5 → m < 5 → B j a ≠ A m := by
    intro j G' hj e a m ha hm z
    obtain ⟨⟨g0, v0, -⟩, -⟩ := k.1 j G' hj e
    obtain ⟨c, ec, -⟩ := (vM_gO v0).2 a ha
    rw [z, n m hm] at ec
    cases ec
  refine ⟨fun j G' hj e => ?_, fun j m G1 G2 hj hm ne e1 e2 => ?_⟩
  · by_cases z : j = i
    · subst z
      rw [vu_s] at e ⊢
      cases e
      exact ⟨⟨g, hv, fun z => hO _ z ng⟩, fun l hl z => hO _ z (n l hl)⟩
    · rw [vu_n _ _ z] at e ⊢
      exact vMo_fx (k.1 j G' hj e) (fun q _ o _ => st q o)
  · by_cases z1 : j = i
    · subst z1
      rw [vu_n _ _ (Ne.symm ne)] at e2 ⊢
      rw [vu_s]
      intro a l ha hl z
      exact nA m _ hm e2 l a hl ha z.symm
    · rw [vu_n _ _ z1] at e1 ⊢
      by_cases z2 : m = i
      · subst z2
        rw [vu_s]
        exact nA j _ hj e1
      · rw [vu_n _ _ z2] at e2 ⊢
        exact k.2 j m _ _ hj hm ne e1 e2
end STATE
