/-! BOTH: the state that both keep; a call of both -/
abbrev ast := gm × List gm × (Nat → Option gm) × Nat × Int32 × Nat × (Nat → Int32) × (Nat → Int32)
/-- the class's state is a -/
def CS (h : zr_H) (O : Nat → Prop) (x : Nat) (a : ast) : Prop :=
  ∃ B D V u J rb rw, vC h O B D V u a.2.2.2.2.2.1 J rb rw a.2.2.2.2.2.2.1 a.2.2.2.2.2.2.2 ∧ D 0 = x ∧ V 0 = some a.1 ∧ u = a.2.1.length ∧ (∀ k, k < a.2.1.length → V (k + 1) = a.2.1[k]?) ∧ (∀ j, j < 2 → V (9 + j) = a.2.2.1 j) ∧ J 6 = nI a.2.2.2.1 ∧ J 7 = a.2.2.2.2.1 ∧ a.2.2.2.1 ≤ 300
/-- the model's state is a -/
def MS (h : zr_H) (m : Nat) (E : Nat → Nat) (a : ast) : Prop :=
  ∃ K L bf, mM h m E K L a.1 a.2.1 a.2.2.1 a.2.2.2.1 a.2.2.2.2.1 a.2.2.2.2.2.1 bf a.2.2.2.2.2.2.2 ∧ ∀ k, k < a.2.2.2.1 → bf k = a.2.2.2.2.2.2.1 k &&& 255
/-- what else lies there -/
def AR (h : zr_H) (sc o o2 N : Nat) (s : Nat → Int32) : Prop :=
  (∃ F, h sc = some (.inr (20, N, F)) ∧ ∀ k, k < N → F k = .int (s k)) ∧ (∃ F, h o = some (.inr (1, 1, F))) ∧ ∃ F, h o2 = some (.inr (4, 1, F))
def RX (O : Nat → Prop) (x m sc o o2 N : Nat) (E : Nat → Nat) (s : Nat → Int32) (h : zr_H) (a : ast) : Prop := CS h O x a ∧ MS h m E a ∧ AR h sc o o2 N s
/-- O, once and for all -/
def OK (O : Nat → Prop) (m sc o o2 : Nat) (E : Nat → Nat) : Prop := (∀ q, q ∈ MX m E → O q) ∧ O sc ∧ O o ∧ O o2 ∧ (∀ q, O q → q ∈ MX m E ∨ q = sc ∨ q = o ∨ q = o2) ∧ ¬ sc ∈ MX m E ∧ ¬ o ∈ MX m E ∧ ¬ o2 ∈ MX m E ∧ sc ≠ o ∧ sc ≠ o2 ∧ o ≠ o2
section BOTH
variable {d : Nat} {h h1 h' : zr_H} {Q : zr_K} {O : Nat → Prop} {x m sc o o2 N W C M : Nat} {E : Nat → Nat} {s : Nat → Int32} {a a' : ast} {as : List Value} {codes : List Nat}
theorem vC_out {B : Nat → Nat → Nat} {D : Nat → Nat} {V : Nat → Option gm} {u l : Nat} {J : Nat → Int32} {rb rw : Int64} {tf wf : Nat → Int32} (v : vC h O B D V u l J rb rw tf wf) (e : ∀ q, ¬ O q → h' q = h q) (hn : ∀ q, O q → h' q ≠ none) : vC h' O B D V u l J rb rw tf wf := by
  obtain ⟨c0, c1, c2, c3, ⟨R, S, c6, hg⟩, c5, c4, k, n0, ne, hD, ho, hu⟩ := v
  have f := fun i (hi : i < 7) => e (D i) (hD i hi)
  exact ⟨(f 0 (by omega)).trans c0, aV_to c1 (f 1 (by omega)), aV_to c2 (f 2 (by omega)), (f 3 (by omega)).trans c3, ⟨R, S, (f 6 (by omega)).trans c6, hg⟩, aB_to c5 (f 5 (by omega)), aB_to c4 (f 4 (by omega)), zK_fx k (fun q n _ => e q n), n0, ne, hD, hn, hu⟩
theorem CS_out (v : CS h O x a) (e : ∀ q, ¬ O q → h' q = h q) (hn : ∀ q, O q → h' q ≠ none) : CS h' O x a := by
  obtain ⟨B, D, V, u, J, rb, rw, v, r⟩ := v
  exact ⟨B, D, V, u, J, rb, rw, vC_out v e hn, r⟩
theorem CS_n (v : CS h O x a) {q : Nat} (hq : O q) : h q ≠ none := by
  obtain ⟨B, D, V, u, J, rb, rw, v, r⟩ := v
  exact v.2.2.2.2.2.2.2.2.2.2.2.1 q hq
theorem CS_X (v : CS h O x a) : zr_isO (h x) 6 = true := by
  obtain ⟨B, D, V, u, J, rb, rw, v, e, -⟩ := v
  have := v.1
  rw [e] at this
  rw [this]
  exact zx_I
theorem mM_to {K : Nat → Int32} {L : Nat → Int64} {G : gm} {H : List gm} {T : Nat → Option gm} {n l : Nat} {e : Int32} {bf wf : Nat → Int32} (v : mM h m E K L G H T n e l bf wf) (t : ∀ q, q ∈ MX m E → h' q = h q) : mM h' m E K L G H T n e l bf wf := by
  obtain ⟨f, ff, fk, fs, v, r⟩ := v
  obtain ⟨h0, a0, a1, a2, a3, a4, a7, a22, ne⟩ := v
  exact ⟨f, ff, fk, fs, ⟨(t m (by simp [MX])).trans h0, aL_to a0 (t _ (by simp [MX])), aL_to a1 (t _ (by simp [MX])), aL_to a2 (t _ (by simp [MX])), aL_to a3 (t _ (by simp [MX])), aV_to a4 (t _ (by simp [MX])), aV_to a7 (t _ (by simp [MX])), aV_to a22 (t _ (by simp [MX])), ne⟩, r⟩
theorem MS_to (v : MS h m E a) (t : ∀ q, q ∈ MX m E → h' q = h q) : MS h' m E a := by
  obtain ⟨K, L, bf, v, r⟩ := v
  exact ⟨K, L, bf, mM_to v t, r⟩
theorem MS_n (v : MS h m E a) {q : Nat} (hq : q ∈ MX m E) : h q ≠ none := by
  obtain ⟨K, L, bf, ⟨f, ff, fk, fs, v, -⟩, -⟩ := v
  obtain ⟨h0, ⟨F0, a0, -⟩, ⟨F1, a1, -⟩, ⟨F2, a2, -⟩, ⟨F3, a3, -⟩, ⟨F4, a4, -⟩, ⟨F7, a7, -⟩, ⟨F22, a22, -⟩, ne⟩ := v
  simp [MX] at hq
  rcases hq with u | u | u | u | u | u | u | u <;> rw [u] <;> simp [*]
theorem MS_I (v : MS h m E a) : zr_isO (h m) 7 = true := by
  obtain ⟨K, L, bf, ⟨f, ff, fk, fs, v, -⟩, -⟩ := v
  rw [v.1]
  exact zy_I
theorem cix_pos {e : Nat} : ∀ {codes : List Nat}, e ∈ codes → 1 ≤ cix codes e ∧ cix codes e ≤ codes.length
  | [], h => absurd h List.not_mem_nil
  | c :: l, h => by
    unfold cix
    by_cases z : c = e
    · rw [if_pos z]
      simp
    · rw [if_neg z]
      have h2 : e ∈ l := by
        rcases List.mem_cons.mp h with u | u
        · exact absurd u.symm z
        · exact u
      have := cix_pos h2
      simp
      omega
/-- a call of both -/
theorem PR_gen (ok : OK O m sc o o2 E) (v : RX O x m sc o o2 N E s h a) (sp : (Int32 ⊕ Nat) → ast → Prop)
    (wr : ∀ Q, zr_E d C (.ref x :: as) h (wK o codes Q) → zr_E (d + 1) W (.ref x :: (as ++ [.ref o])) h Q)
    (cl : ∀ Q : zr_K, (∀ r a' h1, sp r a' → CS h1 O x a' → (∀ q, O q → h1 q = h q) → Q (oc r) h1) → zr_E d C (.ref x :: as) h Q)
    (mo : ∀ r a', sp r a' → ∀ h1, MS h1 m E a → ∀ Q : zr_K, (∀ y h2 K L, mR codes r (K 6) y → h2 m = some (zym E K L) → MS h2 m E a' → fx (MX m E) h1 h2 → Q (.inl (some (.int y))) h2) → zr_E (d + 1) M (.ref m :: as) h1 Q)
    (co : ∀ e a', sp (.inr e) a' → e ∈ codes) (cl3 : codes.length ≤ 3) : PR (d + 1) W M x m o sc as h (fun h2 => ∃ a', RX O x m sc o o2 N E s h2 a') := by
  obtain ⟨hO, oS, o1, o2', oB, nS, n1, n2, d1, d2, d3⟩ := ok
  obtain ⟨vc, vm, ⟨F, hs, hF⟩, ⟨Fo, ho⟩, ⟨F2, ho2⟩⟩ := v
  refine ⟨CS_X vc, wr _ (cl _ (fun r a' h1 hsp vc1 e1 => ?_))⟩
  have vm1 : MS h1 m E a := MS_to vm (fun q hq => e1 q (hO q hq))
  have hs1 : h1 sc = h sc := e1 sc oS
  have ho1 : h1 o = some (.inr (1, 1, Fo)) := (e1 o o1).trans ho
  have ho21 : h1 o2 = some (.inr (4, 1, F2)) := (e1 o2 o2').trans ho2
  -- behind the model
  have fin : ∀ hh, CS hh O x a' → MS hh m E a → hh sc = h sc → (∃ F, hh o = some (.inr (1, 1, F))) → (∃ F, hh o2 = some (.inr (4, 1, F))) → ∀ k : Int32, (∀ y t, mR codes r t y → t = k ∧ (k = 0 → zr_elt (hh o) 0 = .long y.toInt64)) → zr_E (d + 1) M (.ref m :: as) hh (fun r2 h2 => ∃ b : Int32, r2 = .inl (some (.int b)) ∧ zr_isO (h2 m) 7 = true ∧ zr_fld (h2 m) 6 = .int k ∧ zr_isA (h2 o) 1 = true ∧ vp_in 0 (zr_len (h2 o)) ∧ (k = 0 → zr_elt (h2 o) 0 = .long b.toInt64) ∧ ∃ a', RX O x m sc o o2 N E s h2 a') := by
    intro hh vc2 vm2 es ⟨Fa, ea⟩ ⟨Fb, eb⟩ k hk
    refine mo r a' hsp hh vm2 _ (fun y h2 K L hr em vm3 f3 => ?_)
    obtain ⟨k1, k2⟩ := hk y (K 6) hr
    have eo : h2 o = hh o := f3 o n1
    refine ⟨y, rfl, by rw [em]; exact zy_I, by rw [em]; show Value.int (K 6) = _; rw [k1], by rw [eo, ea]; rfl, by rw [eo, ea]; show vp_in (nI 0) 1; exact vp_in_nI (by omega) (by omega), fun z => by rw [eo]; exact k2 z, a', ?_, vm3, ⟨F, ?_, hF⟩, ⟨Fa, eo.trans ea⟩, ⟨Fb, (f3 o2 n2).trans eb⟩⟩
    · refine CS_out vc2 (fun q nq => f3 q (fun z => nq (hO q z))) (fun q hq => ?_)
      rcases oB q hq with z | z | z | z
      · exact MS_n vm3 z
      · rw [z, f3 sc nS, es, hs]; simp
      · rw [z, eo, ea]; simp
      · rw [z, f3 o2 n2, eb]; simp
    · rw [f3 sc nS, es]; exact hs
  cases r with
  | inl v =>
    refine ⟨by rw [ho1]; rfl, by rw [ho1]; show vp_in (nI 0) 1; exact vp_in_nI (by omega) (by omega), 0, rfl, ?_⟩
    have e2 : ∀ q, q ≠ o → zr_putA h1 o 0 (.long v.toInt64) q = h1 q := fun q hq => putA_ot hq rfl
    have eo : zr_putA h1 o 0 (.long v.toInt64) o = some (.inr (1, 1, zr_fup Fo 0 (.long v.toInt64))) := by rw [zr_putA_mk ho1, zr_up_self]
    have vm2 : MS (zr_putA h1 o 0 (.long v.toInt64)) m E a := MS_to vm1 (fun q hq => e2 q (fun z => n1 (z ▸ hq)))
    refine ⟨MS_I vm2, (e2 sc d1).trans hs1, fin _ (CS_out vc1 (fun q nq => e2 q (fun z => nq (z ▸ o1))) (fun q hq => ?_)) vm2 ((e2 sc d1).trans hs1) ⟨_, eo⟩ ⟨F2, (e2 o2 (Ne.symm d3)).trans ho21⟩ 0 (fun y t hr => ?_)⟩
    · by_cases z : q = o
      · rw [z, eo]; simp
      · rw [e2 q z]; exact CS_n vc1 hq
    · obtain ⟨r1, r2⟩ := hr
      refine ⟨r1, fun _ => ?_⟩
      rw [eo, r2]
      rfl
  | inr e =>
    refine ⟨co e a' hsp, nI (cix codes e), rfl, MS_I vm1, hs1, fin h1 vc1 vm1 hs1 ⟨Fo, ho1⟩ ⟨F2, ho21⟩ _ (fun y t hr => ⟨hr, fun z => ?_⟩)⟩
    obtain ⟨p1, p2⟩ := cix_pos (co e a' hsp)
    rw [nI_eq0 (by omega)] at z
    omega
end BOTH
