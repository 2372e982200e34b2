/-! THE START: the first heap, whole -/
section START
variable {s : State} {A0 : Array Value} {b L : Nat} {xs : Nat → Int32} {D : va_G}
theorem va_OF_det {o n d : String} {v v2 : Value} {q : Nat} {A : Nat → Prop} {H : Heap} (a : va_OF o n d v q A s H) (c : va_OF o n d v2 q A s H) : v = v2 := by
  obtain ⟨cf, k, i, f, cell, a1, a2, a3, a4, a5, a6⟩ := a
  obtain ⟨cf', k', i', f', cell', c1, c2, c3, c4, c5, c6⟩ := c
  rw [a1] at c1
  cases c1
  rw [a3] at c3
  cases c3
  rw [a5] at c5
  exact Option.some.inj c5
theorem bA_det {v n n2 : Nat} {f f2 : Nat → Int32} (a : bA s v n f) (c : bA s v n2 f2) : n = n2 ∧ ∀ j, j < n → f j = f2 j := by
  obtain ⟨cell, a1, a2, a3, a4, a5⟩ := a
  obtain ⟨cell', c1, c2, c3, c4, c5⟩ := c
  rw [a1] at c1
  cases c1
  have e : n = n2 := a4.symm.trans c4
  refine ⟨e, fun j hj => ?_⟩
  have := (a5 j hj).symm.trans (c5 j (by omega))
  exact Value.int.inj (Option.some.inj this)
theorem OF_nA {q n : Nat} {v : Nat} {A : Nat → Prop} {cell : Cell} {f : Nat → Int32} (a : va_OF "java/lang/String" "value" "[B" (.ref v) q A s s.heap) (c1 : s.heap[q]? = some cell) (c4 : cell.slots.size = n) (c5 : ∀ j, j < n → cell.slots[j]? = some (.int (f j))) : False := by
  obtain ⟨cf, k, i, fl, cell', a1, a2, a3, a4, a5, a6⟩ := a
  rw [a3] at c1
  cases c1
  have lt : fl.slot < n := by rw [← c4]; exact (Array.getElem?_eq_some_iff.mp a5).1
  rw [c5 _ lt] at a5
  cases a5
def srOk (e : Nat × Nat × Nat × Nat) : Bool := decide (e.2.2.1 < 7) && decide (Cond.stringRef (zr_own e.1) e.2.1 (tmT e.2.2.1) ∈ lw_tbl) && (decide (zr_own e.1 = "RingStones$Reader" ∧ e.2.1 = tmI e.2.2.1) || decide (Cond.eq (tmS e.2.2.1) (.string (zr_own e.1) e.2.1) ∈ flatC (Jvm.Cond.and given_1 narrow_1)))
theorem sr_all : (zr_srT.all srOk) = true := by decide +kernel
theorem tm_chr {i j : Nat} : zr_chr (tmT i) j = .int (tmC i j) := rfl
theorem zr_h0 (hgv : (Jvm.Cond.and given_1 narrow_1).before A0 s = true) (hts : ∀ w ∈ lw_tbl, w.before A0 s = true) (hX : va_X b L xs s s.heap) (hbl : b < s.heap.size) : ∃ h0, zr_ab s D s.heap.size h0 s.heap ∧ h0 b = some (.inr (20, L, fun k => .int (xs k))) := by
  classical
  have ch : ∀ i : Nat, ∃ q : Nat × Nat, i < 7 → (tmS i).eval A0 s none [] s = some (.ref q.1) ∧ va_O "java/lang/String" q.1 (zr_Lo s.heap.size) s s.heap ∧ va_OF "java/lang/String" "coder" "B" (.int 0) q.1 (zr_Lo s.heap.size) s s.heap ∧ va_OF "java/lang/String" "value" "[B" (.ref q.2) q.1 (zr_Lo s.heap.size) s s.heap ∧ bA s q.2 (tmT i).length (tmC i) := by
    intro i
    by_cases hi : i < 7
    · obtain ⟨q, v, h⟩ := tm_1 hgv hi
      exact ⟨(q, v), fun _ => h⟩
    · exact ⟨(0, 0), fun z => absurd z hi⟩
  obtain ⟨ad, had⟩ := Classical.axiomOfChoice ch
  obtain ⟨scr, x1, x2, x3, x4, x5⟩ := hX
  have dKb : ∀ i, i < 7 → (ad i).1 ≠ b := fun i hi e => OF_nA (had i hi).2.2.2.1 (by rw [e]; exact x1) x4 x5
  have dKV : ∀ i j, i < 7 → j < 7 → (ad i).1 ≠ (ad j).2 := fun i j hi hj e => by
    obtain ⟨cell, c1, c2, c3, c4, c5⟩ := (had j hj).2.2.2.2
    exact OF_nA (had i hi).2.2.2.1 (by rw [e]; exact c1) c4 c5
  have dVb : ∀ j, j < 7 → (ad j).2 ≠ b := fun j hj e => by
    obtain ⟨cell, c1, c2, c3, c4, c5⟩ := (had j hj).2.2.2.2
    rw [e, x1] at c1
    cases c1
    obtain ⟨-, k1, g1, p1, r1⟩ := c2
    obtain ⟨-, k2, g2, p2, r2⟩ := x2
    rw [g1] at g2
    cases g2
    rw [r1] at r2
    cases r2
  let h0 : zr_H := fun q => if q = b then some (.inr (20, L, fun k => .int (xs k))) else if hk : ∃ i, i < 7 ∧ (ad i).1 = q then some (.inl (8, fun k => if k = 0 then .ref (ad (Classical.choose hk)).2 else .int 0)) else if hv : ∃ i, i < 7 ∧ (ad i).2 = q then some (.inr (22, (tmT (Classical.choose hv)).length, fun j => .int (tmC (Classical.choose hv) j))) else none
  have e0 : h0 b = some (.inr (20, L, fun k => .int (xs k))) := if_pos rfl
  refine ⟨h0, ⟨fun q c hq => ?_, fun o x k hk => ?_⟩, e0⟩
  · by_cases z : q = b
    · have : h0 q = some (.inr (20, L, fun k => .int (xs k))) := if_pos z
      rw [this] at hq
      cases hq
      refine ⟨fun u => absurd u (by decide), scr, by rw [z]; exact x1, x2, x3, by omega, by rw [x4]; rfl, fun u => absurd u (by decide), x5, fun u => absurd u (by decide)⟩
    · by_cases hk : ∃ i, i < 7 ∧ (ad i).1 = q
      · have : h0 q = some (.inl (8, fun k => if k = 0 then .ref (ad (Classical.choose hk)).2 else .int 0)) := by
          show (if q = b then _ else _) = _
          rw [if_neg z, dif_pos hk]
        rw [this] at hq
        cases hq
        obtain ⟨hi, ei⟩ := Classical.choose_spec hk
        generalize Classical.choose hk = i at *
        obtain ⟨t1, t2, t3, t4, t5⟩ := had i hi
        rw [ei] at t2 t3 t4
        have lt : q < s.heap.size := by
          obtain ⟨cell, c1, -⟩ := t2
          exact (Array.getElem?_eq_some_iff.mp c1).1
        exact Or.inl ⟨rfl, lt, t4, t3, t2⟩
      · by_cases hv : ∃ i, i < 7 ∧ (ad i).2 = q
        · have : h0 q = some (.inr (22, (tmT (Classical.choose hv)).length, fun j => .int (tmC (Classical.choose hv) j))) := by
            show (if q = b then _ else _) = _
            rw [if_neg z, dif_neg hk, dif_pos hv]
          rw [this] at hq
          cases hq
          obtain ⟨hi, ei⟩ := Classical.choose_spec hv
          generalize Classical.choose hv = i at *
          obtain ⟨cell, c1, c2, c3, c4, c5⟩ := (had i hi).2.2.2.2
          rw [ei] at c1
          exact ⟨fun u => absurd u (by decide), cell, c1, c2, c3, by omega, by rw [c4]; rfl, fun u => absurd u (by decide), c5, fun u => absurd u (by decide)⟩
        · have : h0 q = none := by
            show (if q = b then _ else _) = _
            rw [if_neg z, dif_neg hk, dif_neg hv]
          rw [this] at hq
          cases hq
  · obtain ⟨e, he, e1, e2⟩ := zr_fnd hk
    have ok := List.all_eq_true.mp sr_all e he
    unfold srOk at ok
    rw [Bool.and_eq_true, Bool.and_eq_true, Bool.or_eq_true, decide_eq_true_eq, decide_eq_true_eq, decide_eq_true_eq, decide_eq_true_eq] at ok
    obtain ⟨⟨k7, w1⟩, w2⟩ := ok
    rw [Bool.and_eq_true, beq_iff_eq, beq_iff_eq] at e1
    rw [e1.1, e1.2, e2] at w1 w2
    rw [e2] at k7
    obtain ⟨t1, t2, t3, t4, t5⟩ := had k k7
    have ev : (Term.string (zr_own o) x).eval A0 s none [] s = some (.ref (ad k).1) := by
      rcases w2 with ⟨u1, u2⟩ | u
      · rw [u1, u2]; exact t1
      · exact va_eqR (flat_of_before _ hgv _ u) t1
    refine ⟨(ad k).1, vk_R.of (hts _ w1) ev, ?_⟩
    have hkk : ∃ i, i < 7 ∧ (ad i).1 = (ad k).1 := ⟨k, k7, rfl⟩
    have hK : h0 (ad k).1 = some (.inl (8, fun k => if k = 0 then .ref (ad (Classical.choose hkk)).2 else .int 0)) := by
      show (if (ad k).1 = b then _ else _) = _
      rw [if_neg (dKb k k7), dif_pos hkk]
    have hvv : ∃ i, i < 7 ∧ (ad i).2 = (ad k).2 := ⟨k, k7, rfl⟩
    have hV : h0 (ad k).2 = some (.inr (22, (tmT (Classical.choose hvv)).length, fun j => .int (tmC (Classical.choose hvv) j))) := by
      show (if (ad k).2 = b then _ else _) = _
      rw [if_neg (dVb k k7), dif_neg (fun ⟨i, hi, ei⟩ => dKV i k hi k7 ei), dif_pos hvv]
    obtain ⟨hi, ei⟩ := Classical.choose_spec hkk
    generalize Classical.choose hkk = i at *
    obtain ⟨hj, ej⟩ := Classical.choose_spec hvv
    generalize Classical.choose hvv = j at *
    have v0 : Value.ref (ad i).2 = .ref (ad k).2 := va_OF_det (by have := (had i hi).2.2.2.1; rw [ei] at this; exact this) t4
    have bb := bA_det (by have := (had j hj).2.2.2.2; rw [ej] at this; exact this) t5
    have en : (tmT j).length = (tmT k).length := bb.1
    refine ⟨(ad k).2, _, fun c => .int (tmC j c), hK, by show Value.ref (ad i).2 = _; exact v0, rfl, ?_, fun c hc => ?_⟩
    · rw [hV, en]; rfl
    · show Value.int (tmC j c) = zr_chr (tmT k) c
      rw [tm_chr, bb.2 c (by rw [en]; exact hc)]
end START
