/-! THE START: the first heap -/
def tmI (i : Nat) : Nat := [102, 83, 97, 104, 96, 98, 103].getD i 0
def tmS (i : Nat) : Term := .string "RingStones$Reader" (tmI i)
def tmV (i : Nat) : Term := .field (tmS i) "java/lang/String" "value" "[B"
def tmT (i : Nat) : String := zr_txt.getD i ""
def tmC (i j : Nat) : Int32 := ((tmT i).toList.getD j ' ').toNat.toInt32
def tmOk (i : Nat) : List Cond := [.exactly (tmS i) "java/lang/String", .eq (.field (tmS i) "java/lang/String" "coder" "B") (.int 0), .arrayOf (tmV i) .byte, .eq (.length (tmV i)) (.int (Int32.ofNat (tmT i).length))] ++ (List.range (tmT i).length).map fun j => .eq (.elem (tmV i) (.int (Int32.ofNat j))) (.int (tmC i j))
theorem tm_all : ((List.range 7).all fun i => (tmOk i).all fun w => decide (w ∈ flatC (Jvm.Cond.and given_1 narrow_1))) = true := by decide +kernel
theorem tm_in {i : Nat} (hi : i < 7) {w : Cond} (hw : w ∈ tmOk i) : w ∈ flatC (Jvm.Cond.and given_1 narrow_1) := of_decide_eq_true (List.all_eq_true.mp (List.all_eq_true.mp tm_all i (List.mem_range.mpr hi)) w hw)
/-- a byte array that is exactly so -/
def bA (s : State) (v n : Nat) (f : Nat → Int32) : Prop := ∃ cell : Cell, s.heap[v]? = some cell ∧ s.isArrayOf cell .byte ∧ cell.vm ≠ .unknown ∧ cell.slots.size = n ∧ ∀ j, j < n → cell.slots[j]? = some (.int (f j))
section START
variable {s : State} {A0 : Array Value} {b L : Nat} {xs : Nat → Int32}
theorem tm_1 (hgv : (Jvm.Cond.and given_1 narrow_1).before A0 s = true) {i : Nat} (hi : i < 7) : ∃ q v : Nat, (tmS i).eval A0 s none [] s = some (.ref q) ∧ va_O "java/lang/String" q (zr_Lo s.heap.size) s s.heap ∧ va_OF "java/lang/String" "coder" "B" (.int 0) q (zr_Lo s.heap.size) s s.heap ∧ va_OF "java/lang/String" "value" "[B" (.ref v) q (zr_Lo s.heap.size) s s.heap ∧ bA s v (tmT i).length (tmC i) := by
  have hA : ∀ a : Nat, a < s.heap.size → ¬ zr_Lo s.heap.size a := fun a ha => Nat.not_le.mpr ha
  have hn : ∀ w ∈ tmOk i, w.before A0 s = true := fun w hw => flat_of_before _ hgv w (tm_in hi hw)
  have hN : (tmT i).length < 2 ^ 31 := by
    have : ∀ i : Fin 7, (tmT i.val).length < 2 ^ 31 := by decide
    exact this ⟨i, hi⟩
  obtain ⟨q, c, cA, kA, q1, q2, q3, q4, q5, q6, -⟩ := Cond.exactly_spec (args := A0) (first := s) (o := none) (s := s) (idx := []) (t := tmS i) (cls := "java/lang/String") (hn _ (by simp [tmOk]))
  have co := va_eqt (hn (.eq (.field (tmS i) "java/lang/String" "coder" "B") (.int 0)) (by simp [tmOk]))
  have le := va_eqt (hn (.eq (.length (tmV i)) (.int (Int32.ofNat (tmT i).length))) (by simp [tmOk]))
  obtain ⟨v, hv, hT⟩ := va_Tof (f := fun j => .int (tmC i j)) (A := zr_Lo s.heap.size) hN (hn (.arrayOf (tmV i) .byte) (by simp [tmOk])) le (fun j hj => va_eqt (hn (.eq (.elem (tmV i) (.int (Int32.ofNat j))) (.int (tmC i j))) (by
    unfold tmOk
    exact List.mem_append.mpr (Or.inr (List.mem_map.mpr ⟨j, List.mem_range.mpr hj, rfl⟩))))) hA
  refine ⟨q, v, q1, ⟨cA, q3, q5, by rw [q6]; exact q2, hA q (Array.getElem?_eq_some_iff.mp q3).1⟩, vk_OFof q1 co hA, vk_OFof q1 hv hA, ?_⟩
  obtain ⟨cell, t1, t2, t3, t4, t5, t6, -⟩ := hT
  refine ⟨cell, t1, t2, t3, ?_, t6⟩
  have hv' : (tmV i).eval A0 s none [] s = some (.ref v) := hv
  have le' : (do
      let .ref a ← (tmV i).eval A0 s none [] s | none
      let n := (← s.arrayAt? a).slots.size
      if n < 2 ^ 31 then pure (Value.int n.toInt32) else none : Option Value) = some (.int (Int32.ofNat (tmT i).length)) := le
  rw [hv'] at le'
  cases ha : s.arrayAt? v with
  | none => simp [ha] at le'
  | some c2 =>
    obtain ⟨hc2, -⟩ := State.arrayAt?_spec ha
    have e2 : c2 = cell := Option.some.inj (hc2.symm.trans t1)
    subst e2
    by_cases z : c2.slots.size < 2 ^ 31
    · exact (nI_eq z hN).mp t5
    · simp [ha, z] at le'
end START
