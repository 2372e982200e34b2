/-! THE START: the first heap -/
def tmI (i : Nat) : Nat := [102, 83, 97, 104, 96, 98, 103].getD i 0
def tmS (i : Nat) : Term := .string "RingStones$Reader" (tmI i)
def tmV (i : Nat) : Term := .field (tmS i) "java/lang/String" "value" "[B"
def tmT (i : Nat) : String := zr_txt.getD i ""
def tmC (i j : Nat) : Int32 := ((tmT i).toList.getD j ' ').toNat.toInt32
def tmOk (i : Nat) : List Cond := [.exactly (tmS i) "java/lang/String", .eq (.field (tmS i) "java/lang/String" "coder" "B") (.int 0), .arrayOf (tmV i) .byte, .eq (.length (tmV i)) (.int (Int32.ofNat (tmT i).length))] ++ (List.range (tmT i).length).map fun j => .eq (.elem (tmV i) (.int (Int32.ofNat j))) (.int (tmC i j))
theorem tm_all : ((List.range 7).all fun i => (tmOk i).all fun w => decide (w ∈ flatC (Jvm.Cond.and given_1 narrow_1))) = true := by decide +kernel
theorem tm_in {i : Nat} (hi : i < 7) {w : Cond} (hw : w ∈ tmOk i) : w ∈ flatC (Jvm.Cond.and given_1 narrow_1) := of_decide_eq_true (List.all_eq_true.mp (List.all_eq_true.mp tm_all i (List.mem_range.mpr hi)) w hw)
