/-! THE CLAIM OUT OF ONE WALK OF THE LAW'S BODY. Your part is whole_start (and what it stands on); all else here is the same for every law, but numbers. -/
def R_law : String := "RingStonesLaw"
def lw_P (b : Addr) (xs : List Int32) (args : Array Value) (s : State) : Prop := args = #[.ref b] ∧ s.IntsAt b xs ∧ xs.length ≤ 3072 ∧ (Jvm.Cond.and given_1 narrow_1).before args s = true
/-- what a walk over the start with the record d0 says of its end, said of the start itself -/
theorem lw_closed {s t : State} {o : Outcome} {d0 : Drawn} {L : List Loc} {k n : Nat} (hd0 : s.drawn.sameBut d0 lw_cs) (hv : ∃ v, o = .returned v) (hW : (s.setDrawn d0).WarmedH t.vm) (hs : (s.setDrawn d0).sameButNew ({ t with vm := s.vm } : State) L k n) : State.butDraws s t lw_cs (fun t1 => Framed s o t1 L k n) := by
  have h2 : t.drawn = d0 := congrArg State.drawn hs.1
  refine ⟨⟨hv, hW, State.sameButNew.setDrawn hs s.drawn⟩, ?_, by decide⟩
  rw [h2]
  exact hd0
def lw_Q (_ : Array Value) (s : State) (o : Outcome) (t : State) : Prop := o = .returned (some (.int 1)) ∧ State.butDraws s t lw_cs (fun t1 => Framed s o t1 [] room_1.cells room_1.slots)
def lw_Z (below : List Frame) (a : Array Value) (s : State) : State → Prop := fun t => ∃ o, t.status = .running ∧ Ended t below o ∧ lw_Q a s o t
/-- what holds at the law's entry: the machine, the code, the tables' words (any of lw_tbl by 'hts w (by decide +kernel)'), the script of L ints xs at the cell b, what the Statement gives of the start (any of its parts by flat_of_before) -/
def lw_At (p : Program) (s : State) (m : MethodId) (meth : Method) (c : Code) (b L : Nat) (xs : Nat → Int32) : Prop :=
  p.tables.exec = Jvm.exec ∧ c.code = code ∧ meth.sig.returnType = ret ∧ c.maxLocals = 8 ∧ s.vm.findClass R_law = some m.cls ∧ (∀ w ∈ lw_tbl, w.before #[Value.ref b] s = true) ∧ va_X b L xs s s.heap ∧ b < s.heap.size ∧ meth.locks = false ∧ (Jvm.Cond.and given_1 narrow_1).before #[Value.ref b] s = true
/-! THE START: what the machine gives -/
theorem sr_ev {own tx : String} {k : Nat} {A : Array Value} {U : State} (h : (Cond.stringRef own k tx).before A U = true) : ∃ a, vk_R own k tx a U := by
  have h0 := h
  unfold Cond.before Cond.holds at h
  simp only [Cond.value] at h
  cases hf : U.vm.findClass own with
  | none => rw [hf] at h; simp at h
  | some c =>
    rw [hf] at h
    cases hr : U.resolvedAt? own k with
    | none => rw [hr] at h; simp at h
    | some x =>
      rw [hr] at h
      cases x with
      | string a =>
        refine ⟨a, vk_R.of h0 ?_⟩
        unfold State.resolvedAt? at hr
        simp only [Term.eval, hf, Option.bind_some, Option.bind_eq_bind] at hr ⊢
        cases hk : U.vm.classes[c]? with
        | none => rw [hk] at hr; simp at hr
        | some kc =>
          rw [hk] at hr
          simp only [Option.bind_some] at hr ⊢
          rw [hr]
          rfl
      | _ => simp at h
section START
variable {p : Program} {e : Env} {s : State} {m : MethodId} {below : List Frame} {meth : Method} {c : Code} {b L : Nat} {xs : Nat → Int32}
theorem lw_wf (l : Launch) (hflags : l.flags = flags0) (C0 : lw_At p s m meth c b L xs) : ∃ D, zr_wf l s #[Value.ref b] D s.heap.size := by
  obtain ⟨hx, hb, hr, hml, hown, hts, hX, hbl, hlocks, hgv⟩ := id C0
  have hA : ∀ a : Nat, a < s.heap.size → ¬ zr_Lo s.heap.size a := fun a ha => Nat.not_le.mpr ha
  have hn := flat_of_before _ hgv
  have kn : ∀ ci, ∃ q : ClassId × (Nat → Nat), ci < 8 → ci ≠ 3 → u_Kn s (zr_own ci) (zr_clsT ci) (zr_fn ci) q.1 q.2 := by
    intro ci
    by_cases h : ci < 8 ∧ ci ≠ 3
    · obtain ⟨cC, iS, k⟩ := u_known (C := zr_own ci) (T := zr_clsT ci) (N := zr_fn ci) (n := zr_fn ci) hts (fun w hw => (zr_inws h.1 h.2 w hw).1) (hts _ (zr_insts h.1 h.2).1.1)
      exact ⟨(cC, iS), fun _ _ => k⟩
    · exact ⟨(0, fun _ => 0), fun h1 h2 => absurd ⟨h1, h2⟩ h⟩
  obtain ⟨D, hD⟩ := Classical.axiomOfChoice kn
  refine ⟨(fun ci => (D ci).1, fun ci => (D ci).2), hts, hD, ?_, ?_, ?_, ?_, ?_, ?_, ?_⟩
  · unfold Launch.stackTraces
    rw [hflags]
    decide +kernel
  · exact vx_Zqof (hts _ (by decide +kernel)) (hts _ (by decide +kernel)) (hn _ (by decide +kernel)) hA
  · exact vx_Zqof (hts _ (by decide +kernel)) (hts _ (by decide +kernel)) (hn _ (by decide +kernel)) hA
  · have all : (zr_xrT.all fun e => decide (Cond.stringRef (zr_own e.1) e.2.2.1 (zr_xtf e.1 e.2.2.1) ∈ lw_tbl)) = true := by decide +kernel
    intro e he
    exact sr_ev (hts _ (of_decide_eq_true (List.all_eq_true.mp all e he)))
  · exact va_Zof (hts _ (by decide +kernel)) (hts _ (by decide +kernel)) (va_eqt (hn (Cond.eq (.static "java/lang/String" "COMPACT_STRINGS" "Z") (.int 1)) (by decide +kernel))) hA
  · exact va_Zqof (hts _ (by decide +kernel)) (hts _ (by decide +kernel)) (hn _ (by decide +kernel)) hA
  · have all : ((List.range 4).all fun i => (List.range 4).all fun j => i == j || decide (Cond.not (.castable (zr_exT.getD i "") (zr_exT.getD j "")) ∈ flatC (Jvm.Cond.and given_1 narrow_1)) || decide (Cond.not (.castable (zr_exT.getD i "") (zr_exT.getD j "")) ∈ lw_tbl)) = true := by decide +kernel
    intro i j hi hj hij
    have h1 := List.all_eq_true.mp (List.all_eq_true.mp all i (List.mem_range.mpr hi)) j (List.mem_range.mpr hj)
    rw [Bool.or_eq_true, Bool.or_eq_true, decide_eq_true_eq, decide_eq_true_eq, beq_iff_eq] at h1
    rcases h1 with (h1 | h1) | h1
    · exact absurd h1 hij
    · exact va_Nc.of (hn _ h1)
    · exact va_Nc.of (hts _ h1)
end START
