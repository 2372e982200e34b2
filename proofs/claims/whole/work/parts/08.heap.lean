/-! WHAT THE START GIVES, AND THE HEAP'S INSTRUCTIONS -/
theorem zr_gI {w : Cond} (h : (decide (w ∈ lw_tbl) && goodWord w) = true) : zr_goodIn w := by
  simp only [Bool.and_eq_true, decide_eq_true_eq] at h
  exact ⟨h.1, good_of_word h.2⟩
theorem zr_inws0 : ((List.range 8).all fun ci => ci == 3 || (u_ws (zr_own ci) (zr_clsT ci) (zr_fn ci)).all fun w => decide (w ∈ lw_tbl) && goodWord w) = true := by decide +kernel
theorem zr_inws {ci : Nat} (h : ci < 8) (h3 : ci ≠ 3) : ∀ w ∈ u_ws (zr_own ci) (zr_clsT ci) (zr_fn ci), zr_goodIn w := by
  intro w hw
  have h1 := List.all_eq_true.mp zr_inws0 ci (List.mem_range.mpr h)
  rw [Bool.or_eq_true] at h1
  rcases h1 with h1 | h1
  · exact absurd (by simpa using h1) h3
  · exact zr_gI (List.all_eq_true.mp h1 w hw)
theorem zr_cls0 : ((List.range 8).all fun ci => ci == 3 || (List.range (zr_fn ci)).all fun k => decide ((zr_clsT ci k).1 = zr_own ci) && decide (parseFieldDescriptor (zr_clsT ci k).2.2.1 = some (zr_ft ci k)) && decide (zr_ff ci k = (zr_clsT ci k).2.2.2) && (List.range (zr_fn ci)).all fun j => decide (k = j) || decide ((zr_clsT ci k).2.1 ≠ (zr_clsT ci j).2.1)) = true := by decide +kernel
theorem zr_cls1 {ci k : Nat} (h : ci < 8) (h3 : ci ≠ 3) (hk : k < zr_fn ci) : (zr_clsT ci k).1 = zr_own ci ∧ parseFieldDescriptor (zr_clsT ci k).2.2.1 = some (zr_ft ci k) ∧ zr_ff ci k = (zr_clsT ci k).2.2.2 ∧ ∀ j, j < zr_fn ci → k ≠ j → (zr_clsT ci k).2.1 ≠ (zr_clsT ci j).2.1 := by
  have h1 := List.all_eq_true.mp zr_cls0 ci (List.mem_range.mpr h)
  rw [Bool.or_eq_true] at h1
  rcases h1 with h1 | h1
  · exact absurd (by simpa using h1) h3
  · have h2 := List.all_eq_true.mp h1 k (List.mem_range.mpr hk)
    simp only [Bool.and_eq_true, decide_eq_true_eq] at h2
    refine ⟨h2.1.1.1, h2.1.1.2, h2.1.2, fun j hj hne => ?_⟩
    have h4 := List.all_eq_true.mp h2.2 j (List.mem_range.mpr hj)
    rw [Bool.or_eq_true, decide_eq_true_eq, decide_eq_true_eq] at h4
    exact h4.resolve_left hne
theorem zr_insts0 : ((List.range 8).all fun ci => ci == 3 || (decide (Cond.instantiable (zr_own ci) (zr_fn ci) ∈ lw_tbl) && decide (Cond.initialized (zr_own ci) ∈ lw_tbl))) = true := by decide +kernel
theorem zr_insts {ci : Nat} (h : ci < 8) (h3 : ci ≠ 3) : zr_goodIn (.instantiable (zr_own ci) (zr_fn ci)) ∧ zr_goodIn (.initialized (zr_own ci)) := by
  have h1 := List.all_eq_true.mp zr_insts0 ci (List.mem_range.mpr h)
  rw [Bool.or_eq_true] at h1
  rcases h1 with h1 | h1
  · exact absurd (by simpa using h1) h3
  · simp only [Bool.and_eq_true, decide_eq_true_eq] at h1
    exact ⟨⟨h1.1, good_of_word rfl⟩, ⟨h1.2, good_of_word rfl⟩⟩
theorem zr_fnd {α β : Type} {T : List α} {f : α → Bool} {g : α → β} {b : β} (h : (T.find? f).map g = some b) : ∃ e ∈ T, f e = true ∧ g e = b := by
  cases h1 : T.find? f with
  | none => rw [h1] at h; cases h
  | some e => rw [h1] at h; exact ⟨e, List.mem_of_find?_eq_some h1, List.find?_some h1, Option.some.inj h⟩
/-- what the start gives -/
def zr_wf (l : Launch) (S0 : State) (A0 : Array Value) (D : va_G) (B0 : Nat) : Prop :=
  (∀ w ∈ lw_tbl, w.before A0 S0 = true) ∧ (∀ ci, ci < 8 → ci ≠ 3 → u_Kn S0 (zr_own ci) (zr_clsT ci) (zr_fn ci) (D.1 ci) (D.2 ci)) ∧ l.stackTraces = false ∧
  vx_Zq Bundle.tN "UNASSIGNED_STACK" Bundle.steD (zr_Lo B0) S0 S0.heap ∧ vx_Zq Bundle.tN "SUPPRESSED_SENTINEL" Bundle.listD (zr_Lo B0) S0 S0.heap ∧
  (∀ e ∈ zr_xrT, ∃ sa, vk_R (zr_own e.1) e.2.2.1 (zr_xtf e.1 e.2.2.1) sa S0) ∧
  va_Z "java/lang/String" "COMPACT_STRINGS" "Z" (.int 1) (zr_Lo B0) S0 S0.heap ∧ va_Zq "jdk/internal/util/Preconditions" "SIOOBE_FORMATTER" "Ljava/util/function/BiFunction;" (zr_Lo B0) S0 S0.heap ∧
  (∀ i j, i < 4 → j < 4 → i ≠ j → va_Nc (zr_exT.getD i "") (zr_exT.getD j "") S0)
theorem zr_word {S0 s : State} {A0 : Array Value} (hts : ∀ w ∈ lw_tbl, w.before A0 S0 = true) (hW0 : S0.WarmedH s.vm) {w : Cond} (h : zr_goodIn w) (a : Array Value) : w.before a s = true := word_at hW0 h.2 (hts w h.1)
theorem zr_isO_spec {c : Option zr_C} {ci : Nat} (h : zr_isO c ci = true) : ∃ V, c = some (.inl (ci, V)) := by
  unfold zr_isO at h
  split at h
  · rename_i k V
    exact ⟨V, by rw [beq_iff_eq.mp h]⟩
  · cases h
theorem zr_isA_spec {c : Option zr_C} {t : Nat} (h : zr_isA c t = true) : ∃ n f, c = some (.inr (t, n, f)) := by
  unfold zr_isA at h
  split at h
  · rename_i k n f
    exact ⟨n, f, by rw [beq_iff_eq.mp h]⟩
  · cases h
section ZH
variable {p : Program} {l : Launch} {e : Env} {R : Room} {s : State} {m : MethodId} {args : Array Value} {below : List Frame} {meth : Method} {c : Code} {H : Heap} {locs : List Loc} {cells slots : Nat} {Q : State → Prop}
variable {S0 : State} {A0 : Array Value} {D : va_G} {B0 mn pc : Nat} {ls : Array Slot} {r : List Value} {h : zr_H}
theorem zr_get (hw : zr_wf l S0 A0 D B0) (hx : p.tables.exec = Jvm.exec) (hb : c.code = zr_mb mn) (hown : s.vm.findClass (zr_own (zr_mo mn)) = some m.cls) (hW0 : S0.WarmedH s.vm) (hab : zr_ab S0 D B0 h H) {x q ci k : Nat}
    (hfr : zr_fr (zr_mo mn) x = some (ci, k)) (hO : zr_isO (h q) ci = true) (hd : decode (zr_mb mn) pc = .ok (.getfield x, 3))
    (kk : W p l e R s m args below meth c H locs cells slots Q (F0 m (pc + 3) ls (zr_fld (h q) k :: r))) : W p l e R s m args below meth c H locs cells slots Q (F0 m pc ls (.ref q :: r)) := by
  obtain ⟨V, hV⟩ := zr_isO_spec hO
  rw [hV] at kk
  obtain ⟨ent, he1, he2, he3⟩ := zr_fnd hfr
  have hck := List.all_eq_true.mp zr_frall ent he1
  simp only [Bool.and_eq_true, beq_iff_eq] at he2
  simp only [Prod.mk.injEq] at he3
  have hc := hab.1 q _ hV
  unfold zr_ct at hc
  unfold zr_frc at hck
  rw [he3.1, he3.2, he2.1, he2.2] at hck
  split at hck
  · rename_i e8
    simp only [Bool.and_eq_true, decide_eq_true_eq] at hck
    have hlink := zr_word hw.1 hW0 (zr_wd_spec hck.1) args
    rcases hc with ⟨-, -, h1, h2, -⟩ | ⟨-, h1, -⟩
    · by_cases k0 : k = 0
      · subst k0
        obtain ⟨cf, kf, fi, f, cell, g1, g2, g3, g4, g5, -⟩ := va_OF.moved hW0.alike h1
        exact W.getf hx hb hown hlink g1 g2 g3 g4 g5 rfl rfl hd kk
      · have k1 : k = 1 := by omega
        subst k1
        obtain ⟨cf, kf, fi, f, cell, g1, g2, g3, g4, g5, -⟩ := va_OF.moved hW0.alike h2
        exact W.getf hx hb hown hlink g1 g2 g3 g4 g5 rfl rfl hd kk
    · omega
  · rename_i e8
    simp only [Bool.and_eq_true, decide_eq_true_eq] at hck
    obtain ⟨⟨⟨hck, hk⟩, hci⟩, hci3⟩ := hck
    have hlink := zr_word hw.1 hW0 (zr_wd_spec hck) args
    rcases hc with ⟨h1, -⟩ | ⟨-, -, -, cell, q1, q2, q3, q4⟩
    · exact absurd h1 e8
    · obtain ⟨hS, hfc, kC, hkC, hkind⟩ := u_Kn_moved hW0.alike (hw.2.1 ci hci hci3)
      obtain ⟨cf, kf, fi, f, hi, hsl⟩ := hS k hk
      have hts : ∀ w ∈ u_ws (zr_own ci) (zr_clsT ci) (zr_fn ci), w.before args s = true := fun w hw' => zr_word hw.1 hW0 (zr_inws hci hci3 w hw') args
      refine W.getf hx hb hown hlink (by rw [← (zr_cls1 hci hci3 hk).1]; exact hi) (u_facts hfc hkC (u_lays hts (fun _ z => z) hk) hi).1 q1 (by rw [q3]; exact fun z => by cases z) (v := V k) ?_ rfl rfl hd kk
      rw [hsl]
      exact q4 k hk
theorem zr_put (hw : zr_wf l S0 A0 D B0) (hx : p.tables.exec = Jvm.exec) (hb : c.code = zr_mb mn) (hown : s.vm.findClass (zr_own (zr_mo mn)) = some m.cls) (hW0 : S0.WarmedH s.vm) (hini : zr_kd mn = 2 → meth.name = "<init>") (hab : zr_ab S0 D B0 h H) (hlow : zr_low S0 B0 H) (hlocs : ∀ z ∈ locs, B0 ≤ z.base) {x q ci k : Nat} {v : Value}
    (hfr : zr_fr (zr_mo mn) x = some (ci, k)) (hc8 : ci < 8) (hO : zr_isO (h q) ci = true) (hv : zr_okF (zr_ft ci k) v) (hfin : zr_ff ci k = true → zr_kd mn = 2 ∧ zr_mo mn = ci) (hd : decode (zr_mb mn) pc = .ok (.putfield x, 3))
    (kk : ∀ (H1 : Heap) (locs1 : List Loc), zr_ab S0 D B0 (zr_putO h q k v) H1 → zr_low S0 B0 H1 → (∀ z ∈ locs1, B0 ≤ z.base) → W p l e R s m args below meth c H1 locs1 cells slots Q (F0 m (pc + 3) ls r)) : W p l e R s m args below meth c H locs cells slots Q (F0 m pc ls (v :: .ref q :: r)) := by
  obtain ⟨V, hV⟩ := zr_isO_spec hO
  unfold zr_putO at kk
  rw [hV] at kk
  obtain ⟨ent, he1, he2, he3⟩ := zr_fnd hfr
  have hck := List.all_eq_true.mp zr_frall ent he1
  simp only [Bool.and_eq_true, beq_iff_eq] at he2
  simp only [Prod.mk.injEq] at he3
  have hc := hab.1 q _ hV
  unfold zr_ct at hc
  unfold zr_frc at hck
  rw [he3.1, he3.2, he2.1, he2.2, if_neg (by omega)] at hck
  simp only [Bool.and_eq_true, decide_eq_true_eq] at hck
  obtain ⟨⟨⟨hck, hk⟩, hci⟩, hci3⟩ := hck
  have hlink := zr_word hw.1 hW0 (zr_wd_spec hck) args
  rcases hc with ⟨h1, -⟩ | ⟨hq, -, -, cell, q1, q2, q3, q4⟩
  · omega
  obtain ⟨hS, hfc, kC, hkC, hkind⟩ := u_Kn_moved hW0.alike (hw.2.1 ci hci hci3)
  obtain ⟨cf, kf, fi, f, hi, hsl⟩ := hS k hk
  have hts : ∀ w ∈ u_ws (zr_own ci) (zr_clsT ci) (zr_fn ci), w.before args s = true := fun w hw' => zr_word hw.1 hW0 (zr_inws hci hci3 w hw') args
  have hlay := hts _ (u_in_lay hk)
  obtain ⟨e1, e2, e3, e4⟩ := zr_cls1 hci hci3 hk
  have hap : ∀ a b, a < zr_fn ci → b < zr_fn ci → a ≠ b → (D.2 ci) a ≠ (D.2 ci) b := by
    intro a b ha hb' hne
    obtain ⟨_, _, _, fa, hia, ea⟩ := hS a ha
    obtain ⟨_, _, _, fb, hib, eb⟩ := hS b hb'
    rw [← ea, ← eb]
    refine u_apart (u_lays hts (fun _ z => z) ha) (u_lays hts (fun _ z => z) hb') hia hib ?_
    rw [(State.fieldFound?_type hia (zr_cls1 hci hci3 ha).2.1).1, (State.fieldFound?_type hib (zr_cls1 hci hci3 hb').2.1).1]
    exact (zr_cls1 hci hci3 ha).2.2.2 b hb' hne
  have hst := (u_facts hfc hkC (u_lays hts (fun _ z => z) hk) hi).1
  have key : ∀ H' : Heap, H'[q]? = some (cell.setSlot (D.2 ci k) v) → H'.size = H.size → (∀ z, z ≠ q → H'[z]? = H[z]?) → W p l e R s m args below meth c H' (locs ++ [⟨q, D.2 ci k⟩]) cells slots Q (F0 m (pc + 3) ls r) := by
    intro H' g1 g2 g3
    refine kk H' _ (zr_ab_up hab (fun c0 e0 => ?_) (Or.inr ⟨hq, hci, hci3, ?_⟩) (fun z _ hz => g3 z hz)) (zr_low_up hlow hq (by omega) (fun z _ hz => g3 z hz)) ?_
    · rw [hV] at e0
      cases e0
      show ci ≠ 8
      omega
    · exact t_OB.to (V := updV V k v) ⟨_, g1, q2, q3, t_set q4 hap hk v⟩ (fun j _ => rfl)
    · intro z hz
      rcases List.mem_append.mp hz with hz | hz
      · exact hlocs z hz
      · rw [List.mem_singleton.mp hz]; exact hq
  have hi' : s.fieldFound? (zr_own ci) (zr_clsT ci k).2.1 (zr_clsT ci k).2.2.1 = some (cf, kf, fi, f) := by rw [← e1]; exact hi
  unfold u_lay at hlay
  by_cases hf : (zr_clsT ci k).2.2.2 = true
  · rw [if_pos hf] at hlay
    obtain ⟨hkd, hmo⟩ := hfin (by rw [e3]; exact hf)
    have hcf : m.cls = cf := by
      obtain ⟨_, _, c', _, _, _, -, -, hf', -, -, -, hown2, -⟩ := Cond.laysFinal_spec hlay
      have e1' : c' = cf := by have := hi.symm.trans hf'; simp at this; exact this.1.symm
      rw [e1, ← hmo] at hown2
      rw [← e1']; exact Option.some.inj (hown.symm.trans hown2)
    have h6 := u_fits hfc hkC hkind (Or.inr hlay) hi e2 hv.1 hv.2
    refine W.putFinK hx hb hown hlink hi' hst hcf (hini hkd) (by rw [q2]; exact h6) q1 q3 (by rw [hsl]; exact k2_hasslot (q4 k hk)) rfl rfl hd fun H' g1 g2 g3 => ?_
    rw [hsl] at g1 ⊢
    exact key H' g1 g2 g3
  · rw [if_neg hf] at hlay
    have h6 := u_store hfc hkC hkind hlay hi e2 hv.1 hv.2
    refine W.putK hx hb (f := f) ⟨hown, hlink, ⟨_, _, _, hi'⟩, hst⟩ (by rw [q2]; exact h6) q1 q3 (by rw [hsl]; exact k2_hasslot (q4 k hk)) rfl rfl hd fun H' g1 g2 g3 => ?_
    rw [hsl] at g1 ⊢
    exact key H' g1 g2 g3
end ZH
theorem zr_szSlot (c : Cell) (i : Nat) (v : Value) : (c.setSlot i v).slots.size = c.slots.size := by simp [Cell.setSlot]
section ZI
variable {p : Program} {l : Launch} {e : Env} {R : Room} {s : State} {m : MethodId} {args : Array Value} {below : List Frame} {meth : Method} {c : Code} {H : Heap} {locs : List Loc} {cells slots : Nat} {Q : State → Prop}
variable {S0 : State} {A0 : Array Value} {D : va_G} {B0 mn pc : Nat} {ls : Array Slot} {r : List Value} {h : zr_H}
theorem zr_ald (hW0 : S0.WarmedH s.vm) (hab : zr_ab S0 D B0 h H) {q t : Nat} {i : Int32} (hA : zr_isA (h q) t = true) (hin : vp_in i (zr_len (h q))) : ∃ cell : Cell, H[q]? = some cell ∧ s.isArrayOf cell (zr_at t) ∧ cell.vm ≠ .unknown ∧ ¬ (i < 0 ∨ cell.slots.size ≤ i.toNatClampNeg) ∧ cell.slots[i.toNatClampNeg]? = some (zr_elt (h q) i.toNatClampNeg) := by
  obtain ⟨n, f, hV⟩ := zr_isA_spec hA
  obtain ⟨h1, cell, g1, g2, g3, g4, g5, g6, g7, g8⟩ := (hab.1 q _ hV : zr_ct S0 D B0 q (.inr (t, n, f)) H)
  rw [hV] at hin ⊢
  have hlt : i.toNatClampNeg < n := Nat.not_le.mp fun z => hin (Or.inr z)
  exact ⟨cell, g1, State.isArrayOf_alike hW0.alike g2, g3, fun z => z.elim (fun z => hin (Or.inl z)) (fun z => absurd hlt (by omega)), g7 _ hlt⟩
theorem zr_alen (hW0 : S0.WarmedH s.vm) (hab : zr_ab S0 D B0 h H) {q t : Nat} (hA : zr_isA (h q) t = true) : ∃ cell : Cell, H[q]? = some cell ∧ s.isArrayOf cell (zr_at t) ∧ cell.slots.size.toInt32 = nI (zr_len (h q)) := by
  obtain ⟨n, f, hV⟩ := zr_isA_spec hA
  obtain ⟨h1, cell, g1, g2, g3, g4, g5, g6, g7, g8⟩ := (hab.1 q _ hV : zr_ct S0 D B0 q (.inr (t, n, f)) H)
  rw [hV]
  exact ⟨cell, g1, State.isArrayOf_alike hW0.alike g2, g5⟩
theorem zr_ast (hW0 : S0.WarmedH s.vm) (hab : zr_ab S0 D B0 h H) (hlow : zr_low S0 B0 H) (hlocs : ∀ z ∈ locs, B0 ≤ z.base) {q t : Nat} {i : Int32} (ht : t < 20) (hA : zr_isA (h q) t = true) (hin : vp_in i (zr_len (h q))) : ∃ cell : Cell, H[q]? = some cell ∧ s.isArrayOf cell (zr_at t) ∧ cell.vm ≠ .unknown ∧ ¬ (i < 0 ∨ cell.slots.size ≤ i.toNatClampNeg) ∧
    (t = 5 → ∃ (kA : Class) (comp : ClassId), S0.vm.classes[cell.cls]? = some kA ∧ kA.kind = .array comp (.object "RingStones$Game") ∧ S0.vm.findClass "RingStones$Game" = some comp) ∧
    ∀ (v : Value) (H' : Heap), H'[q]? = some (cell.setSlot i.toNatClampNeg v) → H'.size = H.size → (∀ z, z ≠ q → H'[z]? = H[z]?) → zr_ab S0 D B0 (zr_putA h q i.toNatClampNeg v) H' ∧ zr_low S0 B0 H' ∧ ∀ z ∈ locs ++ [(⟨q, i.toNatClampNeg⟩ : Loc)], B0 ≤ z.base := by
  obtain ⟨n, f, hV⟩ := zr_isA_spec hA
  obtain ⟨h1, cell, g1, g2, g3, g4, g5, g6, g7, g8⟩ := (hab.1 q _ hV : zr_ct S0 D B0 q (.inr (t, n, f)) H)
  rw [hV] at hin
  have hlt : i.toNatClampNeg < n := Nat.not_le.mp fun z => hin (Or.inr z)
  refine ⟨cell, g1, State.isArrayOf_alike hW0.alike g2, g3, fun z => z.elim (fun z => hin (Or.inl z)) (fun z => absurd hlt (by omega)), g8, fun v H' k1 k2 k3 => ⟨?_, zr_low_up hlow (h1 ht) (by omega) (fun z _ hz => k3 z hz), ?_⟩⟩
  · unfold zr_putA
    rw [hV]
    refine zr_ab_up hab (fun c0 e0 => ?_) ⟨h1, _, k1, g2, g3, by rw [zr_szSlot]; exact g4, by rw [zr_szSlot]; exact g5, fun z => by rw [zr_szSlot]; exact g6 z, fun j hj => ?_, g8⟩ (fun z _ hz => k3 z hz)
    · rw [hV] at e0
      cases e0
      exact ht
    · have hj2 : j < cell.slots.size := by omega
      show (cell.slots.setIfInBounds i.toNatClampNeg v)[j]? = some (if j = i.toNatClampNeg then v else f j)
      rw [Array.getElem?_setIfInBounds]
      by_cases z : i.toNatClampNeg = j
      · rw [if_pos z, if_pos z.symm, if_pos (by omega)]
      · rw [if_neg z, if_neg (Ne.symm z)]
        exact g7 j hj
  · intro z hz
    rcases List.mem_append.mp hz with hz | hz
    · exact hlocs z hz
    · rw [List.mem_singleton.mp hz]; exact h1 ht
theorem zr_anew (hab : zr_ab S0 D B0 h H) (hlow : zr_low S0 B0 H) {H' : Heap} {t N : Nat} {f : Nat → Value} {cell : Cell} (ht : t < 20) (h1 : H'[H.size]? = some cell) (h2 : H'.size = H.size + 1) (h3 : ∀ q, q < H.size → H'[q]? = H[q]?) (h4 : S0.isArrayOf cell (zr_at t)) (h5 : cell.vm ≠ .unknown) (h6 : cell.slots.size = N) (h7 : ∀ j, j < N → cell.slots[j]? = some (f j))
    (h8 : t = 5 → ∃ (kA : Class) (comp : ClassId), S0.vm.classes[cell.cls]? = some kA ∧ kA.kind = .array comp (.object "RingStones$Game") ∧ S0.vm.findClass "RingStones$Game" = some comp) : zr_ab S0 D B0 (zr_up h H.size (.inr (t, N, f))) H' ∧ zr_low S0 B0 H' :=
  ⟨zr_ab_up hab (fun c0 e0 => by rw [zr_ab_size hab] at e0; cases e0) ⟨fun _ => zr_low_size hlow, cell, h1, h4, h5, by omega, by rw [h6]; rfl, fun _ => h6, h7, h8⟩ (fun q hq _ => h3 q hq), zr_low_up hlow (zr_low_size hlow) (by omega) (fun q hq _ => h3 q hq)⟩
theorem zr_newO (hw : zr_wf l S0 A0 D B0) (hx : p.tables.exec = Jvm.exec) (hb : c.code = zr_mb mn) (hown : s.vm.findClass (zr_own (zr_mo mn)) = some m.cls) (hW0 : S0.WarmedH s.vm) (hab : zr_ab S0 D B0 h H) (hlow : zr_low S0 B0 H) {x ci : Nat} (hnr : zr_nr (zr_mo mn) x = some ci) (hcells : cells + 1 ≤ R.cells) (hslots : slots + zr_fn ci ≤ R.slots) (hd : decode (zr_mb mn) pc = .ok (.new x, 3))
    (kk : ∀ (H1 : Heap), zr_ab S0 D B0 (zr_up h H.size (zr_dfl ci)) H1 → zr_low S0 B0 H1 → W p l e R s m args below meth c H1 locs (cells + 1) (slots + zr_fn ci) Q (F0 m (pc + 3) ls (.ref H.size :: r))) : W p l e R s m args below meth c H locs cells slots Q (F0 m pc ls r) := by
  obtain ⟨ent, he1, he2, he3⟩ := zr_fnd hnr
  have hck := List.all_eq_true.mp zr_nrall ent he1
  simp only [Bool.and_eq_true, beq_iff_eq] at he2
  unfold zr_nrc at hck
  rw [he3, he2.1, he2.2] at hck
  simp only [Bool.and_eq_true, decide_eq_true_eq] at hck
  obtain ⟨⟨hck, hci⟩, hci3⟩ := hck
  have hK := u_Kn_moved hW0.alike (hw.2.1 ci hci hci3)
  have hts : ∀ w ∈ u_ws (zr_own ci) (zr_clsT ci) (zr_fn ci), w.before args s = true := fun w hw' => zr_word hw.1 hW0 (zr_inws hci hci3 w hw') args
  obtain ⟨hi1, hi2⟩ := zr_insts hci hci3
  refine W.newcK hx hb hown (zr_word hw.1 hW0 (zr_wd_spec hck) args) (zr_word hw.1 hW0 hi1 args) (zr_word hw.1 hW0 hi2 args) rfl hd hcells hslots hK.2.1 rfl fun H1 kC hkC e1 z1 o1 => ?_
  have hob := u_born (zr_ft ci) hts (fun _ z => z) hK hkC e1 (fun k hk => (zr_cls1 hci hci3 hk).2.1)
  exact kk H1 (zr_ab_up hab (fun c0 e0 => by rw [zr_ab_size hab] at e0; cases e0) (Or.inr ⟨zr_low_size hlow, hci, hci3, hob⟩) (fun q hq _ => o1 q hq)) (zr_low_up hlow (zr_low_size hlow) (by omega) (fun q hq _ => o1 q hq))
/-- what a method's contract says -/
def zr_Qc (S0 : State) (D : va_G) (B0 : Nat) (K : zr_K) : Array Value → State → Outcome → State → Prop := fun _ _ o t => ∃ v h', o = .returned v ∧ K (.inl v) h' ∧ zr_ab S0 D B0 h' t.heap ∧ zr_low S0 B0 t.heap
def zr_XC (S0 : State) (D : va_G) (B0 : Nat) (K : zr_K) : String → State → State → Prop := fun E _ t => ∃ k h', k < 4 ∧ E = zr_exT.getD k "" ∧ K (.inr k) h' ∧ zr_ab S0 D B0 h' t.heap ∧ zr_low S0 B0 t.heap
def zr_Pc (S0 : State) (D : va_G) (B0 : Nat) (as : List Value) (h : zr_H) : Array Value → State → Prop := fun a U => a = as.toArray ∧ S0.WarmedH U.vm ∧ zr_ab S0 D B0 h U.heap ∧ zr_low S0 B0 U.heap
theorem zr_Pc_blind (S0 : State) (D : va_G) (B0 : Nat) (as : List Value) (h : zr_H) : FrameBlind (zr_Pc S0 D B0 as h) := fun _ _ _ _ q => ⟨q.1, q.2.1, q.2.2.1, q.2.2.2⟩
def zr_rm (mn d : Nat) : Room := { frames := d + 8, cells := zr_mc mn, slots := zr_ms mn, locals := 40 * d + 200 }
def zr_ws (mn : Nat) : List Cond := [if zr_hh mn = [] then .code (zr_mm mn).1 (zr_mb mn) (zr_ml mn) (zr_mr mn) else .codeWith (zr_mm mn).1 (zr_mb mn) (zr_ml mn) (zr_mr mn) (zr_hh mn)]
def zr_con (l : Launch) (S0 : State) (D : va_G) (B0 d mn : Nat) : Prop := ∀ (as : List Value) (h : zr_H) (K : zr_K), zr_E d mn as h K → (zr_l0 as).length ≤ zr_ml mn → vx_Met l (zr_mm mn).1 (zr_ws mn) (zr_rm mn d) (zr_Pc S0 D B0 as h) (zr_Qc S0 D B0 K) (zr_XC S0 D B0 K) (zr_mc mn) (zr_ms mn) (zr_Lo B0)
/-- behind a call, whatever it answers -/
theorem zr_callk {mc ms : Nat} {st0 rest : List Value} {K : zr_K} {a : Array Value} (hr : vx_Run p l e R s m args below meth c H locs cells slots mc ms (F0 m pc ls st0) rest (zr_Qc S0 D B0 K a) (zr_XC S0 D B0 K) (zr_Lo B0)) (hlocs : ∀ z ∈ locs, B0 ≤ z.base)
    (k1 : ∀ v h' H1 locs1, K (.inl v) h' → zr_ab S0 D B0 h' H1 → zr_low S0 B0 H1 → (∀ z ∈ locs1, B0 ≤ z.base) → W p l e R s m args below meth c H1 locs1 (cells + mc) (slots + ms) Q (F0 m (pc + 3) ls (v.toList ++ rest)))
    (k2 : ∀ k h' H1 locs1 q ce, k < 4 → K (.inr k) h' → zr_ab S0 D B0 h' H1 → zr_low S0 B0 H1 → (∀ z ∈ locs1, B0 ≤ z.base) → H1[q]? = some ce → ce.vm = .none → s.vm.findClass (zr_exT.getD k "") = some ce.cls → vx_W p l e R s m args below meth c H1 locs1 (cells + mc) (slots + ms) Q (F0 m pc ls rest) q) :
    W p l e R s m args below meth c H locs cells slots Q (F0 m pc ls st0) := by
  intro T hT X
  have hL' : ∀ L : List Loc, (∀ q ∈ L, zr_Lo B0 q.base) → ∀ z ∈ locs ++ L, B0 ≤ z.base := fun L hL z hz => (List.mem_append.mp hz).elim (hlocs z) (hL z)
  rcases hr T hT X with ⟨v, st₀, t, T', L, h0, X', hL, e1, e2, ⟨v', h', hv, hK, ha, hlo⟩, st⟩ | ⟨q, st₀, t, T', L, E, ce, h0, X', hL, e1, e2, ⟨k, h', hk4, hE, hK, ha, hlo⟩, hce, hcv, hcl, st⟩
  · cases hv
    obtain ⟨t2, a1, b1⟩ := k1 v h' T'.heap (locs ++ L) hK (by rw [e1]; exact ha) (by rw [e1]; exact hlo) (hL' L hL) T' rfl X'
    exact ⟨t2, st t2 a1, b1⟩
  · subst hE
    obtain ⟨t2, a1, b1⟩ := k2 k h' T'.heap (locs ++ L) q ce hk4 hK (by rw [e1]; exact ha) (by rw [e1]; exact hlo) (hL' L hL) (by rw [e1]; exact hce) hcv hcl T' rfl X'
    exact ⟨t2, st.trans a1, b1⟩
end ZI
