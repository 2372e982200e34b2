/-! THE ABSTRACT HEAP AND THE MACHINE'S: what a cell of the one says of the other; locals; what a store keeps -/
def zr_Lo (B0 : Nat) : Nat → Prop := fun q => B0 ≤ q
def zr_ct (S0 : State) (D : va_G) (B0 q : Nat) (c : zr_C) (H : Heap) : Prop := match c with
  | .inl (ci, V) => (ci = 8 ∧ q < B0 ∧ va_OF "java/lang/String" "value" "[B" (V 0) q (zr_Lo B0) S0 H ∧ va_OF "java/lang/String" "coder" "B" (V 1) q (zr_Lo B0) S0 H ∧ va_O "java/lang/String" q (zr_Lo B0) S0 H) ∨
     (B0 ≤ q ∧ ci < 8 ∧ ci ≠ 3 ∧ t_OB q (D.1 ci) (zr_fn ci) (D.2 ci) H V)
  | .inr (t, n, f) => (t < 20 → B0 ≤ q) ∧ ∃ cell : Cell, H[q]? = some cell ∧ S0.isArrayOf cell (zr_at t) ∧ cell.vm ≠ .unknown ∧ n ≤ cell.slots.size ∧ cell.slots.size.toInt32 = nI n ∧ (t < 20 → cell.slots.size = n) ∧ (∀ j, j < n → cell.slots[j]? = some (f j)) ∧
     (t = 5 → ∃ (kA : Class) (comp : ClassId), S0.vm.classes[cell.cls]? = some kA ∧ kA.kind = .array comp (.object "RingStones$Game") ∧ S0.vm.findClass "RingStones$Game" = some comp)
def zr_ab (S0 : State) (D : va_G) (B0 : Nat) (h : zr_H) (H : Heap) : Prop :=
  (∀ q c, h q = some c → zr_ct S0 D B0 q c H) ∧ ∀ o x k, zr_sr o x = some k → ∃ q, vk_R (zr_own o) x (zr_txt.getD k "") q S0 ∧ zr_str h q (zr_txt.getD k "")
def zr_low (S0 : State) (B0 : Nat) (H : Heap) : Prop := B0 = S0.heap.size ∧ S0.heap.size ≤ H.size ∧ ∀ q, q < B0 → H[q]? = S0.heap[q]?
def zr_wr (c : zr_C) : Prop := match c with
  | .inl (ci, _) => ci ≠ 8
  | .inr (t, _, _) => t < 20
theorem zr_OF_kept {o n d : String} {v : Value} {t : Nat} {A : Nat → Prop} {U : State} {H H1 : Heap} (h : va_OF o n d v t A U H) (hq : H1[t]? = H[t]?) : va_OF o n d v t A U H1 := by
  obtain ⟨cf, k, i, f, cell, h1, h2, h3, h4⟩ := h
  exact ⟨cf, k, i, f, cell, h1, h2, by rw [hq]; exact h3, h4⟩
theorem zr_O_kept {E : String} {t : Nat} {A : Nat → Prop} {U : State} {H H1 : Heap} (h : va_O E t A U H) (hq : H1[t]? = H[t]?) : va_O E t A U H1 := by
  obtain ⟨cell, h1, h2⟩ := h
  exact ⟨cell, by rw [hq]; exact h1, h2⟩
theorem zr_ct_kept {S0 : State} {D : va_G} {B0 q : Nat} {c : zr_C} {H H1 : Heap} (h : zr_ct S0 D B0 q c H) (hq : H1[q]? = H[q]?) : zr_ct S0 D B0 q c H1 := by
  unfold zr_ct at h ⊢
  split at h
  · rcases h with ⟨e, h1, h2, h3, h4⟩ | ⟨h1, h2, h3, h4⟩
    · exact Or.inl ⟨e, h1, zr_OF_kept h2 hq, zr_OF_kept h3 hq, zr_O_kept h4 hq⟩
    · exact Or.inr ⟨h1, h2, h3, h4.kept hq⟩
  · obtain ⟨h1, cell, h2, h3⟩ := h
    exact ⟨h1, cell, by rw [hq]; exact h2, h3⟩
theorem zr_ct_lt {S0 : State} {D : va_G} {B0 q : Nat} {c : zr_C} {H : Heap} (h : zr_ct S0 D B0 q c H) : q < H.size := by
  unfold zr_ct at h
  split at h
  · rcases h with ⟨e, h1, h2, h3, cell, h4, h5⟩ | ⟨h1, h2, h3, cell, h4, h5⟩
    · exact (Array.getElem?_eq_some_iff.mp h4).1
    · exact (Array.getElem?_eq_some_iff.mp h4).1
  · obtain ⟨h1, cell, h2, h3⟩ := h
    exact (Array.getElem?_eq_some_iff.mp h2).1
theorem zr_ab_size {S0 : State} {D : va_G} {B0 : Nat} {h : zr_H} {H : Heap} (g : zr_ab S0 D B0 h H) : h H.size = none := by
  cases e : h H.size with
  | none => rfl
  | some c => exact absurd (zr_ct_lt (g.1 _ _ e)) (Nat.lt_irrefl _)
theorem zr_up_self (h : zr_H) (q : Nat) (c : zr_C) : zr_up h q c q = some c := by simp [zr_up]
theorem zr_up_ne (h : zr_H) {q j : Nat} (c : zr_C) (n : j ≠ q) : zr_up h q c j = h j := by simp [zr_up, n]
theorem zr_str_up {h : zr_H} {a q : Nat} {c : zr_C} {tx : String} (hw : ∀ c0, h a = some c0 → zr_wr c0) (g : zr_str h q tx) : zr_str (zr_up h a c) q tx := by
  obtain ⟨b, V, f, h1, h2, h3, h4, h5⟩ := g
  have n1 : q ≠ a := fun e => by subst e; exact absurd rfl (hw _ h1)
  have n2 : b ≠ a := fun e => by subst e; exact absurd (hw _ h4) (by simp [zr_wr])
  exact ⟨b, V, f, by rw [zr_up_ne _ _ n1]; exact h1, h2, h3, by rw [zr_up_ne _ _ n2]; exact h4, h5⟩
theorem zr_ab_up {S0 : State} {D : va_G} {B0 : Nat} {h : zr_H} {H H1 : Heap} {a : Nat} {c : zr_C} (g : zr_ab S0 D B0 h H) (hw : ∀ c0, h a = some c0 → zr_wr c0) (hc : zr_ct S0 D B0 a c H1) (hq : ∀ q, q < H.size → q ≠ a → H1[q]? = H[q]?) : zr_ab S0 D B0 (zr_up h a c) H1 := by
  refine ⟨fun q c1 e => ?_, fun o x k e => ?_⟩
  · by_cases n : q = a
    · subst n
      rw [zr_up_self] at e
      cases e
      exact hc
    · rw [zr_up_ne _ _ n] at e
      exact zr_ct_kept (g.1 q c1 e) (hq q (zr_ct_lt (g.1 q c1 e)) n)
  · obtain ⟨q, e1, e2⟩ := g.2 o x k e
    exact ⟨q, e1, zr_str_up hw e2⟩
theorem zr_ab_kept {S0 : State} {D : va_G} {B0 : Nat} {h : zr_H} {H H1 : Heap} (g : zr_ab S0 D B0 h H) (hq : ∀ q, q < H.size → H1[q]? = H[q]?) : zr_ab S0 D B0 h H1 :=
  ⟨fun q c e => zr_ct_kept (g.1 q c e) (hq q (zr_ct_lt (g.1 q c e))), g.2⟩
theorem zr_low_lt {S0 : State} {B0 : Nat} {H : Heap} (g : zr_low S0 B0 H) {q : Nat} (h : q < B0) : q < H.size := by
  obtain ⟨e, g1, g2⟩ := g
  subst e
  exact Nat.lt_of_lt_of_le h g1
theorem zr_low_up {S0 : State} {B0 : Nat} {H H1 : Heap} {a : Nat} (g : zr_low S0 B0 H) (ha : B0 ≤ a) (hs : H.size ≤ H1.size) (hq : ∀ q, q < H.size → q ≠ a → H1[q]? = H[q]?) : zr_low S0 B0 H1 :=
  ⟨g.1, Nat.le_trans g.2.1 hs, fun q h => by rw [hq q (zr_low_lt g h) (by omega)]; exact g.2.2 q h⟩
theorem zr_low_size {S0 : State} {B0 : Nat} {H : Heap} (g : zr_low S0 B0 H) : B0 ≤ H.size := by rw [g.1]; exact g.2.1
/-! locals -/
def zr_prs : Nat → zr_L → List (Nat × Value)
  | _, [] => []
  | i, none :: l => zr_prs (i + 1) l
  | i, some v :: l => (i, v) :: zr_prs (i + 1) l
theorem zr_prs_mem : ∀ (l : zr_L) (i j : Nat) (v : Value), (j, v) ∈ zr_prs i l ↔ ∃ k, j = i + k ∧ l[k]? = some (some v)
  | [], i, j, v => by simp [zr_prs]
  | none :: l, i, j, v => by
    rw [zr_prs, zr_prs_mem l]
    constructor
    · rintro ⟨k, e1, e2⟩
      exact ⟨k + 1, by omega, by simpa using e2⟩
    · rintro ⟨k, e1, e2⟩
      cases k with
      | zero => simp at e2
      | succ k => exact ⟨k, by omega, by simpa using e2⟩
  | some w :: l, i, j, v => by
    rw [zr_prs, List.mem_cons, zr_prs_mem l]
    constructor
    · rintro (e | ⟨k, e1, e2⟩)
      · cases e
        exact ⟨0, by omega, by simp⟩
      · exact ⟨k + 1, by omega, by simpa using e2⟩
    · rintro ⟨k, e1, e2⟩
      cases k with
      | zero => left; simp at e2; simp [e1, e2]
      | succ k => exact Or.inr ⟨k, by omega, by simpa using e2⟩
theorem zr_prs_at {l : zr_L} {j : Nat} {v : Value} : (j, v) ∈ zr_prs 0 l ↔ l[j]? = some (some v) := by
  rw [zr_prs_mem]
  constructor
  · rintro ⟨k, e1, e2⟩
    have : j = k := by omega
    subst this
    exact e2
  · intro h
    exact ⟨j, by omega, h⟩
def zr_lr (ls : Array Slot) (nL : Nat) (l : zr_L) : Prop := lv_has ls nL (zr_prs 0 l) ∧ l.length = nL
theorem zr_lr_at {ls : Array Slot} {nL : Nat} {l : zr_L} (h : zr_lr ls nL l) {i : Nat} {v : Value} (hk : l[i]? = some (some v)) : ls[i]? = some (.val v) := h.1.2.2 (i, v) (zr_prs_at.mpr hk)
theorem zr_s1_len : ∀ (l : zr_L) (i : Nat) (v : Value), (zr_s1 l i v).length = l.length
  | [], _, _ => by simp [zr_s1]
  | _ :: l, 0, v => by simp [zr_s1]
  | o :: l, i + 1, v => by simp [zr_s1, zr_s1_len l i v]
theorem zr_s2_len : ∀ (l : zr_L) (i : Nat) (v : Value), (zr_s2 l i v).length = l.length
  | [], _, _ => by simp [zr_s2]
  | [_], 0, v => by simp [zr_s2]
  | _ :: _ :: l, 0, v => by simp [zr_s2]
  | [o], i + 1, v => by simp [zr_s2]
  | o :: p :: l, i + 1, v => by simp [zr_s2, zr_s2_len (p :: l) i v]
theorem zr_kill_spec {o : Option Value} {w : Value} (h : zr_kill o = some w) : o = some w ∧ ¬ w.category = 2 := by
  unfold zr_kill at h
  split at h
  · cases h
  · cases h
  · rename_i h1 h2
    refine ⟨h, fun e => ?_⟩
    subst h
    cases w <;> simp_all [Value.category]
theorem zr_s1_spec : ∀ (l : zr_L) (i : Nat) (v : Value) (j : Nat) (w : Value), (zr_s1 l i v)[j]? = some (some w) → (j = i ∧ w = v) ∨ (l[j]? = some (some w) ∧ j ≠ i ∧ ¬ (j + 1 = i ∧ w.category = 2))
  | [], i, v, j, w, h => by simp [zr_s1] at h
  | o :: l, 0, v, j, w, h => by
    cases j with
    | zero => left; simp [zr_s1] at h; exact ⟨rfl, h.symm⟩
    | succ j => right; simp [zr_s1] at h; exact ⟨by simpa using h, by omega, by omega⟩
  | o :: l, i + 1, v, j, w, h => by
    cases j with
    | zero =>
      right
      simp only [zr_s1, List.getElem?_cons_zero, Option.some.injEq] at h
      by_cases e : i = 0
      · rw [if_pos e] at h
        obtain ⟨h1, h2⟩ := zr_kill_spec h
        exact ⟨by simp [h1], by omega, fun q => h2 q.2⟩
      · rw [if_neg e] at h
        exact ⟨by simp [h], by omega, by omega⟩
    | succ j =>
      simp only [zr_s1, List.getElem?_cons_succ] at h
      rcases zr_s1_spec l i v j w h with ⟨e1, e2⟩ | ⟨e1, e2, e3⟩
      · exact Or.inl ⟨by omega, e2⟩
      · exact Or.inr ⟨by simpa using e1, by omega, fun q => e3 ⟨by omega, q.2⟩⟩
theorem zr_s2_spec : ∀ (l : zr_L) (i : Nat) (v : Value) (j : Nat) (w : Value), (zr_s2 l i v)[j]? = some (some w) → (j = i ∧ w = v) ∨ (l[j]? = some (some w) ∧ j ≠ i ∧ j ≠ i + 1 ∧ ¬ (j + 1 = i ∧ w.category = 2))
  | [], i, v, j, w, h => by simp [zr_s2] at h
  | [o], 0, v, j, w, h => by
    cases j with
    | zero => simp [zr_s2] at h
    | succ j => simp [zr_s2] at h
  | o :: p :: l, 0, v, j, w, h => by
    cases j with
    | zero => left; simp [zr_s2] at h; exact ⟨rfl, h.symm⟩
    | succ j =>
      cases j with
      | zero => simp [zr_s2] at h
      | succ j => right; simp [zr_s2] at h; exact ⟨by simpa using h, by omega, by omega, by omega⟩
  | o :: l, i + 1, v, j, w, h => by
    have e0 : zr_s2 (o :: l) (i + 1) v = (if i = 0 then zr_kill o else o) :: zr_s2 l i v := by cases l <;> simp [zr_s2]
    rw [e0] at h
    cases j with
    | zero =>
      right
      simp only [List.getElem?_cons_zero, Option.some.injEq] at h
      by_cases e : i = 0
      · rw [if_pos e] at h
        obtain ⟨h1, h2⟩ := zr_kill_spec h
        exact ⟨by simp [h1], by omega, by omega, fun q => h2 q.2⟩
      · rw [if_neg e] at h
        exact ⟨by simp [h], by omega, by omega, by omega⟩
    | succ j =>
      simp only [List.getElem?_cons_succ] at h
      rcases zr_s2_spec l i v j w h with ⟨e1, e2⟩ | ⟨e1, e2, e3, e4⟩
      · exact Or.inl ⟨by omega, e2⟩
      · exact Or.inr ⟨by simpa using e1, by omega, by omega, fun q => e4 ⟨by omega, q.2⟩⟩
theorem zr_lr_sub {ls : Array Slot} {nL : Nat} {lv : List (Nat × Value)} {l : zr_L} (h : lv_has ls nL lv) (hl : l.length = nL) (hm : ∀ j w, l[j]? = some (some w) → (j, w) ∈ lv) : zr_lr ls nL l :=
  ⟨⟨h.1, h.2.1, fun q hq => h.2.2 q (hm q.1 q.2 (zr_prs_at.mp hq))⟩, hl⟩
theorem zr_lr_s1 {ls' : Array Slot} {nL i : Nat} {l : zr_L} {v : Value} (hl : l.length = nL) (h : lv_has ls' nL ((i, v) :: (zr_prs 0 l).filter (fun q => !(q.1 == i) && !(q.1 + 1 == i && q.2.category == 2)))) : zr_lr ls' nL (zr_s1 l i v) := by
  refine zr_lr_sub h (by rw [zr_s1_len, hl]) fun j w hj => ?_
  rcases zr_s1_spec l i v j w hj with ⟨e1, e2⟩ | ⟨e1, e2, e3⟩
  · subst e1; subst e2; exact List.mem_cons_self
  · refine List.mem_cons_of_mem _ (List.mem_filter.mpr ⟨zr_prs_at.mpr e1, ?_⟩)
    simp only [Bool.and_eq_true, Bool.not_eq_true', beq_eq_false_iff_ne, ne_eq, Bool.and_eq_false_iff]
    refine ⟨e2, ?_⟩
    by_cases q : j + 1 = i
    · exact Or.inr fun z => e3 ⟨q, z⟩
    · exact Or.inl q
theorem zr_lr_s2 {ls' : Array Slot} {nL i : Nat} {l : zr_L} {v : Value} (hl : l.length = nL) (h : lv_has ls' nL ((i, v) :: (zr_prs 0 l).filter (fun q => !(q.1 == i) && (!(q.1 == i + 1) && !(q.1 + 1 == i && q.2.category == 2))))) : zr_lr ls' nL (zr_s2 l i v) := by
  refine zr_lr_sub h (by rw [zr_s2_len, hl]) fun j w hj => ?_
  rcases zr_s2_spec l i v j w hj with ⟨e1, e2⟩ | ⟨e1, e2, e3, e4⟩
  · subst e1; subst e2; exact List.mem_cons_self
  · refine List.mem_cons_of_mem _ (List.mem_filter.mpr ⟨zr_prs_at.mpr e1, ?_⟩)
    simp only [Bool.and_eq_true, Bool.not_eq_true', beq_eq_false_iff_ne, ne_eq, Bool.and_eq_false_iff]
    refine ⟨e2, e3, ?_⟩
    by_cases q : j + 1 = i
    · exact Or.inr fun z => e4 ⟨q, z⟩
    · exact Or.inl q
theorem zr_l0_mem : ∀ (as : List Value) (i j : Nat) (v : Value), (j, v) ∈ zr_prs i (zr_l0 as) → (j, v) ∈ lv_args i as
  | [], i, j, v, h => by simp [zr_l0, zr_prs] at h
  | a :: r, i, j, v, h => by
    unfold zr_l0 at h
    unfold lv_args
    by_cases e : a.category = 2
    · rw [if_pos e] at h ⊢
      simp only [zr_prs, List.mem_cons] at h ⊢
      rcases h with h | h
      · exact Or.inl h
      · exact Or.inr (zr_l0_mem r (i + 2) j v h)
    · rw [if_neg e] at h ⊢
      simp only [zr_prs, List.mem_cons] at h ⊢
      rcases h with h | h
      · exact Or.inl h
      · exact Or.inr (zr_l0_mem r (i + 1) j v h)
theorem zr_l0_len : ∀ as : List Value, (zr_l0 as).length = (lg_sl as).length
  | [] => rfl
  | a :: r => by
    have ih := zr_l0_len r
    unfold zr_l0
    have e0 : lg_sl (a :: r) = (if a.category = 2 then [.val a, .second] else [.val a]) ++ lg_sl r := by simp [lg_sl]
    rw [e0]
    by_cases e : a.category = 2
    · rw [if_pos e, if_pos e]; simp [ih]
    · rw [if_neg e, if_neg e]; simp [ih]
theorem zr_lx_at {n : Nat} {as : List Value} {j : Nat} {w : Value} (h : (zr_lx n as)[j]? = some (some w)) : (zr_l0 as)[j]? = some (some w) := by
  unfold zr_lx at h
  rcases Nat.lt_or_ge j (zr_l0 as).length with q | q
  · rw [List.getElem?_append_left q] at h; exact h
  · rw [List.getElem?_append_right q] at h
    rw [List.getElem?_replicate] at h
    split at h <;> simp at h
theorem zr_lr_entry {as : List Value} {nL : Nat} (h : (zr_l0 as).length ≤ nL) : zr_lr ((lg_sl as ++ List.replicate (nL - (lg_sl as).length) Slot.unset).toArray) nL (zr_lx nL as) := by
  refine zr_lr_sub (lv_entry as (by rw [← zr_l0_len]; exact h)) (by unfold zr_lx; simp; omega) fun j w hj => ?_
  exact zr_l0_mem as 0 j w (zr_prs_at.mpr (zr_lx_at hj))
