/-! THE CLASS'S STATE: D 0 = the object, 1 earlier, 2 slots, 3 reader, 4 written, 5 its text, 6 its grid; V 0 = the game, V 1..8 = earlier ones, V 9, V 10 = the saved ones -/
def vo (o : Option gm) (a : Nat) : Value := match o with
  | none => .null
  | some _ => .ref a
def vC (h : zr_H) (O : Nat → Prop) (B : Nat → Nat → Nat) (D : Nat → Nat) (V : Nat → Option gm) (u l : Nat) (J : Nat → Int32) (rb rw : Int64) (tf wf : Nat → Int32) : Prop :=
  h (D 0) = some (zxs (B 0 0) (D 1) (D 2) (D 3) (D 4) (nI u) (nI l)) ∧ aV 5 h (D 1) 8 (fun k => .ref (B (k + 1) 0)) ∧ aV 5 h (D 2) 2 (fun j => vo (V (9 + j)) (B (9 + j) 0)) ∧
  h (D 3) = some (zrd (D 5) (D 6) J rb rw) ∧ (∃ R S, h (D 6) = some (zg R S) ∧ vG R S) ∧ aB h (D 5) 300 tf ∧ aB h (D 4) 12 wf ∧
  zK h O B V ∧ (∀ i, i < 9 → V i ≠ none) ∧ D 5 ≠ D 4 ∧ (∀ i, i < 7 → ¬ O (D i)) ∧ (∀ q, O q → h q ≠ none) ∧ u ≤ 8 ∧ l ≤ 12
section STATE
variable {h h' : zr_H} {O : Nat → Prop} {B : Nat → Nat → Nat} {D : Nat → Nat} {V : Nat → Option gm} {u l : Nat} {J : Nat → Int32} {rb rw : Int64} {tf wf : Nat → Int32} {G : gm} {g : Nat}
theorem ng_of {q : Nat} {c : zr_C} (e : h q = some c) (n : gk c = false) : ¬ gO h q := by
  intro ⟨c2, e2, n2⟩
  rw [e] at e2
  cases e2
  rw [n] at n2
  cases n2
theorem vC_ng (v : vC h O B D V u l J rb rw tf wf) : ∀ k, k < 6 → ¬ gO h (D k) := by
  obtain ⟨h0, ⟨F1, h1, -⟩, ⟨F2, h2, -⟩, h3, -, ⟨F5, h5, -⟩, ⟨F4, h4, -⟩, -⟩ := v
  intro k hk
  have : k = 0 ∨ k = 1 ∨ k = 2 ∨ k = 3 ∨ k = 4 ∨ k = 5 := by omega
  rcases this with e | e | e | e | e | e <;> subst e
  · exact ng_of h0 rfl
  · exact ng_of h1 rfl
  · exact ng_of h2 rfl
  · exact ng_of h3 rfl
  · exact ng_of h4 rfl
  · exact ng_of h5 rfl
theorem vC_nx (v : vC h O B D V u l J rb rw tf wf) {i : Nat} (hi : i < 11) (hV : V i = some G) : ∀ k, k < 7 → ¬ D k ∈ xA (B i) := by
  intro k hk m
  obtain ⟨⟨g, w, -⟩, -⟩ := v.2.2.2.2.2.2.2.1.1 i G hi hV
  by_cases e : k = 6
  · subst e
    obtain ⟨R, S, e, -⟩ := v.2.2.2.2.1
    exact vM_xA w e m
  · obtain ⟨j, hj, e⟩ := xA_m.mp m
    exact vC_ng v k (by omega) (e ▸ (vM_gO w).2 j hj)
theorem vC_g0 (v : vC h O B D V u l J rb rw tf wf) : ∃ G, V 0 = some G ∧ ∃ g, vMg h (B 0) G g ∧ ¬ O g := by
  cases e : V 0 with
  | none => exact (v.2.2.2.2.2.2.2.2.1 0 (by omega) e).elim
  | some G => exact ⟨G, rfl, (v.2.2.2.2.2.2.2.1.1 0 G (by omega) e).1⟩
theorem vC_O {X : List Nat} (f : fx X h h') (n : ∀ q, q ∈ X → ¬ O q) : ∀ q, O q → h' q = h q := fun q o => f q (fun m => n q m o)
theorem xA_O {A : Nat → Nat} (v : vMo h O A G) : ∀ q, q ∈ xA A → ¬ O q := fun q m => by
  obtain ⟨j, hj, e⟩ := xA_m.mp m
  rw [e]
  exact v.2 j hj
/-- one of the games changes -/
theorem vC_upd (v : vC h O B D V u l J rb rw tf wf) {i : Nat} {G0 : gm} (hi : i < 11) (hV : V i = some G0) (f : fx (xA (B i)) h h') (hv : vMg h' (B i) G g) (hO : ¬ O g) : vC h' O B D (vu V i (some G)) u l J rb rw tf wf ∧ ∀ q, O q → h' q = h q := by
  have nx := vC_nx v hi hV
  have fo := vC_O f (xA_O (v.2.2.2.2.2.2.2.1.1 i G0 hi hV))
  obtain ⟨h0, h1, h2, h3, ⟨R, S, h6, hg⟩, h5, h4, k, hn, ne, hD, ho, hu⟩ := v
  refine ⟨⟨fx_get f (nx 0 (by omega)) h0, aV_fx h1 f (nx 1 (by omega)), ?_, fx_get f (nx 3 (by omega)) h3, ⟨R, S, fx_get f (nx 6 (by omega)) h6, hg⟩, aB_to h5 (f _ (nx 5 (by omega))), aB_to h4 (f _ (nx 4 (by omega))), zK_upd k hi hV f hv hO, ?_, ne, hD, ?_, hu⟩, fo⟩
  · refine aV_eq (aV_fx h2 f (nx 2 (by omega))) (fun j hj => ?_)
    by_cases e : 9 + j = i
    · subst e
      rw [vu_s, hV]
      rfl
    · rw [vu_n _ _ e]
  · intro j hj
    by_cases e : j = i
    · subst e
      rw [vu_s]
      exact fun z => by cases z
    · rw [vu_n _ _ e]
      exact hn j hj
  · intro q o
    rw [fo q o]
    exact ho q o
/-- the object's numbers -/
theorem zx_put5 {q ea sl rd wr : Nat} {u l x : Int32} : (Sum.inl (6, zr_fup (zxV q ea sl rd wr u l) 5 (.int x)) : zr_C) = zxs q ea sl rd wr x l := by
  unfold zxs
  congr 2
  funext k
  match k with
  | 0 | 1 | 2 | 3 | 4 => simp [zr_fup, zxV]
  | 5 => simp [zr_fup, zxV]
  | 6 => simp [zr_fup, zxV]
  | k + 7 => simp [zr_fup, zxV]
theorem zx_put6 {q ea sl rd wr : Nat} {u l x : Int32} : (Sum.inl (6, zr_fup (zxV q ea sl rd wr u l) 6 (.int x)) : zr_C) = zxs q ea sl rd wr u x := by
  unfold zxs
  congr 2
  funext k
  match k with
  | 0 | 1 | 2 | 3 | 4 => simp [zr_fup, zxV]
  | 5 => simp [zr_fup, zxV]
  | 6 => simp [zr_fup, zxV]
  | k + 7 => simp [zr_fup, zxV]
theorem putX5 {x q ea sl rd wr : Nat} {u l y : Int32} (e : h x = some (zxs q ea sl rd wr u l)) : zr_putO h x 5 (.int y) = zr_up h x (zxs q ea sl rd wr y l) := by rw [zr_putO_mk e, zx_put5]
theorem putX6 {x q ea sl rd wr : Nat} {u l y : Int32} (e : h x = some (zxs q ea sl rd wr u l)) : zr_putO h x 6 (.int y) = zr_up h x (zxs q ea sl rd wr u y) := by rw [zr_putO_mk e, zx_put6]
theorem vC_dd (v : vC h O B D V u l J rb rw tf wf) : ∀ i j, i < 7 → j < 7 → i ≠ j → D i ≠ D j := by
  obtain ⟨h0, ⟨F1, h1, -⟩, ⟨F2, h2, -⟩, h3, ⟨R, S, h6, -⟩, ⟨F5, h5, -⟩, ⟨F4, h4, -⟩, -, -, ne, -⟩ := v
  have key : ∀ {c e : zr_C} {i j : Nat}, h (D i) = some c → h (D j) = some e → c ≠ e → D i ≠ D j := fun a b n z => n (by rw [z, b] at a; exact (Option.some.inj a).symm)
  have K : ∀ i j, i < j → j < 7 → D i ≠ D j := by
    intro i j hij hj
    have : j = 1 ∨ j = 2 ∨ j = 3 ∨ j = 4 ∨ j = 5 ∨ j = 6 := by omega
    have hi : i = 0 ∨ i = 1 ∨ i = 2 ∨ i = 3 ∨ i = 4 ∨ i = 5 := by omega
    rcases this with e | e | e | e | e | e <;> subst e <;> rcases hi with e | e | e | e | e | e <;> subst e <;> first | omega | (exact Ne.symm ne) | skip
    · exact key h0 h1 (by simp [zxs])
    · exact key h0 h2 (by simp [zxs])
    · exact key h1 h2 (by simp)
    · exact key h0 h3 (by simp [zxs, zrd])
    · exact key h1 h3 (by simp [zrd])
    · exact key h2 h3 (by simp [zrd])
    · exact key h0 h4 (by simp [zxs])
    · exact key h1 h4 (by simp)
    · exact key h2 h4 (by simp)
    · exact key h3 h4 (by simp [zrd])
    · exact key h0 h5 (by simp [zxs])
    · exact key h1 h5 (by simp)
    · exact key h2 h5 (by simp)
    · exact key h3 h5 (by simp [zrd])
    · exact key h0 h6 (by simp [zxs, zg])
    · exact key h1 h6 (by simp [zg])
    · exact key h2 h6 (by simp [zg])
    · exact key h3 h6 (by simp [zg, zrd])
    · exact key h4 h6 (by simp [zg])
    · exact key h5 h6 (by simp [zg])
  intro i j hi hj e
  rcases Nat.lt_or_ge i j with z | z
  · exact K i j z hj
  · exact Ne.symm (K j i (by omega) hi)
/-- one of its own cells changes, which is no game's -/
theorem vC_cell (v : vC h O B D V u l J rb rw tf wf) {k : Nat} (hk : k < 6) (f : fx [D k] h h') : zK h' O B V ∧ (∀ q, O q → h' q = h q) ∧ (∀ j, j < 7 → j ≠ k → h' (D j) = h (D j)) := by
  have dd := vC_dd v
  have ng := vC_ng v k hk
  have hD := v.2.2.2.2.2.2.2.2.2.2.1 k (by omega)
  refine ⟨zK_fx v.2.2.2.2.2.2.2.1 (fun q _ o => f q (fun m => ?_)), fun q o => f q (fun m => ?_), fun j hj ne => f _ (fun m => ?_)⟩
  · rw [List.mem_singleton] at m
    exact ng (m ▸ o)
  · rw [List.mem_singleton] at m
    exact hD (m ▸ o)
  · rw [List.mem_singleton] at m
    exact dd j k hj (by omega) ne m
end STATE
