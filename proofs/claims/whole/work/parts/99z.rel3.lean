/-! BOTH: calls that change the game -/
section BOTH
variable {d : Nat} {h h1 h' : zr_H} {Q : zr_K} {O : Nat → Prop} {x m sc o o2 N : Nat} {E : Nat → Nat} {s : Nat → Int32} {R S : Nat} {b w : Int64} {P : List (Int64 × Int64)} {I : Nat → Int32} {y z t : Int32} {H : List gm} {T : Nat → Option gm} {n l : Nat} {e : Int32} {tf wf : Nat → Int32} {G G' : gm} {codes : List Nat}
theorem chV_0 {V : Nat → Option gm} : chV V G G' 0 = some G' := vu_s _ _ _
theorem chV_s {V : Nat → Option gm} {j : Nat} : chV V G G' (9 + j) = V (9 + j) := by
  unfold chV rmV
  rw [vu_n _ _ (by omega)]
  have : ro (9 + j) = 9 + j := by unfold ro; rw [if_neg (by omega), if_neg (by omega)]
  rw [this, vu_n _ _ (by omega)]
theorem chV_k {V : Nat → Option gm} (hl : H.length ≤ 8) (hH : ∀ k, k < H.length → V (k + 1) = H[k]?) : ∀ k, k < ((G :: H).take 8).length → chV V G G' (k + 1) = ((G :: H).take 8)[k]? := by
  intro k hk
  rw [List.length_take, List.length_cons] at hk
  rw [List.getElem?_take, if_pos (by omega)]
  unfold chV rmV
  rw [vu_n _ _ (by omega)]
  cases k with
  | zero =>
    have : ro (0 + 1) = 8 := by unfold ro; rw [if_pos rfl]
    rw [this, vu_s]
    rfl
  | succ k =>
    have : ro (k + 1 + 1) = k + 1 := by unfold ro; rw [if_neg (by omega), if_pos (by omega)]; omega
    rw [this, vu_n _ _ (by omega), List.getElem?_cons_succ]
    exact hH k (by omega)
/-- the class's parts of a state -/
def CP (h : zr_H) (O : Nat → Prop) (B : Nat → Nat → Nat) (D : Nat → Nat) (V : Nat → Option gm) (J : Nat → Int32) (rb rw : Int64) (G : gm) (H : List gm) (T : Nat → Option gm) (n l : Nat) (e : Int32) (tf wf : Nat → Int32) : Prop :=
  vC h O B D V H.length l J rb rw tf wf ∧ V 0 = some G ∧ (∀ k, k < H.length → V (k + 1) = H[k]?) ∧ (∀ j, j < 2 → V (9 + j) = T j) ∧ J 6 = nI n ∧ J 7 = e ∧ n ≤ 300
theorem CS_cp (v : CS h O x (G, H, T, n, e, l, tf, wf)) : ∃ B D V J rb rw, D 0 = x ∧ CP h O B D V J rb rw G H T n l e tf wf := by
  obtain ⟨B, D, V, u, J, rb, rw, v, e1, h0, eu, hH, hT, j6, j7, n3⟩ := v
  subst eu
  exact ⟨B, D, V, J, rb, rw, e1, v, h0, hH, hT, j6, j7, n3⟩
theorem cp_CS {B : Nat → Nat → Nat} {D : Nat → Nat} {V : Nat → Option gm} {J : Nat → Int32} {rb rw : Int64} (v : CP h O B D V J rb rw G H T n l e tf wf) : CS h O (D 0) (G, H, T, n, e, l, tf, wf) := by
  obtain ⟨v, h0, hH, hT, j6, j7, n3⟩ := v
  exact ⟨B, D, V, H.length, J, rb, rw, v, rfl, h0, rfl, hH, hT, j6, j7, n3⟩
theorem CP_ch {B B' : Nat → Nat → Nat} {D : Nat → Nat} {V : Nat → Option gm} {J : Nat → Int32} {rb rw : Int64} (c : CP h O B D V J rb rw G H T n l e tf wf) (v : vC h' O B' D (chV V G G') (min (H.length + 1) 8) l J rb rw tf wf) : CS h' O (D 0) (G', (G :: H).take 8, T, n, e, l, tf, wf) := by
  obtain ⟨v0, h0, hH, hT, j6, j7, n3⟩ := c
  have hl : H.length ≤ 8 := v0.2.2.2.2.2.2.2.2.2.2.2.2.1
  refine ⟨B', D, _, _, J, rb, rw, v, rfl, chV_0, ?_, chV_k hl hH, fun j hj => chV_s.trans (hT j hj), j6, j7, n3⟩
  show _ = ((G :: H).take 8).length
  rw [List.length_take, List.length_cons]
  omega
theorem mM_o {K : Nat → Int32} {L : Nat → Int64} {bf : Nat → Int32} (v : mM h m E K L G H T n e l bf wf) : h m = some (zym E K L) := by
  obtain ⟨f, ff, fk, fs, v, -⟩ := v
  exact v.1
/-- the model's end -/
theorem mo_end {r : Int32 ⊕ Nat} {G2 : gm} {H2 : List gm} {T2 : Nat → Option gm} {n2 l2 : Nat} {e2 : Int32} {bf tf2 wf2 : Nat → Int32} (rb : ∀ k, k < n2 → bf k = tf2 k &&& 255) (hQ : ∀ y h2 K L, mR codes r (K 6) y → h2 m = some (zym E K L) → MS h2 m E (G2, H2, T2, n2, e2, l2, tf2, wf2) → fx (MX m E) h1 h2 → Q (.inl (some (.int y))) h2) : mQM h1 m E Q codes G2 H2 T2 n2 e2 l2 bf wf2 r := by
  intro y h2 K L hr vm f
  exact hQ y h2 K L hr (mM_o vm) ⟨K, L, bf, vm, rb⟩ f
theorem pr_pass (ok : OK O m sc o o2 E) (v : RX O x m sc o o2 N E s h ((R, S, b, w, P, I), H, T, n, e, l, tf, wf)) : PR (d + 41) 234 180 x m o sc [] h (fun h2 => ∃ a', RX O x m sc o o2 N E s h2 a') := by
  have hx := CS_X v.1
  have vc := v.1
  refine PR_gen (d := d + 40) (codes := [0]) ok v (fun r a' => (2 ≤ I 4 → r = .inr 0 ∧ a' = ((R, S, b, w, P, I), H, T, n, e, l, tf, wf)) ∧ (¬ 2 ≤ I 4 → r = .inl (I 4 + 1) ∧ a' = ((R, S, b, w, P, fI (fI (fI I 4 (I 4 + 1)) 7 (-1)) 2 (3 - I 2)), ((R, S, b, w, P, I) :: H).take 8, T, n, e, l, tf, wf))) (fun Q hc => k_w234 (d := d + 40) hx hc) (fun Q hQ => ?_) (fun r a' hs h1 vm Q hQ => ?_) (fun e2 a' hs => ?_) (by decide)
  · obtain ⟨B, D, V, J, rb, rw, ex, c⟩ := CS_cp vc
    subst ex
    exact k_pass (d := d + 36) c.1 c.2.1 (fun z => hQ (.inr 0) _ h ⟨fun _ => ⟨rfl, rfl⟩, fun u => absurd z u⟩ vc (fun _ _ => rfl)) (fun z h2 B' o2 v2 => hQ (.inl _) _ h2 ⟨fun u => absurd u z, fun _ => ⟨rfl, rfl⟩⟩ (CP_ch c v2) o2)
  · obtain ⟨K, L, bf, vm, rb⟩ := vm
    refine k_mpass (d := d + 39) vm (fun z => ?_) (fun z => ?_)
    · obtain ⟨rfl, rfl⟩ := hs.1 z
      exact mo_end rb hQ
    · obtain ⟨rfl, rfl⟩ := hs.2 z
      exact mo_end rb hQ
  · by_cases z : 2 ≤ I 4
    · cases (hs.1 z).1
      simp
    · cases (hs.2 z).1
theorem pr_sturn (ok : OK O m sc o o2 E) (v : RX O x m sc o o2 N E s h ((R, S, b, w, P, I), H, T, n, e, l, tf, wf)) : PR (d + 41) 239 187 x m o sc [.int y] h (fun h2 => ∃ a', RX O x m sc o o2 N E s h2 a') := by
  have hx := CS_X v.1
  have vc := v.1
  refine PR_gen (d := d + 40) (codes := [1]) ok v (fun r a' => (¬ (y = 1 ∨ y = 2) → r = .inr 1 ∧ a' = ((R, S, b, w, P, I), H, T, n, e, l, tf, wf)) ∧ ((y = 1 ∨ y = 2) → r = .inl (I 2) ∧ a' = ((R, S, b, w, P, fI (fI (fI I 2 y) 7 (-1)) 4 0), ((R, S, b, w, P, I) :: H).take 8, T, n, e, l, tf, wf))) (fun Q hc => k_w239 (d := d + 40) hx hc) (fun Q hQ => ?_) (fun r a' hs h1 vm Q hQ => ?_) (fun e2 a' hs => ?_) (by decide)
  · obtain ⟨B, D, V, J, rb, rw, ex, c⟩ := CS_cp vc
    subst ex
    exact k_sturn (d := d + 36) c.1 c.2.1 (fun z => hQ (.inr 1) _ h ⟨fun _ => ⟨rfl, rfl⟩, fun u => absurd u z⟩ vc (fun _ _ => rfl)) (fun z h2 B' o2 v2 => hQ (.inl _) _ h2 ⟨fun u => absurd z u, fun _ => ⟨rfl, rfl⟩⟩ (CP_ch c v2) o2)
  · obtain ⟨K, L, bf, vm, rb⟩ := vm
    refine k_msturn (d := d + 38) vm (fun z => ?_) (fun z => ?_)
    · obtain ⟨rfl, rfl⟩ := hs.1 z
      exact mo_end rb hQ
    · obtain ⟨rfl, rfl⟩ := hs.2 z
      exact mo_end rb hQ
  · by_cases z : (y = 1 ∨ y = 2)
    · cases (hs.2 z).1
    · cases (hs.1 z).1
      simp
theorem pr_srule (ok : OK O m sc o o2 E) (v : RX O x m sc o o2 N E s h ((R, S, b, w, P, I), H, T, n, e, l, tf, wf)) : PR (d + 41) 240 188 x m o sc [.int y] h (fun h2 => ∃ a', RX O x m sc o o2 N E s h2 a') := by
  have hx := CS_X v.1
  have vc := v.1
  refine PR_gen (d := d + 40) (codes := [1]) ok v (fun r a' => (¬ (0 ≤ y ∧ y ≤ 1) → r = .inr 1 ∧ a' = ((R, S, b, w, P, I), H, T, n, e, l, tf, wf)) ∧ ((0 ≤ y ∧ y ≤ 1) → r = .inl (I 8) ∧ a' = ((R, S, b, w, [(b, w)], fI I 8 y), ((R, S, b, w, P, I) :: H).take 8, T, n, e, l, tf, wf))) (fun Q hc => k_w240 (d := d + 40) hx hc) (fun Q hQ => ?_) (fun r a' hs h1 vm Q hQ => ?_) (fun e2 a' hs => ?_) (by decide)
  · obtain ⟨B, D, V, J, rb, rw, ex, c⟩ := CS_cp vc
    subst ex
    exact k_srule (d := d + 36) c.1 c.2.1 (fun z => hQ (.inr 1) _ h ⟨fun _ => ⟨rfl, rfl⟩, fun u => absurd u z⟩ vc (fun _ _ => rfl)) (fun z h2 B' o2 v2 => hQ (.inl _) _ h2 ⟨fun u => absurd z u, fun _ => ⟨rfl, rfl⟩⟩ (CP_ch c v2) o2)
  · obtain ⟨K, L, bf, vm, rb⟩ := vm
    refine k_msrule (d := d + 38) vm (fun z => ?_) (fun z => ?_)
    · obtain ⟨rfl, rfl⟩ := hs.1 z
      exact mo_end rb hQ
    · obtain ⟨rfl, rfl⟩ := hs.2 z
      exact mo_end rb hQ
  · by_cases z : (0 ≤ y ∧ y ≤ 1)
    · cases (hs.2 z).1
    · cases (hs.1 z).1
      simp
theorem pr_sbonus (ok : OK O m sc o o2 E) (v : RX O x m sc o o2 N E s h ((R, S, b, w, P, I), H, T, n, e, l, tf, wf)) : PR (d + 41) 241 189 x m o sc [.int y] h (fun h2 => ∃ a', RX O x m sc o o2 N E s h2 a') := by
  have hx := CS_X v.1
  have vc := v.1
  refine PR_gen (d := d + 40) (codes := [1]) ok v (fun r a' => (¬ (-99 ≤ y ∧ y ≤ 99) → r = .inr 1 ∧ a' = ((R, S, b, w, P, I), H, T, n, e, l, tf, wf)) ∧ ((-99 ≤ y ∧ y ≤ 99) → r = .inl (I 9) ∧ a' = ((R, S, b, w, P, fI I 9 y), ((R, S, b, w, P, I) :: H).take 8, T, n, e, l, tf, wf))) (fun Q hc => k_w241 (d := d + 40) hx hc) (fun Q hQ => ?_) (fun r a' hs h1 vm Q hQ => ?_) (fun e2 a' hs => ?_) (by decide)
  · obtain ⟨B, D, V, J, rb, rw, ex, c⟩ := CS_cp vc
    subst ex
    exact k_sbonus (d := d + 36) c.1 c.2.1 (fun z => hQ (.inr 1) _ h ⟨fun _ => ⟨rfl, rfl⟩, fun u => absurd u z⟩ vc (fun _ _ => rfl)) (fun z h2 B' o2 v2 => hQ (.inl _) _ h2 ⟨fun u => absurd z u, fun _ => ⟨rfl, rfl⟩⟩ (CP_ch c v2) o2)
  · obtain ⟨K, L, bf, vm, rb⟩ := vm
    refine k_msbonus (d := d + 39) vm (fun z => ?_) (fun z => ?_)
    · obtain ⟨rfl, rfl⟩ := hs.1 z
      exact mo_end rb hQ
    · obtain ⟨rfl, rfl⟩ := hs.2 z
      exact mo_end rb hQ
  · by_cases z : (-99 ≤ y ∧ y ≤ 99)
    · cases (hs.2 z).1
    · cases (hs.1 z).1
      simp
end BOTH
