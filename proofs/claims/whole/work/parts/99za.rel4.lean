/-! BOTH: bytes, undo, slots -/
section BOTH
variable {d : Nat} {h h1 h' : zr_H} {Q : zr_K} {O : Nat → Prop} {x m sc o o2 N : Nat} {E : Nat → Nat} {s : Nat → Int32} {R S : Nat} {b w : Int64} {P : List (Int64 × Int64)} {I : Nat → Int32} {y z t : Int32} {H : List gm} {T : Nat → Option gm} {n l : Nat} {e : Int32} {tf wf : Nat → Int32} {G G' : gm} {codes : List Nat}
theorem nI_ij {a c : Nat} (ha : a < 1000) (hc : c < 1000) (h : nI a = nI c) : a = c := (nI_eq (by omega) (by omega)).mp h
theorem pr_append {y1 y2 y3 y4 y5 : Int32} (ok : OK O m sc o o2 E) (v : RX O x m sc o o2 N E s h ((R, S, b, w, P, I), H, T, n, e, l, tf, wf)) : PR (d + 41) 222 134 x m o sc [.int y1, .int y2, .int y3, .int y4, .int y5] h (fun h2 => ∃ a', RX O x m sc o o2 N E s h2 a') := by
  have hx := CS_X v.1
  have vc := v.1
  have n3 : n ≤ 300 := by obtain ⟨_, _, _, _, _, _, _, c⟩ := CS_cp vc; exact c.2.2.2.2.2.2
  refine PR_gen (d := d + 40) (codes := [0]) ok v (fun r a' => (280 < n → r = .inr 0 ∧ a' = ((R, S, b, w, P, I), H, T, n, e, l, tf, wf)) ∧ (n ≤ 280 → r = .inl (nI (n + 20)) ∧ a' = ((R, S, b, w, P, I), H, T, n + 20, e, l, app tf n y1 y2 y3 y4 y5, wf))) (fun Q hc => k_w222 (d := d + 40) hx hc) (fun Q hQ => ?_) (fun r a' hs h1 vm Q hQ => ?_) (fun e2 a' hs => ?_) (by decide)
  · obtain ⟨B, D, V, J, rb, rw, ex, c⟩ := CS_cp vc
    subst ex
    obtain ⟨c1, c2, c3, c4, c5, c6, c7⟩ := c
    exact k_append (d := d + 38) c1 c5 n3 (fun z => hQ (.inr 0) _ h ⟨fun _ => ⟨rfl, rfl⟩, fun u => by omega⟩ vc (fun _ _ => rfl)) (fun z h2 o2 v2 => hQ (.inl _) _ h2 ⟨fun u => by omega, fun _ => ⟨rfl, rfl⟩⟩ (cp_CS ⟨v2, c2, c3, c4, fI_s _ _ _, (fI_n _ _ (by omega)).trans c6, by omega⟩) o2)
  · obtain ⟨K, L, bf, vm, rb⟩ := vm
    refine k_mappend (d := d + 40) vm n3 (fun z => ?_) (fun z => ?_)
    · obtain ⟨rfl, rfl⟩ := hs.1 z
      exact mo_end rb hQ
    · obtain ⟨rfl, rfl⟩ := hs.2 z
      exact mo_end (app_m rb) hQ
  · by_cases z : n ≤ 280
    · cases (hs.2 z).1
    · cases (hs.1 (by omega)).1
      simp
theorem pr_byte (ok : OK O m sc o o2 E) (v : RX O x m sc o o2 N E s h ((R, S, b, w, P, I), H, T, n, e, l, tf, wf)) : PR (d + 41) 252 209 x m o sc [.int y] h (fun h2 => ∃ a', RX O x m sc o o2 N E s h2 a') := by
  have hx := CS_X v.1
  have vc := v.1
  have l12 : l ≤ 12 := by obtain ⟨_, _, _, _, _, _, _, c⟩ := CS_cp vc; exact c.1.2.2.2.2.2.2.2.2.2.2.2.2.2
  refine PR_gen (d := d + 40) (codes := [2]) ok v (fun r a' => r = rxByte wf l y ∧ a' = ((R, S, b, w, P, I), H, T, n, e, l, tf, wf)) (fun Q hc => k_w252 (d := d + 40) hx hc) (fun Q hQ => ?_) (fun r a' hs h1 vm Q hQ => ?_) (fun e2 a' hs => ?_) (by decide)
  · obtain ⟨B, D, V, J, rb, rw, ex, c⟩ := CS_cp vc
    subst ex
    exact k_byte (d := d + 39) l12 c.1.1 c.1.2.2.2.2.2.2.1 (hQ _ _ h ⟨rfl, rfl⟩ vc (fun _ _ => rfl))
  · obtain ⟨K, L, bf, vm, rb⟩ := vm
    obtain ⟨rfl, rfl⟩ := hs
    exact k_mbyte (d := d + 39) l12 vm (mo_end rb hQ)
  · have he := hs.1.symm
    unfold rxByte at he
    (repeat' split at he) <;> first | (cases he; simp; done) | cases he
theorem pr_wring (ok : OK O m sc o o2 E) (v : RX O x m sc o o2 N E s h ((R, S, b, w, P, I), H, T, n, e, l, tf, wf)) : PR (d + 41) 251 208 x m o sc [.int y] h (fun h2 => ∃ a', RX O x m sc o o2 N E s h2 a') := by
  have hx := CS_X v.1
  have vc := v.1
  have hR : R < 6 := by
    obtain ⟨A, ea, sl, rd, wr', u, l, g, hX, vm⟩ := CS_v vc
    exact (g_lt vm.2.2.2.1).1
  refine PR_gen (d := d + 40) (codes := [2]) ok v (fun r a' => ((∀ i, i < R → y ≠ nI i) → r = .inr 2 ∧ a' = ((R, S, b, w, P, I), H, T, n, e, l, tf, wf)) ∧ (∀ i, i < R → y = nI i → r = .inl (nI S) ∧ a' = ((R, S, b, w, P, I), H, T, n, e, S, tf, wrf S b w I i wf S))) (fun Q hc => k_w251 (d := d + 40) hx hc) (fun Q hQ => ?_) (fun r a' hs h1 vm Q hQ => ?_) (fun e2 a' hs => ?_) (by decide)
  · obtain ⟨B, D, V, J, rb, rw, ex, c⟩ := CS_cp vc
    subst ex
    refine k_wring (d := d + 36) c.1 c.2.1 (fun z => hQ (.inr 2) _ h ⟨fun _ => ⟨rfl, rfl⟩, fun i hi ei => absurd ei (z i hi)⟩ vc (fun _ _ => rfl)) (fun i hi ei h2 B' o2 v2 => hQ (.inl _) _ h2 ⟨fun u => absurd ei (u i hi), fun i2 hi2 ei2 => ?_⟩ (cp_CS ⟨v2, c.2⟩) o2)
    have : i2 = i := nI_ij (by omega) (by omega) (ei2.symm.trans ei)
    subst this
    exact ⟨rfl, rfl⟩
  · obtain ⟨K, L, bf, vm, rb⟩ := vm
    refine k_mwring (d := d + 38) vm (fun z => ?_) (fun i hi ei => ?_)
    · obtain ⟨rfl, rfl⟩ := hs.1 z
      exact mo_end rb hQ
    · obtain ⟨rfl, rfl⟩ := hs.2 i hi ei
      exact mo_end rb hQ
  · by_cases z : ∃ i, i < R ∧ y = nI i
    · obtain ⟨i, hi, ei⟩ := z
      cases (hs.2 i hi ei).1
    · cases (hs.1 (fun i hi ei => z ⟨i, hi, ei⟩)).1
      simp
theorem pr_undo (ok : OK O m sc o o2 E) (v : RX O x m sc o o2 N E s h ((R, S, b, w, P, I), H, T, n, e, l, tf, wf)) : PR (d + 41) 253 126 x m o sc [] h (fun h2 => ∃ a', RX O x m sc o o2 N E s h2 a') := by
  have hx := CS_X v.1
  have vc := v.1
  refine PR_gen (d := d + 40) (codes := [0]) ok v (fun r a' => (H = [] → r = .inr 0 ∧ a' = ((R, S, b, w, P, I), H, T, n, e, l, tf, wf)) ∧ (∀ G1 H1, H = G1 :: H1 → r = .inl (nI H1.length) ∧ a' = (G1, H1, T, n, e, l, tf, wf))) (fun Q hc => k_w253 (d := d + 40) hx hc) (fun Q hQ => ?_) (fun r a' hs h1 vm Q hQ => ?_) (fun e2 a' hs => ?_) (by decide)
  · obtain ⟨B, D, V, J, rb, rw, ex, c⟩ := CS_cp vc
    subst ex
    obtain ⟨c1, c2, c3, c4, c5⟩ := c
    cases H with
    | nil => exact k_undo (d := d + 37) c1 (fun z => hQ (.inr 0) _ h ⟨fun _ => ⟨rfl, rfl⟩, fun _ _ u => by cases u⟩ vc (fun _ _ => rfl)) (fun G1 u => absurd u (by simp))
    | cons G0 H0 =>
      have e1 : V 1 = some G0 := c3 0 (by simp)
      refine k_undo (d := d + 37) c1 (fun z => absurd z (by simp)) (fun G1 u hv h2 B' o2 v2 => ?_)
      rw [e1] at hv
      cases hv
      have el : (G0 :: H0).length - 1 = H0.length := by simp
      rw [el] at v2 ⊢
      have hl : H0.length + 1 ≤ 8 := by
        have := c1.2.2.2.2.2.2.2.2.2.2.2.2.1
        simp at this
        omega
      refine hQ (.inl _) (G0, H0, T, n, e, l, tf, wf) h2 ⟨(fun u => by cases u), fun G2 H2 u => (by cases u; exact ⟨rfl, rfl⟩)⟩ (cp_CS (G := G0) (H := H0) ⟨v2, ?_, fun k hk => ?_, fun j hj => ?_, c5⟩) o2
      · unfold unV
        have : rl 0 = 0 := by decide
        rw [this, vu_s]
      · unfold unV
        have : rl (k + 1) = k + 2 := by unfold rl; rw [if_neg (by omega), if_pos (by omega)]
        rw [this, vu_n _ _ (by omega)]
        exact c3 (k + 1) (by simp; omega)
      · unfold unV
        have : rl (9 + j) = 9 + j := by unfold rl; rw [if_neg (by omega), if_neg (by omega)]
        rw [this, vu_n _ _ (by omega)]
        exact c4 j hj
  · obtain ⟨K, L, bf, vm, rb⟩ := vm
    refine k_mundo (d := d + 39) vm (fun z => ?_) (fun G1 H1 z => ?_)
    · obtain ⟨rfl, rfl⟩ := hs.1 z
      exact mo_end rb hQ
    · obtain ⟨rfl, rfl⟩ := hs.2 G1 H1 z
      exact mo_end rb hQ
  · cases H with
    | nil => cases (hs.1 rfl).1; simp
    | cons G0 H0 => cases (hs.2 G0 H0 rfl).1
theorem pr_save (ok : OK O m sc o o2 E) (v : RX O x m sc o o2 N E s h ((R, S, b, w, P, I), H, T, n, e, l, tf, wf)) : PR (d + 41) 254 128 x m o sc [.int y] h (fun h2 => ∃ a', RX O x m sc o o2 N E s h2 a') := by
  have hx := CS_X v.1
  have vc := v.1
  refine PR_gen (d := d + 40) (codes := [2]) ok v (fun r a' => (¬ (y = 0 ∨ y = 1) → r = .inr 2 ∧ a' = ((R, S, b, w, P, I), H, T, n, e, l, tf, wf)) ∧ (∀ j, j < 2 → y = nI j → r = .inl (nI (ct (b ||| w))) ∧ a' = ((R, S, b, w, P, I), H, vu T j (some (R, S, b, w, P, I)), n, e, l, tf, wf))) (fun Q hc => k_w254 (d := d + 40) hx hc) (fun Q hQ => ?_) (fun r a' hs h1 vm Q hQ => ?_) (fun e2 a' hs => ?_) (by decide)
  · obtain ⟨B, D, V, J, rb, rw, ex, c⟩ := CS_cp vc
    subst ex
    obtain ⟨c1, c2, c3, c4, c5⟩ := c
    have hl := c1.2.2.2.2.2.2.2.2.2.2.2.2.1
    refine k_save (d := d + 34) c1 c2 (fun z => hQ (.inr 2) _ h ⟨fun _ => ⟨rfl, rfl⟩, fun j hj ej => absurd (by
      have : j = 0 ∨ j = 1 := by omega
      rcases this with u | u <;> subst u
      · exact Or.inl ej
      · exact Or.inr ej) z⟩ vc (fun _ _ => rfl)) (fun j hj ej h2 B' o2 v2 => ?_)
    refine hQ (.inl _) ((R, S, b, w, P, I), H, vu T j (some (R, S, b, w, P, I)), n, e, l, tf, wf) h2 ⟨fun u => ?_, fun j2 hj2 ej2 => ?_⟩ (cp_CS ⟨v2, ?_, fun k hk => ?_, fun i hi => ?_, c5⟩) o2
    · refine absurd ?_ u
      have : j = 0 ∨ j = 1 := by omega
      rcases this with u | u <;> subst u
      · exact Or.inl ej
      · exact Or.inr ej
    · have : j2 = j := nI_ij (by omega) (by omega) (ej2.symm.trans ej)
      subst this
      exact ⟨rfl, rfl⟩
    · rw [vu_n _ _ (by omega)]; exact c2
    · rw [vu_n _ _ (by omega)]; exact c3 k hk
    · by_cases u : i = j
      · rw [u, vu_s, vu_s]
      · rw [vu_n _ _ (by omega), vu_n _ _ u]; exact c4 i hi
  · obtain ⟨K, L, bf, vm, rb⟩ := vm
    refine k_msave (d := d + 37) vm (fun z => ?_) (fun j hj ej => ?_)
    · obtain ⟨rfl, rfl⟩ := hs.1 z
      exact mo_end rb hQ
    · obtain ⟨rfl, rfl⟩ := hs.2 j hj ej
      exact mo_end rb hQ
  · by_cases z : (y = 0 ∨ y = 1)
    · obtain ⟨j, hj, ej⟩ := slt_j z
      cases (hs.2 j hj ej).1
    · cases (hs.1 z).1
      simp
theorem slt_i {j : Nat} (hj : j < 2) (ej : y = nI j) : y = 0 ∨ y = 1 := by
  have : j = 0 ∨ j = 1 := by omega
  rcases this with u | u <;> subst u
  · exact Or.inl ej
  · exact Or.inr ej
theorem pr_rest (ok : OK O m sc o o2 E) (v : RX O x m sc o o2 N E s h ((R, S, b, w, P, I), H, T, n, e, l, tf, wf)) : PR (d + 41) 255 129 x m o sc [.int y] h (fun h2 => ∃ a', RX O x m sc o o2 N E s h2 a') := by
  have hx := CS_X v.1
  have vc := v.1
  refine PR_gen (d := d + 40) (codes := [2, 0]) ok v (fun r a' => (¬ (y = 0 ∨ y = 1) → r = .inr 2 ∧ a' = ((R, S, b, w, P, I), H, T, n, e, l, tf, wf)) ∧ (∀ j, j < 2 → y = nI j → T j = none → r = .inr 0 ∧ a' = ((R, S, b, w, P, I), H, T, n, e, l, tf, wf)) ∧ (∀ j G', j < 2 → y = nI j → T j = some G' → r = .inl (nI (ct (G'.2.2.1 ||| G'.2.2.2.1))) ∧ a' = (G', ((R, S, b, w, P, I) :: H).take 8, T, n, e, l, tf, wf))) (fun Q hc => k_w255 (d := d + 40) hx hc) (fun Q hQ => ?_) (fun r a' hs h1 vm Q hQ => ?_) (fun e2 a' hs => ?_) (by decide)
  · obtain ⟨B, D, V, J, rb, rw, ex, c⟩ := CS_cp vc
    subst ex
    refine k_restore (d := d + 36) c.1 c.2.1 (fun z => hQ (.inr 2) _ h ⟨fun _ => ⟨rfl, rfl⟩, fun j hj ej => absurd (slt_i hj ej) z, fun j G' hj ej => absurd (slt_i hj ej) z⟩ vc (fun _ _ => rfl)) (fun j hj ej z => ?_) (fun j R2 S2 b2 w2 P2 I2 hj ej z h2 B' o2 v2 => ?_)
    · have z2 : T j = none := (c.2.2.2.1 j hj).symm.trans z
      refine hQ (.inr 0) _ h ⟨fun u => absurd (slt_i hj ej) u, fun _ _ _ _ => ⟨rfl, rfl⟩, fun j2 G' hj2 ej2 u => ?_⟩ vc (fun _ _ => rfl)
      have : j2 = j := nI_ij (by omega) (by omega) (ej2.symm.trans ej)
      rw [this, z2] at u
      cases u
    · have z2 : T j = some (R2, S2, b2, w2, P2, I2) := (c.2.2.2.1 j hj).symm.trans z
      refine hQ (.inl _) _ h2 ⟨fun u => absurd (slt_i hj ej) u, fun j2 hj2 ej2 u => ?_, fun j2 G' hj2 ej2 u => ?_⟩ (CP_ch c v2) o2
      · have : j2 = j := nI_ij (by omega) (by omega) (ej2.symm.trans ej)
        rw [this, z2] at u
        cases u
      · have : j2 = j := nI_ij (by omega) (by omega) (ej2.symm.trans ej)
        rw [this, z2] at u
        cases u
        exact ⟨rfl, rfl⟩
  · obtain ⟨K, L, bf, vm, rb⟩ := vm
    refine k_mrest (d := d + 37) vm (fun z => ?_) (fun j hj ej z => ?_) (fun j G' hj ej z => ?_)
    · obtain ⟨rfl, rfl⟩ := hs.1 z
      exact mo_end rb hQ
    · obtain ⟨rfl, rfl⟩ := hs.2.1 j hj ej z
      exact mo_end rb hQ
    · obtain ⟨rfl, rfl⟩ := hs.2.2 j G' hj ej z
      exact mo_end rb hQ
  · by_cases z : (y = 0 ∨ y = 1)
    · obtain ⟨j, hj, ej⟩ := slt_j z
      cases u : T j with
      | none => cases (hs.2.1 j hj ej u).1; simp
      | some G' => cases (hs.2.2 j G' hj ej u).1
    · cases (hs.1 z).1
      simp
theorem pr_diff (ok : OK O m sc o o2 E) (v : RX O x m sc o o2 N E s h ((R, S, b, w, P, I), H, T, n, e, l, tf, wf)) : PR (d + 41) 256 130 x m o sc [.int y] h (fun h2 => ∃ a', RX O x m sc o o2 N E s h2 a') := by
  have hx := CS_X v.1
  have vc := v.1
  refine PR_gen (d := d + 40) (codes := [2]) ok v (fun r a' => a' = ((R, S, b, w, P, I), H, T, n, e, l, tf, wf) ∧ (¬ (y = 0 ∨ y = 1) → r = .inr 2) ∧ (∀ j, j < 2 → y = nI j → T j = none → r = .inl (-1)) ∧ (∀ j G', j < 2 → y = nI j → T j = some G' → ¬ (G'.1 = R ∧ G'.2.1 = S) → r = .inl (-1)) ∧ (∀ j G', j < 2 → y = nI j → T j = some G' → (G'.1 = R ∧ G'.2.1 = S) → r = .inl (nI (ct ((G'.2.2.1 ^^^ b) ||| (G'.2.2.2.1 ^^^ w)))))) (fun Q hc => k_w256 (d := d + 40) hx hc) (fun Q hQ => ?_) (fun r a' hs h1 vm Q hQ => ?_) (fun e2 a' hs => ?_) (by decide)
  · obtain ⟨B, D, V, J, rb, rw, ex, c⟩ := CS_cp vc
    subst ex
    have un : ∀ {j j2 : Nat}, j < 2 → y = nI j → j2 < 2 → y = nI j2 → j2 = j := fun hj ej hj2 ej2 => nI_ij (by omega) (by omega) (ej2.symm.trans ej)
    refine k_differ (d := d + 37) c.1 c.2.1 (fun z => hQ (.inr 2) _ h ⟨rfl, fun _ => rfl, fun j hj ej => absurd (slt_i hj ej) z, fun j G' hj ej => absurd (slt_i hj ej) z, fun j G' hj ej => absurd (slt_i hj ej) z⟩ vc (fun _ _ => rfl)) (fun j hj ej z => ?_) (fun j R2 S2 b2 w2 P2 I2 hj ej z q => ?_) (fun j R2 S2 b2 w2 P2 I2 hj ej z q => ?_)
    · have z2 : T j = none := (c.2.2.2.1 j hj).symm.trans z
      refine hQ (.inl (-1)) _ h ⟨rfl, fun u => absurd (slt_i hj ej) u, fun _ _ _ _ => rfl, fun j2 G' hj2 ej2 u _ => rfl, fun j2 G' hj2 ej2 u _ => ?_⟩ vc (fun _ _ => rfl)
      rw [un hj ej hj2 ej2, z2] at u
      cases u
    · have z2 : T j = some (R2, S2, b2, w2, P2, I2) := (c.2.2.2.1 j hj).symm.trans z
      refine hQ (.inl (-1)) _ h ⟨rfl, fun u => absurd (slt_i hj ej) u, fun _ _ _ _ => rfl, fun j2 G' hj2 ej2 u _ => rfl, fun j2 G' hj2 ej2 u q2 => ?_⟩ vc (fun _ _ => rfl)
      rw [un hj ej hj2 ej2, z2] at u
      cases u
      exact absurd q2 q
    · have z2 : T j = some (R2, S2, b2, w2, P2, I2) := (c.2.2.2.1 j hj).symm.trans z
      refine hQ (.inl _) _ h ⟨rfl, fun u => absurd (slt_i hj ej) u, fun j2 hj2 ej2 u => ?_, fun j2 G' hj2 ej2 u q2 => ?_, fun j2 G' hj2 ej2 u q2 => ?_⟩ vc (fun _ _ => rfl)
      · rw [un hj ej hj2 ej2, z2] at u
        cases u
      · rw [un hj ej hj2 ej2, z2] at u
        cases u
        exact absurd q q2
      · rw [un hj ej hj2 ej2, z2] at u
        cases u
        rfl
  · obtain ⟨K, L, bf, vm, rb⟩ := vm
    obtain ⟨rfl, s1, s2, s3, s4⟩ := hs
    refine k_mdiff (d := d + 38) vm (fun z => ?_) (fun j hj ej z => ?_) (fun j G' hj ej z q => ?_) (fun j G' hj ej z q => ?_)
    · cases s1 z
      exact mo_end rb hQ
    · cases s2 j hj ej z
      exact mo_end rb hQ
    · cases s3 j G' hj ej z q
      exact mo_end rb hQ
    · cases s4 j G' hj ej z q
      exact mo_end rb hQ
  · obtain ⟨_, s1, s2, s3, s4⟩ := hs
    by_cases z : (y = 0 ∨ y = 1)
    · obtain ⟨j, hj, ej⟩ := slt_j z
      cases u : T j with
      | none => cases s2 j hj ej u
      | some G' =>
        by_cases q : G'.1 = R ∧ G'.2.1 = S
        · cases s4 j G' hj ej u q
        · cases s3 j G' hj ej u q
    · cases s1 z
      simp
end BOTH
