/-! BOTH: play, setStone, load -/
section BOTH
variable {d : Nat} {h h1 h' : zr_H} {Q : zr_K} {O : Nat → Prop} {x m sc o o2 N : Nat} {E : Nat → Nat} {s : Nat → Int32} {R S : Nat} {b w : Int64} {P : List (Int64 × Int64)} {I : Nat → Int32} {y z t : Int32} {H : List gm} {T : Nat → Option gm} {n l : Nat} {e : Int32} {tf wf : Nat → Int32} {G G' : gm} {codes : List Nat}
theorem RX_g (v : RX O x m sc o o2 N E s h ((R, S, b, w, P, I), H, T, n, e, l, tf, wf)) : gI R S b w P I := by
  obtain ⟨-, ⟨K, L, bf, vm, -⟩, -⟩ := v
  obtain ⟨f, q⟩ := mM_q vm
  exact q.2.2.2
theorem pr_play (ok : OK O m sc o o2 E) (v : RX O x m sc o o2 N E s h ((R, S, b, w, P, I), H, T, n, e, l, tf, wf)) : PR (d + 41) 233 179 x m o sc [.int y] h (fun h2 => ∃ a', RX O x m sc o o2 N E s h2 a') := by
  have hx := CS_X v.1
  have vc := v.1
  have hg := RX_g v
  have h60 := g_n hg.1
  obtain ⟨c, hc, ht⟩ : ∃ c, (c = 1 ∨ c = 2) ∧ I 2 = nI c := by
    rcases hg.2.2.2.2.2.1 with u | u
    · exact ⟨1, Or.inl rfl, u⟩
    · exact ⟨2, Or.inr rfl, u⟩
  have un : ∀ {p p2 : Nat}, p < R * S → y = nI p → p2 < R * S → y = nI p2 → p2 = p := fun hp ep hp2 ep2 => nI_ij (by omega) (by omega) (ep2.symm.trans ep)
  refine PR_gen (d := d + 40) (codes := [2, 0]) ok v (fun r a' => ((∀ p, p < R * S → y ≠ nI p) → r = .inr 2 ∧ a' = ((R, S, b, w, P, I), H, T, n, e, l, tf, wf)) ∧ (∀ p, p < R * S → y = nI p → ¬ rf R S b w P I p c = 0 → r = .inr 0 ∧ a' = ((R, S, b, w, P, I), H, T, n, e, l, tf, wf)) ∧ (∀ p, p < R * S → y = nI p → rf R S b w P I p c = 0 → r = .inl (nI (ct (cb R S b w p c))) ∧ a' = (plG R S b w P I p c, ((R, S, b, w, P, I) :: H).take 8, T, n, e, l, tf, wf))) (fun Q hc => k_w233 (d := d + 40) hx hc) (fun Q hQ => ?_) (fun r a' hs h1 vm Q hQ => ?_) (fun e2 a' hs => ?_) (by decide)
  · obtain ⟨B, D, V, J, rb, rw, ex, cc⟩ := CS_cp vc
    subst ex
    refine k_play (d := d + 33) cc.1 cc.2.1 hc ht (fun z => hQ (.inr 2) _ h ⟨fun _ => ⟨rfl, rfl⟩, fun p hp ep => absurd ep (z p hp), fun p hp ep => absurd ep (z p hp)⟩ vc (fun _ _ => rfl)) (fun p hp ep z => ?_) (fun p hp ep z h2 B' o2 v2 => ?_)
    · refine hQ (.inr 0) _ h ⟨fun u => absurd ep (u p hp), fun _ _ _ _ => ⟨rfl, rfl⟩, fun p2 hp2 ep2 u => ?_⟩ vc (fun _ _ => rfl)
      rw [un hp ep hp2 ep2] at u
      exact absurd u z
    · refine hQ (.inl _) _ h2 ⟨fun u => absurd ep (u p hp), fun p2 hp2 ep2 u => ?_, fun p2 hp2 ep2 u => ?_⟩ (CP_ch cc v2) o2
      · rw [un hp ep hp2 ep2] at u
        exact absurd z u
      · rw [un hp ep hp2 ep2]
        exact ⟨rfl, rfl⟩
  · obtain ⟨K, L, bf, vm, rb⟩ := vm
    refine k_mplay (d := d + 33) vm hc ht (fun z => ?_) (fun p hp ep z => ?_) (fun p hp ep z => ?_)
    · obtain ⟨rfl, rfl⟩ := hs.1 z
      exact mo_end rb hQ
    · obtain ⟨rfl, rfl⟩ := hs.2.1 p hp ep z
      exact mo_end rb hQ
    · obtain ⟨rfl, rfl⟩ := hs.2.2 p hp ep z
      exact mo_end rb hQ
  · by_cases z : ∃ p, p < R * S ∧ y = nI p
    · obtain ⟨p, hp, ep⟩ := z
      by_cases u : rf R S b w P I p c = 0
      · cases (hs.2.2 p hp ep u).1
      · cases (hs.2.1 p hp ep u).1
        simp
    · cases (hs.1 (fun p hp ep => z ⟨p, hp, ep⟩)).1
      simp
theorem col_of {z : Int32} (e : 0 ≤ z ∧ z ≤ 2) : ∃ c, c < 3 ∧ z = nI c := by
  obtain ⟨c, hc, ec⟩ := nI_of (x := z) (fun f => absurd e.1 (Int32.not_le.mpr f))
  subst ec
  refine ⟨c, ?_, rfl⟩
  rcases Nat.lt_or_ge c 3 with g | g
  · exact g
  · exact absurd e.2 (nI_ge (b := c) (a := 2) (by omega) hc)
theorem col_in {z : Int32} {c : Nat} (hc : c < 3) (e : z = nI c) : 0 ≤ z ∧ z ≤ 2 := by
  subst e
  have : c = 0 ∨ c = 1 ∨ c = 2 := by omega
  rcases this with u | u | u <;> subst u <;> decide
theorem pr_sstone (ok : OK O m sc o o2 E) (v : RX O x m sc o o2 N E s h ((R, S, b, w, P, I), H, T, n, e, l, tf, wf)) : PR (d + 41) 238 186 x m o sc [.int y, .int z] h (fun h2 => ∃ a', RX O x m sc o o2 N E s h2 a') := by
  have hx := CS_X v.1
  have vc := v.1
  have hg := RX_g v
  have h60 := g_n hg.1
  have un : ∀ {p p2 : Nat}, p < R * S → y = nI p → p2 < R * S → y = nI p2 → p2 = p := fun hp ep hp2 ep2 => nI_ij (by omega) (by omega) (ep2.symm.trans ep)
  have uc : ∀ {c c2 : Nat}, c < 3 → z = nI c → c2 < 3 → z = nI c2 → c2 = c := fun hp ep hp2 ep2 => nI_ij (by omega) (by omega) (ep2.symm.trans ep)
  refine PR_gen (d := d + 40) (codes := [2, 1, 0]) ok v (fun r a' => ((∀ p, p < R * S → y ≠ nI p) → r = .inr 2 ∧ a' = ((R, S, b, w, P, I), H, T, n, e, l, tf, wf)) ∧ (∀ p, p < R * S → y = nI p → ¬ (0 ≤ z ∧ z ≤ 2) → r = .inr 1 ∧ a' = ((R, S, b, w, P, I), H, T, n, e, l, tf, wf)) ∧ (∀ p c, p < R * S → y = nI p → c < 3 → z = nI c → hs R S (laB b p c 1) (laB w p c 2) → r = .inr 0 ∧ a' = ((R, S, b, w, P, I), H, T, n, e, l, tf, wf)) ∧ (∀ p c, p < R * S → y = nI p → c < 3 → z = nI c → ¬ hs R S (laB b p c 1) (laB w p c 2) → r = .inl (nI (co b w p)) ∧ a' = ((R, S, laB b p c 1, laB w p c 2, [(laB b p c 1, laB w p c 2)], fI (fI I 7 (-1)) 4 0), ((R, S, b, w, P, I) :: H).take 8, T, n, e, l, tf, wf))) (fun Q hc => k_w238 (d := d + 40) hx hc) (fun Q hQ => ?_) (fun r a' hs h1 vm Q hQ => ?_) (fun e2 a' hs => ?_) (by decide)
  · obtain ⟨B, D, V, J, rb, rw, ex, cc⟩ := CS_cp vc
    subst ex
    refine k_sstone (d := d + 35) cc.1 cc.2.1 (fun q => hQ (.inr 2) _ h ⟨fun _ => ⟨rfl, rfl⟩, fun p hp ep => absurd ep (q p hp), fun p c hp ep => absurd ep (q p hp), fun p c hp ep => absurd ep (q p hp)⟩ vc (fun _ _ => rfl)) (fun p hp ep q => hQ (.inr 1) _ h ⟨fun u => absurd ep (u p hp), fun _ _ _ _ => ⟨rfl, rfl⟩, fun p2 c hp2 ep2 hc ec => absurd (col_in hc ec) q, fun p2 c hp2 ep2 hc ec => absurd (col_in hc ec) q⟩ vc (fun _ _ => rfl)) (fun p c hp ep hc ec q => ?_) (fun p c hp ep hc ec q h2 B' o2 v2 => ?_)
    · refine hQ (.inr 0) _ h ⟨fun u => absurd ep (u p hp), fun _ _ _ u => absurd (col_in hc ec) u, fun _ _ _ _ _ _ _ => ⟨rfl, rfl⟩, fun p2 c2 hp2 ep2 hc2 ec2 u => ?_⟩ vc (fun _ _ => rfl)
      rw [un hp ep hp2 ep2, uc hc ec hc2 ec2] at u
      exact absurd q u
    · refine hQ (.inl _) _ h2 ⟨fun u => absurd ep (u p hp), fun _ _ _ u => absurd (col_in hc ec) u, fun p2 c2 hp2 ep2 hc2 ec2 u => ?_, fun p2 c2 hp2 ep2 hc2 ec2 u => ?_⟩ (CP_ch cc v2) o2
      · rw [un hp ep hp2 ep2, uc hc ec hc2 ec2] at u
        exact absurd u q
      · rw [un hp ep hp2 ep2, uc hc ec hc2 ec2]
        exact ⟨rfl, rfl⟩
  · obtain ⟨K, L, bf, vm, rb⟩ := vm
    refine k_msstone (d := d + 35) vm (fun q => ?_) (fun p hp ep q => ?_) (fun p c hp ep hc ec q => ?_) (fun p c hp ep hc ec q => ?_)
    · obtain ⟨rfl, rfl⟩ := hs.1 q
      exact mo_end rb hQ
    · obtain ⟨rfl, rfl⟩ := hs.2.1 p hp ep q
      exact mo_end rb hQ
    · obtain ⟨rfl, rfl⟩ := hs.2.2.1 p c hp ep hc ec q
      exact mo_end rb hQ
    · obtain ⟨rfl, rfl⟩ := hs.2.2.2 p c hp ep hc ec q
      exact mo_end rb hQ
  · by_cases q : ∃ p, p < R * S ∧ y = nI p
    · obtain ⟨p, hp, ep⟩ := q
      by_cases u : 0 ≤ z ∧ z ≤ 2
      · obtain ⟨c, hc, ec⟩ := col_of u
        rcases Classical.em (_root_.Jvm.Pilot.CRingStonesLaw_law_r6583_93a0b0.hs R S (laB b p c 1) (laB w p c 2)) with u2 | u2
        · cases (hs.2.2.1 p c hp ep hc ec u2).1
          simp
        · cases (hs.2.2.2 p c hp ep hc ec u2).1
      · cases (hs.2.1 p hp ep u).1
        simp
    · cases (hs.1 (fun p hp ep => q ⟨p, hp, ep⟩)).1
      simp
theorem ld_un {J : Nat → Int32} {e1 e2 p1 p2 : Int32} (a : ldE tf J n e1 p1) (c : ldE tf J n e2 p2) : e1 = e2 ∧ p1 = p2 := by
  unfold ldE at a c
  rcases a with ⟨a1, a2, a3⟩ | ⟨a1, a2, a3, a4⟩ <;> rcases c with ⟨c1, c2, c3⟩ | ⟨c1, c2, c3, c4⟩
  · exact ⟨a2.trans c2.symm, a3.trans c3.symm⟩
  · rw [a1] at c1; cases c1
  · rw [a1] at c1; cases c1
  · exact ⟨a3.trans c3.symm, a4.trans c4.symm⟩
theorem ld_no {J : Nat → Int32} {e1 p1 : Int32} {R2 S2 : Nat} (a : ldE tf J n e1 p1) (t : (fAll tf n (t0 J n)).1 = true) (hg : vG R2 S2) (h4 : (fAll tf n (t0 J n)).2.2.1 4 = nI R2) (h5 : (fAll tf n (t0 J n)).2.2.1 5 = nI S2) (q : ¬ hs R2 S2 (fAll tf n (t0 J n)).2.2.2.1 (fAll tf n (t0 J n)).2.2.2.2) : False := by
  unfold ldE at a
  rcases a with ⟨a1, -⟩ | ⟨-, ⟨R3, S3, hg3, i4, i5, u⟩, -⟩
  · rw [a1] at t; cases t
  · have l2 := g_lt hg
    have l3 := g_lt hg3
    have e1 : R3 = R2 := nI_ij (by omega) (by omega) (i4.symm.trans h4)
    have e2 : S3 = S2 := nI_ij (by omega) (by omega) (i5.symm.trans h5)
    rw [e1, e2] at u
    exact q u
theorem all_RS {f : Nat → Int32} {s : rst} (z : (fAll f n s).1 = true) : ∃ R S, vG R S ∧ (fAll f n s).2.2.1 4 = nI R ∧ (fAll f n s).2.2.1 5 = nI S := by
  unfold fAll at z ⊢
  have p1 := size_RS (f := f) (n := n) (s := s)
  generalize fSize f n s = r1 at *
  rcases tf_c r1.1 with y | y
  rotate_left
  · rw [andT_f y, andT_f y, andT_f y, y] at z; cases z
  obtain ⟨R, S, hg, h4, h5⟩ := p1 y
  rw [andT_t y] at z ⊢
  have p2 := pr_opts (f := f) (n := n) n r1.2
  generalize fOpts f n n r1.2 = r2 at *
  rcases tf_c r2.1 with y2 | y2
  rotate_left
  · rw [andT_f y2, andT_f y2, y2] at z; cases z
  rw [andT_t y2] at z ⊢
  have p3 := pr_rows (f := f) (n := n) (S := (r2.2.2.1 5).toNatClampNeg) (r2.2.2.1 4).toNatClampNeg 0 r2.2
  generalize fRows f n (r2.2.2.1 5).toNatClampNeg (r2.2.2.1 4).toNatClampNeg 0 r2.2 = r3 at *
  rcases tf_c r3.1 with y3 | y3
  rotate_left
  · rw [andT_f y3, y3] at z; cases z
  rw [andT_t y3] at z ⊢
  have p4 := pr_end (f := f) (n := n) (s := r3.2)
  exact ⟨R, S, hg, ((p4.1.trans p3.1).trans p2.1).trans h4, ((p4.2.trans p3.2).trans p2.2).trans h5⟩
theorem CS_chV {B' : Nat → Nat → Nat} {D : Nat → Nat} {V : Nat → Option gm} {J : Nat → Int32} {rb rw : Int64} (hl : H.length ≤ 8) (hH : ∀ k, k < H.length → V (k + 1) = H[k]?) (hT : ∀ j, j < 2 → V (9 + j) = T j) (v : vC h' O B' D (chV V G G') (min (H.length + 1) 8) l J rb rw tf wf) (j6 : J 6 = nI n) (j7 : J 7 = e) (n3 : n ≤ 300) : CS h' O (D 0) (G', (G :: H).take 8, T, n, e, l, tf, wf) := by
  refine ⟨B', D, _, _, J, rb, rw, v, rfl, chV_0, ?_, chV_k hl hH, fun j hj => chV_s.trans (hT j hj), j6, j7, n3⟩
  show _ = ((G :: H).take 8).length
  rw [List.length_take, List.length_cons]
  omega
theorem pr_load (ok : OK O m sc o o2 E) (v : RX O x m sc o o2 N E s h ((R, S, b, w, P, I), H, T, n, e, l, tf, wf)) : PR (d + 41) 223 146 x m o sc [.int y] h (fun h2 => ∃ a', RX O x m sc o o2 N E s h2 a') := by
  have hx := CS_X v.1
  have vc := v.1
  obtain ⟨B, D, V, J, rb, rw, ex, cc⟩ := CS_cp vc
  have n3 := cc.2.2.2.2.2.2
  have un : ∀ {p p2 : Nat}, p ≤ n → y = nI p → p2 ≤ n → y = nI p2 → p2 = p := fun hp ep hp2 ep2 => nI_ij (by omega) (by omega) (ep2.symm.trans ep)
  refine PR_gen (d := d + 40) (codes := [1]) ok v (fun r a' => ((∀ k, k ≤ n → y ≠ nI k) → r = .inr 1 ∧ a' = ((R, S, b, w, P, I), H, T, n, e, l, tf, wf)) ∧ (∀ k, k ≤ n → y = nI k → ∀ e2 pos, ldE tf J k e2 pos → r = .inl e2 ∧ a' = ((R, S, b, w, P, I), H, T, 0, pos, l, tf, wf)) ∧ (∀ k, k ≤ n → y = nI k → (fAll tf k (t0 J k)).1 = true → ∀ R2 S2, vG R2 S2 → (fAll tf k (t0 J k)).2.2.1 4 = nI R2 → (fAll tf k (t0 J k)).2.2.1 5 = nI S2 → ¬ hs R2 S2 (fAll tf k (t0 J k)).2.2.2.1 (fAll tf k (t0 J k)).2.2.2.2 → r = .inl (nI (ct ((fAll tf k (t0 J k)).2.2.2.1 ||| (fAll tf k (t0 J k)).2.2.2.2))) ∧ a' = ((R2, S2, (fAll tf k (t0 J k)).2.2.2.1, (fAll tf k (t0 J k)).2.2.2.2, [((fAll tf k (t0 J k)).2.2.2.1, (fAll tf k (t0 J k)).2.2.2.2)], fI (fI (fI (bgI I) 2 ((fAll tf k (t0 J k)).2.2.1 10)) 8 ((fAll tf k (t0 J k)).2.2.1 8)) 9 ((fAll tf k (t0 J k)).2.2.1 9)), ((R, S, b, w, P, I) :: H).take 8, T, 0, -1, l, tf, wf))) (fun Q hc => k_w223 (d := d + 40) hx hc) (fun Q hQ => ?_) (fun r a' hs h1 vm Q hQ => ?_) (fun e2 a' hs => ?_) (by decide)
  · subst ex
    obtain ⟨c1, c2, c3, c4, c5, c6, c7⟩ := cc
    refine k_load (d := d + 31) c1 c2 c5 n3 (fun q => hQ (.inr 1) _ h ⟨fun _ => ⟨rfl, rfl⟩, fun k hk ek => absurd ek (q k hk), fun k hk ek => absurd ek (q k hk)⟩ vc (fun _ _ => rfl)) (fun k hk ek e2 pos ld h2 D' J' rb' rw' eD o2 j6 j7 v2 => ?_) (fun k hk ek t R2 S2 hg h4 h5 q h2 B' D' J' rb' rw' eD o2 j6 j7 v2 => ?_)
    · refine hQ (.inl e2) ((R, S, b, w, P, I), H, T, 0, pos, l, tf, wf) h2 ⟨fun u => absurd ek (u k hk), fun k2 hk2 ek2 e3 pos3 ld3 => ?_, fun k2 hk2 ek2 t2 R3 S3 hg3 i4 i5 q3 => ?_⟩ ?_ o2
      · rw [un hk ek hk2 ek2] at ld3
        obtain ⟨rfl, rfl⟩ := ld_un ld ld3
        exact ⟨rfl, rfl⟩
      · rw [un hk ek hk2 ek2] at t2 i4 i5 q3
        exact (ld_no ld t2 hg3 i4 i5 q3).elim
      · rw [← eD]
        exact cp_CS ⟨v2, c2, c3, c4, j6, j7, by omega⟩
    · refine hQ (.inl _) ((R2, S2, (fAll tf k (t0 J k)).2.2.2.1, (fAll tf k (t0 J k)).2.2.2.2, [((fAll tf k (t0 J k)).2.2.2.1, (fAll tf k (t0 J k)).2.2.2.2)], fI (fI (fI (bgI I) 2 ((fAll tf k (t0 J k)).2.2.1 10)) 8 ((fAll tf k (t0 J k)).2.2.1 8)) 9 ((fAll tf k (t0 J k)).2.2.1 9)), ((R, S, b, w, P, I) :: H).take 8, T, 0, -1, l, tf, wf) h2 ⟨fun u => absurd ek (u k hk), fun k2 hk2 ek2 e3 pos3 ld3 => ?_, fun k2 hk2 ek2 t2 R3 S3 hg3 i4 i5 q3 => ?_⟩ ?_ o2
      · rw [un hk ek hk2 ek2] at ld3
        exact (ld_no ld3 t hg h4 h5 q).elim
      · rw [un hk ek hk2 ek2] at i4 i5 ⊢
        have l2 := g_lt hg
        have l3 := g_lt hg3
        have e1 : R3 = R2 := nI_ij (by omega) (by omega) (i4.symm.trans h4)
        have e2 : S3 = S2 := nI_ij (by omega) (by omega) (i5.symm.trans h5)
        rw [e1, e2]
        exact ⟨rfl, rfl⟩
      · rw [← eD]
        exact CS_chV c1.2.2.2.2.2.2.2.2.2.2.2.2.1 c3 c4 v2 j6 j7 (by omega)
  · obtain ⟨K, L, bf, vm, rb⟩ := vm
    refine k_mload (d := d + 34) (J := J) vm n3 rb (fun q => ?_) (fun k hk ek e2 pos ld => ?_) (fun k hk ek t R2 S2 hg h4 h5 q => ?_)
    · obtain ⟨rfl, rfl⟩ := hs.1 q
      exact mo_end rb hQ
    · obtain ⟨rfl, rfl⟩ := hs.2.1 k hk ek e2 pos ld
      exact mo_end (fun i hi => by omega) hQ
    · obtain ⟨rfl, rfl⟩ := hs.2.2 k hk ek t R2 S2 hg h4 h5 q
      exact mo_end (fun i hi => by omega) hQ
  · by_cases q : ∃ k, k ≤ n ∧ y = nI k
    · obtain ⟨k, hk, ek⟩ := q
      rcases tf_c (fAll tf k (t0 J k)).1 with z | z
      · obtain ⟨R2, S2, hg, h4, h5⟩ := all_RS z
        rcases Classical.em (_root_.Jvm.Pilot.CRingStonesLaw_law_r6583_93a0b0.hs R2 S2 (fAll tf k (t0 J k)).2.2.2.1 (fAll tf k (t0 J k)).2.2.2.2) with u | u
        · cases (hs.2.1 k hk ek _ _ (Or.inr ⟨z, ⟨R2, S2, hg, h4, h5, u⟩, rfl, rfl⟩)).1
        · cases (hs.2.2 k hk ek z R2 S2 hg h4 h5 u).1
      · cases (hs.2.1 k hk ek _ _ (Or.inl ⟨z, rfl, rfl⟩)).1
    · cases (hs.1 (fun k hk ek => q ⟨k, hk, ek⟩)).1
      simp
end BOTH
