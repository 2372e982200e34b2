/-! BOTH: the questions (printed by wip/gen/quest.py) -/
section BOTH
variable {d : Nat} {h h1 h' : zr_H} {Q : zr_K} {O : Nat → Prop} {x m sc o o2 N W C M : Nat} {E : Nat → Nat} {s : Nat → Int32} {a a' : ast} {as : List Value} {codes : List Nat} {R S : Nat} {b w : Int64} {P : List (Int64 × Int64)} {I : Nat → Int32} {y z t : Int32} {tl : List gm × (Nat → Option gm) × Nat × Int32 × Nat × (Nat → Int32) × (Nat → Int32)}
theorem PRb_gen (ok : OK O m sc o o2 E) (v : RX O x m sc o o2 N E s h a) (sp : (Int32 ⊕ Nat) → ast → Prop)
    (wr : ∀ Q, zr_E d C (.ref x :: as) h (wB o codes Q) → zr_E (d + 1) W (.ref x :: (as ++ [.ref o])) h Q)
    (cl : ∀ Q : zr_K, (∀ r a' h1, sp r a' → CS h1 O x a' → (∀ q, O q → h1 q = h q) → Q (oc r) h1) → zr_E d C (.ref x :: as) h Q)
    (mo : ∀ r a', sp r a' → ∀ h1, MS h1 m E a → ∀ Q : zr_K, (∀ y h2 K L, mR codes r (K 6) y → h2 m = some (zym E K L) → MS h2 m E a' → fx (MX m E) h1 h2 → Q (.inl (some (.int y))) h2) → zr_E (d + 1) M (.ref m :: as) h1 Q)
    (co : ∀ e a', sp (.inr e) a' → e ∈ codes) (cl3 : codes.length ≤ 3) (hb : ∀ v a', sp (.inl v) a' → v = 0 ∨ v = 1) : PRb (d + 1) W M x m o sc as h (fun h2 => ∃ a', RX O x m sc o o2 N E s h2 a') := by
  obtain ⟨hO, oS, o1, o2', oB, nS, n1, n2, d1, d2, d3⟩ := ok
  obtain ⟨vc, vm, ⟨F, hs, hF⟩, ⟨Fo, ho⟩, ⟨F2, ho2⟩⟩ := v
  refine ⟨CS_X vc, wr _ (cl _ (fun r a' h1 hsp vc1 e1 => ?_))⟩
  have vm1 : MS h1 m E a := MS_to vm (fun q hq => e1 q (hO q hq))
  have hs1 : h1 sc = h sc := e1 sc oS
  have ho1 : h1 o = some (.inr (1, 1, Fo)) := (e1 o o1).trans ho
  have ho21 : h1 o2 = some (.inr (4, 1, F2)) := (e1 o2 o2').trans ho2
  -- behind the model
  have fin : ∀ hh, CS hh O x a' → MS hh m E a → hh sc = h sc → (∃ F, hh o = some (.inr (1, 1, F))) → (∃ F, hh o2 = some (.inr (4, 1, F))) → ∀ k : Int32, (∀ y t, mR codes r t y → t = k ∧ (k = 0 → zr_elt (hh o) 0 = .long y.toInt64 ∧ (y = 0 ∨ y = 1))) → zr_E (d + 1) M (.ref m :: as) hh (fun r2 h2 => ∃ b : Int32, r2 = .inl (some (.int b)) ∧ zr_isO (h2 m) 7 = true ∧ zr_fld (h2 m) 6 = .int k ∧ zr_isA (h2 o) 1 = true ∧ vp_in 0 (zr_len (h2 o)) ∧ (k = 0 → zr_elt (h2 o) 0 = .long b.toInt64 ∧ (b = 0 ∨ b = 1)) ∧ ∃ a', RX O x m sc o o2 N E s h2 a') := by
    intro hh vc2 vm2 es ⟨Fa, ea⟩ ⟨Fb, eb⟩ k hk
    refine mo r a' hsp hh vm2 _ (fun y h2 K L hr em vm3 f3 => ?_)
    obtain ⟨k1, k2⟩ := hk y (K 6) hr
    have eo : h2 o = hh o := f3 o n1
    refine ⟨y, rfl, by rw [em]; exact zy_I, by rw [em]; show Value.int (K 6) = _; rw [k1], by rw [eo, ea]; rfl, by rw [eo, ea]; show vp_in (nI 0) 1; exact vp_in_nI (by omega) (by omega), fun z => by rw [eo]; exact k2 z, a', ?_, vm3, ⟨F, ?_, hF⟩, ⟨Fa, eo.trans ea⟩, ⟨Fb, (f3 o2 n2).trans eb⟩⟩
    · refine CS_out vc2 (fun q nq => f3 q (fun z => nq (hO q z))) (fun q hq => ?_)
      rcases oB q hq with z | z | z | z
      · exact MS_n vm3 z
      · rw [z, f3 sc nS, es, hs]; simp
      · rw [z, eo, ea]; simp
      · rw [z, f3 o2 n2, eb]; simp
    · rw [f3 sc nS, es]; exact hs
  cases r with
  | inl v =>
    refine ⟨hb v a' hsp, by rw [ho1]; rfl, by rw [ho1]; show vp_in (nI 0) 1; exact vp_in_nI (by omega) (by omega), 0, rfl, ?_⟩
    have e2 : ∀ q, q ≠ o → zr_putA h1 o 0 (.long v.toInt64) q = h1 q := fun q hq => putA_ot hq rfl
    have eo : zr_putA h1 o 0 (.long v.toInt64) o = some (.inr (1, 1, zr_fup Fo 0 (.long v.toInt64))) := by rw [zr_putA_mk ho1, zr_up_self]
    have vm2 : MS (zr_putA h1 o 0 (.long v.toInt64)) m E a := MS_to vm1 (fun q hq => e2 q (fun z => n1 (z ▸ hq)))
    refine ⟨MS_I vm2, (e2 sc d1).trans hs1, fin _ (CS_out vc1 (fun q nq => e2 q (fun z => nq (z ▸ o1))) (fun q hq => ?_)) vm2 ((e2 sc d1).trans hs1) ⟨_, eo⟩ ⟨F2, (e2 o2 (Ne.symm d3)).trans ho21⟩ 0 (fun y t hr => ?_)⟩
    · by_cases z : q = o
      · rw [z, eo]; simp
      · rw [e2 q z]; exact CS_n vc1 hq
    · obtain ⟨r1, r2⟩ := hr
      refine ⟨r1, fun _ => ⟨?_, by rw [r2]; exact hb v a' hsp⟩⟩
      rw [eo, r2]
      rfl
  | inr e =>
    refine ⟨co e a' hsp, nI (cix codes e), rfl, MS_I vm1, hs1, fin h1 vc1 vm1 hs1 ⟨Fo, ho1⟩ ⟨F2, ho21⟩ _ (fun y t hr => ⟨hr, fun z => ?_⟩)⟩
    obtain ⟨p1, p2⟩ := cix_pos (co e a' hsp)
    rw [nI_eq0 (by omega)] at z
    omega

theorem CS_v (v : CS h O x ((R, S, b, w, P, I), tl)) : ∃ (A : Nat → Nat) (ea sl rd wr : Nat) (u l : Int32) (g : Nat), h x = some (zxs (A 0) ea sl rd wr u l) ∧ vM h A R S b w P I g := by
  obtain ⟨B, D, V, u, J, rb, rw, v, e, h0, -⟩ := v
  obtain ⟨g, w0, -⟩ := vC_v0 v h0
  have hX := v.1
  rw [e] at hX
  exact ⟨B 0, _, _, _, _, _, _, g, hX, w0⟩
theorem MS_q (v : MS h1 m E ((R, S, b, w, P, I), tl)) (sp : (Int32 ⊕ Nat) → Prop) (un : ∀ r r2, sp r → sp r2 → r = r2) {r : Int32 ⊕ Nat} (hr : sp r)
    (mo : ∀ (K : Nat → Int32) (L : Nat → Int64) (f : Nat → Int64), mq h1 m E K L f R S b w P I → ∀ Q : zr_K, (∀ r, sp r → mQ h1 m E K Q codes r) → zr_E (d + 1) M (.ref m :: as) h1 Q)
    (hQ : ∀ y h2 K L, mR codes r (K 6) y → h2 m = some (zym E K L) → MS h2 m E ((R, S, b, w, P, I), tl) → fx (MX m E) h1 h2 → Q (.inl (some (.int y))) h2) : zr_E (d + 1) M (.ref m :: as) h1 Q := by
  obtain ⟨K, L, bf, v, rb⟩ := v
  obtain ⟨f, vq⟩ := mM_q v
  refine mo K L f vq Q (fun r2 h2 => mQ_of v (fun y h2 K' L' hm vm f2 => ?_))
  have e := un r r2 hr (by assumption)
  refine hQ y h2 K' L' (by rw [e]; exact hm) ?_ ⟨K', L', bf, vm, rb⟩ f2
  obtain ⟨f, ff, fk, fs, v, -⟩ := vm
  exact v.1
theorem PR_q (ok : OK O m sc o o2 E) (v : RX O x m sc o o2 N E s h ((R, S, b, w, P, I), tl)) (rx : Int32 ⊕ Nat)
    (wr : ∀ Q, zr_E d C (.ref x :: as) h (wK o codes Q) → zr_E (d + 1) W (.ref x :: (as ++ [.ref o])) h Q)
    (cl : ∀ (A : Nat → Nat) (ea sl rd wr : Nat) (u l : Int32) (g : Nat), h x = some (zxs (A 0) ea sl rd wr u l) → vM h A R S b w P I g → ∀ Q : zr_K, Q (oc rx) h → zr_E d C (.ref x :: as) h Q)
    (mo : ∀ h1 (K : Nat → Int32) (L : Nat → Int64) (f : Nat → Int64), mq h1 m E K L f R S b w P I → ∀ Q : zr_K, mQ h1 m E K Q codes rx → zr_E (d + 1) M (.ref m :: as) h1 Q)
    (co : ∀ e, rx = .inr e → e ∈ codes) (cl3 : codes.length ≤ 3) : PR (d + 1) W M x m o sc as h (fun h2 => ∃ a', RX O x m sc o o2 N E s h2 a') := by
  have vc := v.1
  refine PR_gen (a := ((R, S, b, w, P, I), tl)) ok v (fun r a' => r = rx ∧ a' = ((R, S, b, w, P, I), tl)) wr (fun Q hQ => ?_) (fun r a' hs h1 vm Q hQ => ?_) (fun e a' hs => co e hs.1.symm) cl3
  · obtain ⟨A, ea, sl, rd, wr', u, l, g, hX, vm⟩ := CS_v vc
    exact cl A ea sl rd wr' u l g hX vm Q (hQ rx _ h ⟨rfl, rfl⟩ vc (fun _ _ => rfl))
  · obtain ⟨rfl, rfl⟩ := hs
    exact MS_q vm (fun r2 => r2 = r) (fun r1 r2 e1 e2 => e1.trans e2.symm) rfl (fun K L f vq Q hq => mo h1 K L f vq Q (hq r rfl)) hQ
theorem PRb_q (ok : OK O m sc o o2 E) (v : RX O x m sc o o2 N E s h ((R, S, b, w, P, I), tl)) (sp : (Int32 ⊕ Nat) → Prop) (un : ∀ r r2, sp r → sp r2 → r = r2)
    (wr : ∀ Q, zr_E d C (.ref x :: as) h (wB o codes Q) → zr_E (d + 1) W (.ref x :: (as ++ [.ref o])) h Q)
    (cl : ∀ (A : Nat → Nat) (ea sl rd wr : Nat) (u l : Int32) (g : Nat), h x = some (zxs (A 0) ea sl rd wr u l) → vM h A R S b w P I g → ∀ Q : zr_K, (∀ r, sp r → Q (oc r) h) → zr_E d C (.ref x :: as) h Q)
    (mo : ∀ h1 (K : Nat → Int32) (L : Nat → Int64) (f : Nat → Int64), mq h1 m E K L f R S b w P I → ∀ Q : zr_K, (∀ r, sp r → mQ h1 m E K Q codes r) → zr_E (d + 1) M (.ref m :: as) h1 Q)
    (co : ∀ e, sp (.inr e) → e ∈ codes) (hb : ∀ v, sp (.inl v) → v = 0 ∨ v = 1) (cl3 : codes.length ≤ 3) : PRb (d + 1) W M x m o sc as h (fun h2 => ∃ a', RX O x m sc o o2 N E s h2 a') := by
  have vc := v.1
  refine PRb_gen (a := ((R, S, b, w, P, I), tl)) ok v (fun r a' => sp r ∧ a' = ((R, S, b, w, P, I), tl)) wr (fun Q hQ => ?_) (fun r a' hs h1 vm Q hQ => ?_) (fun e a' hs => co e hs.1) cl3 (fun v a' hs => hb v hs.1)
  · obtain ⟨A, ea, sl, rd, wr', u, l, g, hX, vm⟩ := CS_v vc
    exact cl A ea sl rd wr' u l g hX vm Q (fun r hr => hQ r _ h ⟨hr, rfl⟩ vc (fun _ _ => rfl))
  · obtain ⟨hr, rfl⟩ := hs
    exact MS_q vm sp un hr (fun K L f vq Q hq => mo h1 K L f vq Q hq) hQ
theorem pr_count (ok : OK O m sc o o2 E) (v : RX O x m sc o o2 N E s h ((R, S, b, w, P, I), tl)) : PR (d + 41) 224 166 x m o sc [.int y] h (fun h2 => ∃ a', RX O x m sc o o2 N E s h2 a') := by
  have hx := CS_X v.1
  refine PR_q (d := d + 40) ok v (rxCount R S b w I y) (fun Q hc => k_w224 (d := d + 40) hx hc) (fun A ea sl rd wr u l g hX vm Q hQ => k_count (d := d + 38) hX vm hQ) (fun h1 K L f vq Q hq => k_mcount (d := d + 38) vq hq) (fun e he => ?_) (by decide)
  unfold rxCount at he
  (repeat' split at he) <;> first | (cases he; simp; done) | cases he
theorem pr_place (ok : OK O m sc o o2 E) (v : RX O x m sc o o2 N E s h ((R, S, b, w, P, I), tl)) : PR (d + 41) 225 167 x m o sc [.int y, .int z] h (fun h2 => ∃ a', RX O x m sc o o2 N E s h2 a') := by
  have hx := CS_X v.1
  refine PR_q (d := d + 40) ok v (rxPlace R S y z) (fun Q hc => k_w225 (d := d + 40) hx hc) (fun A ea sl rd wr u l g hX vm Q hQ => k_place (d := d + 38) hX vm hQ) (fun h1 K L f vq Q hq => k_mplace (d := d + 39) vq hq) (fun e he => ?_) (by decide)
  unfold rxPlace at he
  (repeat' split at he) <;> first | (cases he; simp; done) | cases he
theorem pr_neigh (ok : OK O m sc o o2 E) (v : RX O x m sc o o2 N E s h ((R, S, b, w, P, I), tl)) : PR (d + 41) 226 168 x m o sc [.int y, .int z] h (fun h2 => ∃ a', RX O x m sc o o2 N E s h2 a') := by
  have hx := CS_X v.1
  refine PR_q (d := d + 40) ok v (rxNeigh R S y z) (fun Q hc => k_w226 (d := d + 40) hx hc) (fun A ea sl rd wr u l g hX vm Q hQ => k_neigh (d := d + 38) hX vm hQ) (fun h1 K L f vq Q hq => k_mneigh (d := d + 38) vq hq) (fun e he => ?_) (by decide)
  unfold rxNeigh at he
  (repeat' split at he) <;> first | (cases he; simp; done) | cases he
theorem pr_stone (ok : OK O m sc o o2 E) (v : RX O x m sc o o2 N E s h ((R, S, b, w, P, I), tl)) : PR (d + 41) 227 169 x m o sc [.int y] h (fun h2 => ∃ a', RX O x m sc o o2 N E s h2 a') := by
  have hx := CS_X v.1
  refine PR_q (d := d + 40) ok v (rxStone R S b w y) (fun Q hc => k_w227 (d := d + 40) hx hc) (fun A ea sl rd wr u l g hX vm Q hQ => k_stone (d := d + 38) hX vm hQ) (fun h1 K L f vq Q hq => k_mstone (d := d + 38) vq hq) (fun e he => ?_) (by decide)
  unfold rxStone at he
  (repeat' split at he) <;> first | (cases he; simp; done) | cases he
theorem pr_chain (ok : OK O m sc o o2 E) (v : RX O x m sc o o2 N E s h ((R, S, b, w, P, I), tl)) : PR (d + 41) 228 170 x m o sc [.int y, .int z] h (fun h2 => ∃ a', RX O x m sc o o2 N E s h2 a') := by
  have hx := CS_X v.1
  refine PR_q (d := d + 40) ok v (rxChain R S b w y z) (fun Q hc => k_w228 (d := d + 40) hx hc) (fun A ea sl rd wr u l g hX vm Q hQ => k_chain (d := d + 34) hX vm hQ) (fun h1 K L f vq Q hq => k_mchain (d := d + 35) vq hq) (fun e he => ?_) (by decide)
  unfold rxChain at he
  (repeat' split at he) <;> first | (cases he; simp; done) | cases he
theorem pr_freed (ok : OK O m sc o o2 E) (v : RX O x m sc o o2 N E s h ((R, S, b, w, P, I), tl)) : PR (d + 41) 229 171 x m o sc [.int y, .int z] h (fun h2 => ∃ a', RX O x m sc o o2 N E s h2 a') := by
  have hx := CS_X v.1
  refine PR_q (d := d + 40) ok v (rxFreedom R S b w y z) (fun Q hc => k_w229 (d := d + 40) hx hc) (fun A ea sl rd wr u l g hX vm Q hQ => k_freed (d := d + 36) hX vm hQ) (fun h1 K L f vq Q hq => k_mfreed (d := d + 35) vq hq) (fun e he => ?_) (by decide)
  unfold rxFreedom at he
  (repeat' split at he) <;> first | (cases he; simp; done) | cases he
theorem pr_chains (ok : OK O m sc o o2 E) (v : RX O x m sc o o2 N E s h ((R, S, b, w, P, I), tl)) : PR (d + 41) 230 172 x m o sc [.int y, .int z] h (fun h2 => ∃ a', RX O x m sc o o2 N E s h2 a') := by
  have hx := CS_X v.1
  refine PR_q (d := d + 40) ok v (rxChains R S b w y z) (fun Q hc => k_w230 (d := d + 40) hx hc) (fun A ea sl rd wr u l g hX vm Q hQ => k_chains (d := d + 35) hX vm hQ) (fun h1 K L f vq Q hq => k_mchains (d := d + 35) vq hq) (fun e he => ?_) (by decide)
  unfold rxChains at he
  (repeat' split at he) <;> first | (cases he; simp; done) | cases he
theorem pr_weak (ok : OK O m sc o o2 E) (v : RX O x m sc o o2 N E s h ((R, S, b, w, P, I), tl)) : PR (d + 41) 231 174 x m o sc [.int y] h (fun h2 => ∃ a', RX O x m sc o o2 N E s h2 a') := by
  have hx := CS_X v.1
  refine PR_q (d := d + 40) ok v (rxWeak R S b w y) (fun Q hc => k_w231 (d := d + 40) hx hc) (fun A ea sl rd wr u l g hX vm Q hQ => k_weak (d := d + 35) hX vm hQ) (fun h1 K L f vq Q hq => k_mweak (d := d + 35) vq hq) (fun e he => ?_) (by decide)
  unfold rxWeak at he
  (repeat' split at he) <;> first | (cases he; simp; done) | cases he
theorem pr_reason (ok : OK O m sc o o2 E) (v : RX O x m sc o o2 N E s h ((R, S, b, w, P, I), tl)) : PR (d + 41) 232 178 x m o sc [.int y, .int z] h (fun h2 => ∃ a', RX O x m sc o o2 N E s h2 a') := by
  have hx := CS_X v.1
  refine PR_q (d := d + 40) ok v (rxReason R S b w P I y z) (fun Q hc => k_w232 (d := d + 40) hx hc) (fun A ea sl rd wr u l g hX vm Q hQ => k_reason (d := d + 33) hX vm hQ) (fun h1 K L f vq Q hq => k_mreason (d := d + 33) vq hq) (fun e he => ?_) (by decide)
  unfold rxReason at he
  (repeat' split at he) <;> first | (cases he; simp; done) | cases he
theorem pr_move (ok : OK O m sc o o2 E) (v : RX O x m sc o o2 N E s h ((R, S, b, w, P, I), tl)) : PR (d + 41) 235 181 x m o sc [.int y, .int z, .int t] h (fun h2 => ∃ a', RX O x m sc o o2 N E s h2 a') := by
  have hx := CS_X v.1
  refine PR_q (d := d + 40) ok v (rxMove R S b w y z t) (fun Q hc => k_w235 (d := d + 40) hx hc) (fun A ea sl rd wr u l g hX vm Q hQ => k_move (d := d + 33) hX vm hQ) (fun h1 K L f vq Q hq => k_mmove (d := d + 34) vq hq) (fun e he => ?_) (by decide)
  unfold rxMove at he
  (repeat' split at he) <;> first | (cases he; simp; done) | cases he
theorem pr_moves (ok : OK O m sc o o2 E) (v : RX O x m sc o o2 N E s h ((R, S, b, w, P, I), tl)) : PR (d + 41) 236 182 x m o sc [.int y] h (fun h2 => ∃ a', RX O x m sc o o2 N E s h2 a') := by
  have hx := CS_X v.1
  refine PR_q (d := d + 40) ok v (rxMoves R S b w P I y) (fun Q hc => k_w236 (d := d + 40) hx hc) (fun A ea sl rd wr u l g hX vm Q hQ => k_moves (d := d + 33) hX vm hQ) (fun h1 K L f vq Q hq => k_mmoves (d := d + 33) vq hq) (fun e he => ?_) (by decide)
  unfold rxMoves at he
  (repeat' split at he) <;> first | (cases he; simp; done) | cases he
theorem pr_greed (ok : OK O m sc o o2 E) (v : RX O x m sc o o2 N E s h ((R, S, b, w, P, I), tl)) : PR (d + 41) 237 183 x m o sc [.int y] h (fun h2 => ∃ a', RX O x m sc o o2 N E s h2 a') := by
  have hx := CS_X v.1
  refine PR_q (d := d + 40) ok v (rxGreed R S b w P I y) (fun Q hc => k_w237 (d := d + 40) hx hc) (fun A ea sl rd wr u l g hX vm Q hQ => k_greed (d := d + 33) hX vm hQ) (fun h1 K L f vq Q hq => k_mgreed (d := d + 33) vq hq) (fun e he => ?_) (by decide)
  unfold rxGreed at he
  (repeat' split at he) <;> first | (cases he; simp; done) | cases he
theorem pr_pools (ok : OK O m sc o o2 E) (v : RX O x m sc o o2 N E s h ((R, S, b, w, P, I), tl)) : PR (d + 41) 242 193 x m o sc [.int y] h (fun h2 => ∃ a', RX O x m sc o o2 N E s h2 a') := by
  have hx := CS_X v.1
  refine PR_q (d := d + 40) ok v (rxPools R S b w y) (fun Q hc => k_w242 (d := d + 40) hx hc) (fun A ea sl rd wr u l g hX vm Q hQ => k_pools (d := d + 35) hX vm hQ) (fun h1 K L f vq Q hq => k_mpools (d := d + 34) vq hq) (fun e he => ?_) (by decide)
  unfold rxPools at he
  (repeat' split at he) <;> first | (cases he; simp; done) | cases he
theorem pr_pool (ok : OK O m sc o o2 E) (v : RX O x m sc o o2 N E s h ((R, S, b, w, P, I), tl)) : PR (d + 41) 243 194 x m o sc [.int y, .int z] h (fun h2 => ∃ a', RX O x m sc o o2 N E s h2 a') := by
  have hx := CS_X v.1
  refine PR_q (d := d + 40) ok v (rxPool R S b w y z) (fun Q hc => k_w243 (d := d + 40) hx hc) (fun A ea sl rd wr u l g hX vm Q hQ => k_pool (d := d + 34) hX vm hQ) (fun h1 K L f vq Q hq => k_mpool (d := d + 34) vq hq) (fun e he => ?_) (by decide)
  unfold rxPool at he
  (repeat' split at he) <;> first | (cases he; simp; done) | cases he
theorem pr_alive (ok : OK O m sc o o2 E) (v : RX O x m sc o o2 N E s h ((R, S, b, w, P, I), tl)) : PR (d + 41) 247 201 x m o sc [.int y] h (fun h2 => ∃ a', RX O x m sc o o2 N E s h2 a') := by
  have hx := CS_X v.1
  refine PR_q (d := d + 40) ok v (rxAlive R S b w y) (fun Q hc => k_w247 (d := d + 40) hx hc) (fun A ea sl rd wr u l g hX vm Q hQ => k_alive (d := d + 33) hX vm hQ) (fun h1 K L f vq Q hq => k_malive (d := d + 34) vq hq) (fun e he => ?_) (by decide)
  unfold rxAlive at he
  (repeat' split at he) <;> first | (cases he; simp; done) | cases he
theorem pr_caught (ok : OK O m sc o o2 E) (v : RX O x m sc o o2 N E s h ((R, S, b, w, P, I), tl)) : PR (d + 41) 248 203 x m o sc [.int y] h (fun h2 => ∃ a', RX O x m sc o o2 N E s h2 a') := by
  have hx := CS_X v.1
  refine PR_q (d := d + 40) ok v (rxCaught R S b w y) (fun Q hc => k_w248 (d := d + 40) hx hc) (fun A ea sl rd wr u l g hX vm Q hQ => k_caught (d := d + 11) hX vm hQ) (fun h1 K L f vq Q hq => k_mcaught (d := d + 25) vq hq) (fun e he => ?_) (by decide)
  unfold rxCaught at he
  (repeat' split at he) <;> first | (cases he; simp; done) | cases he
theorem pr_area (ok : OK O m sc o o2 E) (v : RX O x m sc o o2 N E s h ((R, S, b, w, P, I), tl)) : PR (d + 41) 249 205 x m o sc [.int y] h (fun h2 => ∃ a', RX O x m sc o o2 N E s h2 a') := by
  have hx := CS_X v.1
  refine PR_q (d := d + 40) ok v (rxArea R S b w y) (fun Q hc => k_w249 (d := d + 40) hx hc) (fun A ea sl rd wr u l g hX vm Q hQ => k_areaX (d := d + 34) hX vm hQ) (fun h1 K L f vq Q hq => k_marea (d := d + 34) vq hq) (fun e he => ?_) (by decide)
  unfold rxArea at he
  (repeat' split at he) <;> first | (cases he; simp; done) | cases he
end BOTH
