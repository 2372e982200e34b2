/-! BOTH: yes and no, share, errorPosition, score -/
section BOTH
variable {d : Nat} {h h1 h' : zr_H} {Q : zr_K} {O : Nat → Prop} {x m sc o o2 N : Nat} {E : Nat → Nat} {s : Nat → Int32} {R S : Nat} {b w : Int64} {P : List (Int64 × Int64)} {I : Nat → Int32} {y z t : Int32} {H : List gm} {T : Nat → Option gm} {n l : Nat} {e : Int32} {tf wf : Nat → Int32} {tl : List gm × (Nat → Option gm) × Nat × Int32 × Nat × (Nat → Int32) × (Nat → Int32)} {a : ast}
theorem eye_un : ∀ r r2, rxEye R S b w y r → rxEye R S b w y r2 → r = r2 := by
  intro r r2 h1 h2
  unfold rxEye at h1 h2
  split at h1
  · rename_i q
    rw [q] at h2
    exact h1.trans h2.symm
  · rename_i p q
    rw [q] at h2
    rcases h1 with ⟨u, v⟩ | ⟨u, v⟩ <;> rcases h2 with ⟨u2, v2⟩ | ⟨u2, v2⟩
    · exact v.trans v2.symm
    · exact absurd u u2
    · exact absurd u2 u
    · exact v.trans v2.symm
theorem off_un : ∀ r r2, rxOff R S b w y r → rxOff R S b w y r2 → r = r2 := by
  intro r r2 h1 h2
  unfold rxOff at h1 h2
  split at h1
  · rename_i q
    rw [q] at h2
    exact h1.trans h2.symm
  · rename_i p q
    rw [q] at h2
    rcases h1 with ⟨u, v⟩ | ⟨u, v⟩ <;> rcases h2 with ⟨u2, v2⟩ | ⟨u2, v2⟩
    · exact v.trans v2.symm
    · exact absurd u u2
    · exact absurd u2 u
    · exact v.trans v2.symm
theorem pr_eye (ok : OK O m sc o o2 E) (v : RX O x m sc o o2 N E s h ((R, S, b, w, P, I), tl)) : PRb (d + 41) 244 195 x m o sc [.int y] h (fun h2 => ∃ a', RX O x m sc o o2 N E s h2 a') := by
  have hx := CS_X v.1
  refine PRb_q (d := d + 40) (codes := [2]) ok v (rxEye R S b w y) eye_un (fun Q hc => k_w244 (d := d + 40) hx hc) (fun A ea sl rd wr u l g hX vm Q hQ => k_eye (d := d + 34) hX vm hQ) (fun h1 K L f vq Q hq => k_meye (d := d + 34) vq hq) (fun e he => ?_) (fun v hv => ?_) (by decide)
  · unfold rxEye at he
    split at he
    · cases he; simp
    · rcases he with ⟨_, u⟩ | ⟨_, u⟩ <;> cases u
  · unfold rxEye at hv
    split at hv
    · cases hv
    · rcases hv with ⟨_, u⟩ | ⟨_, u⟩ <;> cases u
      · exact Or.inr rfl
      · exact Or.inl rfl
theorem pr_off (ok : OK O m sc o o2 E) (v : RX O x m sc o o2 N E s h ((R, S, b, w, P, I), tl)) : PRb (d + 41) 245 197 x m o sc [.int y] h (fun h2 => ∃ a', RX O x m sc o o2 N E s h2 a') := by
  have hx := CS_X v.1
  refine PRb_q (d := d + 40) (codes := [2]) ok v (rxOff R S b w y) off_un (fun Q hc => k_w245 (d := d + 40) hx hc) (fun A ea sl rd wr u l g hX vm Q hQ => k_off (d := d + 33) hX vm hQ) (fun h1 K L f vq Q hq => k_moff (d := d + 33) vq hq) (fun e he => ?_) (fun v hv => ?_) (by decide)
  · unfold rxOff at he
    split at he
    · cases he; simp
    · rcases he with ⟨_, u⟩ | ⟨_, u⟩ <;> cases u
  · unfold rxOff at hv
    split at hv
    · cases hv
    · rcases hv with ⟨_, u⟩ | ⟨_, u⟩ <;> cases u
      · exact Or.inr rfl
      · exact Or.inl rfl
theorem pr_isal (ok : OK O m sc o o2 E) (v : RX O x m sc o o2 N E s h ((R, S, b, w, P, I), tl)) : PRb (d + 41) 246 200 x m o sc [.int y] h (fun h2 => ∃ a', RX O x m sc o o2 N E s h2 a') := by
  have hx := CS_X v.1
  refine PRb_q (d := d + 40) (codes := [2]) ok v (fun r => r = rxIsAlive R S b w y) (fun r r2 e1 e2 => e1.trans e2.symm) (fun Q hc => k_w246 (d := d + 40) hx hc) (fun A ea sl rd wr u l g hX vm Q hQ => k_isal (d := d + 33) hX vm (hQ _ rfl)) (fun h1 K L f vq Q hq => k_misal (d := d + 34) vq (hq _ rfl)) (fun e he => ?_) (fun v hv => ?_) (by decide)
  · have he := he.symm
    unfold rxIsAlive at he
    (repeat' split at he) <;> first | (cases he; simp; done) | cases he
  · have hv := hv.symm
    unfold rxIsAlive at hv
    (repeat' split at hv) <;> first | (cases hv; exact Or.inl rfl) | (cases hv; exact Or.inr rfl) | cases hv
/-- the end of both behind the model's own change -/
theorem RX_end (ok : OK O m sc o o2 E) (v : RX O x m sc o o2 N E s h a) {h2 : zr_H} (vm : MS h2 m E a) (f : fx (MX m E) h h2) : RX O x m sc o o2 N E s h2 a := by
  obtain ⟨hO, oS, o1, o2', oB, nS, n1, n2, d1, d2, d3⟩ := ok
  obtain ⟨vc, -, ⟨F, hs, hF⟩, ⟨Fo, ho⟩, ⟨F2, ho2⟩⟩ := v
  refine ⟨CS_out vc (fun q nq => f q (fun z => nq (hO q z))) (fun q hq => ?_), vm, ⟨F, (f sc nS).trans hs, hF⟩, ⟨Fo, (f o n1).trans ho⟩, ⟨F2, (f o2 n2).trans ho2⟩⟩
  rcases oB q hq with z | z | z | z
  · exact MS_n vm z
  · rw [z, f sc nS, hs]; simp
  · rw [z, f o n1, ho]; simp
  · rw [z, f o2 n2, ho2]; simp
theorem pr_epos (ok : OK O m sc o o2 E) (v : RX O x m sc o o2 N E s h ((R, S, b, w, P, I), H, T, n, e, l, tf, wf)) : PRq (d + 41) 76 147 x m h (fun h2 => ∃ a', RX O x m sc o o2 N E s h2 a') := by
  have hx := CS_X v.1
  have vm := v.2.1
  refine ⟨hx, ?_⟩
  obtain ⟨B, D, V, J, rb, rw, ex, c⟩ := CS_cp v.1
  have hX := c.1.1
  rw [ex] at hX
  refine k_epos (d := d + 40) hX c.1.2.2.2.1 ⟨J 7, rfl, MS_I vm, ?_⟩
  obtain ⟨K, L, bf, vmm, rb⟩ := vm
  obtain ⟨f, vq⟩ := mM_q vmm
  refine k_mepos (d := d + 40) vq (mQ_of vmm (fun y h2 K' L' hr v2 f2 => ⟨?_, _, RX_end ok v ⟨K', L', bf, v2, rb⟩ f2⟩))
  rw [hr.2, (mM_23 vmm).2.2.1, c.2.2.2.2.2.1]
theorem pr_score (ok : OK O m sc o o2 E) (v : RX O x m sc o o2 N E s h ((R, S, b, w, P, I), H, T, n, e, l, tf, wf)) : PRq (d + 41) 103 206 x m h (fun h2 => ∃ a', RX O x m sc o o2 N E s h2 a') := by
  have hx := CS_X v.1
  have vm := v.2.1
  refine ⟨hx, ?_⟩
  obtain ⟨A, ea, sl, rd, wr', u, l', g, hX, vM1⟩ := CS_v v.1
  have e1 : rxScore R S b w I = .inl (nI (ct (so 1 b w) + ct (op R S b w 1)) - nI (ct (so 2 b w) + ct (op R S b w 2)) - I 9) := rfl
  refine k_score (d := d + 35) hX vM1 ?_
  rw [e1]
  refine ⟨_, rfl, MS_I vm, ?_⟩
  obtain ⟨K, L, bf, vmm, rb⟩ := vm
  obtain ⟨f, vq⟩ := mM_q vmm
  refine k_mscore (d := d + 34) vq (mQ_of vmm (fun y h2 K' L' hr v2 f2 => ⟨?_, _, RX_end ok v ⟨K', L', bf, v2, rb⟩ f2⟩))
  rw [e1] at hr
  rw [hr.2]
theorem sh_v {A : Nat → Nat} {g : Nat} {v : UInt32} (vM1 : vM h A R S b w P I g) (q : rxShare R S b w y = .inl v) : vf_n64 (FP.f2d v) ∧ Op.cmpValue (FP.dcmp (FP.f2d v) (FP.f2d v)) .l = 0 := by
  have hg := vM1.2.2.2.1
  have h60 := g_n hg
  have h1 : 1 ≤ R * S := by
    have := g_lt hg
    exact Nat.mul_pos (by omega) (by omega)
  unfold rxShare at q
  split at q
  · cases q
  · cases q
    have c1 : ∀ x, ct x ≤ 64 := fun x => ct_le x
    rename_i c _
    have b1 := c1 (so c b w)
    have b2 := c1 (op R S b w c)
    exact ⟨(sh_n (by omega) h1 h60).2, sh_cmp (by omega) h1 h60⟩
theorem pr_share (ok : OK O m sc o o2 E) (v : RX O x m sc o o2 N E s h ((R, S, b, w, P, I), H, T, n, e, l, tf, wf)) : PRf (d + 41) 250 207 x m o2 sc [.int y] h (fun h2 => ∃ a', RX O x m sc o o2 N E s h2 a') := by
  have hx := CS_X v.1
  have vm := v.2.1
  refine ⟨hx, k_w250 (d := d + 40) hx ?_⟩
  obtain ⟨A, ea, sl, rd, wr', u, l', g, hX, vM1⟩ := CS_v v.1
  obtain ⟨hO, oS, o1, o2', oB, nS, n1, n2, d1, d2, d3⟩ := id ok
  obtain ⟨vc, -, ⟨F, hs, hF⟩, ⟨Fo, ho⟩, ⟨F2, ho2⟩⟩ := id v
  refine k_share (d := d + 34) hX vM1 ?_
  -- the model
  have mo : ∀ h1, RX O x m sc o o2 N E s h1 ((R, S, b, w, P, I), H, T, n, e, l, tf, wf) → h1 sc = h sc → ∀ k : Int32, (∀ v, rxShare R S b w y = .inl v → k = 0 ∧ zr_elt (h1 o2) 0 = .double (FP.f2d v)) → (∀ c, rxShare R S b w y = .inr c → k = 1) → zr_E (d + 41) 207 [.ref m, .int y] h1 (fun r2 h2 => ∃ b : UInt32, r2 = .inl (some (.float b)) ∧ zr_isO (h2 m) 7 = true ∧ zr_fld (h2 m) 6 = .int k ∧ zr_isA (h2 o2) 4 = true ∧ vp_in 0 (zr_len (h2 o2)) ∧ (k = 0 → zr_elt (h2 o2) 0 = .double (FP.f2d b) ∧ vf_n64 (FP.f2d b) ∧ Op.cmpValue (FP.dcmp (FP.f2d b) (FP.f2d b)) .l = 0) ∧ ∃ a', RX O x m sc o o2 N E s h2 a') := by
    intro h1 v1 es k kv ke
    obtain ⟨-, ⟨K, L, bf, vmm, rb⟩, -, -, ⟨F3, e3⟩⟩ := id v1
    obtain ⟨f, vq⟩ := mM_q vmm
    refine k_mshare (d := d + 34) vq (fun y2 K' L' hr hk => ?_)
    obtain ⟨v2, f2⟩ := mM_up vmm (K2 := K') (L2 := L') (hk 5 (by omega)) (hk 8 (by omega)) (hk 16 (by omega)) (hk 23 (by omega))
    have eo : zr_up h1 m (zym E K' L') o2 = h1 o2 := f2 o2 n2
    have v3 := RX_end ok v1 ⟨K', L', bf, v2, rb⟩ f2
    refine ⟨y2, rfl, by rw [zr_up_self]; exact zy_I, ?_, by rw [eo, e3]; rfl, by rw [eo, e3]; show vp_in (nI 0) 1; exact vp_in_nI (by omega) (by omega), fun z => ?_, _, v3⟩
    · rw [zr_up_self]
      show Value.int (K' 6) = .int k
      cases q : rxShare R S b w y with
      | inl v => rw [q] at hr; rw [hr.1, (kv v q).1]
      | inr c => rw [q] at hr; rw [show K' 6 = 1 from hr, ke c q]
    · cases q : rxShare R S b w y with
      | inl v =>
        rw [q] at hr
        rw [eo, (kv v q).2, hr.2]
        exact ⟨rfl, sh_v vM1 q⟩
      | inr c => rw [ke c q] at z; exact absurd z (by decide)
  cases q : rxShare R S b w y with
  | inr c =>
    have c1 : c = 1 := by
      unfold rxShare at q
      split at q <;> cases q
      rfl
    subst c1
    exact ⟨by simp, 1, rfl, MS_I vm, rfl, mo h v rfl 1 (fun v z => by rw [q] at z; cases z) (fun _ _ => rfl)⟩
  | inl val =>
    have e2 : ∀ q, q ≠ o2 → zr_putA h o2 0 (.double (FP.f2d val)) q = h q := fun q hq => putA_ot hq rfl
    have eo : zr_putA h o2 0 (.double (FP.f2d val)) o2 = some (.inr (4, 1, zr_fup F2 0 (.double (FP.f2d val)))) := by rw [zr_putA_mk ho2, zr_up_self]
    have vm2 : MS (zr_putA h o2 0 (.double (FP.f2d val))) m E ((R, S, b, w, P, I), H, T, n, e, l, tf, wf) := MS_to vm (fun q hq => e2 q (fun z => n2 (z ▸ hq)))
    have v2 : RX O x m sc o o2 N E s (zr_putA h o2 0 (.double (FP.f2d val))) ((R, S, b, w, P, I), H, T, n, e, l, tf, wf) := ⟨CS_out vc (fun q nq => e2 q (fun z => nq (z ▸ o2'))) (fun q hq => by
      by_cases z : q = o2
      · rw [z, eo]; simp
      · rw [e2 q z]; exact CS_n vc hq), vm2, ⟨F, (e2 sc d2).trans hs, hF⟩, ⟨Fo, (e2 o d3).trans ho⟩, ⟨_, eo⟩⟩
    refine ⟨(sh_v vM1 q).1, by rw [ho2]; rfl, by rw [ho2]; show vp_in (nI 0) 1; exact vp_in_nI (by omega) (by omega), 0, rfl, MS_I vm2, e2 sc d2, mo _ v2 (e2 sc d2) 0 (fun v z => ?_) (fun c z => by rw [q] at z; cases z)⟩
    rw [q] at z
    cases z
    exact ⟨rfl, by rw [eo]; rfl⟩
end BOTH
