/-! THE MODEL'S STATE AS IT LIES -/
def MX (m : Nat) (E : Nat → Nat) : List Nat := [m, E 0, E 1, E 2, E 3, E 4, E 7, E 22]
def ms (h : zr_H) (m : Nat) (E : Nat → Nat) (K : Nat → Int32) (L : Nat → Int64) (f ff fk fs : Nat → Int64) (sv bf wf : Nat → Value) : Prop :=
  h m = some (zym E K L) ∧ aL h (E 0) 73 f ∧ aL h (E 1) 73 ff ∧ aL h (E 2) 584 fk ∧ aL h (E 3) 146 fs ∧ aV 3 h (E 4) 2 sv ∧ aV 0 h (E 7) 300 bf ∧ aV 0 h (E 22) 12 wf ∧ E 0 ≠ E 1
section MODEL
variable {h h' : zr_H} {m : Nat} {E : Nat → Nat} {K : Nat → Int32} {L : Nat → Int64} {f ff fk fs : Nat → Int64} {sv bf wf : Nat → Value}
theorem ms_dd (v : ms h m E K L f ff fk fs sv bf wf) : (m ≠ E 0 ∧ m ≠ E 1 ∧ m ≠ E 2 ∧ m ≠ E 3 ∧ m ≠ E 4 ∧ m ≠ E 7 ∧ m ≠ E 22) ∧ (E 0 ≠ E 1 ∧ E 0 ≠ E 2 ∧ E 0 ≠ E 3 ∧ E 0 ≠ E 4 ∧ E 0 ≠ E 7 ∧ E 0 ≠ E 22) ∧ (E 1 ≠ E 2 ∧ E 1 ≠ E 3 ∧ E 1 ≠ E 4 ∧ E 1 ≠ E 7 ∧ E 1 ≠ E 22) ∧ (E 2 ≠ E 3 ∧ E 2 ≠ E 4 ∧ E 2 ≠ E 7 ∧ E 2 ≠ E 22) ∧ (E 3 ≠ E 4 ∧ E 3 ≠ E 7 ∧ E 3 ≠ E 22) ∧ (E 4 ≠ E 7 ∧ E 4 ≠ E 22) ∧ E 7 ≠ E 22 := by
  obtain ⟨h0, ⟨F0, a0, -⟩, ⟨F1, a1, -⟩, ⟨F2, a2, -⟩, ⟨F3, a3, -⟩, ⟨F4, a4, -⟩, ⟨F7, a7, -⟩, ⟨F22, a22, -⟩, ne⟩ := v
  exact ⟨⟨k_ne h0 a0 (by simp [zym]), k_ne h0 a1 (by simp [zym]), k_ne h0 a2 (by simp [zym]), k_ne h0 a3 (by simp [zym]), k_ne h0 a4 (by simp [zym]), k_ne h0 a7 (by simp [zym]), k_ne h0 a22 (by simp [zym])⟩, ⟨ne, k_ne a0 a2 (by simp), k_ne a0 a3 (by simp), k_ne a0 a4 (by simp), k_ne a0 a7 (by simp), k_ne a0 a22 (by simp)⟩, ⟨k_ne a1 a2 (by simp), k_ne a1 a3 (by simp), k_ne a1 a4 (by simp), k_ne a1 a7 (by simp), k_ne a1 a22 (by simp)⟩, ⟨k_ne a2 a3 (by simp), k_ne a2 a4 (by simp), k_ne a2 a7 (by simp), k_ne a2 a22 (by simp)⟩, ⟨k_ne a3 a4 (by simp), k_ne a3 a7 (by simp), k_ne a3 a22 (by simp)⟩, ⟨k_ne a4 a7 (by simp), k_ne a4 a22 (by simp)⟩, k_ne a7 a22 (by simp)⟩
theorem ms_up (v : ms h m E K L f ff fk fs sv bf wf) (K2 : Nat → Int32) (L2 : Nat → Int64) : ms (zr_up h m (zym E K2 L2)) m E K2 L2 f ff fk fs sv bf wf ∧ fx (MX m E) h (zr_up h m (zym E K2 L2)) := by
  obtain ⟨⟨d0, d1, d2, d3, d4, d7, d22⟩, -⟩ := ms_dd v
  obtain ⟨h0, a0, a1, a2, a3, a4, a7, a22, ne⟩ := v
  exact ⟨⟨zr_up_self _ _ _, aL_to a0 (zr_up_ne _ _ (Ne.symm d0)), aL_to a1 (zr_up_ne _ _ (Ne.symm d1)), aL_to a2 (zr_up_ne _ _ (Ne.symm d2)), aL_to a3 (zr_up_ne _ _ (Ne.symm d3)), aV_to a4 (zr_up_ne _ _ (Ne.symm d4)), aV_to a7 (zr_up_ne _ _ (Ne.symm d7)), aV_to a22 (zr_up_ne _ _ (Ne.symm d22)), ne⟩, fx_up (by simp [MX])⟩
theorem ms_f (v : ms h m E K L f ff fk fs sv bf wf) {i : Nat} {y : Int64} {g : Nat → Int64} (e : ∀ k, k < 73 → g k = if k = i then y else f k) : ms (zr_putA h (E 0) i (.long y)) m E K L g ff fk fs sv bf wf ∧ fx (MX m E) h (zr_putA h (E 0) i (.long y)) := by
  obtain ⟨⟨dm0, dm1, dm2, dm3, dm4, dm7, dm22⟩, ⟨n0_1, n0_2, n0_3, n0_4, n0_7, n0_22⟩, ⟨n1_2, n1_3, n1_4, n1_7, n1_22⟩, ⟨n2_3, n2_4, n2_7, n2_22⟩, ⟨n3_4, n3_7, n3_22⟩, ⟨n4_7, n4_22⟩, n7_22⟩ := ms_dd v
  obtain ⟨h0, a0, a1, a2, a3, a4, a7, a22, ne⟩ := v
  exact ⟨⟨putA_ot dm0 h0, aL_put a0 e, aL_to a1 (putA_ot (Ne.symm n0_1) rfl), aL_to a2 (putA_ot (Ne.symm n0_2) rfl), aL_to a3 (putA_ot (Ne.symm n0_3) rfl), aV_to a4 (putA_ot (Ne.symm n0_4) rfl), aV_to a7 (putA_ot (Ne.symm n0_7) rfl), aV_to a22 (putA_ot (Ne.symm n0_22) rfl), ne⟩, putA_fx (by simp [MX])⟩
theorem ms_ff (v : ms h m E K L f ff fk fs sv bf wf) {i : Nat} {y : Int64} {g : Nat → Int64} (e : ∀ k, k < 73 → g k = if k = i then y else ff k) : ms (zr_putA h (E 1) i (.long y)) m E K L f g fk fs sv bf wf ∧ fx (MX m E) h (zr_putA h (E 1) i (.long y)) := by
  obtain ⟨⟨dm0, dm1, dm2, dm3, dm4, dm7, dm22⟩, ⟨n0_1, n0_2, n0_3, n0_4, n0_7, n0_22⟩, ⟨n1_2, n1_3, n1_4, n1_7, n1_22⟩, ⟨n2_3, n2_4, n2_7, n2_22⟩, ⟨n3_4, n3_7, n3_22⟩, ⟨n4_7, n4_22⟩, n7_22⟩ := ms_dd v
  obtain ⟨h0, a0, a1, a2, a3, a4, a7, a22, ne⟩ := v
  exact ⟨⟨putA_ot dm1 h0, aL_to a0 (putA_ot (n0_1) rfl), aL_put a1 e, aL_to a2 (putA_ot (Ne.symm n1_2) rfl), aL_to a3 (putA_ot (Ne.symm n1_3) rfl), aV_to a4 (putA_ot (Ne.symm n1_4) rfl), aV_to a7 (putA_ot (Ne.symm n1_7) rfl), aV_to a22 (putA_ot (Ne.symm n1_22) rfl), ne⟩, putA_fx (by simp [MX])⟩
theorem ms_fk (v : ms h m E K L f ff fk fs sv bf wf) {i : Nat} {y : Int64} {g : Nat → Int64} (e : ∀ k, k < 584 → g k = if k = i then y else fk k) : ms (zr_putA h (E 2) i (.long y)) m E K L f ff g fs sv bf wf ∧ fx (MX m E) h (zr_putA h (E 2) i (.long y)) := by
  obtain ⟨⟨dm0, dm1, dm2, dm3, dm4, dm7, dm22⟩, ⟨n0_1, n0_2, n0_3, n0_4, n0_7, n0_22⟩, ⟨n1_2, n1_3, n1_4, n1_7, n1_22⟩, ⟨n2_3, n2_4, n2_7, n2_22⟩, ⟨n3_4, n3_7, n3_22⟩, ⟨n4_7, n4_22⟩, n7_22⟩ := ms_dd v
  obtain ⟨h0, a0, a1, a2, a3, a4, a7, a22, ne⟩ := v
  exact ⟨⟨putA_ot dm2 h0, aL_to a0 (putA_ot (n0_2) rfl), aL_to a1 (putA_ot (n1_2) rfl), aL_put a2 e, aL_to a3 (putA_ot (Ne.symm n2_3) rfl), aV_to a4 (putA_ot (Ne.symm n2_4) rfl), aV_to a7 (putA_ot (Ne.symm n2_7) rfl), aV_to a22 (putA_ot (Ne.symm n2_22) rfl), ne⟩, putA_fx (by simp [MX])⟩
theorem ms_fs (v : ms h m E K L f ff fk fs sv bf wf) {i : Nat} {y : Int64} {g : Nat → Int64} (e : ∀ k, k < 146 → g k = if k = i then y else fs k) : ms (zr_putA h (E 3) i (.long y)) m E K L f ff fk g sv bf wf ∧ fx (MX m E) h (zr_putA h (E 3) i (.long y)) := by
  obtain ⟨⟨dm0, dm1, dm2, dm3, dm4, dm7, dm22⟩, ⟨n0_1, n0_2, n0_3, n0_4, n0_7, n0_22⟩, ⟨n1_2, n1_3, n1_4, n1_7, n1_22⟩, ⟨n2_3, n2_4, n2_7, n2_22⟩, ⟨n3_4, n3_7, n3_22⟩, ⟨n4_7, n4_22⟩, n7_22⟩ := ms_dd v
  obtain ⟨h0, a0, a1, a2, a3, a4, a7, a22, ne⟩ := v
  exact ⟨⟨putA_ot dm3 h0, aL_to a0 (putA_ot (n0_3) rfl), aL_to a1 (putA_ot (n1_3) rfl), aL_to a2 (putA_ot (n2_3) rfl), aL_put a3 e, aV_to a4 (putA_ot (Ne.symm n3_4) rfl), aV_to a7 (putA_ot (Ne.symm n3_7) rfl), aV_to a22 (putA_ot (Ne.symm n3_22) rfl), ne⟩, putA_fx (by simp [MX])⟩
theorem ms_sv (v : ms h m E K L f ff fk fs sv bf wf) {i : Nat} {y : Value} {g : Nat → Value} (e : ∀ k, k < 2 → g k = if k = i then y else sv k) : ms (zr_putA h (E 4) i y) m E K L f ff fk fs g bf wf ∧ fx (MX m E) h (zr_putA h (E 4) i y) := by
  obtain ⟨⟨dm0, dm1, dm2, dm3, dm4, dm7, dm22⟩, ⟨n0_1, n0_2, n0_3, n0_4, n0_7, n0_22⟩, ⟨n1_2, n1_3, n1_4, n1_7, n1_22⟩, ⟨n2_3, n2_4, n2_7, n2_22⟩, ⟨n3_4, n3_7, n3_22⟩, ⟨n4_7, n4_22⟩, n7_22⟩ := ms_dd v
  obtain ⟨h0, a0, a1, a2, a3, a4, a7, a22, ne⟩ := v
  exact ⟨⟨putA_ot dm4 h0, aL_to a0 (putA_ot (n0_4) rfl), aL_to a1 (putA_ot (n1_4) rfl), aL_to a2 (putA_ot (n2_4) rfl), aL_to a3 (putA_ot (n3_4) rfl), aV_put a4 e, aV_to a7 (putA_ot (Ne.symm n4_7) rfl), aV_to a22 (putA_ot (Ne.symm n4_22) rfl), ne⟩, putA_fx (by simp [MX])⟩
theorem ms_bf (v : ms h m E K L f ff fk fs sv bf wf) {i : Nat} {y : Value} {g : Nat → Value} (e : ∀ k, k < 300 → g k = if k = i then y else bf k) : ms (zr_putA h (E 7) i y) m E K L f ff fk fs sv g wf ∧ fx (MX m E) h (zr_putA h (E 7) i y) := by
  obtain ⟨⟨dm0, dm1, dm2, dm3, dm4, dm7, dm22⟩, ⟨n0_1, n0_2, n0_3, n0_4, n0_7, n0_22⟩, ⟨n1_2, n1_3, n1_4, n1_7, n1_22⟩, ⟨n2_3, n2_4, n2_7, n2_22⟩, ⟨n3_4, n3_7, n3_22⟩, ⟨n4_7, n4_22⟩, n7_22⟩ := ms_dd v
  obtain ⟨h0, a0, a1, a2, a3, a4, a7, a22, ne⟩ := v
  exact ⟨⟨putA_ot dm7 h0, aL_to a0 (putA_ot (n0_7) rfl), aL_to a1 (putA_ot (n1_7) rfl), aL_to a2 (putA_ot (n2_7) rfl), aL_to a3 (putA_ot (n3_7) rfl), aV_to a4 (putA_ot (n4_7) rfl), aV_put a7 e, aV_to a22 (putA_ot (Ne.symm n7_22) rfl), ne⟩, putA_fx (by simp [MX])⟩
theorem ms_wf (v : ms h m E K L f ff fk fs sv bf wf) {i : Nat} {y : Value} {g : Nat → Value} (e : ∀ k, k < 12 → g k = if k = i then y else wf k) : ms (zr_putA h (E 22) i y) m E K L f ff fk fs sv bf g ∧ fx (MX m E) h (zr_putA h (E 22) i y) := by
  obtain ⟨⟨dm0, dm1, dm2, dm3, dm4, dm7, dm22⟩, ⟨n0_1, n0_2, n0_3, n0_4, n0_7, n0_22⟩, ⟨n1_2, n1_3, n1_4, n1_7, n1_22⟩, ⟨n2_3, n2_4, n2_7, n2_22⟩, ⟨n3_4, n3_7, n3_22⟩, ⟨n4_7, n4_22⟩, n7_22⟩ := ms_dd v
  obtain ⟨h0, a0, a1, a2, a3, a4, a7, a22, ne⟩ := v
  exact ⟨⟨putA_ot dm22 h0, aL_to a0 (putA_ot (n0_22) rfl), aL_to a1 (putA_ot (n1_22) rfl), aL_to a2 (putA_ot (n2_22) rfl), aL_to a3 (putA_ot (n3_22) rfl), aV_to a4 (putA_ot (n4_22) rfl), aV_to a7 (putA_ot (n7_22) rfl), aV_put a22 e, ne⟩, putA_fx (by simp [MX])⟩
theorem ms_eq (v : ms h m E K L f ff fk fs sv bf wf) {f2 ff2 fk2 fs2 : Nat → Int64} (e0 : ∀ k, k < 73 → f2 k = f k) (e1 : ∀ k, k < 73 → ff2 k = ff k) (e2 : ∀ k, k < 584 → fk2 k = fk k) (e3 : ∀ k, k < 146 → fs2 k = fs k) : ms h m E K L f2 ff2 fk2 fs2 sv bf wf := by
  obtain ⟨h0, a0, a1, a2, a3, r⟩ := v
  exact ⟨h0, aL_eq a0 e0, aL_eq a1 e1, aL_eq a2 e2, aL_eq a3 e3, r⟩
end MODEL
