/-! FRAMES AND ARRAYS; THE POSITIONS -/
def fx (X : List Nat) (h h' : zr_H) : Prop := ∀ j, ¬ j ∈ X → h' j = h j
theorem fx_refl (X : List Nat) (h : zr_H) : fx X h h := fun _ _ => rfl
theorem fx_trans {X : List Nat} {h h1 h2 : zr_H} (a : fx X h h1) (b : fx X h1 h2) : fx X h h2 := fun j hj => (b j hj).trans (a j hj)
theorem fx_up {X : List Nat} {h : zr_H} {q : Nat} {c : zr_C} (hq : q ∈ X) : fx X h (zr_up h q c) := fun j hj => zr_up_ne h c (fun e => hj (e ▸ hq))
theorem fx_sub {X Y : List Nat} {h h' : zr_H} (a : fx X h h') (s : ∀ j, j ∈ X → j ∈ Y) : fx Y h h' := fun j hj => a j (fun z => hj (s j z))
theorem fx_get {X : List Nat} {h h' : zr_H} (a : fx X h h') {j : Nat} (hj : ¬ j ∈ X) {c : Option zr_C} (e : h j = c) : h' j = c := (a j hj).trans e
def fu (f : Nat → Int64) (i : Nat) (v : Int64) : Nat → Int64 := fun k => if k = i then v else f k
def aL (h : zr_H) (q n : Nat) (f : Nat → Int64) : Prop := ∃ F, h q = some (.inr (1, n, F)) ∧ ∀ k, k < n → F k = .long (f k)
theorem aL_put {h : zr_H} {q n i : Nat} {f f2 : Nat → Int64} {v : Int64} (a : aL h q n f) (e : ∀ k, k < n → f2 k = if k = i then v else f k) : aL (zr_putA h q i (.long v)) q n f2 := by
  obtain ⟨F, h1, h2⟩ := a
  refine ⟨zr_fup F i (.long v), ?_, fun k hk => ?_⟩
  · rw [zr_putA_mk h1, zr_up_self]
  · rw [e k hk]
    show (if k = i then _ else F k) = _
    by_cases c : k = i
    · rw [if_pos c, if_pos c]
    · rw [if_neg c, if_neg c]; exact h2 k hk
theorem aL_fx {X : List Nat} {h h' : zr_H} {q n : Nat} {f : Nat → Int64} (a : aL h q n f) (m : fx X h h') (hq : ¬ q ∈ X) : aL h' q n f := by
  obtain ⟨F, h1, h2⟩ := a
  exact ⟨F, fx_get m hq h1, h2⟩
theorem putA_or (h : zr_H) (q i : Nat) (v : Value) : (∃ c, zr_putA h q i v = zr_up h q c) ∨ zr_putA h q i v = h := by
  unfold zr_putA
  split
  · exact Or.inl ⟨_, rfl⟩
  · exact Or.inr rfl
theorem putA_ot {h : zr_H} {q q2 i : Nat} {v : Value} {c : Option zr_C} (hq : q ≠ q2) (e : h q = c) : zr_putA h q2 i v q = c := by
  rcases putA_or h q2 i v with ⟨c, g⟩ | g
  · rw [g, zr_up_ne _ _ hq]; exact e
  · rw [g]; exact e
theorem aL_ot {h : zr_H} {q q2 n i : Nat} {f : Nat → Int64} {v : Value} (a : aL h q n f) (hq : q ≠ q2) : aL (zr_putA h q2 i v) q n f := by
  obtain ⟨F, h1, h2⟩ := a
  exact ⟨F, putA_ot hq h1, h2⟩
theorem putA_fx {X : List Nat} {h : zr_H} {q i : Nat} {v : Value} (hq : q ∈ X) : fx X h (zr_putA h q i v) := by
  rcases putA_or h q i v with ⟨c, g⟩ | g
  · rw [g]; exact fx_up hq
  · rw [g]; exact fx_refl _ _
theorem aL_isA {h : zr_H} {q n : Nat} {f : Nat → Int64} (a : aL h q n f) : zr_isA (h q) 1 = true := by obtain ⟨F, h1, -⟩ := a; rw [h1]; rfl
theorem aL_in {h : zr_H} {q n k : Nat} {f : Nat → Int64} (a : aL h q n f) (hk : k < n) (hn : n < 2 ^ 31) : vp_in (nI k) (zr_len (h q)) := by obtain ⟨F, h1, -⟩ := a; rw [h1]; exact vp_in_nI hk hn
theorem aL_elt {h : zr_H} {q n k : Nat} {f : Nat → Int64} (a : aL h q n f) (hk : k < n) (hn : n < 2 ^ 31) : zr_elt (h q) (nI k).toNatClampNeg = .long (f k) := by
  obtain ⟨F, h1, h2⟩ := a
  rw [h1, nI_clamp (by omega)]
  exact h2 k hk
/-- a row of positions: the latest first -/
def zpV (pb pw : Nat) (n : Int32) : Nat → Value := fun k => match k with
  | 0 => .ref pb
  | 1 => .ref pw
  | 2 => .int n
  | k => dv 4 k
def zps (pb pw : Nat) (n : Int32) : zr_C := .inl (4, zpV pb pw n)
theorem zp_0 {pb pw : Nat} {n : Int32} : zr_fld (some (zps pb pw n)) 0 = .ref pb := rfl
theorem zp_1 {pb pw : Nat} {n : Int32} : zr_fld (some (zps pb pw n)) 1 = .ref pw := rfl
theorem zp_2 {pb pw : Nat} {n : Int32} : zr_fld (some (zps pb pw n)) 2 = .int n := rfl
theorem zp_I {pb pw : Nat} {n : Int32} : zr_isO (some (zps pb pw n)) 4 = true := id rfl
theorem zps_put {pb pw : Nat} {n m : Int32} : (Sum.inl (4, zr_fup (zpV pb pw n) 2 (.int m)) : zr_C) = zps pb pw m := by
  unfold zps
  congr 2
  funext k
  match k with
  | 0 => rfl
  | 1 => rfl
  | 2 => rfl
  | k + 3 => simp [zr_fup, zpV]
def vP (h : zr_H) (p pb pw : Nat) (fb fw : Nat → Int64) (n : Nat) : Prop := h p = some (zps pb pw (nI n)) ∧ aL h pb 30 fb ∧ aL h pw 30 fw ∧ n ≤ 30 ∧ pb ≠ pw
theorem vP_ne {h : zr_H} {p pb pw n : Nat} {fb fw : Nat → Int64} (v : vP h p pb pw fb fw n) : p ≠ pb ∧ p ≠ pw := by
  obtain ⟨h1, ⟨F, h2, -⟩, ⟨G, h3, -⟩, -⟩ := v
  refine ⟨fun e => ?_, fun e => ?_⟩
  · rw [e, h2] at h1; cases h1
  · rw [e, h3] at h1; cases h1
section POS
variable {h : zr_H} {Q : zr_K} {p pb pw n : Nat} {fb fw : Nat → Int64}
def hasP (fb fw : Nat → Int64) (n : Nat) (b w : Int64) : Prop := ∃ k, k < n ∧ fb k = b ∧ fw k = w
theorem k_has_ {d : Nat} (v : vP h p pb pw fb fw n) {b w : Int64} (h1 : hasP fb fw n b w → Q (.inl (some (.int 1))) h) (h0 : ¬ hasP fb fw n b w → Q (.inl (some (.int 0))) h) (t : Nat) :
    ∀ k, k + t = n → (¬ hasP fb fw k b w) → zr_Z d 53 Q 3 [some (.ref p), some (.long b), none, some (.long w), none, some (.int (nI k))] [] h 0 0 := by
  obtain ⟨hP, aB, aW, hn, -⟩ := v
  induction t with
  | zero =>
    intro k hk hh
    simp only [zs_53_0, zs_53_1, zs_53_3, zs_53_5, zs_53_5u, zs_53_6, zs_53_9, zs_53_14, zs_53_16, zs_53_19, zs_53_19u, zs_53_20, zs_53_23, zs_53_25, zs_53_26, zs_53_27, zs_53_28, zs_53_31, zs_53_31u, zs_53_32, zs_53_35, zs_53_37, zs_53_38, zs_53_39, zs_53_40, zs_53_43, zs_53_44_0, zs_53_44_1, zs_53_44, zs_53_45, zs_53_48, zs_53_51, zs_53_52_0, zs_53_52_1, zs_53_52, zc_isO, zr_fld_mk, zc_isA, zc_len, zr_elt_mk, zr_kill_i, zr_kill_l, zr_kill_r, zr_kill_u, zr_kill_f, zr_kill_n, zc_cat, zr_cat_i, zr_cat_l, zr_cat_r, zr_cat_f, zr_cat_d, zr_cat_u, beq_self_eq_true, Nat.zero_le, Nat.le_refl, Nat.reduceSub, Nat.reduceAdd, Nat.reduceLeDiff, csl_f, csr_f, cn_f, lg_cmp_eq, lg_cmp_le, lg_cmp_lt, lg_cmp_ge, lg_cmp_gt, nI_1, zr_up_self, zp_O, zr_fup_self, zr_fup_ne, ne_eq, Nat.reduceEqDiff, not_false_eq_true, pk_mul, hP, zp_I, zp_0, zp_1, zp_2]
    refine ⟨fun _ => h0 ?_, fun z => (z (nI_le (by omega) (by omega))).elim⟩
    rw [show n = k by omega]
    exact hh
  | succ t ih =>
    intro k hk hh
    have a1 := aL_isA aB
    have a2 := aL_in aB (k := k) (by omega) (by omega)
    have a3 := aL_elt aB (k := k) (by omega) (by omega)
    have b1 := aL_isA aW
    have b2 := aL_in aW (k := k) (by omega) (by omega)
    have b3 := aL_elt aW (k := k) (by omega) (by omega)
    simp only [zs_53_0, zs_53_1, zs_53_3, zs_53_5, zs_53_5u, zs_53_6, zs_53_9, zs_53_12, zs_53_14, zs_53_16, zs_53_19, zs_53_19u, zs_53_20, zs_53_23, zs_53_25, zs_53_26, zs_53_27, zs_53_28, zs_53_31, zs_53_31u, zs_53_32, zs_53_35, zs_53_37, zs_53_38, zs_53_39, zs_53_40, zs_53_43, zs_53_44_0, zs_53_44_1, zs_53_44, zs_53_48, zs_53_51, zs_53_52_0, zs_53_52_1, zs_53_52, zc_isO, zr_fld_mk, zc_isA, zc_len, zr_elt_mk, zr_kill_i, zr_kill_l, zr_kill_r, zr_kill_u, zr_kill_f, zr_kill_n, zc_cat, zr_cat_i, zr_cat_l, zr_cat_r, zr_cat_f, zr_cat_d, zr_cat_u, beq_self_eq_true, Nat.zero_le, Nat.le_refl, Nat.reduceSub, Nat.reduceAdd, Nat.reduceLeDiff, csl_f, csr_f, cn_f, lg_cmp_eq, lg_cmp_le, lg_cmp_lt, lg_cmp_ge, lg_cmp_gt, nI_1, zr_up_self, zp_O, zr_fup_self, zr_fup_ne, ne_eq, Nat.reduceEqDiff, not_false_eq_true, pk_mul, hP, zp_I, zp_0, zp_1, zp_2, a1, a2, a3, b1, b2, b3]
    refine ⟨fun z => absurd z (nI_ge (by omega) (by omega)), fun _ => ⟨fun z => absurd z (nI_ge (b := 30) (by omega) (by omega)), fun _ => ?_⟩⟩
    have nxt : ¬ (fb k = b ∧ fw k = w) → zr_Z d 53 Q 45 [some (.ref p), some (.long b), none, some (.long w), none, some (.int (nI k))] [] h 0 0 := by
      intro y
      simp only [zs_53_0, zs_53_1, zs_53_5, zs_53_5u, zs_53_6, zs_53_9, zs_53_12, zs_53_14, zs_53_16, zs_53_19, zs_53_19u, zs_53_20, zs_53_23, zs_53_25, zs_53_26, zs_53_27, zs_53_28, zs_53_31, zs_53_31u, zs_53_32, zs_53_35, zs_53_37, zs_53_38, zs_53_39, zs_53_40, zs_53_43, zs_53_44_0, zs_53_44_1, zs_53_44, zs_53_45, zs_53_48, zs_53_51, zs_53_52_0, zs_53_52_1, zs_53_52, zc_isO, zr_fld_mk, zc_isA, zc_len, zr_elt_mk, zr_kill_i, zr_kill_l, zr_kill_r, zr_kill_u, zr_kill_f, zr_kill_n, zc_cat, zr_cat_i, zr_cat_l, zr_cat_r, zr_cat_f, zr_cat_d, zr_cat_u, beq_self_eq_true, Nat.zero_le, Nat.le_refl, Nat.reduceSub, Nat.reduceAdd, Nat.reduceLeDiff, csl_f, csr_f, cn_f, lg_cmp_eq, lg_cmp_le, lg_cmp_lt, lg_cmp_ge, lg_cmp_gt, nI_1, zr_up_self, zp_O, zr_fup_self, zr_fup_ne, ne_eq, Nat.reduceEqDiff, not_false_eq_true, pk_mul]
      refine ih (k + 1) (by omega) (fun ⟨j, hj, e⟩ => ?_)
      rcases Nat.lt_or_ge j k with g | g
      · exact hh ⟨j, g, e⟩
      · rw [show j = k by omega] at e
        exact y e
    refine ⟨fun y => nxt (fun e => y e.1), fun y => ⟨fun z => nxt (fun e => z e.2), fun z => h1 ⟨k, by omega, y, z⟩⟩⟩
theorem k_hasP {d : Nat} (v : vP h p pb pw fb fw n) {b w : Int64} (h1 : hasP fb fw n b w → Q (.inl (some (.int 1))) h) (h0 : ¬ hasP fb fw n b w → Q (.inl (some (.int 0))) h) : zr_E (d + 1) 53 [.ref p, .long b, .long w] h Q := by
  rw [ze_53]
  simp only [zs_53_0, zs_53_1, zs_53_5, zs_53_5u, zs_53_6, zs_53_9, zs_53_12, zs_53_14, zs_53_16, zs_53_19, zs_53_19u, zs_53_20, zs_53_23, zs_53_25, zs_53_26, zs_53_27, zs_53_28, zs_53_31, zs_53_31u, zs_53_32, zs_53_35, zs_53_37, zs_53_38, zs_53_39, zs_53_40, zs_53_43, zs_53_44_0, zs_53_44_1, zs_53_44, zs_53_45, zs_53_48, zs_53_51, zs_53_52_0, zs_53_52_1, zs_53_52, zc_isO, zr_fld_mk, zc_isA, zc_len, zr_elt_mk, zr_kill_i, zr_kill_l, zr_kill_r, zr_kill_u, zr_kill_f, zr_kill_n, zc_cat, zr_cat_i, zr_cat_l, zr_cat_r, zr_cat_f, zr_cat_d, zr_cat_u, beq_self_eq_true, Nat.zero_le, Nat.le_refl, Nat.reduceSub, Nat.reduceAdd, Nat.reduceLeDiff, csl_f, csr_f, cn_f, lg_cmp_eq, lg_cmp_le, lg_cmp_lt, lg_cmp_ge, lg_cmp_gt, nI_1, zr_up_self, zp_O, zr_fup_self, zr_fup_ne, ne_eq, Nat.reduceEqDiff, not_false_eq_true, pk_mul]
  exact k_has_ v h1 h0 n 0 (Nat.zero_add _) (fun ⟨j, hj, _⟩ => by omega)
end POS
