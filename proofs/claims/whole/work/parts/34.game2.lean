section GAME
variable {d : Nat} {h : zr_H} {Q : zr_K} {A : Nat → Nat} {R S g : Nat} {b w : Int64} {P : List (Int64 × Int64)} {I : Nat → Int32}
def xA (A : Nat → Nat) : List Nat := [A 0, A 1, A 2, A 3, A 4]
theorem k_ne {h : zr_H} {a c : Nat} {x y : zr_C} (e1 : h a = some x) (e2 : h c = some y) (n : x ≠ y) : a ≠ c := fun e => n (by rw [e, e2] at e1; exact (Option.some.inj e1).symm)
theorem vM_ne (v : vM h A R S b w P I g) : (A 0 ≠ A 1 ∧ A 0 ≠ A 2 ∧ A 0 ≠ A 3 ∧ A 0 ≠ A 4) ∧ (A 1 ≠ A 2 ∧ A 1 ≠ A 3 ∧ A 1 ≠ A 4) ∧ (A 2 ≠ A 3 ∧ A 2 ≠ A 4) ∧ A 3 ≠ A 4 ∧ (g ≠ A 0 ∧ g ≠ A 1 ∧ g ≠ A 2 ∧ g ≠ A 3 ∧ g ≠ A 4) := by
  obtain ⟨hM, hB, hG, hg, fb, fw, ⟨hP, ⟨F, hF, _⟩, ⟨W, hW, _⟩, _, n34⟩, _⟩ := v
  have o : ∀ {k k2 : Nat} {V V2 : Nat → Value}, k ≠ k2 → (Sum.inl (k, V) : zr_C) ≠ Sum.inl (k2, V2) := fun n e => by
    have := Sum.inl.inj e
    exact n (congrArg Prod.fst this)
  have a : ∀ {V : Nat × (Nat → Value)} {y : Nat × Nat × (Nat → Value)}, (Sum.inl V : zr_C) ≠ Sum.inr y := fun e => by cases e
  exact ⟨⟨k_ne hM hB (o (by decide)), k_ne hM hP (o (by decide)), k_ne hM hF a, k_ne hM hW a⟩, ⟨k_ne hB hP (o (by decide)), k_ne hB hF a, k_ne hB hW a⟩, ⟨k_ne hP hF a, k_ne hP hW a⟩, n34, ⟨k_ne hG hM (o (by decide)), k_ne hG hB (o (by decide)), k_ne hG hP (o (by decide)), k_ne hG hF a, k_ne hG hW a⟩⟩
theorem vP_fx {X : List Nat} {h' : zr_H} {p pb pw n : Nat} {fb fw : Nat → Int64} (v : vP h p pb pw fb fw n) (f : fx X h h') (n0 : ¬ p ∈ X) (n1 : ¬ pb ∈ X) (n2 : ¬ pw ∈ X) : vP h' p pb pw fb fw n :=
  ⟨fx_get f n0 v.1, aL_fx v.2.1 f n1, aL_fx v.2.2.1 f n2, v.2.2.2.1, v.2.2.2.2⟩
theorem vM_I (v : vM h A R S b w P I g) (I2 : Nat → Int32) : vM (zr_up h (A 0) (zgm (A 1) (A 2) I2)) A R S b w P I2 g ∧ fx (xA A) h (zr_up h (A 0) (zgm (A 1) (A 2) I2)) := by
  have n := vM_ne v
  obtain ⟨hM, hB, hG, hg, fb, fw, vp, hP⟩ := v
  refine ⟨⟨zr_up_self _ _ _, ?_, ?_, hg, fb, fw, vP_fx vp (fx_up (X := [A 0]) (by simp)) (by simp; exact Ne.symm n.1.2.1) (by simp; exact Ne.symm n.1.2.2.1) (by simp; exact Ne.symm n.1.2.2.2), hP⟩, fx_up (by simp [xA])⟩
  · rw [zr_up_ne _ _ (Ne.symm n.1.1)]; exact hB
  · rw [zr_up_ne _ _ n.2.2.2.2.1]; exact hG
theorem vM_b (v : vM h A R S b w P I g) {g2 R2 S2 : Nat} {b2 w2 : Int64} (hG2 : h g2 = some (zg R2 S2)) (hg2 : vG R2 S2) : vM (zr_up h (A 1) (zbd g2 b2 w2)) A R2 S2 b2 w2 P I g2 ∧ fx (xA A) h (zr_up h (A 1) (zbd g2 b2 w2)) := by
  have n := vM_ne v
  obtain ⟨hM, hB, hG, hg, fb, fw, vp, hP⟩ := v
  have ng : g2 ≠ A 1 := k_ne hG2 hB (fun e => by have := Sum.inl.inj e; exact absurd (show (2 : Nat) = 0 from congrArg Prod.fst this) (by decide))
  refine ⟨⟨?_, zr_up_self _ _ _, ?_, hg2, fb, fw, vP_fx vp (fx_up (X := [A 1]) (by simp)) (by simp; exact Ne.symm n.2.1.1) (by simp; exact Ne.symm n.2.1.2.1) (by simp; exact Ne.symm n.2.1.2.2), hP⟩, fx_up (by simp [xA])⟩
  · rw [zr_up_ne _ _ n.1.1]; exact hM
  · rw [zr_up_ne _ _ ng]; exact hG2
theorem vM_P (v : vM h A R S b w P I g) {h' : zr_H} {fb fw : Nat → Int64} {P2 : List (Int64 × Int64)} (f : fx [A 2, A 3, A 4] h h') (vp : vP h' (A 2) (A 3) (A 4) fb fw P2.length) (hP2 : ∀ k, k < P2.length → P2[k]? = some (fb k, fw k)) : vM h' A R S b w P2 I g ∧ fx (xA A) h h' := by
  have n := vM_ne v
  obtain ⟨hM, hB, hG, hg, -⟩ := v
  refine ⟨⟨fx_get f ?_ hM, fx_get f ?_ hB, fx_get f ?_ hG, hg, fb, fw, vp, hP2⟩, fx_sub f (fun j hj => by simp [xA] at hj ⊢; rcases hj with e | e | e <;> simp [e])⟩
  · simp; exact ⟨n.1.2.1, n.1.2.2.1, n.1.2.2.2⟩
  · simp; exact ⟨n.2.1.1, n.2.1.2.1, n.2.1.2.2⟩
  · simp; exact ⟨n.2.2.2.2.2.2.1, n.2.2.2.2.2.2.2.1, n.2.2.2.2.2.2.2.2⟩
theorem psh_l {P : List (Int64 × Int64)} {fb fw : Nat → Int64} (hP : ∀ k, k < P.length → P[k]? = some (fb k, fw k)) (b w : Int64) (m : Nat) : ∀ k, k < (((b, w) :: P).take m).length → (((b, w) :: P).take m)[k]? = some (psh fb b k, psh fw w k) := by
  intro k hk
  rw [List.length_take, List.length_cons] at hk
  rw [List.getElem?_take_of_lt (by omega)]
  cases k with
  | zero => rfl
  | succ k =>
    rw [List.getElem?_cons_succ, hP k (by omega)]
    rfl
theorem zb_put1 {g : Nat} {b w x : Int64} : (Sum.inl (0, zr_fup (zbV g b w) 1 (.long x)) : zr_C) = zbd g x w := by
  unfold zbd
  congr 2
  funext k
  match k with
  | 0 => rfl
  | 1 => rfl
  | 2 => rfl
  | k + 3 => simp [zr_fup, zbV]
theorem zb_put2 {g : Nat} {b w x : Int64} : (Sum.inl (0, zr_fup (zbV g b w) 2 (.long x)) : zr_C) = zbd g b x := by
  unfold zbd
  congr 2
  funext k
  match k with
  | 0 => rfl
  | 1 => rfl
  | 2 => rfl
  | k + 3 => simp [zr_fup, zbV]
theorem zb_put0 {g g2 : Nat} {b w : Int64} : (Sum.inl (0, zr_fup (zbV g b w) 0 (.ref g2)) : zr_C) = zbd g2 b w := by
  unfold zbd
  congr 2
  funext k
  match k with
  | 0 => rfl
  | 1 => rfl
  | 2 => rfl
  | k + 3 => simp [zr_fup, zbV]
theorem putB1 {q : Nat} {x : Int64} (e : h q = some (zbd g b w)) : zr_putO h q 1 (.long x) = zr_up h q (zbd g x w) := by rw [zr_putO_mk e, zb_put1]
theorem putB2 {q : Nat} {x : Int64} (e : h q = some (zbd g b w)) : zr_putO h q 2 (.long x) = zr_up h q (zbd g b x) := by rw [zr_putO_mk e, zb_put2]
theorem putB0 {q g2 : Nat} (e : h q = some (zbd g b w)) : zr_putO h q 0 (.ref g2) = zr_up h q (zbd g2 b w) := by rw [zr_putO_mk e, zb_put0]
theorem putM {q ib ip k : Nat} {x : Int32} (e : h q = some (zgm ib ip I)) (h2 : 2 ≤ k) (h9 : k ≤ 9) : zr_putO h q k (.int x) = zr_up h q (zgm ib ip (fI I k x)) := by rw [zr_putO_mk e, zm_put h2 h9]
/-- new stones -/
theorem k_rep (v : vM h A R S b w P I g) {b2 w2 : Int64} (hQ : ∀ h', fx (xA A) h h' → vM h' A R S b2 w2 [(b2, w2)] (fI (fI I 7 (-1)) 4 0) g → Q (.inl none) h') : zr_E (d + 3) 29 [.ref (A 0), .long b2, .long w2] h Q := by
  have n := vM_ne v
  rw [ze_29]
  simp only [zs_29_0, zs_29_0u, zs_29_1, zs_29_4, zs_29_5, zs_29_9, zs_29_12, zs_29_13, zs_29_16, zs_29_16u, zs_29_17, zs_29_18, zs_29_21, zs_29_21u, zs_29_22, zs_29_23, zs_29_26, zs_29_26u, zs_29_27, zs_29_30, zs_29_31, zs_29_32, zt_29_32, zs_29_35, zc_isO, zr_fld_mk, zc_isA, zc_len, zr_elt_mk, zr_kill_i, zr_kill_l, zr_kill_r, zr_kill_u, zr_kill_f, zr_kill_n, zc_cat, zr_cat_i, zr_cat_l, zr_cat_r, zr_cat_f, zr_cat_d, zr_cat_u, beq_self_eq_true, Nat.zero_le, Nat.le_refl, Nat.reduceSub, Nat.reduceAdd, Nat.reduceLeDiff, csl_f, csr_f, cn_f, lg_cmp_eq, lg_cmp_le, lg_cmp_lt, lg_cmp_ge, lg_cmp_gt, nI_1, zr_up_self, zp_O, zr_fup_self, zr_fup_ne, ne_eq, Nat.reduceEqDiff, not_false_eq_true, pk_mul, v.1, zm_I, zm_0, v.2.1, zb_O]
  rw [putB1 v.2.1]
  obtain ⟨v2, f2⟩ := vM_b v (b2 := b2) (w2 := w) v.2.2.1 v.2.2.2.1
  generalize zr_up h (A 1) (zbd g b2 w) = h2 at v2 f2 ⊢
  simp only [zs_29_0, zs_29_0u, zs_29_1, zs_29_4, zs_29_5, zs_29_8, zs_29_8u, zs_29_9, zs_29_12, zs_29_13, zs_29_17, zs_29_18, zs_29_21, zs_29_21u, zs_29_22, zs_29_23, zs_29_26, zs_29_26u, zs_29_27, zs_29_30, zs_29_31, zs_29_32, zt_29_32, zs_29_35, zc_isO, zr_fld_mk, zc_isA, zc_len, zr_elt_mk, zr_kill_i, zr_kill_l, zr_kill_r, zr_kill_u, zr_kill_f, zr_kill_n, zc_cat, zr_cat_i, zr_cat_l, zr_cat_r, zr_cat_f, zr_cat_d, zr_cat_u, beq_self_eq_true, Nat.zero_le, Nat.le_refl, Nat.reduceSub, Nat.reduceAdd, Nat.reduceLeDiff, csl_f, csr_f, cn_f, lg_cmp_eq, lg_cmp_le, lg_cmp_lt, lg_cmp_ge, lg_cmp_gt, nI_1, zr_up_self, zp_O, zr_fup_self, zr_fup_ne, ne_eq, Nat.reduceEqDiff, not_false_eq_true, pk_mul, v2.1, zm_I, zm_0, v2.2.1, zb_O]
  rw [putB2 v2.2.1]
  obtain ⟨v3, f3⟩ := vM_b v2 (b2 := b2) (w2 := w2) v2.2.2.1 v.2.2.2.1
  have f3 := fx_trans f2 f3
  generalize zr_up h2 (A 1) (zbd g b2 w2) = h3 at v3 f3 ⊢
  simp only [zs_29_0, zs_29_0u, zs_29_1, zs_29_4, zs_29_5, zs_29_8, zs_29_8u, zs_29_9, zs_29_12, zs_29_13, zs_29_16, zs_29_16u, zs_29_17, zs_29_18, zs_29_22, zs_29_23, zs_29_26, zs_29_26u, zs_29_27, zs_29_30, zs_29_31, zs_29_32, zt_29_32, zs_29_35, zc_isO, zr_fld_mk, zc_isA, zc_len, zr_elt_mk, zr_kill_i, zr_kill_l, zr_kill_r, zr_kill_u, zr_kill_f, zr_kill_n, zc_cat, zr_cat_i, zr_cat_l, zr_cat_r, zr_cat_f, zr_cat_d, zr_cat_u, beq_self_eq_true, Nat.zero_le, Nat.le_refl, Nat.reduceSub, Nat.reduceAdd, Nat.reduceLeDiff, csl_f, csr_f, cn_f, lg_cmp_eq, lg_cmp_le, lg_cmp_lt, lg_cmp_ge, lg_cmp_gt, nI_1, zr_up_self, zp_O, zr_fup_self, zr_fup_ne, ne_eq, Nat.reduceEqDiff, not_false_eq_true, pk_mul, v3.1, zm_I, zm_0]
  rw [putM v3.1 (by omega) (by omega)]
  obtain ⟨v4, f4⟩ := vM_I v3 (fI I 7 (-1))
  have f4 := fx_trans f3 f4
  generalize zr_up h3 (A 0) (zgm (A 1) (A 2) (fI I 7 (-1))) = h4 at v4 f4 ⊢
  simp only [zs_29_0, zs_29_0u, zs_29_1, zs_29_4, zs_29_5, zs_29_8, zs_29_8u, zs_29_9, zs_29_12, zs_29_13, zs_29_16, zs_29_16u, zs_29_17, zs_29_18, zs_29_21, zs_29_21u, zs_29_22, zs_29_23, zs_29_27, zs_29_30, zs_29_31, zs_29_32, zt_29_32, zs_29_35, zc_isO, zr_fld_mk, zc_isA, zc_len, zr_elt_mk, zr_kill_i, zr_kill_l, zr_kill_r, zr_kill_u, zr_kill_f, zr_kill_n, zc_cat, zr_cat_i, zr_cat_l, zr_cat_r, zr_cat_f, zr_cat_d, zr_cat_u, beq_self_eq_true, Nat.zero_le, Nat.le_refl, Nat.reduceSub, Nat.reduceAdd, Nat.reduceLeDiff, csl_f, csr_f, cn_f, lg_cmp_eq, lg_cmp_le, lg_cmp_lt, lg_cmp_ge, lg_cmp_gt, nI_1, zr_up_self, zp_O, zr_fup_self, zr_fup_ne, ne_eq, Nat.reduceEqDiff, not_false_eq_true, pk_mul, v4.1, zm_I, zm_0]
  rw [putM v4.1 (by omega) (by omega)]
  obtain ⟨v5, f5⟩ := vM_I v4 (fI (fI I 7 (-1)) 4 0)
  have f5 := fx_trans f4 f5
  generalize zr_up h4 (A 0) (zgm (A 1) (A 2) (fI (fI I 7 (-1)) 4 0)) = h5 at v5 f5 ⊢
  obtain ⟨fb, fw, vp, hP⟩ := v5.2.2.2.2
  simp only [zs_29_0, zs_29_0u, zs_29_1, zs_29_4, zs_29_5, zs_29_8, zs_29_8u, zs_29_9, zs_29_12, zs_29_13, zs_29_16, zs_29_16u, zs_29_17, zs_29_18, zs_29_21, zs_29_21u, zs_29_22, zs_29_23, zs_29_26, zs_29_26u, zs_29_27, zs_29_30, zs_29_31, zs_29_32, zt_29_32, zs_29_35, zc_isO, zr_fld_mk, zc_isA, zc_len, zr_elt_mk, zr_kill_i, zr_kill_l, zr_kill_r, zr_kill_u, zr_kill_f, zr_kill_n, zc_cat, zr_cat_i, zr_cat_l, zr_cat_r, zr_cat_f, zr_cat_d, zr_cat_u, beq_self_eq_true, Nat.zero_le, Nat.le_refl, Nat.reduceSub, Nat.reduceAdd, Nat.reduceLeDiff, csl_f, csr_f, cn_f, lg_cmp_eq, lg_cmp_le, lg_cmp_lt, lg_cmp_ge, lg_cmp_gt, nI_1, zr_up_self, zp_O, zr_fup_self, zr_fup_ne, ne_eq, Nat.reduceEqDiff, not_false_eq_true, pk_mul, v5.1, zm_I, zm_0, zm_1, vp.1, zp_I]
  refine k_pbeg vp (fun h' f vq => ?_)
  simp only [zs_29_0, zs_29_0u, zs_29_1, zs_29_4, zs_29_5, zs_29_8, zs_29_8u, zs_29_9, zs_29_12, zs_29_13, zs_29_16, zs_29_16u, zs_29_17, zs_29_18, zs_29_21, zs_29_21u, zs_29_22, zs_29_23, zs_29_26, zs_29_26u, zs_29_27, zs_29_30, zs_29_31, zs_29_32, zt_29_32, zs_29_35, zc_isO, zr_fld_mk, zc_isA, zc_len, zr_elt_mk, zr_kill_i, zr_kill_l, zr_kill_r, zr_kill_u, zr_kill_f, zr_kill_n, zc_cat, zr_cat_i, zr_cat_l, zr_cat_r, zr_cat_f, zr_cat_d, zr_cat_u, beq_self_eq_true, Nat.zero_le, Nat.le_refl, Nat.reduceSub, Nat.reduceAdd, Nat.reduceLeDiff, csl_f, csr_f, cn_f, lg_cmp_eq, lg_cmp_le, lg_cmp_lt, lg_cmp_ge, lg_cmp_gt, nI_1, zr_up_self, zp_O, zr_fup_self, zr_fup_ne, ne_eq, Nat.reduceEqDiff, not_false_eq_true, pk_mul]
  obtain ⟨v6, f6⟩ := vM_P v5 (P2 := [(b2, w2)]) f vq (fun k hk => by
    have e : k = 0 := by simp at hk; exact hk
    subst e
    rfl)
  exact hQ h' (fx_trans f5 f6) v6
end GAME
section GAME
variable {d : Nat} {h : zr_H} {Q : zr_K} {A : Nat → Nat} {R S g : Nat} {b w : Int64} {P : List (Int64 × Int64)} {I : Nat → Int32}
def bgI (I : Nat → Int32) : Nat → Int32 := fI (fI (fI (fI (fI I 3 0) 5 0) 6 0) 7 (-1)) 4 0
/-- a new board -/
theorem k_beg (v : vM h A R S b w P I g) {g2 R2 S2 : Nat} {b2 w2 : Int64} (hG2 : h g2 = some (zg R2 S2)) (hg2 : vG R2 S2) (hQ : ∀ h', fx (xA A) h h' → vM h' A R2 S2 b2 w2 [(b2, w2)] (bgI I) g2 → Q (.inl none) h') : zr_E (d + 4) 27 [.ref (A 0), .ref g2, .long b2, .long w2] h Q := by
  rw [ze_27]
  simp only [zs_27_0, zs_27_0u, zs_27_1, zs_27_4, zs_27_4u, zs_27_5, zs_27_9, zs_27_10, zs_27_13, zs_27_13u, zs_27_14, zs_27_15, zs_27_18, zs_27_18u, zs_27_19, zs_27_20, zs_27_23, zs_27_23u, zs_27_24, zs_27_25, zs_27_27, zt_27_27, zs_27_30, zc_isO, zr_fld_mk, zc_isA, zc_len, zr_elt_mk, zr_kill_i, zr_kill_l, zr_kill_r, zr_kill_u, zr_kill_f, zr_kill_n, zc_cat, zr_cat_i, zr_cat_l, zr_cat_r, zr_cat_f, zr_cat_d, zr_cat_u, beq_self_eq_true, Nat.zero_le, Nat.le_refl, Nat.reduceSub, Nat.reduceAdd, Nat.reduceLeDiff, csl_f, csr_f, cn_f, lg_cmp_eq, lg_cmp_le, lg_cmp_lt, lg_cmp_ge, lg_cmp_gt, nI_1, zr_up_self, zp_O, zr_fup_self, zr_fup_ne, ne_eq, Nat.reduceEqDiff, not_false_eq_true, pk_mul, v.1, zm_I, zm_0, v.2.1, zb_O]
  rw [putB0 v.2.1]
  obtain ⟨v2, f2⟩ := vM_b v (b2 := b) (w2 := w) hG2 hg2
  generalize zr_up h (A 1) (zbd g2 b w) = h2 at v2 f2 ⊢
  simp only [zs_27_0, zs_27_0u, zs_27_1, zs_27_4, zs_27_4u, zs_27_5, zs_27_8, zs_27_8u, zs_27_9, zs_27_10, zs_27_14, zs_27_15, zs_27_18, zs_27_18u, zs_27_19, zs_27_20, zs_27_23, zs_27_23u, zs_27_24, zs_27_25, zs_27_27, zt_27_27, zs_27_30, zc_isO, zr_fld_mk, zc_isA, zc_len, zr_elt_mk, zr_kill_i, zr_kill_l, zr_kill_r, zr_kill_u, zr_kill_f, zr_kill_n, zc_cat, zr_cat_i, zr_cat_l, zr_cat_r, zr_cat_f, zr_cat_d, zr_cat_u, beq_self_eq_true, Nat.zero_le, Nat.le_refl, Nat.reduceSub, Nat.reduceAdd, Nat.reduceLeDiff, csl_f, csr_f, cn_f, lg_cmp_eq, lg_cmp_le, lg_cmp_lt, lg_cmp_ge, lg_cmp_gt, nI_1, zr_up_self, zp_O, zr_fup_self, zr_fup_ne, ne_eq, Nat.reduceEqDiff, not_false_eq_true, pk_mul, v2.1, zm_I, zm_0]
  rw [putM v2.1 (by omega) (by omega)]
  obtain ⟨v3, f3⟩ := vM_I v2 (fI I 3 0)
  have f3 := fx_trans f2 f3
  generalize zr_up h2 (A 0) (zgm (A 1) (A 2) (fI I 3 0)) = h3 at v3 f3 ⊢
  simp only [zs_27_0, zs_27_0u, zs_27_1, zs_27_4, zs_27_4u, zs_27_5, zs_27_8, zs_27_8u, zs_27_9, zs_27_10, zs_27_13, zs_27_13u, zs_27_14, zs_27_15, zs_27_19, zs_27_20, zs_27_23, zs_27_23u, zs_27_24, zs_27_25, zs_27_27, zt_27_27, zs_27_30, zc_isO, zr_fld_mk, zc_isA, zc_len, zr_elt_mk, zr_kill_i, zr_kill_l, zr_kill_r, zr_kill_u, zr_kill_f, zr_kill_n, zc_cat, zr_cat_i, zr_cat_l, zr_cat_r, zr_cat_f, zr_cat_d, zr_cat_u, beq_self_eq_true, Nat.zero_le, Nat.le_refl, Nat.reduceSub, Nat.reduceAdd, Nat.reduceLeDiff, csl_f, csr_f, cn_f, lg_cmp_eq, lg_cmp_le, lg_cmp_lt, lg_cmp_ge, lg_cmp_gt, nI_1, zr_up_self, zp_O, zr_fup_self, zr_fup_ne, ne_eq, Nat.reduceEqDiff, not_false_eq_true, pk_mul, v3.1, zm_I, zm_0]
  rw [putM v3.1 (by omega) (by omega)]
  obtain ⟨v4, f4⟩ := vM_I v3 (fI (fI I 3 0) 5 0)
  have f4 := fx_trans f3 f4
  generalize zr_up h3 (A 0) (zgm (A 1) (A 2) (fI (fI I 3 0) 5 0)) = h4 at v4 f4 ⊢
  simp only [zs_27_0, zs_27_0u, zs_27_1, zs_27_4, zs_27_4u, zs_27_5, zs_27_8, zs_27_8u, zs_27_9, zs_27_10, zs_27_13, zs_27_13u, zs_27_14, zs_27_15, zs_27_18, zs_27_18u, zs_27_19, zs_27_20, zs_27_24, zs_27_25, zs_27_27, zt_27_27, zs_27_30, zc_isO, zr_fld_mk, zc_isA, zc_len, zr_elt_mk, zr_kill_i, zr_kill_l, zr_kill_r, zr_kill_u, zr_kill_f, zr_kill_n, zc_cat, zr_cat_i, zr_cat_l, zr_cat_r, zr_cat_f, zr_cat_d, zr_cat_u, beq_self_eq_true, Nat.zero_le, Nat.le_refl, Nat.reduceSub, Nat.reduceAdd, Nat.reduceLeDiff, csl_f, csr_f, cn_f, lg_cmp_eq, lg_cmp_le, lg_cmp_lt, lg_cmp_ge, lg_cmp_gt, nI_1, zr_up_self, zp_O, zr_fup_self, zr_fup_ne, ne_eq, Nat.reduceEqDiff, not_false_eq_true, pk_mul, v4.1, zm_I, zm_0]
  rw [putM v4.1 (by omega) (by omega)]
  obtain ⟨v5, f5⟩ := vM_I v4 (fI (fI (fI I 3 0) 5 0) 6 0)
  have f5 := fx_trans f4 f5
  generalize zr_up h4 (A 0) (zgm (A 1) (A 2) (fI (fI (fI I 3 0) 5 0) 6 0)) = h5 at v5 f5 ⊢
  simp only [zs_27_0, zs_27_0u, zs_27_1, zs_27_4, zs_27_4u, zs_27_5, zs_27_8, zs_27_8u, zs_27_9, zs_27_10, zs_27_13, zs_27_13u, zs_27_14, zs_27_15, zs_27_18, zs_27_18u, zs_27_19, zs_27_20, zs_27_23, zs_27_23u, zs_27_24, zs_27_25, zs_27_27, zt_27_27, zs_27_30, zc_isO, zr_fld_mk, zc_isA, zc_len, zr_elt_mk, zr_kill_i, zr_kill_l, zr_kill_r, zr_kill_u, zr_kill_f, zr_kill_n, zc_cat, zr_cat_i, zr_cat_l, zr_cat_r, zr_cat_f, zr_cat_d, zr_cat_u, beq_self_eq_true, Nat.zero_le, Nat.le_refl, Nat.reduceSub, Nat.reduceAdd, Nat.reduceLeDiff, csl_f, csr_f, cn_f, lg_cmp_eq, lg_cmp_le, lg_cmp_lt, lg_cmp_ge, lg_cmp_gt, nI_1, zr_up_self, zp_O, zr_fup_self, zr_fup_ne, ne_eq, Nat.reduceEqDiff, not_false_eq_true, pk_mul, v5.1, zm_I, zm_0]
  refine k_rep v5 (fun h' f6 v6 => ?_)
  simp only [zs_27_0, zs_27_0u, zs_27_1, zs_27_4, zs_27_4u, zs_27_5, zs_27_8, zs_27_8u, zs_27_9, zs_27_10, zs_27_13, zs_27_13u, zs_27_14, zs_27_15, zs_27_18, zs_27_18u, zs_27_19, zs_27_20, zs_27_23, zs_27_23u, zs_27_24, zs_27_25, zs_27_27, zt_27_27, zs_27_30, zc_isO, zr_fld_mk, zc_isA, zc_len, zr_elt_mk, zr_kill_i, zr_kill_l, zr_kill_r, zr_kill_u, zr_kill_f, zr_kill_n, zc_cat, zr_cat_i, zr_cat_l, zr_cat_r, zr_cat_f, zr_cat_d, zr_cat_u, beq_self_eq_true, Nat.zero_le, Nat.le_refl, Nat.reduceSub, Nat.reduceAdd, Nat.reduceLeDiff, csl_f, csr_f, cn_f, lg_cmp_eq, lg_cmp_le, lg_cmp_lt, lg_cmp_ge, lg_cmp_gt, nI_1, zr_up_self, zp_O, zr_fup_self, zr_fup_ne, ne_eq, Nat.reduceEqDiff, not_false_eq_true, pk_mul]
  exact hQ h' (fx_trans f5 f6) v6
theorem k_bbec {q q2 g2 : Nat} {b2 w2 : Int64} (hB : h q = some (zbd g b w)) (hB2 : h q2 = some (zbd g2 b2 w2)) (n : q2 ≠ q) (hQ : Q (.inl none) (zr_up h q (zbd g2 b2 w2))) : zr_E (d + 1) 1 [.ref q, .ref q2] h Q := by
  have hB3 : ∀ c, zr_up h q c q2 = some (zbd g2 b2 w2) := fun c => by rw [zr_up_ne _ _ n]; exact hB2
  rw [ze_1]
  simp only [zs_1_0, zs_1_0u, zs_1_1, zs_1_1u, zs_1_2, zs_1_5, zs_1_9, zs_1_9u, zs_1_10, zs_1_13, zs_1_16, zs_1_16u, zs_1_17, zs_1_17u, zs_1_18, zs_1_21, zs_1_24, zc_isO, zr_fld_mk, zc_isA, zc_len, zr_elt_mk, zr_kill_i, zr_kill_l, zr_kill_r, zr_kill_u, zr_kill_f, zr_kill_n, zc_cat, zr_cat_i, zr_cat_l, zr_cat_r, zr_cat_f, zr_cat_d, zr_cat_u, beq_self_eq_true, Nat.zero_le, Nat.le_refl, Nat.reduceSub, Nat.reduceAdd, Nat.reduceLeDiff, csl_f, csr_f, cn_f, lg_cmp_eq, lg_cmp_le, lg_cmp_lt, lg_cmp_ge, lg_cmp_gt, nI_1, zr_up_self, zp_O, zr_fup_self, zr_fup_ne, ne_eq, Nat.reduceEqDiff, not_false_eq_true, pk_mul, hB, hB2, zb_O, zb_0, zb_1, zb_2]
  rw [putB0 hB]
  simp only [zs_1_0, zs_1_0u, zs_1_1, zs_1_1u, zs_1_2, zs_1_5, zs_1_8, zs_1_8u, zs_1_9, zs_1_9u, zs_1_10, zs_1_13, zs_1_17, zs_1_17u, zs_1_18, zs_1_21, zs_1_24, zc_isO, zr_fld_mk, zc_isA, zc_len, zr_elt_mk, zr_kill_i, zr_kill_l, zr_kill_r, zr_kill_u, zr_kill_f, zr_kill_n, zc_cat, zr_cat_i, zr_cat_l, zr_cat_r, zr_cat_f, zr_cat_d, zr_cat_u, beq_self_eq_true, Nat.zero_le, Nat.le_refl, Nat.reduceSub, Nat.reduceAdd, Nat.reduceLeDiff, csl_f, csr_f, cn_f, lg_cmp_eq, lg_cmp_le, lg_cmp_lt, lg_cmp_ge, lg_cmp_gt, nI_1, zr_up_self, zp_O, zr_fup_self, zr_fup_ne, ne_eq, Nat.reduceEqDiff, not_false_eq_true, pk_mul, hB3, zb_O, zb_0, zb_1, zb_2]
  rw [putB1 (zr_up_self _ _ _), zr_up_up]
  simp only [zs_1_0, zs_1_0u, zs_1_1, zs_1_1u, zs_1_2, zs_1_5, zs_1_8, zs_1_8u, zs_1_9, zs_1_9u, zs_1_10, zs_1_13, zs_1_16, zs_1_16u, zs_1_17, zs_1_17u, zs_1_18, zs_1_21, zs_1_24, zc_isO, zr_fld_mk, zc_isA, zc_len, zr_elt_mk, zr_kill_i, zr_kill_l, zr_kill_r, zr_kill_u, zr_kill_f, zr_kill_n, zc_cat, zr_cat_i, zr_cat_l, zr_cat_r, zr_cat_f, zr_cat_d, zr_cat_u, beq_self_eq_true, Nat.zero_le, Nat.le_refl, Nat.reduceSub, Nat.reduceAdd, Nat.reduceLeDiff, csl_f, csr_f, cn_f, lg_cmp_eq, lg_cmp_le, lg_cmp_lt, lg_cmp_ge, lg_cmp_gt, nI_1, zr_up_self, zp_O, zr_fup_self, zr_fup_ne, ne_eq, Nat.reduceEqDiff, not_false_eq_true, pk_mul, hB3, zb_O, zb_0, zb_1, zb_2]
  rw [putB2 (zr_up_self _ _ _), zr_up_up]
  exact hQ
/-- all that a game holds is taken over -/
theorem k_bec (v : vM h A R S b w P I g) {A2 : Nat → Nat} {R2 S2 g2 : Nat} {b2 w2 : Int64} {P2 : List (Int64 × Int64)} {I2 : Nat → Int32} (v2 : vM h A2 R2 S2 b2 w2 P2 I2 g2) (hd : ∀ i, i < 5 → ∀ j, j < 5 → A i ≠ A2 j)
    (hQ : ∀ h', fx (xA A) h h' → vM h' A R2 S2 b2 w2 P2 I2 g2 → Q (.inl none) h') : zr_E (d + 2) 28 [.ref (A 0), .ref (A2 0)] h Q := by
  rw [ze_28]
  simp only [zs_28_0, zs_28_0u, zs_28_1, zs_28_4, zs_28_4u, zs_28_5, zs_28_8, zt_28_8, zs_28_11, zs_28_11u, zs_28_12, zs_28_15, zs_28_15u, zs_28_16, zs_28_19, zt_28_19, zs_28_22, zs_28_22u, zs_28_23, zs_28_23u, zs_28_24, zs_28_27, zs_28_30, zs_28_30u, zs_28_31, zs_28_31u, zs_28_32, zs_28_35, zs_28_38, zs_28_38u, zs_28_39, zs_28_39u, zs_28_40, zs_28_43, zs_28_46, zs_28_46u, zs_28_47, zs_28_47u, zs_28_48, zs_28_51, zs_28_54, zs_28_54u, zs_28_55, zs_28_55u, zs_28_56, zs_28_59, zs_28_62, zs_28_62u, zs_28_63, zs_28_63u, zs_28_64, zs_28_67, zs_28_70, zs_28_70u, zs_28_71, zs_28_71u, zs_28_72, zs_28_75, zs_28_78, zs_28_78u, zs_28_79, zs_28_79u, zs_28_80, zs_28_83, zs_28_86, zc_isO, zr_fld_mk, zc_isA, zc_len, zr_elt_mk, zr_kill_i, zr_kill_l, zr_kill_r, zr_kill_u, zr_kill_f, zr_kill_n, zc_cat, zr_cat_i, zr_cat_l, zr_cat_r, zr_cat_f, zr_cat_d, zr_cat_u, beq_self_eq_true, Nat.zero_le, Nat.le_refl, Nat.reduceSub, Nat.reduceAdd, Nat.reduceLeDiff, csl_f, csr_f, cn_f, lg_cmp_eq, lg_cmp_le, lg_cmp_lt, lg_cmp_ge, lg_cmp_gt, nI_1, zr_up_self, zp_O, zr_fup_self, zr_fup_ne, ne_eq, Nat.reduceEqDiff, not_false_eq_true, pk_mul, v.1, v2.1, v.2.1, zm_I, zm_0, zb_O]
  refine k_bbec v.2.1 v2.2.1 (Ne.symm (hd 1 (by omega) 1 (by omega))) ?_
  obtain ⟨v3, f3⟩ := vM_b v (b2 := b2) (w2 := w2) v2.2.2.1 v2.2.2.2.1
  have nX : ∀ j, j < 5 → ¬ A2 j ∈ xA A := fun j hj => by
    simp [xA]
    exact ⟨Ne.symm (hd 0 (by omega) j hj), Ne.symm (hd 1 (by omega) j hj), Ne.symm (hd 2 (by omega) j hj), Ne.symm (hd 3 (by omega) j hj), Ne.symm (hd 4 (by omega) j hj)⟩
  have m2 := fx_get f3 (nX 0 (by omega)) v2.1
  obtain ⟨fb2, fw2, vp2, hP2⟩ := v2.2.2.2.2
  have vp3 := vP_fx vp2 f3 (nX 2 (by omega)) (nX 3 (by omega)) (nX 4 (by omega))
  generalize zr_up h (A 1) (zbd g2 b2 w2) = h2 at v3 f3 m2 vp3 ⊢
  obtain ⟨fb, fw, vp, hP⟩ := v3.2.2.2.2
  simp only [zs_28_0, zs_28_0u, zs_28_1, zs_28_4, zs_28_4u, zs_28_5, zs_28_8, zt_28_8, zs_28_11, zs_28_11u, zs_28_12, zs_28_15, zs_28_15u, zs_28_16, zs_28_19, zt_28_19, zs_28_22, zs_28_22u, zs_28_23, zs_28_23u, zs_28_24, zs_28_27, zs_28_30, zs_28_30u, zs_28_31, zs_28_31u, zs_28_32, zs_28_35, zs_28_38, zs_28_38u, zs_28_39, zs_28_39u, zs_28_40, zs_28_43, zs_28_46, zs_28_46u, zs_28_47, zs_28_47u, zs_28_48, zs_28_51, zs_28_54, zs_28_54u, zs_28_55, zs_28_55u, zs_28_56, zs_28_59, zs_28_62, zs_28_62u, zs_28_63, zs_28_63u, zs_28_64, zs_28_67, zs_28_70, zs_28_70u, zs_28_71, zs_28_71u, zs_28_72, zs_28_75, zs_28_78, zs_28_78u, zs_28_79, zs_28_79u, zs_28_80, zs_28_83, zs_28_86, zc_isO, zr_fld_mk, zc_isA, zc_len, zr_elt_mk, zr_kill_i, zr_kill_l, zr_kill_r, zr_kill_u, zr_kill_f, zr_kill_n, zc_cat, zr_cat_i, zr_cat_l, zr_cat_r, zr_cat_f, zr_cat_d, zr_cat_u, beq_self_eq_true, Nat.zero_le, Nat.le_refl, Nat.reduceSub, Nat.reduceAdd, Nat.reduceLeDiff, csl_f, csr_f, cn_f, lg_cmp_eq, lg_cmp_le, lg_cmp_lt, lg_cmp_ge, lg_cmp_gt, nI_1, zr_up_self, zp_O, zr_fup_self, zr_fup_ne, ne_eq, Nat.reduceEqDiff, not_false_eq_true, pk_mul, v3.1, m2, vp.1, zm_I, zm_0, zm_1, zp_I]
  refine k_pbec vp vp3 (Ne.symm (hd 2 (by omega) 2 (by omega))) (Ne.symm (hd 3 (by omega) 3 (by omega))) (Ne.symm (hd 4 (by omega) 3 (by omega))) (Ne.symm (hd 3 (by omega) 4 (by omega))) (Ne.symm (hd 4 (by omega) 4 (by omega))) (fun h3 f4 vq => ?_)
  obtain ⟨v4, f5⟩ := vM_P v3 f4 vq hP2
  have m3 := fx_get f5 (nX 0 (by omega)) m2
  have f5 := fx_trans f3 f5
  simp only [zs_28_0, zs_28_0u, zs_28_1, zs_28_4, zs_28_4u, zs_28_5, zs_28_8, zt_28_8, zs_28_11, zs_28_11u, zs_28_12, zs_28_15, zs_28_15u, zs_28_16, zs_28_19, zt_28_19, zs_28_22, zs_28_22u, zs_28_23, zs_28_23u, zs_28_24, zs_28_27, zs_28_31, zs_28_31u, zs_28_32, zs_28_35, zs_28_38, zs_28_38u, zs_28_39, zs_28_39u, zs_28_40, zs_28_43, zs_28_46, zs_28_46u, zs_28_47, zs_28_47u, zs_28_48, zs_28_51, zs_28_54, zs_28_54u, zs_28_55, zs_28_55u, zs_28_56, zs_28_59, zs_28_62, zs_28_62u, zs_28_63, zs_28_63u, zs_28_64, zs_28_67, zs_28_70, zs_28_70u, zs_28_71, zs_28_71u, zs_28_72, zs_28_75, zs_28_78, zs_28_78u, zs_28_79, zs_28_79u, zs_28_80, zs_28_83, zs_28_86, zc_isO, zr_fld_mk, zc_isA, zc_len, zr_elt_mk, zr_kill_i, zr_kill_l, zr_kill_r, zr_kill_u, zr_kill_f, zr_kill_n, zc_cat, zr_cat_i, zr_cat_l, zr_cat_r, zr_cat_f, zr_cat_d, zr_cat_u, beq_self_eq_true, Nat.zero_le, Nat.le_refl, Nat.reduceSub, Nat.reduceAdd, Nat.reduceLeDiff, csl_f, csr_f, cn_f, lg_cmp_eq, lg_cmp_le, lg_cmp_lt, lg_cmp_ge, lg_cmp_gt, nI_1, zr_up_self, zp_O, zr_fup_self, zr_fup_ne, ne_eq, Nat.reduceEqDiff, not_false_eq_true, pk_mul, v4.1, m3, zm_I, zm_2]
  rw [putM v4.1 (by omega) (by omega)]
  have key : ∀ (h4 : zr_H) (J : Nat → Int32) (k : Nat) (x : Int32), fx (xA A) h h4 → vM h4 A R2 S2 b2 w2 P2 J g2 → h4 (A2 0) = some (zgm (A2 1) (A2 2) I2) → fx (xA A) h (zr_up h4 (A 0) (zgm (A 1) (A 2) (fI J k x))) ∧ vM (zr_up h4 (A 0) (zgm (A 1) (A 2) (fI J k x))) A R2 S2 b2 w2 P2 (fI J k x) g2 ∧ zr_up h4 (A 0) (zgm (A 1) (A 2) (fI J k x)) (A2 0) = some (zgm (A2 1) (A2 2) I2) := by
    intro h4 J k x a c e
    obtain ⟨p, f⟩ := vM_I c (fI J k x)
    exact ⟨fx_trans a f, p, fx_get f (nX 0 (by omega)) e⟩
  obtain ⟨a1, c1, e1⟩ := key h3 I 2 (I2 2) f5 v4 m3
  generalize zr_up h3 (A 0) (zgm (A 1) (A 2) (fI I 2 (I2 2))) = h4 at a1 c1 e1 ⊢
  simp only [zs_28_0, zs_28_0u, zs_28_1, zs_28_4, zs_28_4u, zs_28_5, zs_28_8, zt_28_8, zs_28_11, zs_28_11u, zs_28_12, zs_28_15, zs_28_15u, zs_28_16, zs_28_19, zt_28_19, zs_28_22, zs_28_22u, zs_28_23, zs_28_23u, zs_28_24, zs_28_27, zs_28_30, zs_28_30u, zs_28_31, zs_28_31u, zs_28_32, zs_28_35, zs_28_39, zs_28_39u, zs_28_40, zs_28_43, zs_28_46, zs_28_46u, zs_28_47, zs_28_47u, zs_28_48, zs_28_51, zs_28_54, zs_28_54u, zs_28_55, zs_28_55u, zs_28_56, zs_28_59, zs_28_62, zs_28_62u, zs_28_63, zs_28_63u, zs_28_64, zs_28_67, zs_28_70, zs_28_70u, zs_28_71, zs_28_71u, zs_28_72, zs_28_75, zs_28_78, zs_28_78u, zs_28_79, zs_28_79u, zs_28_80, zs_28_83, zs_28_86, zc_isO, zr_fld_mk, zc_isA, zc_len, zr_elt_mk, zr_kill_i, zr_kill_l, zr_kill_r, zr_kill_u, zr_kill_f, zr_kill_n, zc_cat, zr_cat_i, zr_cat_l, zr_cat_r, zr_cat_f, zr_cat_d, zr_cat_u, beq_self_eq_true, Nat.zero_le, Nat.le_refl, Nat.reduceSub, Nat.reduceAdd, Nat.reduceLeDiff, csl_f, csr_f, cn_f, lg_cmp_eq, lg_cmp_le, lg_cmp_lt, lg_cmp_ge, lg_cmp_gt, nI_1, zr_up_self, zp_O, zr_fup_self, zr_fup_ne, ne_eq, Nat.reduceEqDiff, not_false_eq_true, pk_mul, c1.1, e1, zm_I, zm_3]
  rw [putM c1.1 (by omega) (by omega)]
  obtain ⟨a2, c2, e2⟩ := key _ _ 3 (I2 3) a1 c1 e1
  generalize zr_up h4 (A 0) (zgm (A 1) (A 2) (fI (fI I 2 (I2 2)) 3 (I2 3))) = h5 at a2 c2 e2 ⊢
  simp only [zs_28_0, zs_28_0u, zs_28_1, zs_28_4, zs_28_4u, zs_28_5, zs_28_8, zt_28_8, zs_28_11, zs_28_11u, zs_28_12, zs_28_15, zs_28_15u, zs_28_16, zs_28_19, zt_28_19, zs_28_22, zs_28_22u, zs_28_23, zs_28_23u, zs_28_24, zs_28_27, zs_28_30, zs_28_30u, zs_28_31, zs_28_31u, zs_28_32, zs_28_35, zs_28_38, zs_28_38u, zs_28_39, zs_28_39u, zs_28_40, zs_28_43, zs_28_47, zs_28_47u, zs_28_48, zs_28_51, zs_28_54, zs_28_54u, zs_28_55, zs_28_55u, zs_28_56, zs_28_59, zs_28_62, zs_28_62u, zs_28_63, zs_28_63u, zs_28_64, zs_28_67, zs_28_70, zs_28_70u, zs_28_71, zs_28_71u, zs_28_72, zs_28_75, zs_28_78, zs_28_78u, zs_28_79, zs_28_79u, zs_28_80, zs_28_83, zs_28_86, zc_isO, zr_fld_mk, zc_isA, zc_len, zr_elt_mk, zr_kill_i, zr_kill_l, zr_kill_r, zr_kill_u, zr_kill_f, zr_kill_n, zc_cat, zr_cat_i, zr_cat_l, zr_cat_r, zr_cat_f, zr_cat_d, zr_cat_u, beq_self_eq_true, Nat.zero_le, Nat.le_refl, Nat.reduceSub, Nat.reduceAdd, Nat.reduceLeDiff, csl_f, csr_f, cn_f, lg_cmp_eq, lg_cmp_le, lg_cmp_lt, lg_cmp_ge, lg_cmp_gt, nI_1, zr_up_self, zp_O, zr_fup_self, zr_fup_ne, ne_eq, Nat.reduceEqDiff, not_false_eq_true, pk_mul, c2.1, e2, zm_I, zm_4]
  rw [putM c2.1 (by omega) (by omega)]
  obtain ⟨a3, c3, e3⟩ := key _ _ 4 (I2 4) a2 c2 e2
  generalize zr_up h5 (A 0) _ = h6 at a3 c3 e3 ⊢
  simp only [zs_28_0, zs_28_0u, zs_28_1, zs_28_4, zs_28_4u, zs_28_5, zs_28_8, zt_28_8, zs_28_11, zs_28_11u, zs_28_12, zs_28_15, zs_28_15u, zs_28_16, zs_28_19, zt_28_19, zs_28_22, zs_28_22u, zs_28_23, zs_28_23u, zs_28_24, zs_28_27, zs_28_30, zs_28_30u, zs_28_31, zs_28_31u, zs_28_32, zs_28_35, zs_28_38, zs_28_38u, zs_28_39, zs_28_39u, zs_28_40, zs_28_43, zs_28_46, zs_28_46u, zs_28_47, zs_28_47u, zs_28_48, zs_28_51, zs_28_55, zs_28_55u, zs_28_56, zs_28_59, zs_28_62, zs_28_62u, zs_28_63, zs_28_63u, zs_28_64, zs_28_67, zs_28_70, zs_28_70u, zs_28_71, zs_28_71u, zs_28_72, zs_28_75, zs_28_78, zs_28_78u, zs_28_79, zs_28_79u, zs_28_80, zs_28_83, zs_28_86, zc_isO, zr_fld_mk, zc_isA, zc_len, zr_elt_mk, zr_kill_i, zr_kill_l, zr_kill_r, zr_kill_u, zr_kill_f, zr_kill_n, zc_cat, zr_cat_i, zr_cat_l, zr_cat_r, zr_cat_f, zr_cat_d, zr_cat_u, beq_self_eq_true, Nat.zero_le, Nat.le_refl, Nat.reduceSub, Nat.reduceAdd, Nat.reduceLeDiff, csl_f, csr_f, cn_f, lg_cmp_eq, lg_cmp_le, lg_cmp_lt, lg_cmp_ge, lg_cmp_gt, nI_1, zr_up_self, zp_O, zr_fup_self, zr_fup_ne, ne_eq, Nat.reduceEqDiff, not_false_eq_true, pk_mul, c3.1, e3, zm_I, zm_5]
  rw [putM c3.1 (by omega) (by omega)]
  obtain ⟨a4, c4, e4⟩ := key _ _ 5 (I2 5) a3 c3 e3
  generalize zr_up h6 (A 0) _ = h7 at a4 c4 e4 ⊢
  simp only [zs_28_0, zs_28_0u, zs_28_1, zs_28_4, zs_28_4u, zs_28_5, zs_28_8, zt_28_8, zs_28_11, zs_28_11u, zs_28_12, zs_28_15, zs_28_15u, zs_28_16, zs_28_19, zt_28_19, zs_28_22, zs_28_22u, zs_28_23, zs_28_23u, zs_28_24, zs_28_27, zs_28_30, zs_28_30u, zs_28_31, zs_28_31u, zs_28_32, zs_28_35, zs_28_38, zs_28_38u, zs_28_39, zs_28_39u, zs_28_40, zs_28_43, zs_28_46, zs_28_46u, zs_28_47, zs_28_47u, zs_28_48, zs_28_51, zs_28_54, zs_28_54u, zs_28_55, zs_28_55u, zs_28_56, zs_28_59, zs_28_63, zs_28_63u, zs_28_64, zs_28_67, zs_28_70, zs_28_70u, zs_28_71, zs_28_71u, zs_28_72, zs_28_75, zs_28_78, zs_28_78u, zs_28_79, zs_28_79u, zs_28_80, zs_28_83, zs_28_86, zc_isO, zr_fld_mk, zc_isA, zc_len, zr_elt_mk, zr_kill_i, zr_kill_l, zr_kill_r, zr_kill_u, zr_kill_f, zr_kill_n, zc_cat, zr_cat_i, zr_cat_l, zr_cat_r, zr_cat_f, zr_cat_d, zr_cat_u, beq_self_eq_true, Nat.zero_le, Nat.le_refl, Nat.reduceSub, Nat.reduceAdd, Nat.reduceLeDiff, csl_f, csr_f, cn_f, lg_cmp_eq, lg_cmp_le, lg_cmp_lt, lg_cmp_ge, lg_cmp_gt, nI_1, zr_up_self, zp_O, zr_fup_self, zr_fup_ne, ne_eq, Nat.reduceEqDiff, not_false_eq_true, pk_mul, c4.1, e4, zm_I, zm_6]
  rw [putM c4.1 (by omega) (by omega)]
  obtain ⟨a5, c5, e5⟩ := key _ _ 6 (I2 6) a4 c4 e4
  generalize zr_up h7 (A 0) _ = h8 at a5 c5 e5 ⊢
  simp only [zs_28_0, zs_28_0u, zs_28_1, zs_28_4, zs_28_4u, zs_28_5, zs_28_8, zt_28_8, zs_28_11, zs_28_11u, zs_28_12, zs_28_15, zs_28_15u, zs_28_16, zs_28_19, zt_28_19, zs_28_22, zs_28_22u, zs_28_23, zs_28_23u, zs_28_24, zs_28_27, zs_28_30, zs_28_30u, zs_28_31, zs_28_31u, zs_28_32, zs_28_35, zs_28_38, zs_28_38u, zs_28_39, zs_28_39u, zs_28_40, zs_28_43, zs_28_46, zs_28_46u, zs_28_47, zs_28_47u, zs_28_48, zs_28_51, zs_28_54, zs_28_54u, zs_28_55, zs_28_55u, zs_28_56, zs_28_59, zs_28_62, zs_28_62u, zs_28_63, zs_28_63u, zs_28_64, zs_28_67, zs_28_71, zs_28_71u, zs_28_72, zs_28_75, zs_28_78, zs_28_78u, zs_28_79, zs_28_79u, zs_28_80, zs_28_83, zs_28_86, zc_isO, zr_fld_mk, zc_isA, zc_len, zr_elt_mk, zr_kill_i, zr_kill_l, zr_kill_r, zr_kill_u, zr_kill_f, zr_kill_n, zc_cat, zr_cat_i, zr_cat_l, zr_cat_r, zr_cat_f, zr_cat_d, zr_cat_u, beq_self_eq_true, Nat.zero_le, Nat.le_refl, Nat.reduceSub, Nat.reduceAdd, Nat.reduceLeDiff, csl_f, csr_f, cn_f, lg_cmp_eq, lg_cmp_le, lg_cmp_lt, lg_cmp_ge, lg_cmp_gt, nI_1, zr_up_self, zp_O, zr_fup_self, zr_fup_ne, ne_eq, Nat.reduceEqDiff, not_false_eq_true, pk_mul, c5.1, e5, zm_I, zm_7]
  rw [putM c5.1 (by omega) (by omega)]
  obtain ⟨a6, c6, e6⟩ := key _ _ 7 (I2 7) a5 c5 e5
  generalize zr_up h8 (A 0) _ = h9 at a6 c6 e6 ⊢
  simp only [zs_28_0, zs_28_0u, zs_28_1, zs_28_4, zs_28_4u, zs_28_5, zs_28_8, zt_28_8, zs_28_11, zs_28_11u, zs_28_12, zs_28_15, zs_28_15u, zs_28_16, zs_28_19, zt_28_19, zs_28_22, zs_28_22u, zs_28_23, zs_28_23u, zs_28_24, zs_28_27, zs_28_30, zs_28_30u, zs_28_31, zs_28_31u, zs_28_32, zs_28_35, zs_28_38, zs_28_38u, zs_28_39, zs_28_39u, zs_28_40, zs_28_43, zs_28_46, zs_28_46u, zs_28_47, zs_28_47u, zs_28_48, zs_28_51, zs_28_54, zs_28_54u, zs_28_55, zs_28_55u, zs_28_56, zs_28_59, zs_28_62, zs_28_62u, zs_28_63, zs_28_63u, zs_28_64, zs_28_67, zs_28_70, zs_28_70u, zs_28_71, zs_28_71u, zs_28_72, zs_28_75, zs_28_79, zs_28_79u, zs_28_80, zs_28_83, zs_28_86, zc_isO, zr_fld_mk, zc_isA, zc_len, zr_elt_mk, zr_kill_i, zr_kill_l, zr_kill_r, zr_kill_u, zr_kill_f, zr_kill_n, zc_cat, zr_cat_i, zr_cat_l, zr_cat_r, zr_cat_f, zr_cat_d, zr_cat_u, beq_self_eq_true, Nat.zero_le, Nat.le_refl, Nat.reduceSub, Nat.reduceAdd, Nat.reduceLeDiff, csl_f, csr_f, cn_f, lg_cmp_eq, lg_cmp_le, lg_cmp_lt, lg_cmp_ge, lg_cmp_gt, nI_1, zr_up_self, zp_O, zr_fup_self, zr_fup_ne, ne_eq, Nat.reduceEqDiff, not_false_eq_true, pk_mul, c6.1, e6, zm_I, zm_8]
  rw [putM c6.1 (by omega) (by omega)]
  obtain ⟨a7, c7, e7⟩ := key _ _ 8 (I2 8) a6 c6 e6
  generalize zr_up h9 (A 0) _ = h10 at a7 c7 e7 ⊢
  simp only [zs_28_0, zs_28_0u, zs_28_1, zs_28_4, zs_28_4u, zs_28_5, zs_28_8, zt_28_8, zs_28_11, zs_28_11u, zs_28_12, zs_28_15, zs_28_15u, zs_28_16, zs_28_19, zt_28_19, zs_28_22, zs_28_22u, zs_28_23, zs_28_23u, zs_28_24, zs_28_27, zs_28_30, zs_28_30u, zs_28_31, zs_28_31u, zs_28_32, zs_28_35, zs_28_38, zs_28_38u, zs_28_39, zs_28_39u, zs_28_40, zs_28_43, zs_28_46, zs_28_46u, zs_28_47, zs_28_47u, zs_28_48, zs_28_51, zs_28_54, zs_28_54u, zs_28_55, zs_28_55u, zs_28_56, zs_28_59, zs_28_62, zs_28_62u, zs_28_63, zs_28_63u, zs_28_64, zs_28_67, zs_28_70, zs_28_70u, zs_28_71, zs_28_71u, zs_28_72, zs_28_75, zs_28_78, zs_28_78u, zs_28_79, zs_28_79u, zs_28_80, zs_28_83, zs_28_86, zc_isO, zr_fld_mk, zc_isA, zc_len, zr_elt_mk, zr_kill_i, zr_kill_l, zr_kill_r, zr_kill_u, zr_kill_f, zr_kill_n, zc_cat, zr_cat_i, zr_cat_l, zr_cat_r, zr_cat_f, zr_cat_d, zr_cat_u, beq_self_eq_true, Nat.zero_le, Nat.le_refl, Nat.reduceSub, Nat.reduceAdd, Nat.reduceLeDiff, csl_f, csr_f, cn_f, lg_cmp_eq, lg_cmp_le, lg_cmp_lt, lg_cmp_ge, lg_cmp_gt, nI_1, zr_up_self, zp_O, zr_fup_self, zr_fup_ne, ne_eq, Nat.reduceEqDiff, not_false_eq_true, pk_mul, c7.1, e7, zm_I, zm_9]
  rw [putM c7.1 (by omega) (by omega)]
  obtain ⟨a8, c8, e8⟩ := key _ _ 9 (I2 9) a7 c7 e7
  refine hQ _ a8 ?_
  have : zgm (A 1) (A 2) (fI (fI (fI (fI (fI (fI (fI (fI I 2 (I2 2)) 3 (I2 3)) 4 (I2 4)) 5 (I2 5)) 6 (I2 6)) 7 (I2 7)) 8 (I2 8)) 9 (I2 9)) = zgm (A 1) (A 2) I2 := by
    unfold zgm
    congr 2
  obtain ⟨z1, z2⟩ := c8
  rw [this] at z1 z2 ⊢
  exact ⟨z1, z2⟩
end GAME
