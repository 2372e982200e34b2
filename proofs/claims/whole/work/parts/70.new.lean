/-! A NEW OBJECT -/
def nwJ : Nat → Int32 := fI (fI (fun _ => 0) 6 0) 7 (-1)
def nwG : gm := (1, 3, 0, 0, [(0, 0)], bgI (fI (fI (fI (fun _ => 0) 2 1) 8 0) 9 0))
section NEW
variable {d : Nat} {h h' : zr_H} {Q : zr_K}
theorem up_none {h : zr_H} {q a : Nat} {c : zr_C} (hq : h q = none) (e : zr_up h q c a = none) : h a = none := by
  by_cases z : a = q
  · rw [z]; exact hq
  · rw [zr_up_ne _ _ z] at e; exact e
theorem k_rnew {q : Nat} (hq : h q = some (zr_dfl 5)) (hQ : ∀ tx gr h', h tx = none → h gr = none → tx ≠ gr → fx [q, tx, gr] h h' → h' q = some (zrd tx gr nwJ 0 0) → aB h' tx 300 (fun _ => 0) → h' gr = some (zg 1 3) → Q (.inl none) h') : zr_E (d + 2) 54 [.ref q] h Q := by
  rw [dfl_eq] at hq
  rw [ze_54]
  simp only [zs_54_0, zs_54_0u, zs_54_1, zs_54_4, zs_54_4u, zs_54_5, zs_54_10, zs_54_13, zs_54_13u, zs_54_17, zs_54_17i, zs_54_18, zs_54_19, zs_54_20, zt_54_20, zs_54_23, zs_54_26, zs_54_26u, zs_54_27, zs_54_28, zs_54_31, zs_54_31u, zs_54_32, zs_54_33, zs_54_36, zc_isO, zr_fld_mk, zc_isA, zc_len, zr_elt_mk, zr_kill_i, zr_kill_l, zr_kill_r, zr_kill_u, zr_kill_f, zr_kill_n, zc_cat, zr_cat_i, zr_cat_l, zr_cat_r, zr_cat_f, zr_cat_d, zr_cat_u, beq_self_eq_true, Nat.zero_le, Nat.le_refl, Nat.reduceSub, Nat.reduceAdd, Nat.reduceLeDiff, csl_f, csr_f, cn_f, lg_cmp_eq, lg_cmp_le, lg_cmp_lt, lg_cmp_ge, lg_cmp_gt, nI_1, zr_up_self, zp_O, zr_fup_self, zr_fup_ne, ne_eq, Nat.reduceEqDiff, not_false_eq_true, pk_mul, hq]
  refine zs_54_8 (by decide) (by decide) (fun tx h1 => ?_)
  have n1 : q ≠ tx := fun e => by rw [e, h1] at hq; cases hq
  have q2 : zr_up h tx (.inr (2, 300, fun _ => defaultValue (zr_at 2))) q = some (.inl (5, dv 5)) := by rw [zr_up_ne _ _ n1]; exact hq
  have t2 : aB (zr_up h tx (.inr (2, 300, fun _ => defaultValue (zr_at 2)))) tx 300 (fun _ => 0) := ⟨_, zr_up_self _ _ _, fun k hk => rfl⟩
  have f2 : fx [q, tx] h (zr_up h tx (.inr (2, 300, fun _ => defaultValue (zr_at 2)))) := fx_up (by simp)
  generalize zr_up h tx (.inr (2, 300, fun _ => defaultValue (zr_at 2))) = h2 at *
  simp only [zs_54_0, zs_54_0u, zs_54_1, zs_54_4, zs_54_4u, zs_54_5, zs_54_10, zs_54_17, zs_54_17i, zs_54_18, zs_54_19, zs_54_20, zt_54_20, zs_54_23, zs_54_26, zs_54_26u, zs_54_27, zs_54_28, zs_54_31, zs_54_31u, zs_54_32, zs_54_33, zs_54_36, zc_isO, zr_fld_mk, zc_isA, zc_len, zr_elt_mk, zr_kill_i, zr_kill_l, zr_kill_r, zr_kill_u, zr_kill_f, zr_kill_n, zc_cat, zr_cat_i, zr_cat_l, zr_cat_r, zr_cat_f, zr_cat_d, zr_cat_u, beq_self_eq_true, Nat.zero_le, Nat.le_refl, Nat.reduceSub, Nat.reduceAdd, Nat.reduceLeDiff, csl_f, csr_f, cn_f, lg_cmp_eq, lg_cmp_le, lg_cmp_lt, lg_cmp_ge, lg_cmp_gt, nI_1, zr_up_self, zp_O, zr_fup_self, zr_fup_ne, ne_eq, Nat.reduceEqDiff, not_false_eq_true, pk_mul, q2]
  rw [zr_putO_mk q2]
  have q3 : zr_up h2 q (.inl (5, zr_fup (dv 5) 0 (.ref tx))) q = some (.inl (5, zr_fup (dv 5) 0 (.ref tx))) := zr_up_self _ _ _
  have t3 := aB_to t2 (zr_up_ne h2 (.inl (5, zr_fup (dv 5) 0 (.ref tx))) (Ne.symm n1))
  have f3 : fx [q, tx] h (zr_up h2 q (.inl (5, zr_fup (dv 5) 0 (.ref tx)))) := fx_trans f2 (fx_up (by simp))
  generalize zr_up h2 q (.inl (5, zr_fup (dv 5) 0 (.ref tx))) = h3 at *
  simp only [zs_54_0, zs_54_0u, zs_54_1, zs_54_4, zs_54_4u, zs_54_5, zs_54_10, zs_54_13, zs_54_13u, zs_54_17, zs_54_17i, zs_54_18, zs_54_19, zs_54_20, zt_54_20, zs_54_23, zs_54_26, zs_54_26u, zs_54_27, zs_54_28, zs_54_31, zs_54_31u, zs_54_32, zs_54_33, zs_54_36, zc_isO, zr_fld_mk, zc_isA, zc_len, zr_elt_mk, zr_kill_i, zr_kill_l, zr_kill_r, zr_kill_u, zr_kill_f, zr_kill_n, zc_cat, zr_cat_i, zr_cat_l, zr_cat_r, zr_cat_f, zr_cat_d, zr_cat_u, beq_self_eq_true, Nat.zero_le, Nat.le_refl, Nat.reduceSub, Nat.reduceAdd, Nat.reduceLeDiff, csl_f, csr_f, cn_f, lg_cmp_eq, lg_cmp_le, lg_cmp_lt, lg_cmp_ge, lg_cmp_gt, nI_1, zr_up_self, zp_O, zr_fup_self, zr_fup_ne, ne_eq, Nat.reduceEqDiff, not_false_eq_true, pk_mul]
  refine zs_54_14 (by decide) (by decide) (fun gr h4 => ?_)
  rw [dfl_eq]
  have n2 : q ≠ gr := fun e => by rw [e, h4] at q3; cases q3
  have n3 : tx ≠ gr := fun e => by obtain ⟨F, e3, -⟩ := t3; rw [e, h4] at e3; cases e3
  have g0 : h gr = none := by rw [← f3 gr (by simp; exact ⟨Ne.symm n2, Ne.symm n3⟩)]; exact h4
  have q4 : zr_up h3 gr (.inl (2, dv 2)) q = some (.inl (5, zr_fup (dv 5) 0 (.ref tx))) := by rw [zr_up_ne _ _ n2]; exact q3
  have t4 := aB_to t3 (zr_up_ne h3 (.inl (2, dv 2)) n3)
  have g4 : zr_up h3 gr (.inl (2, dv 2)) gr = some (zr_dfl 2) := zr_up_self _ _ _
  have f4 : fx [q, tx, gr] h (zr_up h3 gr (.inl (2, dv 2))) := fx_trans (fx_sub f3 (fun j hj => by simp at hj ⊢; rcases hj with e | e <;> simp [e])) (fx_up (by simp))
  generalize zr_up h3 gr (.inl (2, dv 2)) = h5 at *
  simp only [zs_54_0, zs_54_0u, zs_54_1, zs_54_4, zs_54_4u, zs_54_5, zs_54_10, zs_54_13, zs_54_13u, zs_54_17, zs_54_17i, zs_54_18, zs_54_19, zs_54_20, zt_54_20, zs_54_26, zs_54_26u, zs_54_27, zs_54_28, zs_54_31, zs_54_31u, zs_54_32, zs_54_33, zs_54_36, zc_isO, zr_fld_mk, zc_isA, zc_len, zr_elt_mk, zr_kill_i, zr_kill_l, zr_kill_r, zr_kill_u, zr_kill_f, zr_kill_n, zc_cat, zr_cat_i, zr_cat_l, zr_cat_r, zr_cat_f, zr_cat_d, zr_cat_u, beq_self_eq_true, Nat.zero_le, Nat.le_refl, Nat.reduceSub, Nat.reduceAdd, Nat.reduceLeDiff, csl_f, csr_f, cn_f, lg_cmp_eq, lg_cmp_le, lg_cmp_lt, lg_cmp_ge, lg_cmp_gt, nI_1, zr_up_self, zp_O, zr_fup_self, zr_fup_ne, ne_eq, Nat.reduceEqDiff, not_false_eq_true, pk_mul, q4]
  refine k_grid (R := 1) (S := 3) (d := d) ⟨⟨by omega, by omega⟩, by omega, by omega⟩ g4 ?_
  have q5 : zr_up h5 gr (zg 1 3) q = some (.inl (5, zr_fup (dv 5) 0 (.ref tx))) := by rw [zr_up_ne _ _ n2]; exact q4
  have t5 := aB_to t4 (zr_up_ne h5 (zg 1 3) n3)
  have g5 : zr_up h5 gr (zg 1 3) gr = some (zg 1 3) := zr_up_self _ _ _
  have f5 : fx [q, tx, gr] h (zr_up h5 gr (zg 1 3)) := fx_trans f4 (fx_up (by simp))
  generalize zr_up h5 gr (zg 1 3) = h6 at *
  simp only [zs_54_0, zs_54_0u, zs_54_1, zs_54_4, zs_54_4u, zs_54_5, zs_54_10, zs_54_13, zs_54_13u, zs_54_17, zs_54_17i, zs_54_18, zs_54_19, zs_54_20, zt_54_20, zs_54_23, zs_54_27, zs_54_28, zs_54_31, zs_54_31u, zs_54_32, zs_54_33, zs_54_36, zc_isO, zr_fld_mk, zc_isA, zc_len, zr_elt_mk, zr_kill_i, zr_kill_l, zr_kill_r, zr_kill_u, zr_kill_f, zr_kill_n, zc_cat, zr_cat_i, zr_cat_l, zr_cat_r, zr_cat_f, zr_cat_d, zr_cat_u, beq_self_eq_true, Nat.zero_le, Nat.le_refl, Nat.reduceSub, Nat.reduceAdd, Nat.reduceLeDiff, csl_f, csr_f, cn_f, lg_cmp_eq, lg_cmp_le, lg_cmp_lt, lg_cmp_ge, lg_cmp_gt, nI_1, zr_up_self, zp_O, zr_fup_self, zr_fup_ne, ne_eq, Nat.reduceEqDiff, not_false_eq_true, pk_mul, q5, g5, zg_O]
  rw [zr_putO_mk q5]
  have e6 : (Sum.inl (5, zr_fup (zr_fup (dv 5) 0 (.ref tx)) 13 (.ref gr)) : zr_C) = zrd tx gr (fun _ => 0) 0 0 := by
    unfold zrd
    congr 2
    funext k
    match k with
    | 0 => rfl
    | 1 => rfl
    | 2 => rfl
    | 3 => rfl
    | 4 => rfl
    | 5 => rfl
    | 6 => rfl
    | 7 => rfl
    | 8 => rfl
    | 9 => rfl
    | 10 => rfl
    | 11 => rfl
    | 12 => rfl
    | 13 => rfl
    | k + 14 => simp only [zr_fup]; rw [if_neg (by omega), if_neg (by omega)]; rfl
  rw [e6]
  have q7 : zr_up h6 q (zrd tx gr (fun _ => 0) 0 0) q = some (zrd tx gr (fun _ => 0) 0 0) := zr_up_self _ _ _
  have t7 := aB_to t5 (zr_up_ne h6 (zrd tx gr (fun _ => 0) 0 0) (Ne.symm n1))
  have g7 : zr_up h6 q (zrd tx gr (fun _ => 0) 0 0) gr = some (zg 1 3) := by rw [zr_up_ne _ _ (Ne.symm n2)]; exact g5
  have f7 : fx [q, tx, gr] h (zr_up h6 q (zrd tx gr (fun _ => 0) 0 0)) := fx_trans f5 (fx_up (by simp))
  generalize zr_up h6 q (zrd tx gr (fun _ => 0) 0 0) = h7 at *
  simp only [zs_54_0, zs_54_0u, zs_54_1, zs_54_4, zs_54_4u, zs_54_5, zs_54_10, zs_54_13, zs_54_13u, zs_54_17, zs_54_17i, zs_54_18, zs_54_19, zs_54_20, zt_54_20, zs_54_23, zs_54_26, zs_54_26u, zs_54_27, zs_54_28, zs_54_32, zs_54_33, zs_54_36, zc_isO, zr_fld_mk, zc_isA, zc_len, zr_elt_mk, zr_kill_i, zr_kill_l, zr_kill_r, zr_kill_u, zr_kill_f, zr_kill_n, zc_cat, zr_cat_i, zr_cat_l, zr_cat_r, zr_cat_f, zr_cat_d, zr_cat_u, beq_self_eq_true, Nat.zero_le, Nat.le_refl, Nat.reduceSub, Nat.reduceAdd, Nat.reduceLeDiff, csl_f, csr_f, cn_f, lg_cmp_eq, lg_cmp_le, lg_cmp_lt, lg_cmp_ge, lg_cmp_gt, nI_1, zr_up_self, zp_O, zr_fup_self, zr_fup_ne, ne_eq, Nat.reduceEqDiff, not_false_eq_true, pk_mul, q7, zt_I]
  rw [putR q7 (by omega) (by omega)]
  simp only [zs_54_0, zs_54_0u, zs_54_1, zs_54_4, zs_54_4u, zs_54_5, zs_54_10, zs_54_13, zs_54_13u, zs_54_17, zs_54_17i, zs_54_18, zs_54_19, zs_54_20, zt_54_20, zs_54_23, zs_54_26, zs_54_26u, zs_54_27, zs_54_28, zs_54_31, zs_54_31u, zs_54_32, zs_54_33, zc_isO, zr_fld_mk, zc_isA, zc_len, zr_elt_mk, zr_kill_i, zr_kill_l, zr_kill_r, zr_kill_u, zr_kill_f, zr_kill_n, zc_cat, zr_cat_i, zr_cat_l, zr_cat_r, zr_cat_f, zr_cat_d, zr_cat_u, beq_self_eq_true, Nat.zero_le, Nat.le_refl, Nat.reduceSub, Nat.reduceAdd, Nat.reduceLeDiff, csl_f, csr_f, cn_f, lg_cmp_eq, lg_cmp_le, lg_cmp_lt, lg_cmp_ge, lg_cmp_gt, nI_1, zr_up_self, zp_O, zr_fup_self, zr_fup_ne, ne_eq, Nat.reduceEqDiff, not_false_eq_true, pk_mul, zt_I]
  rw [putR (zr_up_self _ _ _) (by omega) (by omega), zr_uu]
  simp only [zs_54_0, zs_54_0u, zs_54_1, zs_54_4, zs_54_4u, zs_54_5, zs_54_10, zs_54_13, zs_54_13u, zs_54_17, zs_54_17i, zs_54_18, zs_54_19, zs_54_20, zt_54_20, zs_54_23, zs_54_26, zs_54_26u, zs_54_27, zs_54_28, zs_54_31, zs_54_31u, zs_54_32, zs_54_33, zs_54_36, zc_isO, zr_fld_mk, zc_isA, zc_len, zr_elt_mk, zr_kill_i, zr_kill_l, zr_kill_r, zr_kill_u, zr_kill_f, zr_kill_n, zc_cat, zr_cat_i, zr_cat_l, zr_cat_r, zr_cat_f, zr_cat_d, zr_cat_u, beq_self_eq_true, Nat.zero_le, Nat.le_refl, Nat.reduceSub, Nat.reduceAdd, Nat.reduceLeDiff, csl_f, csr_f, cn_f, lg_cmp_eq, lg_cmp_le, lg_cmp_lt, lg_cmp_ge, lg_cmp_gt, nI_1, zr_up_self, zp_O, zr_fup_self, zr_fup_ne, ne_eq, Nat.reduceEqDiff, not_false_eq_true, pk_mul]
  exact hQ tx gr _ h1 g0 n3 (fx_trans f7 (fx_up (by simp))) (zr_up_self _ _ _) (aB_to t7 (zr_up_ne _ _ (Ne.symm n1))) (by rw [zr_up_ne _ _ (Ne.symm n2)]; exact g7)
/-- an object being made -/
def zi (h0 h : zr_H) (x : Nat) (O : Nat → Prop) (B : Nat → Nat → Nat) (V : Nat → Option gm) (F : Nat → Value) : Prop :=
  h x = some (.inl (6, F)) ∧ zK h O B V ∧ (∀ q, h0 q ≠ none → q ≠ x → h q = h0 q) ∧ (∀ q, O q → h0 q ≠ none ∧ q ≠ x)
variable {h0 : zr_H} {x : Nat} {O : Nat → Prop} {B : Nat → Nat → Nat} {V : Nat → Option gm} {F : Nat → Value} {A : Nat → Nat} {g : Nat}
theorem zi_O (z : zi h0 h x O B V F) : ∀ q, O q → h q ≠ none := fun q o => by
  have := z.2.2.2 q o
  rw [z.2.2.1 q this.1 this.2]
  exact this.1
/-- a cell that is new -/
theorem zi_al (z : zi h0 h x O B V F) {q : Nat} {c : zr_C} (hq : h q = none) : zi h0 (zr_up h q c) x O B V F := by
  have n1 : x ≠ q := fun e => by rw [← e, z.1] at hq; cases hq
  refine ⟨by rw [zr_up_ne _ _ n1]; exact z.1, zK_fx z.2.1 (fun p _ ⟨c2, e, _⟩ => zr_up_ne _ _ (fun f => by rw [f, hq] at e; cases e)), fun p hp np => ?_, z.2.2.2⟩
  have : p ≠ q := fun f => by
    have := z.2.2.1 p hp np
    rw [f, hq] at this
    rw [f] at hp
    exact hp this.symm
  rw [zr_up_ne _ _ this]
  exact z.2.2.1 p hp np
/-- a cell of its own changes -/
theorem zi_own (z : zi h0 h x O B V F) (f : ∀ p, h' p ≠ h p → p ≠ x ∧ h0 p = none ∧ ¬ gO h p) : zi h0 h' x O B V F := by
  have st : ∀ p, (p = x ∨ h0 p ≠ none ∨ gO h p) → h' p = h p := fun p hp => Classical.byContradiction (fun e => by
    have := f p e
    rcases hp with a | a | a
    · exact this.1 a
    · exact a this.2.1
    · exact this.2.2 a)
  exact ⟨(st x (Or.inl rfl)).trans z.1, zK_fx z.2.1 (fun p _ o => st p (Or.inr (Or.inr o))), fun p hp np => (st p (Or.inr (Or.inl hp))).trans (z.2.2.1 p hp np), z.2.2.2⟩
theorem zi_put (z : zi h0 h x O B V F) {k : Nat} {v : Value} : zi h0 (zr_putO h x k v) x O B V (zr_fup F k v) := by
  rw [zr_putO_mk z.1]
  refine ⟨zr_up_self _ _ _, zK_fx z.2.1 (fun p _ ⟨c2, e, n⟩ => zr_up_ne _ _ (fun f => by rw [f, z.1] at e; cases e; cases n)), fun p hp np => ?_, z.2.2.2⟩
  rw [zr_up_ne _ _ np]
  exact z.2.2.1 p hp np
/-- a game that is new -/
theorem zi_g (z : zi h0 h x O B V F) {i q : Nat} {G : gm} (hi : i < 11) (hV : V i = none) (hq : h q = none) (eq : A 0 = q) (nA : ∀ i, 1 ≤ i → i < 5 → zr_up h q (zr_dfl 1) (A i) = none) (ng : zr_up h q (zr_dfl 1) g = none) (f1 : fx (g :: xA A) (zr_up h q (zr_dfl 1)) h') (v : vMg h' A G g) : zi h0 h' x O (vu B i A) (vu V i (some G)) F ∧ fx (g :: xA A) h h' ∧ (∀ p, h p ≠ none → h' p = h p) := by
  have nA2 : ∀ i, i < 5 → h (A i) = none := fun i hi => by
    rcases Nat.eq_zero_or_pos i with z | z
    · subst z; rw [eq]; exact hq
    · exact up_none hq (nA i z hi)
  have ng2 := up_none hq ng
  have f0 : fx (g :: xA A) h h' := fx_trans (fx_up (by subst eq; simp [xA])) f1
  have st : ∀ p, h p ≠ none → h' p = h p := fun p hp => f0 p (fun m => by
    rcases List.mem_cons.mp m with y | y
    · exact hp (y ▸ ng2)
    · obtain ⟨l, hl, y⟩ := xA_m.mp y
      exact hp (y ▸ nA2 l hl))
  refine ⟨⟨?_, zK_new z.2.1 hi (zi_O z) hV nA2 ng2 f0 v, fun p hp np => ?_, z.2.2.2⟩, f0, st⟩
  · rw [st x (by rw [z.1]; intro y; cases y)]; exact z.1
  · have := z.2.2.1 p hp np
    rw [st p (by rw [this]; exact hp)]
    exact this
def nwV (i : Nat) : Nat → Option gm := fun k => if k < i then some nwG else none
theorem nwV_s (i : Nat) : vu (nwV i) i (some nwG) = nwV (i + 1) := by
  funext k
  unfold vu nwV
  by_cases e : k = i
  · rw [if_pos e, if_pos (by omega)]
  · rw [if_neg e]
    by_cases g : k < i
    · rw [if_pos g, if_pos (by omega)]
    · rw [if_neg g, if_neg (by omega)]
theorem k_xnew (hx : h x = some (zr_dfl 6)) (hO : ∀ q, O q → h q ≠ none ∧ q ≠ x) (hQ : ∀ h' B D, D 0 = x → (∀ q, O q → h' q = h q) → vC h' O B D (nwV 9) 0 0 nwJ 0 0 (fun _ => 0) (fun _ => 0) → Q (.inl none) h') : zr_E (d + 6) 73 [.ref x] h Q := by
  rw [dfl_eq] at hx
  have z0 : zi h h x O (fun _ _ => 0) (nwV 0) (dv 6) := ⟨hx, ⟨fun i G hi e => (by unfold nwV at e; rw [if_neg (by omega)] at e; cases e), fun i k G G' hi hk ne e => (by unfold nwV at e; rw [if_neg (by omega)] at e; cases e)⟩, fun _ _ _ => rfl, hO⟩
  have xI : ∀ {F : Nat → Value}, zr_isO (some (.inl (6, F) : zr_C)) 6 = true := rfl
  rw [ze_73]
  simp only [zs_73_0, zs_73_0u, zs_73_1, zs_73_4, zs_73_4u, zs_73_8, zs_73_8i, zs_73_9, zt_73_9, zs_73_12, zs_73_15, zs_73_15u, zs_73_16, zs_73_21, zs_73_24, zs_73_25, zs_73_26, zs_73_27, zs_73_29, zs_73_32, zs_73_32u, zs_73_33, zs_73_36, zs_73_40, zs_73_40i, zs_73_41, zt_73_41, zs_73_44, zs_73_45, zs_73_48, zs_73_51, zs_73_51u, zs_73_52, zs_73_56, zs_73_59, zs_73_59u, zs_73_63, zs_73_63i, zs_73_64, zt_73_64, zs_73_67, zs_73_70, zs_73_70u, zs_73_71, zs_73_75, zs_73_78, zs_73_78u, zs_73_79, zs_73_80, zs_73_83, zs_73_83u, zs_73_84, zs_73_85, zs_73_88, zc_isO, zr_fld_mk, zc_isA, zc_len, zr_elt_mk, zr_kill_i, zr_kill_l, zr_kill_r, zr_kill_u, zr_kill_f, zr_kill_n, zc_cat, zr_cat_i, zr_cat_l, zr_cat_r, zr_cat_f, zr_cat_d, zr_cat_u, beq_self_eq_true, Nat.zero_le, Nat.le_refl, Nat.reduceSub, Nat.reduceAdd, Nat.reduceLeDiff, csl_f, csr_f, cn_f, lg_cmp_eq, lg_cmp_le, lg_cmp_lt, lg_cmp_ge, lg_cmp_gt, nI_1, zr_up_self, zp_O, zr_fup_self, zr_fup_ne, ne_eq, Nat.reduceEqDiff, not_false_eq_true, pk_mul]
  refine zs_73_5 (by decide) (by decide) (fun q hq => ?_)
  have c1 : 5 ≤ 83 - 1 := by decide
  have c2 : 72 ≤ 3312 - 10 := by decide
  simp only [zs_73_0, zs_73_0u, zs_73_1, zs_73_4, zs_73_4u, zs_73_8, zs_73_8i, zs_73_9, zt_73_9, zs_73_15, zs_73_15u, zs_73_16, zs_73_21, zs_73_24, zs_73_25, zs_73_26, zs_73_27, zs_73_29, zs_73_32, zs_73_32u, zs_73_33, zs_73_36, zs_73_40, zs_73_40i, zs_73_41, zt_73_41, zs_73_44, zs_73_45, zs_73_48, zs_73_51, zs_73_51u, zs_73_52, zs_73_56, zs_73_59, zs_73_59u, zs_73_63, zs_73_63i, zs_73_64, zt_73_64, zs_73_67, zs_73_70, zs_73_70u, zs_73_71, zs_73_75, zs_73_78, zs_73_78u, zs_73_79, zs_73_80, zs_73_83, zs_73_83u, zs_73_84, zs_73_85, zs_73_88, zc_isO, zr_fld_mk, zc_isA, zc_len, zr_elt_mk, zr_kill_i, zr_kill_l, zr_kill_r, zr_kill_u, zr_kill_f, zr_kill_n, zc_cat, zr_cat_i, zr_cat_l, zr_cat_r, zr_cat_f, zr_cat_d, zr_cat_u, beq_self_eq_true, Nat.zero_le, Nat.le_refl, Nat.reduceSub, Nat.reduceAdd, Nat.reduceLeDiff, csl_f, csr_f, cn_f, lg_cmp_eq, lg_cmp_le, lg_cmp_lt, lg_cmp_ge, lg_cmp_gt, nI_1, zr_up_self, zp_O, zr_fup_self, zr_fup_ne, ne_eq, Nat.reduceEqDiff, not_false_eq_true, pk_mul, c1, c2]
  refine k_gnew (d := d) (q := q) (zr_up_self _ _ _) (fun A g h1 eq nA ng f1 v1 => ?_)
  obtain ⟨z1, f1', st1⟩ := zi_g z0 (i := 0) (G := nwG) (by omega) rfl hq eq nA ng f1 v1
  rw [nwV_s] at z1
  have b1 : zr_isO (h1 q) 1 = true := by rw [← eq, v1.1]; exact zm_I
  simp only [zs_73_0, zs_73_0u, zs_73_1, zs_73_4, zs_73_4u, zs_73_8, zs_73_8i, zs_73_9, zt_73_9, zs_73_12, zs_73_16, zs_73_21, zs_73_24, zs_73_25, zs_73_26, zs_73_27, zs_73_29, zs_73_32, zs_73_32u, zs_73_33, zs_73_36, zs_73_40, zs_73_40i, zs_73_41, zt_73_41, zs_73_44, zs_73_45, zs_73_48, zs_73_51, zs_73_51u, zs_73_52, zs_73_56, zs_73_59, zs_73_59u, zs_73_63, zs_73_63i, zs_73_64, zt_73_64, zs_73_67, zs_73_70, zs_73_70u, zs_73_71, zs_73_75, zs_73_78, zs_73_78u, zs_73_79, zs_73_80, zs_73_83, zs_73_83u, zs_73_84, zs_73_85, zs_73_88, zc_isO, zr_fld_mk, zc_isA, zc_len, zr_elt_mk, zr_kill_i, zr_kill_l, zr_kill_r, zr_kill_u, zr_kill_f, zr_kill_n, zc_cat, zr_cat_i, zr_cat_l, zr_cat_r, zr_cat_f, zr_cat_d, zr_cat_u, beq_self_eq_true, Nat.zero_le, Nat.le_refl, Nat.reduceSub, Nat.reduceAdd, Nat.reduceLeDiff, csl_f, csr_f, cn_f, lg_cmp_eq, lg_cmp_le, lg_cmp_lt, lg_cmp_ge, lg_cmp_gt, nI_1, zr_up_self, zp_O, zr_fup_self, zr_fup_ne, ne_eq, Nat.reduceEqDiff, not_false_eq_true, pk_mul, b1, z1.1, xI]
  have z2 := zi_put z1 (k := 0) (v := .ref q)
  generalize zr_putO h1 x 0 (.ref q) = h2 at *
  generalize hF2 : zr_fup (dv 6) 0 (.ref q) = F2 at *
  simp only [zs_73_0, zs_73_0u, zs_73_1, zs_73_4, zs_73_4u, zs_73_8, zs_73_8i, zs_73_9, zt_73_9, zs_73_12, zs_73_15, zs_73_15u, zs_73_16, zs_73_21, zs_73_24, zs_73_25, zs_73_26, zs_73_27, zs_73_29, zs_73_32, zs_73_32u, zs_73_33, zs_73_36, zs_73_40, zs_73_40i, zs_73_41, zt_73_41, zs_73_44, zs_73_45, zs_73_48, zs_73_51, zs_73_51u, zs_73_52, zs_73_56, zs_73_59, zs_73_59u, zs_73_63, zs_73_63i, zs_73_64, zt_73_64, zs_73_67, zs_73_70, zs_73_70u, zs_73_71, zs_73_75, zs_73_78, zs_73_78u, zs_73_79, zs_73_80, zs_73_83, zs_73_83u, zs_73_84, zs_73_85, zs_73_88, zc_isO, zr_fld_mk, zc_isA, zc_len, zr_elt_mk, zr_kill_i, zr_kill_l, zr_kill_r, zr_kill_u, zr_kill_f, zr_kill_n, zc_cat, zr_cat_i, zr_cat_l, zr_cat_r, zr_cat_f, zr_cat_d, zr_cat_u, beq_self_eq_true, Nat.zero_le, Nat.le_refl, Nat.reduceSub, Nat.reduceAdd, Nat.reduceLeDiff, csl_f, csr_f, cn_f, lg_cmp_eq, lg_cmp_le, lg_cmp_lt, lg_cmp_ge, lg_cmp_gt, nI_1, zr_up_self, zp_O, zr_fup_self, zr_fup_ne, ne_eq, Nat.reduceEqDiff, not_false_eq_true, pk_mul]
  refine zs_73_18 (by decide) (by decide) (fun ea hea => ?_)
  have z3 := zi_al z2 (c := .inr (5, 8, fun _ => .null)) hea
  have a3 : aV 5 (zr_up h2 ea (.inr (5, 8, fun _ => .null))) ea 8 (fun _ => .null) := ⟨_, zr_up_self _ _ _, fun _ _ => rfl⟩
  generalize zr_up h2 ea (.inr (5, 8, fun _ => .null)) = h3 at *
  have xea : x ≠ ea := fun e => by rw [← e, z2.1] at hea; cases hea
  have i3 : zr_isA (h3 ea) 5 = true := aV_isA a3
  have ea0 : h ea = none := Classical.byContradiction (fun e => by
    have := z2.2.2.1 ea e (Ne.symm xea)
    rw [hea] at this
    exact e this.symm)
  simp only [zs_73_0, zs_73_0u, zs_73_1, zs_73_4, zs_73_4u, zs_73_8, zs_73_8i, zs_73_9, zt_73_9, zs_73_12, zs_73_15, zs_73_15u, zs_73_16, zs_73_21, zs_73_25, zs_73_26, zs_73_27, zs_73_29, zs_73_32, zs_73_32u, zs_73_33, zs_73_36, zs_73_40, zs_73_40i, zs_73_41, zt_73_41, zs_73_44, zs_73_45, zs_73_48, zs_73_51, zs_73_51u, zs_73_52, zs_73_56, zs_73_59, zs_73_59u, zs_73_63, zs_73_63i, zs_73_64, zt_73_64, zs_73_67, zs_73_70, zs_73_70u, zs_73_71, zs_73_75, zs_73_78, zs_73_78u, zs_73_79, zs_73_80, zs_73_83, zs_73_83u, zs_73_84, zs_73_85, zs_73_88, zc_isO, zr_fld_mk, zc_isA, zc_len, zr_elt_mk, zr_kill_i, zr_kill_l, zr_kill_r, zr_kill_u, zr_kill_f, zr_kill_n, zc_cat, zr_cat_i, zr_cat_l, zr_cat_r, zr_cat_f, zr_cat_d, zr_cat_u, beq_self_eq_true, Nat.zero_le, Nat.le_refl, Nat.reduceSub, Nat.reduceAdd, Nat.reduceLeDiff, csl_f, csr_f, cn_f, lg_cmp_eq, lg_cmp_le, lg_cmp_lt, lg_cmp_ge, lg_cmp_gt, nI_1, zr_up_self, zp_O, zr_fup_self, zr_fup_ne, ne_eq, Nat.reduceEqDiff, not_false_eq_true, pk_mul, z3.1, xI, i3]
  have z4 := zi_put z3 (k := 1) (v := .ref ea)
  have a4 : aV 5 (zr_putO h3 x 1 (.ref ea)) ea 8 (fun _ => .null) := aV_to a3 (by rw [zr_putO_mk z3.1, zr_up_ne _ _ (Ne.symm xea)])
  generalize zr_putO h3 x 1 (.ref ea) = h4 at *
  have F0 : zr_fup F2 1 (.ref ea) 0 = .ref q := by subst hF2; rfl
  have F1 : zr_fup F2 1 (.ref ea) 1 = .ref ea := rfl
  have Fr : ∀ k, 2 ≤ k → zr_fup F2 1 (.ref ea) k = dv 6 k := fun k hk => by subst hF2; simp only [zr_fup]; rw [if_neg (by omega), if_neg (by omega)]
  generalize zr_fup F2 1 (.ref ea) = F4 at *
  simp only [zs_73_0, zs_73_0u, zs_73_1, zs_73_4, zs_73_4u, zs_73_8, zs_73_8i, zs_73_9, zt_73_9, zs_73_12, zs_73_15, zs_73_15u, zs_73_16, zs_73_21, zs_73_24, zs_73_25, zs_73_27, zs_73_29, zs_73_32, zs_73_32u, zs_73_33, zs_73_36, zs_73_40, zs_73_40i, zs_73_41, zt_73_41, zs_73_44, zs_73_45, zs_73_48, zs_73_51, zs_73_51u, zs_73_52, zs_73_56, zs_73_59, zs_73_59u, zs_73_63, zs_73_63i, zs_73_64, zt_73_64, zs_73_67, zs_73_70, zs_73_70u, zs_73_71, zs_73_75, zs_73_78, zs_73_78u, zs_73_79, zs_73_80, zs_73_83, zs_73_83u, zs_73_84, zs_73_85, zs_73_88, zc_isO, zr_fld_mk, zc_isA, zc_len, zr_elt_mk, zr_kill_i, zr_kill_l, zr_kill_r, zr_kill_u, zr_kill_f, zr_kill_n, zc_cat, zr_cat_i, zr_cat_l, zr_cat_r, zr_cat_f, zr_cat_d, zr_cat_u, beq_self_eq_true, Nat.zero_le, Nat.le_refl, Nat.reduceSub, Nat.reduceAdd, Nat.reduceLeDiff, csl_f, csr_f, cn_f, lg_cmp_eq, lg_cmp_le, lg_cmp_lt, lg_cmp_ge, lg_cmp_gt, nI_1, zr_up_self, zp_O, zr_fup_self, zr_fup_ne, ne_eq, Nat.reduceEqDiff, not_false_eq_true, pk_mul]
  have loop : ∀ t i kc ks h5 B5, i + t = 8 → kc = 28 + 6 * t → ks = 2566 + 82 * t → zi h h5 x O B5 (nwV (i + 1)) F4 → B5 0 0 = q → aV 5 h5 ea 8 (fun k => if k < i then .ref (B5 (k + 1) 0) else .null) →
      (∀ h6 B6, zi h h6 x O B6 (nwV 9) F4 → B6 0 0 = q → aV 5 h6 ea 8 (fun k => .ref (B6 (k + 1) 0)) → zr_Z (d + 5) 73 Q 51 [some (.ref x), some (.int (nI 8))] [] h6 28 2566) → zr_Z (d + 5) 73 Q 26 [some (.ref x), some (.int (nI i))] [] h5 kc ks := by
    intro t
    induction t with
    | zero =>
      intro i kc ks h5 B5 hi hk hs z5 e5 a5 K
      have ei : i = 8 := by omega
      subst ei hk hs
      simp only [zs_73_0, zs_73_0u, zs_73_1, zs_73_4, zs_73_4u, zs_73_8, zs_73_8i, zs_73_9, zt_73_9, zs_73_12, zs_73_15, zs_73_15u, zs_73_16, zs_73_21, zs_73_24, zs_73_25, zs_73_26, zs_73_27, zs_73_29, zs_73_32, zs_73_32u, zs_73_33, zs_73_36, zs_73_40, zs_73_40i, zs_73_41, zt_73_41, zs_73_44, zs_73_45, zs_73_48, zs_73_52, zs_73_56, zs_73_59, zs_73_59u, zs_73_63, zs_73_63i, zs_73_64, zt_73_64, zs_73_67, zs_73_70, zs_73_70u, zs_73_71, zs_73_75, zs_73_78, zs_73_78u, zs_73_79, zs_73_80, zs_73_83, zs_73_83u, zs_73_84, zs_73_85, zs_73_88, zc_isO, zr_fld_mk, zc_isA, zc_len, zr_elt_mk, zr_kill_i, zr_kill_l, zr_kill_r, zr_kill_u, zr_kill_f, zr_kill_n, zc_cat, zr_cat_i, zr_cat_l, zr_cat_r, zr_cat_f, zr_cat_d, zr_cat_u, beq_self_eq_true, Nat.zero_le, Nat.le_refl, Nat.reduceSub, Nat.reduceAdd, Nat.reduceLeDiff, csl_f, csr_f, cn_f, lg_cmp_eq, lg_cmp_le, lg_cmp_lt, lg_cmp_ge, lg_cmp_gt, nI_1, zr_up_self, zp_O, zr_fup_self, zr_fup_ne, ne_eq, Nat.reduceEqDiff, not_false_eq_true, pk_mul]
      refine ⟨fun _ => ?_, fun y => absurd (by decide) y⟩
      exact K h5 B5 z5 e5 (aV_eq a5 (fun k hk => by rw [if_pos hk]))
    | succ t ih =>
      intro i kc ks h5 B5 hi hk hs z5 e5 a5 K
      have g1 : zr_fld (some (.inl (6, F4) : zr_C)) 1 = .ref ea := F1
      simp only [zs_73_0, zs_73_0u, zs_73_1, zs_73_4, zs_73_4u, zs_73_8, zs_73_8i, zs_73_9, zt_73_9, zs_73_12, zs_73_15, zs_73_15u, zs_73_16, zs_73_21, zs_73_24, zs_73_25, zs_73_26, zs_73_27, zs_73_29, zs_73_33, zs_73_36, zs_73_40, zs_73_40i, zs_73_41, zt_73_41, zs_73_44, zs_73_45, zs_73_48, zs_73_51, zs_73_51u, zs_73_52, zs_73_56, zs_73_59, zs_73_59u, zs_73_63, zs_73_63i, zs_73_64, zt_73_64, zs_73_67, zs_73_70, zs_73_70u, zs_73_71, zs_73_75, zs_73_78, zs_73_78u, zs_73_79, zs_73_80, zs_73_83, zs_73_83u, zs_73_84, zs_73_85, zs_73_88, zc_isO, zr_fld_mk, zc_isA, zc_len, zr_elt_mk, zr_kill_i, zr_kill_l, zr_kill_r, zr_kill_u, zr_kill_f, zr_kill_n, zc_cat, zr_cat_i, zr_cat_l, zr_cat_r, zr_cat_f, zr_cat_d, zr_cat_u, beq_self_eq_true, Nat.zero_le, Nat.le_refl, Nat.reduceSub, Nat.reduceAdd, Nat.reduceLeDiff, csl_f, csr_f, cn_f, lg_cmp_eq, lg_cmp_le, lg_cmp_lt, lg_cmp_ge, lg_cmp_gt, nI_1, zr_up_self, zp_O, zr_fup_self, zr_fup_ne, ne_eq, Nat.reduceEqDiff, not_false_eq_true, pk_mul]
      refine ⟨fun y => absurd y (nI_ge (b := 8) (by omega) (by omega)), fun _ => ?_⟩
      simp only [zs_73_0, zs_73_0u, zs_73_1, zs_73_4, zs_73_4u, zs_73_8, zs_73_8i, zs_73_9, zt_73_9, zs_73_12, zs_73_15, zs_73_15u, zs_73_16, zs_73_21, zs_73_24, zs_73_25, zs_73_26, zs_73_27, zs_73_29, zs_73_32, zs_73_32u, zs_73_33, zs_73_36, zs_73_40, zs_73_40i, zs_73_41, zt_73_41, zs_73_44, zs_73_45, zs_73_48, zs_73_51, zs_73_51u, zs_73_52, zs_73_56, zs_73_59, zs_73_59u, zs_73_63, zs_73_63i, zs_73_64, zt_73_64, zs_73_67, zs_73_70, zs_73_70u, zs_73_71, zs_73_75, zs_73_78, zs_73_78u, zs_73_79, zs_73_80, zs_73_83, zs_73_83u, zs_73_84, zs_73_85, zs_73_88, zc_isO, zr_fld_mk, zc_isA, zc_len, zr_elt_mk, zr_kill_i, zr_kill_l, zr_kill_r, zr_kill_u, zr_kill_f, zr_kill_n, zc_cat, zr_cat_i, zr_cat_l, zr_cat_r, zr_cat_f, zr_cat_d, zr_cat_u, beq_self_eq_true, Nat.zero_le, Nat.le_refl, Nat.reduceSub, Nat.reduceAdd, Nat.reduceLeDiff, csl_f, csr_f, cn_f, lg_cmp_eq, lg_cmp_le, lg_cmp_lt, lg_cmp_ge, lg_cmp_gt, nI_1, zr_up_self, zp_O, zr_fup_self, zr_fup_ne, ne_eq, Nat.reduceEqDiff, not_false_eq_true, pk_mul, z5.1, xI, g1]
      refine zs_73_37 (by omega) (by omega) (fun q6 hq6 => ?_)
      have c1 : 5 ≤ kc - 1 := by omega
      have c2 : 72 ≤ ks - 10 := by omega
      simp only [zs_73_0, zs_73_0u, zs_73_1, zs_73_4, zs_73_4u, zs_73_8, zs_73_8i, zs_73_9, zt_73_9, zs_73_12, zs_73_15, zs_73_15u, zs_73_16, zs_73_21, zs_73_24, zs_73_25, zs_73_26, zs_73_27, zs_73_29, zs_73_32, zs_73_32u, zs_73_33, zs_73_36, zs_73_40, zs_73_40i, zs_73_41, zt_73_41, zs_73_45, zs_73_48, zs_73_51, zs_73_51u, zs_73_52, zs_73_56, zs_73_59, zs_73_59u, zs_73_63, zs_73_63i, zs_73_64, zt_73_64, zs_73_67, zs_73_70, zs_73_70u, zs_73_71, zs_73_75, zs_73_78, zs_73_78u, zs_73_79, zs_73_80, zs_73_83, zs_73_83u, zs_73_84, zs_73_85, zs_73_88, zc_isO, zr_fld_mk, zc_isA, zc_len, zr_elt_mk, zr_kill_i, zr_kill_l, zr_kill_r, zr_kill_u, zr_kill_f, zr_kill_n, zc_cat, zr_cat_i, zr_cat_l, zr_cat_r, zr_cat_f, zr_cat_d, zr_cat_u, beq_self_eq_true, Nat.zero_le, Nat.le_refl, Nat.reduceSub, Nat.reduceAdd, Nat.reduceLeDiff, csl_f, csr_f, cn_f, lg_cmp_eq, lg_cmp_le, lg_cmp_lt, lg_cmp_ge, lg_cmp_gt, nI_1, zr_up_self, zp_O, zr_fup_self, zr_fup_ne, ne_eq, Nat.reduceEqDiff, not_false_eq_true, pk_mul, c1, c2]
      refine k_gnew (d := d) (q := q6) (zr_up_self _ _ _) (fun A6 g6 h6 eq6 nA6 ng6 f6 v6 => ?_)
      obtain ⟨z6, f6', st6⟩ := zi_g z5 (i := i + 1) (G := nwG) (by omega) (by unfold nwV; rw [if_neg (by omega)]) hq6 eq6 nA6 ng6 f6 v6
      rw [nwV_s] at z6
      have a6 : aV 5 h6 ea 8 (fun k => if k < i then .ref (B5 (k + 1) 0) else .null) := aV_to a5 (st6 ea (fun e => by obtain ⟨G, e2, -⟩ := a5; rw [e] at e2; cases e2))
      have b6 : zr_isO (h6 q6) 1 = true := by rw [← eq6, v6.1]; exact zm_I
      have i6 := aV_isA a6
      have j6 := aV_in a6 (k := i) (by omega) (by omega)
      have k6 : (nI i).toNatClampNeg = i := nI_clamp (by omega)
      simp only [zs_73_0, zs_73_0u, zs_73_1, zs_73_4, zs_73_4u, zs_73_8, zs_73_8i, zs_73_9, zt_73_9, zs_73_12, zs_73_15, zs_73_15u, zs_73_16, zs_73_21, zs_73_24, zs_73_25, zs_73_26, zs_73_27, zs_73_29, zs_73_32, zs_73_32u, zs_73_33, zs_73_36, zs_73_40, zs_73_40i, zs_73_41, zt_73_41, zs_73_44, zs_73_48, zs_73_51, zs_73_51u, zs_73_52, zs_73_56, zs_73_59, zs_73_59u, zs_73_63, zs_73_63i, zs_73_64, zt_73_64, zs_73_67, zs_73_70, zs_73_70u, zs_73_71, zs_73_75, zs_73_78, zs_73_78u, zs_73_79, zs_73_80, zs_73_83, zs_73_83u, zs_73_84, zs_73_85, zs_73_88, zc_isO, zr_fld_mk, zc_isA, zc_len, zr_elt_mk, zr_kill_i, zr_kill_l, zr_kill_r, zr_kill_u, zr_kill_f, zr_kill_n, zc_cat, zr_cat_i, zr_cat_l, zr_cat_r, zr_cat_f, zr_cat_d, zr_cat_u, beq_self_eq_true, Nat.zero_le, Nat.le_refl, Nat.reduceSub, Nat.reduceAdd, Nat.reduceLeDiff, csl_f, csr_f, cn_f, lg_cmp_eq, lg_cmp_le, lg_cmp_lt, lg_cmp_ge, lg_cmp_gt, nI_1, zr_up_self, zp_O, zr_fup_self, zr_fup_ne, ne_eq, Nat.reduceEqDiff, not_false_eq_true, pk_mul, b6, i6, j6, k6]
      have z7 : zi h (zr_putA h6 ea i (.ref q6)) x O (vu B5 (i + 1) A6) (nwV (i + 1 + 1)) F4 := zi_own z6 (fun p hp => by
        have : p = ea := Classical.byContradiction (fun e => hp (putA_ot e rfl))
        rw [this]
        refine ⟨Ne.symm xea, ea0, fun ⟨c, e, n⟩ => ?_⟩
        obtain ⟨G, e2, -⟩ := a6
        rw [e2] at e
        cases e
        cases n)
      have a7 : aV 5 (zr_putA h6 ea i (.ref q6)) ea 8 (fun k => if k < i + 1 then .ref (vu B5 (i + 1) A6 (k + 1) 0) else .null) := aV_put a6 (fun k hk => by
        by_cases e : k = i
        · rw [if_pos e, if_pos (by omega), e, vu_s, eq6]
        · rw [if_neg e]
          by_cases e2 : k < i
          · rw [if_pos e2, if_pos (by omega), vu_n _ _ (by omega)]
          · rw [if_neg e2, if_neg (by omega)])
      have := ih (i + 1) (kc - 1 - 5) (ks - 10 - 72) _ _ (by omega) (by omega) (by omega) z7 (by rw [vu_n _ _ (by omega)]; exact e5) a7 K
      simp only [zs_73_0, zs_73_0u, zs_73_1, zs_73_4, zs_73_4u, zs_73_8, zs_73_8i, zs_73_9, zt_73_9, zs_73_12, zs_73_15, zs_73_15u, zs_73_16, zs_73_21, zs_73_24, zs_73_25, zs_73_27, zs_73_29, zs_73_32, zs_73_32u, zs_73_33, zs_73_36, zs_73_40, zs_73_40i, zs_73_41, zt_73_41, zs_73_44, zs_73_45, zs_73_48, zs_73_51, zs_73_51u, zs_73_52, zs_73_56, zs_73_59, zs_73_59u, zs_73_63, zs_73_63i, zs_73_64, zt_73_64, zs_73_67, zs_73_70, zs_73_70u, zs_73_71, zs_73_75, zs_73_78, zs_73_78u, zs_73_79, zs_73_80, zs_73_83, zs_73_83u, zs_73_84, zs_73_85, zs_73_88, zc_isO, zr_fld_mk, zc_isA, zc_len, zr_elt_mk, zr_kill_i, zr_kill_l, zr_kill_r, zr_kill_u, zr_kill_f, zr_kill_n, zc_cat, zr_cat_i, zr_cat_l, zr_cat_r, zr_cat_f, zr_cat_d, zr_cat_u, beq_self_eq_true, Nat.zero_le, Nat.le_refl, Nat.reduceSub, Nat.reduceAdd, Nat.reduceLeDiff, csl_f, csr_f, cn_f, lg_cmp_eq, lg_cmp_le, lg_cmp_lt, lg_cmp_ge, lg_cmp_gt, nI_1, zr_up_self, zp_O, zr_fup_self, zr_fup_ne, ne_eq, Nat.reduceEqDiff, not_false_eq_true, pk_mul]
      exact this
  refine loop 8 0 _ _ h4 _ (by omega) (by omega) (by omega) z4 (by rw [vu_s]; exact eq) (aV_eq a4 (fun k hk => by rw [if_neg (by omega)])) (fun h6 B6 z6 e6 a6 => ?_)
  clear loop a4 z4 z3 a3 z2 z1 z0
  simp only [zs_73_0, zs_73_0u, zs_73_1, zs_73_4, zs_73_4u, zs_73_8, zs_73_8i, zs_73_9, zt_73_9, zs_73_12, zs_73_15, zs_73_15u, zs_73_16, zs_73_21, zs_73_24, zs_73_25, zs_73_26, zs_73_27, zs_73_29, zs_73_32, zs_73_32u, zs_73_33, zs_73_36, zs_73_40, zs_73_40i, zs_73_41, zt_73_41, zs_73_44, zs_73_45, zs_73_48, zs_73_51, zs_73_51u, zs_73_52, zs_73_56, zs_73_59, zs_73_59u, zs_73_63, zs_73_63i, zs_73_64, zt_73_64, zs_73_67, zs_73_70, zs_73_70u, zs_73_71, zs_73_75, zs_73_78, zs_73_78u, zs_73_79, zs_73_80, zs_73_83, zs_73_83u, zs_73_84, zs_73_85, zs_73_88, zc_isO, zr_fld_mk, zc_isA, zc_len, zr_elt_mk, zr_kill_i, zr_kill_l, zr_kill_r, zr_kill_u, zr_kill_f, zr_kill_n, zc_cat, zr_cat_i, zr_cat_l, zr_cat_r, zr_cat_f, zr_cat_d, zr_cat_u, beq_self_eq_true, Nat.zero_le, Nat.le_refl, Nat.reduceSub, Nat.reduceAdd, Nat.reduceLeDiff, csl_f, csr_f, cn_f, lg_cmp_eq, lg_cmp_le, lg_cmp_lt, lg_cmp_ge, lg_cmp_gt, nI_1, zr_up_self, zp_O, zr_fup_self, zr_fup_ne, ne_eq, Nat.reduceEqDiff, not_false_eq_true, pk_mul]
  refine zs_73_53 (by decide) (by decide) (fun sl hsl => ?_)
  have z7 := zi_al z6 (c := .inr (5, 2, fun _ => .null)) hsl
  have s7 : aV 5 (zr_up h6 sl (.inr (5, 2, fun _ => .null))) sl 2 (fun _ => .null) := ⟨_, zr_up_self _ _ _, fun _ _ => rfl⟩
  have nz : ∀ {h : zr_H} {q : Nat} {c : zr_C}, h q = some c → h q ≠ none := fun e z => by rw [e] at z; cases z
  have eas : ea ≠ sl := fun e => by obtain ⟨G, e2, -⟩ := a6; rw [e, hsl] at e2; cases e2
  have xsl : x ≠ sl := fun e => nz z6.1 (e ▸ hsl)
  have a7 := aV_to a6 (zr_up_ne h6 (.inr (5, 2, fun _ => .null)) eas)
  generalize zr_up h6 sl (.inr (5, 2, fun _ => .null)) = h7 at *
  have i7 : zr_isA (h7 sl) 5 = true := aV_isA s7
  simp only [zs_73_0, zs_73_0u, zs_73_1, zs_73_4, zs_73_4u, zs_73_8, zs_73_8i, zs_73_9, zt_73_9, zs_73_12, zs_73_15, zs_73_15u, zs_73_16, zs_73_21, zs_73_24, zs_73_25, zs_73_26, zs_73_27, zs_73_29, zs_73_32, zs_73_32u, zs_73_33, zs_73_36, zs_73_40, zs_73_40i, zs_73_41, zt_73_41, zs_73_44, zs_73_45, zs_73_48, zs_73_51, zs_73_51u, zs_73_52, zs_73_56, zs_73_63, zs_73_63i, zs_73_64, zt_73_64, zs_73_67, zs_73_70, zs_73_70u, zs_73_71, zs_73_75, zs_73_78, zs_73_78u, zs_73_79, zs_73_80, zs_73_83, zs_73_83u, zs_73_84, zs_73_85, zs_73_88, zc_isO, zr_fld_mk, zc_isA, zc_len, zr_elt_mk, zr_kill_i, zr_kill_l, zr_kill_r, zr_kill_u, zr_kill_f, zr_kill_n, zc_cat, zr_cat_i, zr_cat_l, zr_cat_r, zr_cat_f, zr_cat_d, zr_cat_u, beq_self_eq_true, Nat.zero_le, Nat.le_refl, Nat.reduceSub, Nat.reduceAdd, Nat.reduceLeDiff, csl_f, csr_f, cn_f, lg_cmp_eq, lg_cmp_le, lg_cmp_lt, lg_cmp_ge, lg_cmp_gt, nI_1, zr_up_self, zp_O, zr_fup_self, zr_fup_ne, ne_eq, Nat.reduceEqDiff, not_false_eq_true, pk_mul, z7.1, xI, i7]
  have z8 := zi_put z7 (k := 2) (v := .ref sl)
  have a8 : aV 5 (zr_putO h7 x 2 (.ref sl)) ea 8 (fun k => .ref (B6 (k + 1) 0)) := aV_to a7 (by rw [zr_putO_mk z7.1, zr_up_ne _ _ (Ne.symm xea)])
  have s8 : aV 5 (zr_putO h7 x 2 (.ref sl)) sl 2 (fun _ => .null) := aV_to s7 (by rw [zr_putO_mk z7.1, zr_up_ne _ _ (Ne.symm xsl)])
  generalize zr_putO h7 x 2 (.ref sl) = h8 at *
  simp only [zs_73_0, zs_73_0u, zs_73_1, zs_73_4, zs_73_4u, zs_73_8, zs_73_8i, zs_73_9, zt_73_9, zs_73_12, zs_73_15, zs_73_15u, zs_73_16, zs_73_21, zs_73_24, zs_73_25, zs_73_26, zs_73_27, zs_73_29, zs_73_32, zs_73_32u, zs_73_33, zs_73_36, zs_73_40, zs_73_40i, zs_73_41, zt_73_41, zs_73_44, zs_73_45, zs_73_48, zs_73_51, zs_73_51u, zs_73_52, zs_73_56, zs_73_59, zs_73_59u, zs_73_63, zs_73_63i, zs_73_64, zt_73_64, zs_73_67, zs_73_70, zs_73_70u, zs_73_71, zs_73_75, zs_73_78, zs_73_78u, zs_73_79, zs_73_80, zs_73_83, zs_73_83u, zs_73_84, zs_73_85, zs_73_88, zc_isO, zr_fld_mk, zc_isA, zc_len, zr_elt_mk, zr_kill_i, zr_kill_l, zr_kill_r, zr_kill_u, zr_kill_f, zr_kill_n, zc_cat, zr_cat_i, zr_cat_l, zr_cat_r, zr_cat_f, zr_cat_d, zr_cat_u, beq_self_eq_true, Nat.zero_le, Nat.le_refl, Nat.reduceSub, Nat.reduceAdd, Nat.reduceLeDiff, csl_f, csr_f, cn_f, lg_cmp_eq, lg_cmp_le, lg_cmp_lt, lg_cmp_ge, lg_cmp_gt, nI_1, zr_up_self, zp_O, zr_fup_self, zr_fup_ne, ne_eq, Nat.reduceEqDiff, not_false_eq_true, pk_mul]
  refine zs_73_60 (by decide) (by decide) (fun rd hrd => ?_)
  have z9 := zi_al z8 (c := zr_dfl 5) hrd
  have r9 : zr_up h8 rd (zr_dfl 5) rd = some (zr_dfl 5) := zr_up_self _ _ _
  have xrd : x ≠ rd := fun e => nz z8.1 (e ▸ hrd)
  have ear : ea ≠ rd := fun e => by obtain ⟨G, e2, -⟩ := a8; rw [e, hrd] at e2; cases e2
  have slr : sl ≠ rd := fun e => by obtain ⟨G, e2, -⟩ := s8; rw [e, hrd] at e2; cases e2
  have a9 := aV_to a8 (zr_up_ne h8 (zr_dfl 5) ear)
  have s9 := aV_to s8 (zr_up_ne h8 (zr_dfl 5) slr)
  have rd0 : h rd = none := Classical.byContradiction (fun e => by
    have := z8.2.2.1 rd e (Ne.symm xrd)
    rw [hrd] at this
    exact e this.symm)
  generalize zr_up h8 rd (zr_dfl 5) = h9 at *
  simp only [zs_73_0, zs_73_0u, zs_73_1, zs_73_4, zs_73_4u, zs_73_8, zs_73_8i, zs_73_9, zt_73_9, zs_73_12, zs_73_15, zs_73_15u, zs_73_16, zs_73_21, zs_73_24, zs_73_25, zs_73_26, zs_73_27, zs_73_29, zs_73_32, zs_73_32u, zs_73_33, zs_73_36, zs_73_40, zs_73_40i, zs_73_41, zt_73_41, zs_73_44, zs_73_45, zs_73_48, zs_73_51, zs_73_51u, zs_73_52, zs_73_56, zs_73_59, zs_73_59u, zs_73_63, zs_73_63i, zs_73_64, zt_73_64, zs_73_70, zs_73_70u, zs_73_71, zs_73_75, zs_73_78, zs_73_78u, zs_73_79, zs_73_80, zs_73_83, zs_73_83u, zs_73_84, zs_73_85, zs_73_88, zc_isO, zr_fld_mk, zc_isA, zc_len, zr_elt_mk, zr_kill_i, zr_kill_l, zr_kill_r, zr_kill_u, zr_kill_f, zr_kill_n, zc_cat, zr_cat_i, zr_cat_l, zr_cat_r, zr_cat_f, zr_cat_d, zr_cat_u, beq_self_eq_true, Nat.zero_le, Nat.le_refl, Nat.reduceSub, Nat.reduceAdd, Nat.reduceLeDiff, csl_f, csr_f, cn_f, lg_cmp_eq, lg_cmp_le, lg_cmp_lt, lg_cmp_ge, lg_cmp_gt, nI_1, zr_up_self, zp_O, zr_fup_self, zr_fup_ne, ne_eq, Nat.reduceEqDiff, not_false_eq_true, pk_mul]
  refine k_rnew (d := d + 3) r9 (fun tx gr h10 htx hgr ntg f10 r10 t10 g10 => ?_)
  have nrt : rd ≠ tx := fun e => nz r9 (e ▸ htx)
  have nrg : rd ≠ gr := fun e => nz r9 (e ▸ hgr)
  have st10 : ∀ p, h9 p ≠ none → p ≠ rd → h10 p = h9 p := fun p hp np => f10 p (fun m => by
    simp at m
    rcases m with y | y | y
    · exact np y
    · exact hp (y ▸ htx)
    · exact hp (y ▸ hgr))
  have x10 : h10 x = some (.inl (6, zr_fup F4 2 (.ref sl))) := by rw [st10 x (nz z9.1) xrd]; exact z9.1
  have z10 : zi h h10 x O B6 (nwV 9) (zr_fup F4 2 (.ref sl)) := by
    refine ⟨x10, zK_fx z9.2.1 (fun p _ ⟨c, e, n⟩ => st10 p (nz e) (fun y => by rw [y, r9] at e; cases e; cases n)), fun p hp np => ?_, z9.2.2.2⟩
    have := z9.2.2.1 p hp np
    rw [st10 p (by rw [this]; exact hp) (fun y => hp (y ▸ rd0))]
    exact this
  have a10 := aV_to a9 (st10 ea (fun e => by obtain ⟨G, e2, -⟩ := a9; rw [e] at e2; cases e2) ear)
  have s10 := aV_to s9 (st10 sl (fun e => by obtain ⟨G, e2, -⟩ := s9; rw [e] at e2; cases e2) slr)
  have xtx : x ≠ tx := fun e => nz z9.1 (e ▸ htx)
  have xgr : x ≠ gr := fun e => nz z9.1 (e ▸ hgr)
  have tx0 : h tx = none := Classical.byContradiction (fun e => by
    have := z9.2.2.1 tx e (Ne.symm xtx)
    rw [htx] at this
    exact e this.symm)
  have gr0 : h gr = none := Classical.byContradiction (fun e => by
    have := z9.2.2.1 gr e (Ne.symm xgr)
    rw [hgr] at this
    exact e this.symm)
  simp only [zs_73_0, zs_73_0u, zs_73_1, zs_73_4, zs_73_4u, zs_73_8, zs_73_8i, zs_73_9, zt_73_9, zs_73_12, zs_73_15, zs_73_15u, zs_73_16, zs_73_21, zs_73_24, zs_73_25, zs_73_26, zs_73_27, zs_73_29, zs_73_32, zs_73_32u, zs_73_33, zs_73_36, zs_73_40, zs_73_40i, zs_73_41, zt_73_41, zs_73_44, zs_73_45, zs_73_48, zs_73_51, zs_73_51u, zs_73_52, zs_73_56, zs_73_59, zs_73_59u, zs_73_63, zs_73_63i, zs_73_64, zt_73_64, zs_73_67, zs_73_71, zs_73_75, zs_73_78, zs_73_78u, zs_73_79, zs_73_80, zs_73_83, zs_73_83u, zs_73_84, zs_73_85, zs_73_88, zc_isO, zr_fld_mk, zc_isA, zc_len, zr_elt_mk, zr_kill_i, zr_kill_l, zr_kill_r, zr_kill_u, zr_kill_f, zr_kill_n, zc_cat, zr_cat_i, zr_cat_l, zr_cat_r, zr_cat_f, zr_cat_d, zr_cat_u, beq_self_eq_true, Nat.zero_le, Nat.le_refl, Nat.reduceSub, Nat.reduceAdd, Nat.reduceLeDiff, csl_f, csr_f, cn_f, lg_cmp_eq, lg_cmp_le, lg_cmp_lt, lg_cmp_ge, lg_cmp_gt, nI_1, zr_up_self, zp_O, zr_fup_self, zr_fup_ne, ne_eq, Nat.reduceEqDiff, not_false_eq_true, pk_mul, z10.1, xI, r10, zt_I]
  have z11 := zi_put z10 (k := 3) (v := .ref rd)
  have pu11 : ∀ p, p ≠ x → zr_putO h10 x 3 (.ref rd) p = h10 p := fun p np => by rw [zr_putO_mk z10.1, zr_up_ne _ _ np]
  have r11 := (pu11 rd (Ne.symm xrd)).trans r10
  have t11 := aB_to t10 (pu11 tx (Ne.symm xtx))
  have g11 := (pu11 gr (Ne.symm xgr)).trans g10
  have a11 := aV_to a10 (pu11 ea (Ne.symm xea))
  have s11 := aV_to s10 (pu11 sl (Ne.symm xsl))
  generalize zr_putO h10 x 3 (.ref rd) = h11 at *
  simp only [zs_73_0, zs_73_0u, zs_73_1, zs_73_4, zs_73_4u, zs_73_8, zs_73_8i, zs_73_9, zt_73_9, zs_73_12, zs_73_15, zs_73_15u, zs_73_16, zs_73_21, zs_73_24, zs_73_25, zs_73_26, zs_73_27, zs_73_29, zs_73_32, zs_73_32u, zs_73_33, zs_73_36, zs_73_40, zs_73_40i, zs_73_41, zt_73_41, zs_73_44, zs_73_45, zs_73_48, zs_73_51, zs_73_51u, zs_73_52, zs_73_56, zs_73_59, zs_73_59u, zs_73_63, zs_73_63i, zs_73_64, zt_73_64, zs_73_67, zs_73_70, zs_73_70u, zs_73_71, zs_73_75, zs_73_78, zs_73_78u, zs_73_79, zs_73_80, zs_73_83, zs_73_83u, zs_73_84, zs_73_85, zs_73_88, zc_isO, zr_fld_mk, zc_isA, zc_len, zr_elt_mk, zr_kill_i, zr_kill_l, zr_kill_r, zr_kill_u, zr_kill_f, zr_kill_n, zc_cat, zr_cat_i, zr_cat_l, zr_cat_r, zr_cat_f, zr_cat_d, zr_cat_u, beq_self_eq_true, Nat.zero_le, Nat.le_refl, Nat.reduceSub, Nat.reduceAdd, Nat.reduceLeDiff, csl_f, csr_f, cn_f, lg_cmp_eq, lg_cmp_le, lg_cmp_lt, lg_cmp_ge, lg_cmp_gt, nI_1, zr_up_self, zp_O, zr_fup_self, zr_fup_ne, ne_eq, Nat.reduceEqDiff, not_false_eq_true, pk_mul]
  refine zs_73_73 (by decide) (by decide) (fun wr hwr => ?_)
  have z12 := zi_al z11 (c := .inr (2, 12, fun _ => defaultValue (zr_at 2))) hwr
  have w12 : aB (zr_up h11 wr (.inr (2, 12, fun _ => defaultValue (zr_at 2)))) wr 12 (fun _ => 0) := ⟨_, zr_up_self _ _ _, fun k hk => rfl⟩
  have xwr : x ≠ wr := fun e => nz z11.1 (e ▸ hwr)
  have txw : tx ≠ wr := fun e => by obtain ⟨G, e2, -⟩ := t11; rw [e, hwr] at e2; cases e2
  have wr0 : h wr = none := Classical.byContradiction (fun e => by
    have := z11.2.2.1 wr e (Ne.symm xwr)
    rw [hwr] at this
    exact e this.symm)
  have up12 : ∀ p, h11 p ≠ none → zr_up h11 wr (.inr (2, 12, fun _ => defaultValue (zr_at 2))) p = h11 p := fun p hp => zr_up_ne _ _ (fun y => hp (y ▸ hwr))
  have r12 := (up12 rd (nz r11)).trans r11
  have t12 := aB_to t11 (up12 tx (fun e => by obtain ⟨G, e2, -⟩ := t11; rw [e] at e2; cases e2))
  have g12 := (up12 gr (nz g11)).trans g11
  have a12 := aV_to a11 (up12 ea (fun e => by obtain ⟨G, e2, -⟩ := a11; rw [e] at e2; cases e2))
  have s12 := aV_to s11 (up12 sl (fun e => by obtain ⟨G, e2, -⟩ := s11; rw [e] at e2; cases e2))
  generalize zr_up h11 wr (.inr (2, 12, fun _ => defaultValue (zr_at 2))) = h12 at *
  have w12i := aB_isA w12
  simp only [zs_73_0, zs_73_0u, zs_73_1, zs_73_4, zs_73_4u, zs_73_8, zs_73_8i, zs_73_9, zt_73_9, zs_73_12, zs_73_15, zs_73_15u, zs_73_16, zs_73_21, zs_73_24, zs_73_25, zs_73_26, zs_73_27, zs_73_29, zs_73_32, zs_73_32u, zs_73_33, zs_73_36, zs_73_40, zs_73_40i, zs_73_41, zt_73_41, zs_73_44, zs_73_45, zs_73_48, zs_73_51, zs_73_51u, zs_73_52, zs_73_56, zs_73_59, zs_73_59u, zs_73_63, zs_73_63i, zs_73_64, zt_73_64, zs_73_67, zs_73_70, zs_73_70u, zs_73_71, zs_73_75, zs_73_79, zs_73_80, zs_73_83, zs_73_83u, zs_73_84, zs_73_85, zs_73_88, zc_isO, zr_fld_mk, zc_isA, zc_len, zr_elt_mk, zr_kill_i, zr_kill_l, zr_kill_r, zr_kill_u, zr_kill_f, zr_kill_n, zc_cat, zr_cat_i, zr_cat_l, zr_cat_r, zr_cat_f, zr_cat_d, zr_cat_u, beq_self_eq_true, Nat.zero_le, Nat.le_refl, Nat.reduceSub, Nat.reduceAdd, Nat.reduceLeDiff, csl_f, csr_f, cn_f, lg_cmp_eq, lg_cmp_le, lg_cmp_lt, lg_cmp_ge, lg_cmp_gt, nI_1, zr_up_self, zp_O, zr_fup_self, zr_fup_ne, ne_eq, Nat.reduceEqDiff, not_false_eq_true, pk_mul, z12.1, xI, w12i]
  have z13 := zi_put z12 (k := 4) (v := .ref wr)
  have pu13 : ∀ p, p ≠ x → zr_putO h12 x 4 (.ref wr) p = h12 p := fun p np => by rw [zr_putO_mk z12.1, zr_up_ne _ _ np]
  have r13 := (pu13 rd (Ne.symm xrd)).trans r12
  have t13 := aB_to t12 (pu13 tx (Ne.symm xtx))
  have g13 := (pu13 gr (Ne.symm xgr)).trans g12
  have a13 := aV_to a12 (pu13 ea (Ne.symm xea))
  have s13 := aV_to s12 (pu13 sl (Ne.symm xsl))
  have w13 := aB_to w12 (pu13 wr (Ne.symm xwr))
  generalize zr_putO h12 x 4 (.ref wr) = h13 at *
  have e13 : (Sum.inl (6, zr_fup (zr_fup (zr_fup F4 2 (.ref sl)) 3 (.ref rd)) 4 (.ref wr)) : zr_C) = zxs q ea sl rd wr 0 0 := by
    unfold zxs
    congr 2
    funext k
    match k with
    | 0 => exact F0
    | 1 => exact F1
    | 2 => rfl
    | 3 => rfl
    | 4 => rfl
    | 5 => exact Fr 5 (by omega)
    | 6 => exact Fr 6 (by omega)
    | k + 7 => simp only [zr_fup]; rw [if_neg (by omega), if_neg (by omega), if_neg (by omega)]; exact Fr (k + 7) (by omega)
  have x13 := z13.1
  rw [e13] at x13
  let D : Nat → Nat := fun i => match i with
    | 0 => x
    | 1 => ea
    | 2 => sl
    | 3 => rd
    | 4 => wr
    | 5 => tx
    | _ => gr
  have hOn : ∀ p, h p = none → ¬ O p := fun p hp o => (hO p o).1 hp
  have sl0 : h sl = none := Classical.byContradiction (fun e => by
    have := z6.2.2.1 sl e (Ne.symm xsl)
    rw [hsl] at this
    exact e this.symm)
  have fin : vC h13 O B6 D (nwV 9) 0 0 nwJ 0 0 (fun _ => 0) (fun _ => 0) := by
    refine ⟨by rw [e6]; exact x13, a13, aV_eq s13 (fun j hj => ?_), r13, ⟨1, 3, g13, ⟨by omega, by omega⟩, by omega, by omega⟩, t13, w13, z13.2.1, fun i hi => ?_, txw, fun i hi => ?_, zi_O z13, by omega, by omega⟩
    · unfold nwV
      rw [if_neg (by omega)]
      rfl
    · unfold nwV
      rw [if_pos hi]
      intro y; cases y
    · have : i = 0 ∨ i = 1 ∨ i = 2 ∨ i = 3 ∨ i = 4 ∨ i = 5 ∨ i = 6 := by omega
      rcases this with e | e | e | e | e | e | e <;> subst e
      · exact fun o => (hO x o).2 rfl
      · exact hOn _ ea0
      · exact hOn _ sl0
      · exact hOn _ rd0
      · exact hOn _ wr0
      · exact hOn _ tx0
      · exact hOn _ gr0
  have oo : ∀ p, O p → h13 p = h p := fun p o => z13.2.2.1 p (hO p o).1 (hO p o).2
  have hQ := hQ
  simp only [zs_73_0, zs_73_0u, zs_73_1, zs_73_4, zs_73_4u, zs_73_8, zs_73_8i, zs_73_9, zt_73_9, zs_73_12, zs_73_15, zs_73_15u, zs_73_16, zs_73_21, zs_73_24, zs_73_25, zs_73_26, zs_73_27, zs_73_29, zs_73_32, zs_73_32u, zs_73_33, zs_73_36, zs_73_40, zs_73_40i, zs_73_41, zt_73_41, zs_73_44, zs_73_45, zs_73_48, zs_73_51, zs_73_51u, zs_73_52, zs_73_56, zs_73_59, zs_73_59u, zs_73_63, zs_73_63i, zs_73_64, zt_73_64, zs_73_67, zs_73_70, zs_73_70u, zs_73_71, zs_73_75, zs_73_78, zs_73_78u, zs_73_79, zs_73_80, zs_73_84, zs_73_85, zs_73_88, zc_isO, zr_fld_mk, zc_isA, zc_len, zr_elt_mk, zr_kill_i, zr_kill_l, zr_kill_r, zr_kill_u, zr_kill_f, zr_kill_n, zc_cat, zr_cat_i, zr_cat_l, zr_cat_r, zr_cat_f, zr_cat_d, zr_cat_u, beq_self_eq_true, Nat.zero_le, Nat.le_refl, Nat.reduceSub, Nat.reduceAdd, Nat.reduceLeDiff, csl_f, csr_f, cn_f, lg_cmp_eq, lg_cmp_le, lg_cmp_lt, lg_cmp_ge, lg_cmp_gt, nI_1, zr_up_self, zp_O, zr_fup_self, zr_fup_ne, ne_eq, Nat.reduceEqDiff, not_false_eq_true, pk_mul, x13, zx_I]
  rw [putX5 x13]
  obtain ⟨v14, o14⟩ := vC_u fin (u2 := 0) (by omega)
  have x14 := v14.1
  have e14 : zr_up h13 x (zxs q ea sl rd wr 0 0) = zr_up h13 (D 0) (zxs (B6 0 0) (D 1) (D 2) (D 3) (D 4) (nI 0) (nI 0)) := by rw [e6]; rfl
  rw [e14]
  generalize zr_up h13 (D 0) (zxs (B6 0 0) (D 1) (D 2) (D 3) (D 4) (nI 0) (nI 0)) = h14 at *
  have x14' : h14 x = some (zxs (B6 0 0) (D 1) (D 2) (D 3) (D 4) (nI 0) (nI 0)) := x14
  simp only [zs_73_0, zs_73_0u, zs_73_1, zs_73_4, zs_73_4u, zs_73_8, zs_73_8i, zs_73_9, zt_73_9, zs_73_12, zs_73_15, zs_73_15u, zs_73_16, zs_73_21, zs_73_24, zs_73_25, zs_73_26, zs_73_27, zs_73_29, zs_73_32, zs_73_32u, zs_73_33, zs_73_36, zs_73_40, zs_73_40i, zs_73_41, zt_73_41, zs_73_44, zs_73_45, zs_73_48, zs_73_51, zs_73_51u, zs_73_52, zs_73_56, zs_73_59, zs_73_59u, zs_73_63, zs_73_63i, zs_73_64, zt_73_64, zs_73_67, zs_73_70, zs_73_70u, zs_73_71, zs_73_75, zs_73_78, zs_73_78u, zs_73_79, zs_73_80, zs_73_83, zs_73_83u, zs_73_84, zs_73_85, zc_isO, zr_fld_mk, zc_isA, zc_len, zr_elt_mk, zr_kill_i, zr_kill_l, zr_kill_r, zr_kill_u, zr_kill_f, zr_kill_n, zc_cat, zr_cat_i, zr_cat_l, zr_cat_r, zr_cat_f, zr_cat_d, zr_cat_u, beq_self_eq_true, Nat.zero_le, Nat.le_refl, Nat.reduceSub, Nat.reduceAdd, Nat.reduceLeDiff, csl_f, csr_f, cn_f, lg_cmp_eq, lg_cmp_le, lg_cmp_lt, lg_cmp_ge, lg_cmp_gt, nI_1, zr_up_self, zp_O, zr_fup_self, zr_fup_ne, ne_eq, Nat.reduceEqDiff, not_false_eq_true, pk_mul, x14', zx_I]
  rw [putX6 x14']
  obtain ⟨v15, o15⟩ := vC_l v14 (l2 := 0) (by omega)
  simp only [zs_73_0, zs_73_0u, zs_73_1, zs_73_4, zs_73_4u, zs_73_8, zs_73_8i, zs_73_9, zt_73_9, zs_73_12, zs_73_15, zs_73_15u, zs_73_16, zs_73_21, zs_73_24, zs_73_25, zs_73_26, zs_73_27, zs_73_29, zs_73_32, zs_73_32u, zs_73_33, zs_73_36, zs_73_40, zs_73_40i, zs_73_41, zt_73_41, zs_73_44, zs_73_45, zs_73_48, zs_73_51, zs_73_51u, zs_73_52, zs_73_56, zs_73_59, zs_73_59u, zs_73_63, zs_73_63i, zs_73_64, zt_73_64, zs_73_67, zs_73_70, zs_73_70u, zs_73_71, zs_73_75, zs_73_78, zs_73_78u, zs_73_79, zs_73_80, zs_73_83, zs_73_83u, zs_73_84, zs_73_85, zs_73_88, zc_isO, zr_fld_mk, zc_isA, zc_len, zr_elt_mk, zr_kill_i, zr_kill_l, zr_kill_r, zr_kill_u, zr_kill_f, zr_kill_n, zc_cat, zr_cat_i, zr_cat_l, zr_cat_r, zr_cat_f, zr_cat_d, zr_cat_u, beq_self_eq_true, Nat.zero_le, Nat.le_refl, Nat.reduceSub, Nat.reduceAdd, Nat.reduceLeDiff, csl_f, csr_f, cn_f, lg_cmp_eq, lg_cmp_le, lg_cmp_lt, lg_cmp_ge, lg_cmp_gt, nI_1, zr_up_self, zp_O, zr_fup_self, zr_fup_ne, ne_eq, Nat.reduceEqDiff, not_false_eq_true, pk_mul]
  exact hQ _ B6 D rfl (fun p o => ((o15 p o).trans (o14 p o)).trans (oo p o)) v15
end NEW
