theorem rng_m1 {z : Int32} : (-1 ≤ z ∧ z ≤ 3) ↔ z = -1 ∨ ∃ k, k < 4 ∧ z = nI k := by
  refine ⟨fun ⟨a, c⟩ => ?_, fun f => ?_⟩
  · by_cases e : z = -1
    · exact Or.inl e
    · refine Or.inr ((rng_g (m := 3) (by omega)).mp ⟨?_, c⟩)
      have e1 : (-1 : Int32).toInt = -1 := rfl
      have e0 : (0 : Int32).toInt = 0 := rfl
      rw [← Int32.toInt_inj, e1] at e
      rw [Int32.le_iff_toInt_le, e1] at a
      rw [Int32.le_iff_toInt_le, e0]
      omega
  · rcases f with e | e
    · subst e; exact ⟨by decide, by decide⟩
    · have := (rng_g (m := 3) (by omega)).mpr e
      refine ⟨?_, this.2⟩
      have e1 : (-1 : Int32).toInt = -1 := rfl
      have e0 : (0 : Int32).toInt = 0 := rfl
      have := this.1
      rw [Int32.le_iff_toInt_le, e0] at this
      rw [Int32.le_iff_toInt_le, e1]
      omega
def rxPools (R S : Nat) (b w : Int64) (y : Int32) : Int32 ⊕ Nat := if y = -1 then .inl (nI (cnt (ld (cAround R S) (em R S b w) (em R S b w)) (R * S))) else match plq 4 y with
  | none => .inr 1
  | some o => .inl (nI (cnt (ld (cAround R S) (em R S b w) (op R S b w o)) (R * S)))
/-- the answers of yes and no -/
def rxEye (R S : Nat) (b w : Int64) (y : Int32) (r : Int32 ⊕ Nat) : Prop := match plq (R * S) y with
  | none => r = .inr 2
  | some p => (ot R S b w (po R S b w p) ∧ r = .inl 1) ∨ (¬ ot R S b w (po R S b w p) ∧ r = .inl 0)
def rxOff (R S : Nat) (b w : Int64) (y : Int32) (r : Int32 ⊕ Nat) : Prop := match plq (R * S) y with
  | none => r = .inr 2
  | some p => ((ow R S b w (po R S b w p) = 3 ∧ kb R S b w (po R S b w p) (R * S)) ∧ r = .inl 1) ∨ (¬ (ow R S b w (po R S b w p) = 3 ∧ kb R S b w (po R S b w p) (R * S)) ∧ r = .inl 0)
def mvn (R S : Nat) (b w : Int64) (p c : Nat) : Nat → Int32
  | 0 => nI (ct (cb R S b w p c))
  | 1 => nI (ct (cm R S b w p c))
  | _ => nI (ct (fm R S b w p c))
def rxMove (R S : Nat) (b w : Int64) (y z t : Int32) : Int32 ⊕ Nat := match plq (R * S) y with
  | none => .inr 2
  | some p => match clq z with
    | none => .inr 1
    | some c => match plq 3 t with
      | none => .inr 1
      | some k => if co b w p = 0 then .inl (mvn R S b w p c k) else .inr 0
def pln (R S : Nat) (b w : Int64) (p : Nat) : Nat → Int32
  | 0 => nI (lo (po R S b w p))
  | 1 => nI (ct (po R S b w p))
  | 2 => nI (ow R S b w (po R S b w p))
  | 3 => nI (cbs R S b w (po R S b w p) 1)
  | _ => nI (cbs R S b w (po R S b w p) 2)
def rxPool (R S : Nat) (b w : Int64) (y z : Int32) : Int32 ⊕ Nat := match plq (R * S) y with
  | none => .inr 2
  | some p => match plq 5 z with
    | none => .inr 1
    | some k => if po R S b w p = 0 then .inr 3 else .inl (pln R S b w p k)
section FACE
variable {d : Nat} {h : zr_H} {Q : zr_K} {x ea sl rd wr : Nat} {u l : Int32} {A : Nat → Nat} {R S g : Nat} {b w : Int64} {P : List (Int64 × Int64)} {I : Nat → Int32}
theorem k_pools (hX : h x = some (zxs (A 0) ea sl rd wr u l)) (v : vM h A R S b w P I g) {y : Int32} (hQ : Q (oc (rxPools R S b w y)) h) : zr_E (d + 5) 95 [.ref x, .int y] h Q := by
  obtain ⟨hM, hB, hG, hg, -⟩ := id v
  unfold rxPools at hQ
  rw [ze_95]
  simp only [zs_95_0, zs_95_1, zs_95_2, zs_95_3, zt_95_3, zs_95_6, zs_95_6u, zs_95_7, zs_95_10, zs_95_13, zs_95_13u, zs_95_14, zs_95_15, zs_95_16, zs_95_19, zs_95_19u, zs_95_20, zt_95_20, zs_95_23, zs_95_26, zs_95_26u, zs_95_27, zs_95_28, zt_95_28, zs_95_31, zs_95_32, zs_95_32u, zs_95_33, zs_95_36, zs_95_37, zs_95_37u, zs_95_38, zt_95_38, zs_95_41, zt_95_41, zs_95_44, zc_isO, zr_fld_mk, zc_isA, zc_len, zr_elt_mk, zr_kill_i, zr_kill_l, zr_kill_r, zr_kill_u, zr_kill_f, zr_kill_n, zc_cat, zr_cat_i, zr_cat_l, zr_cat_r, zr_cat_f, zr_cat_d, zr_cat_u, beq_self_eq_true, Nat.zero_le, Nat.le_refl, Nat.reduceSub, Nat.reduceAdd, Nat.reduceLeDiff, csl_f, csr_f, cn_f, lg_cmp_eq, lg_cmp_le, lg_cmp_lt, lg_cmp_ge, lg_cmp_gt, nI_1, zr_up_self, zp_O, zr_fup_self, zr_fup_ne, ne_eq, Nat.reduceEqDiff, not_false_eq_true, pk_mul, hX, zx_I]
  refine k_rng (fun e => ?_) (fun e => ?_)
  · simp only [zs_95_0, zs_95_1, zs_95_2, zs_95_3, zt_95_3, zs_95_6, zs_95_6u, zs_95_7, zs_95_10, zs_95_13, zs_95_13u, zs_95_14, zs_95_15, zs_95_16, zs_95_19, zs_95_19u, zs_95_20, zt_95_20, zs_95_23, zs_95_26, zs_95_26u, zs_95_27, zs_95_28, zt_95_28, zs_95_31, zs_95_32, zs_95_32u, zs_95_33, zs_95_36, zs_95_37, zs_95_37u, zs_95_38, zt_95_38, zs_95_41, zt_95_41, zs_95_44, zc_isO, zr_fld_mk, zc_isA, zc_len, zr_elt_mk, zr_kill_i, zr_kill_l, zr_kill_r, zr_kill_u, zr_kill_f, zr_kill_n, zc_cat, zr_cat_i, zr_cat_l, zr_cat_r, zr_cat_f, zr_cat_d, zr_cat_u, beq_self_eq_true, Nat.zero_le, Nat.le_refl, Nat.reduceSub, Nat.reduceAdd, Nat.reduceLeDiff, csl_f, csr_f, cn_f, lg_cmp_eq, lg_cmp_le, lg_cmp_lt, lg_cmp_ge, lg_cmp_gt, nI_1, zr_up_self, zp_O, zr_fup_self, zr_fup_ne, ne_eq, Nat.reduceEqDiff, not_false_eq_true, pk_mul, hX, zx_I, zx_0, hM, zm_I, zm_0, hB, zb_O]
    rcases rng_m1.mp e with f | ⟨k, hk, f⟩
    · rw [if_pos f] at hQ
      refine ⟨fun n => absurd f n, fun _ => ?_⟩
      refine k_em hB hG ?_
      simp only [zs_95_0, zs_95_1, zs_95_2, zs_95_3, zt_95_3, zs_95_6, zs_95_6u, zs_95_7, zs_95_10, zs_95_13, zs_95_13u, zs_95_14, zs_95_15, zs_95_16, zs_95_19, zs_95_19u, zs_95_20, zt_95_20, zs_95_23, zs_95_26, zs_95_26u, zs_95_27, zs_95_28, zt_95_28, zs_95_31, zs_95_32, zs_95_32u, zs_95_33, zs_95_36, zs_95_37, zs_95_37u, zs_95_38, zt_95_38, zs_95_41, zt_95_41, zs_95_44, zc_isO, zr_fld_mk, zc_isA, zc_len, zr_elt_mk, zr_kill_i, zr_kill_l, zr_kill_r, zr_kill_u, zr_kill_f, zr_kill_n, zc_cat, zr_cat_i, zr_cat_l, zr_cat_r, zr_cat_f, zr_cat_d, zr_cat_u, beq_self_eq_true, Nat.zero_le, Nat.le_refl, Nat.reduceSub, Nat.reduceAdd, Nat.reduceLeDiff, csl_f, csr_f, cn_f, lg_cmp_eq, lg_cmp_le, lg_cmp_lt, lg_cmp_ge, lg_cmp_gt, nI_1, zr_up_self, zp_O, zr_fup_self, zr_fup_ne, ne_eq, Nat.reduceEqDiff, not_false_eq_true, pk_mul, hB, zb_O, zb_0]
      refine k_em hB hG ?_
      simp only [zs_95_0, zs_95_1, zs_95_2, zs_95_3, zt_95_3, zs_95_6, zs_95_6u, zs_95_7, zs_95_10, zs_95_13, zs_95_13u, zs_95_14, zs_95_15, zs_95_16, zs_95_19, zs_95_19u, zs_95_20, zt_95_20, zs_95_23, zs_95_26, zs_95_26u, zs_95_27, zs_95_28, zt_95_28, zs_95_31, zs_95_32, zs_95_32u, zs_95_33, zs_95_36, zs_95_37, zs_95_37u, zs_95_38, zt_95_38, zs_95_41, zt_95_41, zs_95_44, zc_isO, zr_fld_mk, zc_isA, zc_len, zr_elt_mk, zr_kill_i, zr_kill_l, zr_kill_r, zr_kill_u, zr_kill_f, zr_kill_n, zc_cat, zr_cat_i, zr_cat_l, zr_cat_r, zr_cat_f, zr_cat_d, zr_cat_u, beq_self_eq_true, Nat.zero_le, Nat.le_refl, Nat.reduceSub, Nat.reduceAdd, Nat.reduceLeDiff, csl_f, csr_f, cn_f, lg_cmp_eq, lg_cmp_le, lg_cmp_lt, lg_cmp_ge, lg_cmp_gt, nI_1, zr_up_self, zp_O, zr_fup_self, zr_fup_ne, ne_eq, Nat.reduceEqDiff, not_false_eq_true, pk_mul, hB, zb_O, zb_0, hG, zg_O]
      refine k_groups hg hG ?_
      simp only [zs_95_0, zs_95_1, zs_95_2, zs_95_3, zt_95_3, zs_95_6, zs_95_6u, zs_95_7, zs_95_10, zs_95_13, zs_95_13u, zs_95_14, zs_95_15, zs_95_16, zs_95_19, zs_95_19u, zs_95_20, zt_95_20, zs_95_23, zs_95_26, zs_95_26u, zs_95_27, zs_95_28, zt_95_28, zs_95_31, zs_95_32, zs_95_32u, zs_95_33, zs_95_36, zs_95_37, zs_95_37u, zs_95_38, zt_95_38, zs_95_41, zt_95_41, zs_95_44, zc_isO, zr_fld_mk, zc_isA, zc_len, zr_elt_mk, zr_kill_i, zr_kill_l, zr_kill_r, zr_kill_u, zr_kill_f, zr_kill_n, zc_cat, zr_cat_i, zr_cat_l, zr_cat_r, zr_cat_f, zr_cat_d, zr_cat_u, beq_self_eq_true, Nat.zero_le, Nat.le_refl, Nat.reduceSub, Nat.reduceAdd, Nat.reduceLeDiff, csl_f, csr_f, cn_f, lg_cmp_eq, lg_cmp_le, lg_cmp_lt, lg_cmp_ge, lg_cmp_gt, nI_1, zr_up_self, zp_O, zr_fup_self, zr_fup_ne, ne_eq, Nat.reduceEqDiff, not_false_eq_true, pk_mul]
      exact hQ
    · subst f
      have nm : ¬ nI k = -1 := (by decide +kernel : ∀ k, k < 4 → ¬ nI k = -1) k hk
      rw [if_neg nm, plq_s hk (by omega)] at hQ
      refine ⟨fun _ => ?_, fun n => absurd n nm⟩
      refine k_op hg hB hG hk ?_
      simp only [zs_95_0, zs_95_1, zs_95_2, zs_95_3, zt_95_3, zs_95_6, zs_95_6u, zs_95_7, zs_95_10, zs_95_13, zs_95_13u, zs_95_14, zs_95_15, zs_95_16, zs_95_19, zs_95_19u, zs_95_20, zt_95_20, zs_95_23, zs_95_26, zs_95_26u, zs_95_27, zs_95_28, zt_95_28, zs_95_31, zs_95_32, zs_95_32u, zs_95_33, zs_95_36, zs_95_37, zs_95_37u, zs_95_38, zt_95_38, zs_95_41, zt_95_41, zs_95_44, zc_isO, zr_fld_mk, zc_isA, zc_len, zr_elt_mk, zr_kill_i, zr_kill_l, zr_kill_r, zr_kill_u, zr_kill_f, zr_kill_n, zc_cat, zr_cat_i, zr_cat_l, zr_cat_r, zr_cat_f, zr_cat_d, zr_cat_u, beq_self_eq_true, Nat.zero_le, Nat.le_refl, Nat.reduceSub, Nat.reduceAdd, Nat.reduceLeDiff, csl_f, csr_f, cn_f, lg_cmp_eq, lg_cmp_le, lg_cmp_lt, lg_cmp_ge, lg_cmp_gt, nI_1, zr_up_self, zp_O, zr_fup_self, zr_fup_ne, ne_eq, Nat.reduceEqDiff, not_false_eq_true, pk_mul, hB, zb_O, zb_0]
      refine k_em hB hG ?_
      simp only [zs_95_0, zs_95_1, zs_95_2, zs_95_3, zt_95_3, zs_95_6, zs_95_6u, zs_95_7, zs_95_10, zs_95_13, zs_95_13u, zs_95_14, zs_95_15, zs_95_16, zs_95_19, zs_95_19u, zs_95_20, zt_95_20, zs_95_23, zs_95_26, zs_95_26u, zs_95_27, zs_95_28, zt_95_28, zs_95_31, zs_95_32, zs_95_32u, zs_95_33, zs_95_36, zs_95_37, zs_95_37u, zs_95_38, zt_95_38, zs_95_41, zt_95_41, zs_95_44, zc_isO, zr_fld_mk, zc_isA, zc_len, zr_elt_mk, zr_kill_i, zr_kill_l, zr_kill_r, zr_kill_u, zr_kill_f, zr_kill_n, zc_cat, zr_cat_i, zr_cat_l, zr_cat_r, zr_cat_f, zr_cat_d, zr_cat_u, beq_self_eq_true, Nat.zero_le, Nat.le_refl, Nat.reduceSub, Nat.reduceAdd, Nat.reduceLeDiff, csl_f, csr_f, cn_f, lg_cmp_eq, lg_cmp_le, lg_cmp_lt, lg_cmp_ge, lg_cmp_gt, nI_1, zr_up_self, zp_O, zr_fup_self, zr_fup_ne, ne_eq, Nat.reduceEqDiff, not_false_eq_true, pk_mul, hB, zb_O, zb_0, hG, zg_O]
      refine k_groups hg hG ?_
      simp only [zs_95_0, zs_95_1, zs_95_2, zs_95_3, zt_95_3, zs_95_6, zs_95_6u, zs_95_7, zs_95_10, zs_95_13, zs_95_13u, zs_95_14, zs_95_15, zs_95_16, zs_95_19, zs_95_19u, zs_95_20, zt_95_20, zs_95_23, zs_95_26, zs_95_26u, zs_95_27, zs_95_28, zt_95_28, zs_95_31, zs_95_32, zs_95_32u, zs_95_33, zs_95_36, zs_95_37, zs_95_37u, zs_95_38, zt_95_38, zs_95_41, zt_95_41, zs_95_44, zc_isO, zr_fld_mk, zc_isA, zc_len, zr_elt_mk, zr_kill_i, zr_kill_l, zr_kill_r, zr_kill_u, zr_kill_f, zr_kill_n, zc_cat, zr_cat_i, zr_cat_l, zr_cat_r, zr_cat_f, zr_cat_d, zr_cat_u, beq_self_eq_true, Nat.zero_le, Nat.le_refl, Nat.reduceSub, Nat.reduceAdd, Nat.reduceLeDiff, csl_f, csr_f, cn_f, lg_cmp_eq, lg_cmp_le, lg_cmp_lt, lg_cmp_ge, lg_cmp_gt, nI_1, zr_up_self, zp_O, zr_fup_self, zr_fup_ne, ne_eq, Nat.reduceEqDiff, not_false_eq_true, pk_mul]
      exact hQ
  · have n1 : ¬ y = -1 := fun f => e (rng_m1.mpr (Or.inl f))
    rw [if_neg n1, plq_n (by omega) (fun k hk f => e (rng_m1.mpr (Or.inr ⟨k, hk, f⟩)))] at hQ
    rw [zk_thr zf_hh_95]
    exact hQ
theorem k_eye (hX : h x = some (zxs (A 0) ea sl rd wr u l)) (v : vM h A R S b w P I g) {y : Int32} (hQ : ∀ r, rxEye R S b w y r → Q (oc r) h) : zr_E (d + 6) 97 [.ref x, .int y] h Q := by
  obtain ⟨hM, hB, hG, hg, -⟩ := id v
  have hn := g_n hg
  unfold rxEye at hQ
  rw [ze_97]
  simp only [zs_97_0, zs_97_0u, zs_97_1, zs_97_2, zt_97_2, zs_97_5, zs_97_5u, zs_97_6, zs_97_9, zs_97_12, zs_97_12u, zs_97_13, zs_97_16, zs_97_19, zs_97_20, zt_97_20, zs_97_23, zt_97_23, zs_97_26_0, zs_97_26_1, zs_97_26, zc_isO, zr_fld_mk, zc_isA, zc_len, zr_elt_mk, zr_kill_i, zr_kill_l, zr_kill_r, zr_kill_u, zr_kill_f, zr_kill_n, zc_cat, zr_cat_i, zr_cat_l, zr_cat_r, zr_cat_f, zr_cat_d, zr_cat_u, beq_self_eq_true, Nat.zero_le, Nat.le_refl, Nat.reduceSub, Nat.reduceAdd, Nat.reduceLeDiff, csl_f, csr_f, cn_f, lg_cmp_eq, lg_cmp_le, lg_cmp_lt, lg_cmp_ge, lg_cmp_gt, nI_1, zr_up_self, zp_O, zr_fup_self, zr_fup_ne, ne_eq, Nat.reduceEqDiff, not_false_eq_true, pk_mul, hX, zx_I]
  refine k_plc hX v (fun p hp e => ?_) (fun e => ?_)
  · subst e
    rw [plq_s hp hn] at hQ
    simp only [zs_97_0, zs_97_0u, zs_97_1, zs_97_2, zt_97_2, zs_97_5, zs_97_5u, zs_97_6, zs_97_9, zs_97_12, zs_97_12u, zs_97_13, zs_97_16, zs_97_19, zs_97_20, zt_97_20, zs_97_23, zt_97_23, zs_97_26_0, zs_97_26_1, zs_97_26, zc_isO, zr_fld_mk, zc_isA, zc_len, zr_elt_mk, zr_kill_i, zr_kill_l, zr_kill_r, zr_kill_u, zr_kill_f, zr_kill_n, zc_cat, zr_cat_i, zr_cat_l, zr_cat_r, zr_cat_f, zr_cat_d, zr_cat_u, beq_self_eq_true, Nat.zero_le, Nat.le_refl, Nat.reduceSub, Nat.reduceAdd, Nat.reduceLeDiff, csl_f, csr_f, cn_f, lg_cmp_eq, lg_cmp_le, lg_cmp_lt, lg_cmp_ge, lg_cmp_gt, nI_1, zr_up_self, zp_O, zr_fup_self, zr_fup_ne, ne_eq, Nat.reduceEqDiff, not_false_eq_true, pk_mul, hX, zx_I, zx_0, hM, zm_I, zm_0, hB, zb_O]
    refine k_po hg hB hG hp ?_
    simp only [zs_97_0, zs_97_0u, zs_97_1, zs_97_2, zt_97_2, zs_97_5, zs_97_5u, zs_97_6, zs_97_9, zs_97_12, zs_97_12u, zs_97_13, zs_97_16, zs_97_19, zs_97_20, zt_97_20, zs_97_23, zt_97_23, zs_97_26_0, zs_97_26_1, zs_97_26, zc_isO, zr_fld_mk, zc_isA, zc_len, zr_elt_mk, zr_kill_i, zr_kill_l, zr_kill_r, zr_kill_u, zr_kill_f, zr_kill_n, zc_cat, zr_cat_i, zr_cat_l, zr_cat_r, zr_cat_f, zr_cat_d, zr_cat_u, beq_self_eq_true, Nat.zero_le, Nat.le_refl, Nat.reduceSub, Nat.reduceAdd, Nat.reduceLeDiff, csl_f, csr_f, cn_f, lg_cmp_eq, lg_cmp_le, lg_cmp_lt, lg_cmp_ge, lg_cmp_gt, nI_1, zr_up_self, zp_O, zr_fup_self, zr_fup_ne, ne_eq, Nat.reduceEqDiff, not_false_eq_true, pk_mul, hX, zx_I, zx_0, hM, zm_I, zm_0, hB, zb_O]
    refine k_ot hg hB hG (fun e => ?_) (fun e => ?_)
    · simp only [zs_97_0, zs_97_0u, zs_97_1, zs_97_2, zt_97_2, zs_97_5, zs_97_5u, zs_97_6, zs_97_9, zs_97_12, zs_97_12u, zs_97_13, zs_97_16, zs_97_19, zs_97_20, zt_97_20, zs_97_23, zt_97_23, zs_97_26_0, zs_97_26_1, zs_97_26, zc_isO, zr_fld_mk, zc_isA, zc_len, zr_elt_mk, zr_kill_i, zr_kill_l, zr_kill_r, zr_kill_u, zr_kill_f, zr_kill_n, zc_cat, zr_cat_i, zr_cat_l, zr_cat_r, zr_cat_f, zr_cat_d, zr_cat_u, beq_self_eq_true, Nat.zero_le, Nat.le_refl, Nat.reduceSub, Nat.reduceAdd, Nat.reduceLeDiff, csl_f, csr_f, cn_f, lg_cmp_eq, lg_cmp_le, lg_cmp_lt, lg_cmp_ge, lg_cmp_gt, nI_1, zr_up_self, zp_O, zr_fup_self, zr_fup_ne, ne_eq, Nat.reduceEqDiff, not_false_eq_true, pk_mul]
      exact hQ (.inl 1) (Or.inl ⟨e, rfl⟩)
    · simp only [zs_97_0, zs_97_0u, zs_97_1, zs_97_2, zt_97_2, zs_97_5, zs_97_5u, zs_97_6, zs_97_9, zs_97_12, zs_97_12u, zs_97_13, zs_97_16, zs_97_19, zs_97_20, zt_97_20, zs_97_23, zt_97_23, zs_97_26_0, zs_97_26_1, zs_97_26, zc_isO, zr_fld_mk, zc_isA, zc_len, zr_elt_mk, zr_kill_i, zr_kill_l, zr_kill_r, zr_kill_u, zr_kill_f, zr_kill_n, zc_cat, zr_cat_i, zr_cat_l, zr_cat_r, zr_cat_f, zr_cat_d, zr_cat_u, beq_self_eq_true, Nat.zero_le, Nat.le_refl, Nat.reduceSub, Nat.reduceAdd, Nat.reduceLeDiff, csl_f, csr_f, cn_f, lg_cmp_eq, lg_cmp_le, lg_cmp_lt, lg_cmp_ge, lg_cmp_gt, nI_1, zr_up_self, zp_O, zr_fup_self, zr_fup_ne, ne_eq, Nat.reduceEqDiff, not_false_eq_true, pk_mul]
      exact hQ (.inl 0) (Or.inr ⟨e, rfl⟩)
  · rw [plq_n hn e] at hQ
    rw [zk_thr zf_hh_97]
    exact hQ (.inr 2) rfl
theorem k_off (hX : h x = some (zxs (A 0) ea sl rd wr u l)) (v : vM h A R S b w P I g) {y : Int32} (hQ : ∀ r, rxOff R S b w y r → Q (oc r) h) : zr_E (d + 7) 98 [.ref x, .int y] h Q := by
  obtain ⟨hM, hB, hG, hg, -⟩ := id v
  have hn := g_n hg
  unfold rxOff at hQ
  rw [ze_98]
  simp only [zs_98_0, zs_98_0u, zs_98_1, zs_98_2, zt_98_2, zs_98_5, zs_98_5u, zs_98_6, zs_98_9, zs_98_12, zs_98_12u, zs_98_13, zs_98_16, zs_98_19, zs_98_20, zt_98_20, zs_98_23, zt_98_23, zs_98_26_0, zs_98_26_1, zs_98_26, zc_isO, zr_fld_mk, zc_isA, zc_len, zr_elt_mk, zr_kill_i, zr_kill_l, zr_kill_r, zr_kill_u, zr_kill_f, zr_kill_n, zc_cat, zr_cat_i, zr_cat_l, zr_cat_r, zr_cat_f, zr_cat_d, zr_cat_u, beq_self_eq_true, Nat.zero_le, Nat.le_refl, Nat.reduceSub, Nat.reduceAdd, Nat.reduceLeDiff, csl_f, csr_f, cn_f, lg_cmp_eq, lg_cmp_le, lg_cmp_lt, lg_cmp_ge, lg_cmp_gt, nI_1, zr_up_self, zp_O, zr_fup_self, zr_fup_ne, ne_eq, Nat.reduceEqDiff, not_false_eq_true, pk_mul, hX, zx_I]
  refine k_plc hX v (fun p hp e => ?_) (fun e => ?_)
  · subst e
    rw [plq_s hp hn] at hQ
    simp only [zs_98_0, zs_98_0u, zs_98_1, zs_98_2, zt_98_2, zs_98_5, zs_98_5u, zs_98_6, zs_98_9, zs_98_12, zs_98_12u, zs_98_13, zs_98_16, zs_98_19, zs_98_20, zt_98_20, zs_98_23, zt_98_23, zs_98_26_0, zs_98_26_1, zs_98_26, zc_isO, zr_fld_mk, zc_isA, zc_len, zr_elt_mk, zr_kill_i, zr_kill_l, zr_kill_r, zr_kill_u, zr_kill_f, zr_kill_n, zc_cat, zr_cat_i, zr_cat_l, zr_cat_r, zr_cat_f, zr_cat_d, zr_cat_u, beq_self_eq_true, Nat.zero_le, Nat.le_refl, Nat.reduceSub, Nat.reduceAdd, Nat.reduceLeDiff, csl_f, csr_f, cn_f, lg_cmp_eq, lg_cmp_le, lg_cmp_lt, lg_cmp_ge, lg_cmp_gt, nI_1, zr_up_self, zp_O, zr_fup_self, zr_fup_ne, ne_eq, Nat.reduceEqDiff, not_false_eq_true, pk_mul, hX, zx_I, zx_0, hM, zm_I, zm_0, hB, zb_O]
    refine k_po hg hB hG hp ?_
    simp only [zs_98_0, zs_98_0u, zs_98_1, zs_98_2, zt_98_2, zs_98_5, zs_98_5u, zs_98_6, zs_98_9, zs_98_12, zs_98_12u, zs_98_13, zs_98_16, zs_98_19, zs_98_20, zt_98_20, zs_98_23, zt_98_23, zs_98_26_0, zs_98_26_1, zs_98_26, zc_isO, zr_fld_mk, zc_isA, zc_len, zr_elt_mk, zr_kill_i, zr_kill_l, zr_kill_r, zr_kill_u, zr_kill_f, zr_kill_n, zc_cat, zr_cat_i, zr_cat_l, zr_cat_r, zr_cat_f, zr_cat_d, zr_cat_u, beq_self_eq_true, Nat.zero_le, Nat.le_refl, Nat.reduceSub, Nat.reduceAdd, Nat.reduceLeDiff, csl_f, csr_f, cn_f, lg_cmp_eq, lg_cmp_le, lg_cmp_lt, lg_cmp_ge, lg_cmp_gt, nI_1, zr_up_self, zp_O, zr_fup_self, zr_fup_ne, ne_eq, Nat.reduceEqDiff, not_false_eq_true, pk_mul, hX, zx_I, zx_0, hM, zm_I, zm_0, hB, zb_O]
    refine k_kb hg hB hG (fun e => ?_) (fun e => ?_)
    · simp only [zs_98_0, zs_98_0u, zs_98_1, zs_98_2, zt_98_2, zs_98_5, zs_98_5u, zs_98_6, zs_98_9, zs_98_12, zs_98_12u, zs_98_13, zs_98_16, zs_98_19, zs_98_20, zt_98_20, zs_98_23, zt_98_23, zs_98_26_0, zs_98_26_1, zs_98_26, zc_isO, zr_fld_mk, zc_isA, zc_len, zr_elt_mk, zr_kill_i, zr_kill_l, zr_kill_r, zr_kill_u, zr_kill_f, zr_kill_n, zc_cat, zr_cat_i, zr_cat_l, zr_cat_r, zr_cat_f, zr_cat_d, zr_cat_u, beq_self_eq_true, Nat.zero_le, Nat.le_refl, Nat.reduceSub, Nat.reduceAdd, Nat.reduceLeDiff, csl_f, csr_f, cn_f, lg_cmp_eq, lg_cmp_le, lg_cmp_lt, lg_cmp_ge, lg_cmp_gt, nI_1, zr_up_self, zp_O, zr_fup_self, zr_fup_ne, ne_eq, Nat.reduceEqDiff, not_false_eq_true, pk_mul]
      exact hQ (.inl 1) (Or.inl ⟨e, rfl⟩)
    · simp only [zs_98_0, zs_98_0u, zs_98_1, zs_98_2, zt_98_2, zs_98_5, zs_98_5u, zs_98_6, zs_98_9, zs_98_12, zs_98_12u, zs_98_13, zs_98_16, zs_98_19, zs_98_20, zt_98_20, zs_98_23, zt_98_23, zs_98_26_0, zs_98_26_1, zs_98_26, zc_isO, zr_fld_mk, zc_isA, zc_len, zr_elt_mk, zr_kill_i, zr_kill_l, zr_kill_r, zr_kill_u, zr_kill_f, zr_kill_n, zc_cat, zr_cat_i, zr_cat_l, zr_cat_r, zr_cat_f, zr_cat_d, zr_cat_u, beq_self_eq_true, Nat.zero_le, Nat.le_refl, Nat.reduceSub, Nat.reduceAdd, Nat.reduceLeDiff, csl_f, csr_f, cn_f, lg_cmp_eq, lg_cmp_le, lg_cmp_lt, lg_cmp_ge, lg_cmp_gt, nI_1, zr_up_self, zp_O, zr_fup_self, zr_fup_ne, ne_eq, Nat.reduceEqDiff, not_false_eq_true, pk_mul]
      exact hQ (.inl 0) (Or.inr ⟨e, rfl⟩)
  · rw [plq_n hn e] at hQ
    rw [zk_thr zf_hh_98]
    exact hQ (.inr 2) rfl
end FACE
