/-! THE MODEL: rows copied -/
section MODEL
variable {d : Nat} {h h' : zr_H} {Q : zr_K} {m : Nat} {E : Nat → Nat} {K : Nat → Int32} {L : Nat → Int64} {f ff fk fs : Nat → Int64} {sv bf wf : Nat → Value}
def cpF (f g : Nat → Int64) (a k : Nat) : Nat → Int64 := fun j => if j < k then g (a + j) else f j
theorem k_mbec (v : ms h m E K L f ff fk fs sv bf wf) {q N a : Nat} {g : Nat → Int64} (hq : q ≠ E 0) (ha : aL h q N g) (hN : a + 73 ≤ N) (hN2 : N < 1000) (hQ : ∀ h', ms h' m E K L (fun k => g (a + k)) ff fk fs sv bf wf → fx (MX m E) h h' → Q (.inl none) h') : zr_E (d + 1) 122 [.ref m, .ref q, .int (nI a)] h Q := by
  have loop : ∀ t k, k + t = 73 → ∀ h1, ms h1 m E K L (cpF f g a k) ff fk fs sv bf wf → fx (MX m E) h h1 → aL h1 q N g → zr_Z d 122 Q 2 [some (.ref m), some (.ref q), some (.int (nI a)), some (.int (nI k))] [] h1 0 0 := by
    intro t
    induction t with
    | zero =>
      intro k hk h1 v1 f1 a1
      have : k = 73 := by omega
      subst this
      simp only [zs_122_0, zs_122_1, zs_122_2, zs_122_3, zs_122_5, zs_122_9, zs_122_12, zs_122_13, zs_122_13u, zs_122_14, zs_122_15, zs_122_16, zs_122_17, zs_122_18, zs_122_19, zs_122_22, zs_122_25, zc_isO, zr_fld_mk, zc_isA, zc_len, zr_elt_mk, zr_kill_i, zr_kill_l, zr_kill_r, zr_kill_u, zr_kill_f, zr_kill_n, zc_cat, zr_cat_i, zr_cat_l, zr_cat_r, zr_cat_f, zr_cat_d, zr_cat_u, beq_self_eq_true, Nat.zero_le, Nat.le_refl, Nat.reduceSub, Nat.reduceAdd, Nat.reduceLeDiff, csl_f, csr_f, cn_f, lg_cmp_eq, lg_cmp_le, lg_cmp_lt, lg_cmp_ge, lg_cmp_gt, nI_1, zr_up_self, zp_O, zr_fup_self, zr_fup_ne, ne_eq, Nat.reduceEqDiff, not_false_eq_true, pk_mul]
      refine ⟨fun _ => ?_, fun z => absurd (by decide) z⟩
      refine hQ h1 (ms_eq v1 (fun k hk => ?_) (fun _ _ => rfl) (fun _ _ => rfl) (fun _ _ => rfl)) f1
      unfold cpF
      rw [if_pos hk]
    | succ t ih =>
      intro k hk h1 v1 f1 a1
      have b1 := aL_isA v1.2.1
      have b2 := aL_in v1.2.1 (k := k) (by omega) (by omega)
      have b3 := aL_isA a1
      have b4 := aL_in a1 (k := a + k) (by omega) (by omega)
      have b5 := aL_elt a1 (k := a + k) (by omega) (by omega)
      have e1 : (nI k).toNatClampNeg = k := nI_clamp (by omega)
      simp only [zs_122_0, zs_122_1, zs_122_2, zs_122_3, zs_122_5, zs_122_9, zs_122_12, zs_122_13, zs_122_13u, zs_122_14, zs_122_15, zs_122_16, zs_122_17, zs_122_18, zs_122_19, zs_122_22, zs_122_25, zc_isO, zr_fld_mk, zc_isA, zc_len, zr_elt_mk, zr_kill_i, zr_kill_l, zr_kill_r, zr_kill_u, zr_kill_f, zr_kill_n, zc_cat, zr_cat_i, zr_cat_l, zr_cat_r, zr_cat_f, zr_cat_d, zr_cat_u, beq_self_eq_true, Nat.zero_le, Nat.le_refl, Nat.reduceSub, Nat.reduceAdd, Nat.reduceLeDiff, csl_f, csr_f, cn_f, lg_cmp_eq, lg_cmp_le, lg_cmp_lt, lg_cmp_ge, lg_cmp_gt, nI_1, zr_up_self, zp_O, zr_fup_self, zr_fup_ne, ne_eq, Nat.reduceEqDiff, not_false_eq_true, pk_mul]
      refine ⟨fun z => absurd z (nI_ge (b := 73) (by omega) (by omega)), fun _ => ?_⟩
      simp only [zs_122_0, zs_122_1, zs_122_2, zs_122_3, zs_122_5, zs_122_8, zs_122_8u, zs_122_9, zs_122_12, zs_122_13, zs_122_13u, zs_122_14, zs_122_15, zs_122_16, zs_122_17, zs_122_18, zs_122_22, zs_122_25, zc_isO, zr_fld_mk, zc_isA, zc_len, zr_elt_mk, zr_kill_i, zr_kill_l, zr_kill_r, zr_kill_u, zr_kill_f, zr_kill_n, zc_cat, zr_cat_i, zr_cat_l, zr_cat_r, zr_cat_f, zr_cat_d, zr_cat_u, beq_self_eq_true, Nat.zero_le, Nat.le_refl, Nat.reduceSub, Nat.reduceAdd, Nat.reduceLeDiff, csl_f, csr_f, cn_f, lg_cmp_eq, lg_cmp_le, lg_cmp_lt, lg_cmp_ge, lg_cmp_gt, nI_1, zr_up_self, zp_O, zr_fup_self, zr_fup_ne, ne_eq, Nat.reduceEqDiff, not_false_eq_true, pk_mul, v1.1, zy_I, zy_0, nI_add, b1, b2, b3, b4, b5, e1]
      obtain ⟨v2, f2⟩ := ms_f v1 (i := k) (y := g (a + k)) (g := cpF f g a (k + 1)) (fun j hj => by
        unfold cpF
        by_cases e : j = k
        · rw [if_pos (by omega), if_pos e, e]
        · rw [if_neg e]
          by_cases l : j < k
          · rw [if_pos (by omega), if_pos l]
          · rw [if_neg (by omega), if_neg l])
      have := ih (k + 1) (by omega) _ v2 (fx_trans f1 f2) (by
        obtain ⟨F, e, r⟩ := a1
        exact ⟨F, putA_ot hq e, r⟩)
      simp only [zs_122_0, zs_122_1, zs_122_3, zs_122_5, zs_122_8, zs_122_8u, zs_122_9, zs_122_12, zs_122_13, zs_122_13u, zs_122_14, zs_122_15, zs_122_16, zs_122_17, zs_122_18, zs_122_19, zs_122_22, zs_122_25, zc_isO, zr_fld_mk, zc_isA, zc_len, zr_elt_mk, zr_kill_i, zr_kill_l, zr_kill_r, zr_kill_u, zr_kill_f, zr_kill_n, zc_cat, zr_cat_i, zr_cat_l, zr_cat_r, zr_cat_f, zr_cat_d, zr_cat_u, beq_self_eq_true, Nat.zero_le, Nat.le_refl, Nat.reduceSub, Nat.reduceAdd, Nat.reduceLeDiff, csl_f, csr_f, cn_f, lg_cmp_eq, lg_cmp_le, lg_cmp_lt, lg_cmp_ge, lg_cmp_gt, nI_1, zr_up_self, zp_O, zr_fup_self, zr_fup_ne, ne_eq, Nat.reduceEqDiff, not_false_eq_true, pk_mul]
      exact this
  rw [ze_122]
  simp only [zs_122_0, zs_122_1, zs_122_3, zs_122_5, zs_122_8, zs_122_8u, zs_122_9, zs_122_12, zs_122_13, zs_122_13u, zs_122_14, zs_122_15, zs_122_16, zs_122_17, zs_122_18, zs_122_19, zs_122_22, zs_122_25, zc_isO, zr_fld_mk, zc_isA, zc_len, zr_elt_mk, zr_kill_i, zr_kill_l, zr_kill_r, zr_kill_u, zr_kill_f, zr_kill_n, zc_cat, zr_cat_i, zr_cat_l, zr_cat_r, zr_cat_f, zr_cat_d, zr_cat_u, beq_self_eq_true, Nat.zero_le, Nat.le_refl, Nat.reduceSub, Nat.reduceAdd, Nat.reduceLeDiff, csl_f, csr_f, cn_f, lg_cmp_eq, lg_cmp_le, lg_cmp_lt, lg_cmp_ge, lg_cmp_gt, nI_1, zr_up_self, zp_O, zr_fup_self, zr_fup_ne, ne_eq, Nat.reduceEqDiff, not_false_eq_true, pk_mul]
  exact loop 73 0 rfl h (ms_eq v (fun k hk => by unfold cpF; rw [if_neg (by omega)]) (fun _ _ => rfl) (fun _ _ => rfl) (fun _ _ => rfl)) (fx_refl _ _) ha
/-- the stack of rows, one more -/
def kp1 (fk : Nat → Int64) (u : Nat) : Nat → Int64 := fun j => if u = 8 ∧ j < 511 then fk (j + 73) else fk j
def kp2 (fk f : Nat → Int64) (u1 k : Nat) : Nat → Int64 := fun j => if 73 * u1 ≤ j ∧ j < 73 * u1 + k then f (j - 73 * u1) else fk j
theorem k_mkeep (v : ms h m E K L f ff fk fs sv bf wf) {u : Nat} (hu : u ≤ 8) (hK : K 5 = nI u) (hQ : ∀ h', ms h' m E (fI K 5 (nI (min (u + 1) 8))) L f ff (kp2 (kp1 fk u) f (min u 7) 73) fs sv bf wf → fx (MX m E) h h' → Q (.inl none) h') : zr_E (d + 1) 125 [.ref m] h Q := by
  have tail : ∀ h1, ms h1 m E (fI K 5 (nI (min u 7))) L f ff (kp1 fk u) fs sv bf wf → fx (MX m E) h h1 → ∀ x1 : Option Value, zr_Z d 125 Q 49 [some (.ref m), x1] [] h1 0 0 := by
    intro h1 v1 f1 x1
    have hK1 : fI K 5 (nI (min u 7)) 5 = nI (min u 7) := fI_s _ _ _
    simp only [zs_125_0, zs_125_0u, zs_125_1, zs_125_4, zs_125_6, zs_125_9, zs_125_10, zs_125_11, zs_125_12, zs_125_15, zs_125_18, zs_125_18u, zs_125_19, zs_125_22, zs_125_23, zs_125_23u, zs_125_24, zs_125_27, zs_125_28, zs_125_30, zs_125_31, zs_125_32, zs_125_33, zs_125_36, zs_125_39, zs_125_39u, zs_125_40, zs_125_40i, zs_125_41, zs_125_44, zs_125_45, zs_125_46, zs_125_49, zs_125_50, zs_125_52, zs_125_54, zs_125_57, zs_125_57u, zs_125_58, zs_125_61, zs_125_63, zs_125_63u, zs_125_64, zs_125_67, zs_125_68, zs_125_69, zs_125_70, zs_125_70u, zs_125_71, zs_125_74, zs_125_75, zs_125_76, zs_125_77, zs_125_80, zs_125_83, zs_125_83u, zs_125_84, zs_125_84i, zs_125_85, zs_125_88, zs_125_89, zs_125_90, zs_125_93, zc_isO, zr_fld_mk, zc_isA, zc_len, zr_elt_mk, zr_kill_i, zr_kill_l, zr_kill_r, zr_kill_u, zr_kill_f, zr_kill_n, zc_cat, zr_cat_i, zr_cat_l, zr_cat_r, zr_cat_f, zr_cat_d, zr_cat_u, beq_self_eq_true, Nat.zero_le, Nat.le_refl, Nat.reduceSub, Nat.reduceAdd, Nat.reduceLeDiff, csl_f, csr_f, cn_f, lg_cmp_eq, lg_cmp_le, lg_cmp_lt, lg_cmp_ge, lg_cmp_gt, nI_1, zr_up_self, zp_O, zr_fup_self, zr_fup_ne, ne_eq, Nat.reduceEqDiff, not_false_eq_true, pk_mul]
    have loop : ∀ t k, k + t = 73 → ∀ h2, ms h2 m E (fI K 5 (nI (min u 7))) L f ff (kp2 (kp1 fk u) f (min u 7) k) fs sv bf wf → fx (MX m E) h h2 → zr_Z d 125 Q 51 [some (.ref m), some (.int (nI k))] [] h2 0 0 := by
      intro t
      induction t with
      | zero =>
        intro k hk h2 v2 f2
        have : k = 73 := by omega
        subst this
        have e : nI (min u 7) + 1 = nI (min (u + 1) 8) := by
          have : nI (min u 7) + 1 = nI (min u 7 + 1) := nI_add _ 1
          rw [this]
          congr 1
          omega
        simp only [zs_125_0, zs_125_0u, zs_125_1, zs_125_4, zs_125_6, zs_125_9, zs_125_10, zs_125_11, zs_125_12, zs_125_15, zs_125_18, zs_125_18u, zs_125_19, zs_125_22, zs_125_23, zs_125_23u, zs_125_24, zs_125_27, zs_125_28, zs_125_30, zs_125_31, zs_125_32, zs_125_33, zs_125_36, zs_125_39, zs_125_39u, zs_125_40, zs_125_40i, zs_125_41, zs_125_44, zs_125_45, zs_125_46, zs_125_49, zs_125_50, zs_125_51, zs_125_52, zs_125_54, zs_125_58, zs_125_61, zs_125_63, zs_125_63u, zs_125_64, zs_125_67, zs_125_68, zs_125_69, zs_125_70, zs_125_70u, zs_125_71, zs_125_74, zs_125_75, zs_125_76, zs_125_77, zs_125_80, zs_125_84, zs_125_84i, zs_125_85, zs_125_88, zs_125_89, zs_125_90, zs_125_93, zc_isO, zr_fld_mk, zc_isA, zc_len, zr_elt_mk, zr_kill_i, zr_kill_l, zr_kill_r, zr_kill_u, zr_kill_f, zr_kill_n, zc_cat, zr_cat_i, zr_cat_l, zr_cat_r, zr_cat_f, zr_cat_d, zr_cat_u, beq_self_eq_true, Nat.zero_le, Nat.le_refl, Nat.reduceSub, Nat.reduceAdd, Nat.reduceLeDiff, csl_f, csr_f, cn_f, lg_cmp_eq, lg_cmp_le, lg_cmp_lt, lg_cmp_ge, lg_cmp_gt, nI_1, zr_up_self, zp_O, zr_fup_self, zr_fup_ne, ne_eq, Nat.reduceEqDiff, not_false_eq_true, pk_mul]
        refine ⟨fun _ => ?_, fun z => absurd (by decide) z⟩
        simp only [zs_125_0, zs_125_0u, zs_125_1, zs_125_4, zs_125_6, zs_125_9, zs_125_10, zs_125_11, zs_125_12, zs_125_15, zs_125_18, zs_125_18u, zs_125_19, zs_125_22, zs_125_23, zs_125_23u, zs_125_24, zs_125_27, zs_125_28, zs_125_30, zs_125_31, zs_125_32, zs_125_33, zs_125_36, zs_125_39, zs_125_39u, zs_125_40, zs_125_40i, zs_125_41, zs_125_44, zs_125_45, zs_125_46, zs_125_49, zs_125_50, zs_125_51, zs_125_52, zs_125_54, zs_125_57, zs_125_57u, zs_125_58, zs_125_61, zs_125_63, zs_125_63u, zs_125_64, zs_125_67, zs_125_68, zs_125_69, zs_125_70, zs_125_70u, zs_125_71, zs_125_74, zs_125_75, zs_125_76, zs_125_77, zs_125_80, zs_125_83, zs_125_83u, zs_125_84, zs_125_84i, zs_125_85, zs_125_88, zs_125_89, zs_125_90, zc_isO, zr_fld_mk, zc_isA, zc_len, zr_elt_mk, zr_kill_i, zr_kill_l, zr_kill_r, zr_kill_u, zr_kill_f, zr_kill_n, zc_cat, zr_cat_i, zr_cat_l, zr_cat_r, zr_cat_f, zr_cat_d, zr_cat_u, beq_self_eq_true, Nat.zero_le, Nat.le_refl, Nat.reduceSub, Nat.reduceAdd, Nat.reduceLeDiff, csl_f, csr_f, cn_f, lg_cmp_eq, lg_cmp_le, lg_cmp_lt, lg_cmp_ge, lg_cmp_gt, nI_1, zr_up_self, zp_O, zr_fup_self, zr_fup_ne, ne_eq, Nat.reduceEqDiff, not_false_eq_true, pk_mul, v2.1, zy_I, zy_5, hK1, e]
        rw [putY v2.1 (by omega)]
        obtain ⟨v3, f3⟩ := ms_up v2 (fI (fI K 5 (nI (min u 7))) 5 (nI (min (u + 1) 8))) L
        rw [fI_fI] at v3 f3 ⊢
        simp only [zs_125_0, zs_125_0u, zs_125_1, zs_125_4, zs_125_6, zs_125_9, zs_125_10, zs_125_11, zs_125_12, zs_125_15, zs_125_18, zs_125_18u, zs_125_19, zs_125_22, zs_125_23, zs_125_23u, zs_125_24, zs_125_27, zs_125_28, zs_125_30, zs_125_31, zs_125_32, zs_125_33, zs_125_36, zs_125_39, zs_125_39u, zs_125_40, zs_125_40i, zs_125_41, zs_125_44, zs_125_45, zs_125_46, zs_125_49, zs_125_50, zs_125_51, zs_125_52, zs_125_54, zs_125_57, zs_125_57u, zs_125_58, zs_125_61, zs_125_63, zs_125_63u, zs_125_64, zs_125_67, zs_125_68, zs_125_69, zs_125_70, zs_125_70u, zs_125_71, zs_125_74, zs_125_75, zs_125_76, zs_125_77, zs_125_80, zs_125_83, zs_125_83u, zs_125_84, zs_125_84i, zs_125_85, zs_125_88, zs_125_89, zs_125_90, zs_125_93, zc_isO, zr_fld_mk, zc_isA, zc_len, zr_elt_mk, zr_kill_i, zr_kill_l, zr_kill_r, zr_kill_u, zr_kill_f, zr_kill_n, zc_cat, zr_cat_i, zr_cat_l, zr_cat_r, zr_cat_f, zr_cat_d, zr_cat_u, beq_self_eq_true, Nat.zero_le, Nat.le_refl, Nat.reduceSub, Nat.reduceAdd, Nat.reduceLeDiff, csl_f, csr_f, cn_f, lg_cmp_eq, lg_cmp_le, lg_cmp_lt, lg_cmp_ge, lg_cmp_gt, nI_1, zr_up_self, zp_O, zr_fup_self, zr_fup_ne, ne_eq, Nat.reduceEqDiff, not_false_eq_true, pk_mul]
        exact hQ _ v3 (fx_trans f2 f3)
      | succ t ih =>
        intro k hk h2 v2 f2
        have b1 := aL_isA v2.2.2.2.1
        have b2 := aL_in v2.2.2.2.1 (k := 73 * min u 7 + k) (by omega) (by omega)
        have b3 := aL_isA v2.2.1
        have b4 := aL_in v2.2.1 (k := k) (by omega) (by omega)
        have b5 := aL_elt v2.2.1 (k := k) (by omega) (by omega)
        have e1 : (nI (73 * min u 7 + k)).toNatClampNeg = 73 * min u 7 + k := nI_clamp (by omega)
        have e2 : (73 : Int32) * nI (min u 7) = nI (73 * min u 7) := pk_mul 73 _
        simp only [zs_125_0, zs_125_0u, zs_125_1, zs_125_4, zs_125_6, zs_125_9, zs_125_10, zs_125_11, zs_125_12, zs_125_15, zs_125_18, zs_125_18u, zs_125_19, zs_125_22, zs_125_23, zs_125_23u, zs_125_24, zs_125_27, zs_125_28, zs_125_30, zs_125_31, zs_125_32, zs_125_33, zs_125_36, zs_125_39, zs_125_39u, zs_125_40, zs_125_40i, zs_125_41, zs_125_44, zs_125_45, zs_125_46, zs_125_49, zs_125_50, zs_125_51, zs_125_52, zs_125_54, zs_125_58, zs_125_61, zs_125_63, zs_125_63u, zs_125_64, zs_125_67, zs_125_68, zs_125_69, zs_125_70, zs_125_70u, zs_125_71, zs_125_74, zs_125_75, zs_125_76, zs_125_77, zs_125_80, zs_125_84, zs_125_84i, zs_125_85, zs_125_88, zs_125_89, zs_125_90, zs_125_93, zc_isO, zr_fld_mk, zc_isA, zc_len, zr_elt_mk, zr_kill_i, zr_kill_l, zr_kill_r, zr_kill_u, zr_kill_f, zr_kill_n, zc_cat, zr_cat_i, zr_cat_l, zr_cat_r, zr_cat_f, zr_cat_d, zr_cat_u, beq_self_eq_true, Nat.zero_le, Nat.le_refl, Nat.reduceSub, Nat.reduceAdd, Nat.reduceLeDiff, csl_f, csr_f, cn_f, lg_cmp_eq, lg_cmp_le, lg_cmp_lt, lg_cmp_ge, lg_cmp_gt, nI_1, zr_up_self, zp_O, zr_fup_self, zr_fup_ne, ne_eq, Nat.reduceEqDiff, not_false_eq_true, pk_mul]
        refine ⟨fun z => absurd z (nI_ge (b := 73) (by omega) (by omega)), fun _ => ?_⟩
        simp only [zs_125_0, zs_125_0u, zs_125_1, zs_125_4, zs_125_6, zs_125_9, zs_125_10, zs_125_11, zs_125_12, zs_125_15, zs_125_18, zs_125_18u, zs_125_19, zs_125_22, zs_125_23, zs_125_23u, zs_125_24, zs_125_27, zs_125_28, zs_125_30, zs_125_31, zs_125_32, zs_125_33, zs_125_36, zs_125_39, zs_125_39u, zs_125_40, zs_125_40i, zs_125_41, zs_125_44, zs_125_45, zs_125_46, zs_125_49, zs_125_50, zs_125_51, zs_125_52, zs_125_54, zs_125_57, zs_125_57u, zs_125_58, zs_125_61, zs_125_63, zs_125_63u, zs_125_64, zs_125_67, zs_125_68, zs_125_69, zs_125_70, zs_125_70u, zs_125_71, zs_125_74, zs_125_75, zs_125_76, zs_125_80, zs_125_83, zs_125_83u, zs_125_84, zs_125_84i, zs_125_85, zs_125_88, zs_125_89, zs_125_90, zs_125_93, zc_isO, zr_fld_mk, zc_isA, zc_len, zr_elt_mk, zr_kill_i, zr_kill_l, zr_kill_r, zr_kill_u, zr_kill_f, zr_kill_n, zc_cat, zr_cat_i, zr_cat_l, zr_cat_r, zr_cat_f, zr_cat_d, zr_cat_u, beq_self_eq_true, Nat.zero_le, Nat.le_refl, Nat.reduceSub, Nat.reduceAdd, Nat.reduceLeDiff, csl_f, csr_f, cn_f, lg_cmp_eq, lg_cmp_le, lg_cmp_lt, lg_cmp_ge, lg_cmp_gt, nI_1, zr_up_self, zp_O, zr_fup_self, zr_fup_ne, ne_eq, Nat.reduceEqDiff, not_false_eq_true, pk_mul, v2.1, zy_I, zy_2, zy_0, zy_5, hK1, e2, nI_add, b1, b2, b3, b4, b5, e1]
        obtain ⟨v3, f3⟩ := ms_fk v2 (i := 73 * min u 7 + k) (y := f k) (g := kp2 (kp1 fk u) f (min u 7) (k + 1)) (fun j hj => by
          unfold kp2
          by_cases e : j = 73 * min u 7 + k
          · rw [if_pos (by omega), if_pos e, e, Nat.add_sub_cancel_left]
          · rw [if_neg e]
            by_cases l : 73 * min u 7 ≤ j ∧ j < 73 * min u 7 + k
            · rw [if_pos (by omega), if_pos l]
            · rw [if_neg (by omega), if_neg l])
        have := ih (k + 1) (by omega) _ v3 (fx_trans f2 f3)
        simp only [zs_125_0, zs_125_0u, zs_125_1, zs_125_4, zs_125_6, zs_125_9, zs_125_10, zs_125_11, zs_125_12, zs_125_15, zs_125_18, zs_125_18u, zs_125_19, zs_125_22, zs_125_23, zs_125_23u, zs_125_24, zs_125_27, zs_125_28, zs_125_30, zs_125_31, zs_125_32, zs_125_33, zs_125_36, zs_125_39, zs_125_39u, zs_125_40, zs_125_40i, zs_125_41, zs_125_44, zs_125_45, zs_125_46, zs_125_49, zs_125_50, zs_125_52, zs_125_54, zs_125_57, zs_125_57u, zs_125_58, zs_125_61, zs_125_63, zs_125_63u, zs_125_64, zs_125_67, zs_125_68, zs_125_69, zs_125_70, zs_125_70u, zs_125_71, zs_125_74, zs_125_75, zs_125_76, zs_125_77, zs_125_80, zs_125_83, zs_125_83u, zs_125_84, zs_125_84i, zs_125_85, zs_125_88, zs_125_89, zs_125_90, zs_125_93, zc_isO, zr_fld_mk, zc_isA, zc_len, zr_elt_mk, zr_kill_i, zr_kill_l, zr_kill_r, zr_kill_u, zr_kill_f, zr_kill_n, zc_cat, zr_cat_i, zr_cat_l, zr_cat_r, zr_cat_f, zr_cat_d, zr_cat_u, beq_self_eq_true, Nat.zero_le, Nat.le_refl, Nat.reduceSub, Nat.reduceAdd, Nat.reduceLeDiff, csl_f, csr_f, cn_f, lg_cmp_eq, lg_cmp_le, lg_cmp_lt, lg_cmp_ge, lg_cmp_gt, nI_1, zr_up_self, zp_O, zr_fup_self, zr_fup_ne, ne_eq, Nat.reduceEqDiff, not_false_eq_true, pk_mul]
        exact this
    exact loop 73 0 rfl h1 (ms_eq v1 (fun _ _ => rfl) (fun _ _ => rfl) (fun j hj => by unfold kp2; rw [if_neg (by omega)]) (fun _ _ => rfl)) f1
  rw [ze_125]
  simp only [zs_125_0, zs_125_0u, zs_125_1, zs_125_4, zs_125_6, zs_125_10, zs_125_11, zs_125_12, zs_125_15, zs_125_18, zs_125_18u, zs_125_19, zs_125_22, zs_125_23, zs_125_23u, zs_125_24, zs_125_27, zs_125_28, zs_125_30, zs_125_31, zs_125_32, zs_125_33, zs_125_36, zs_125_39, zs_125_39u, zs_125_40, zs_125_40i, zs_125_41, zs_125_44, zs_125_45, zs_125_46, zs_125_50, zs_125_51, zs_125_52, zs_125_54, zs_125_57, zs_125_57u, zs_125_58, zs_125_61, zs_125_63, zs_125_63u, zs_125_64, zs_125_67, zs_125_68, zs_125_69, zs_125_70, zs_125_70u, zs_125_71, zs_125_74, zs_125_75, zs_125_76, zs_125_77, zs_125_80, zs_125_83, zs_125_83u, zs_125_84, zs_125_84i, zs_125_85, zs_125_88, zs_125_89, zs_125_90, zs_125_93, zc_isO, zr_fld_mk, zc_isA, zc_len, zr_elt_mk, zr_kill_i, zr_kill_l, zr_kill_r, zr_kill_u, zr_kill_f, zr_kill_n, zc_cat, zr_cat_i, zr_cat_l, zr_cat_r, zr_cat_f, zr_cat_d, zr_cat_u, beq_self_eq_true, Nat.zero_le, Nat.le_refl, Nat.reduceSub, Nat.reduceAdd, Nat.reduceLeDiff, csl_f, csr_f, cn_f, lg_cmp_eq, lg_cmp_le, lg_cmp_lt, lg_cmp_ge, lg_cmp_gt, nI_1, zr_up_self, zp_O, zr_fup_self, zr_fup_ne, ne_eq, Nat.reduceEqDiff, not_false_eq_true, pk_mul, v.1, zy_I, zy_5, hK]
  have e8 : nI u = 8 ↔ u = 8 := nI_eq (b := 8) (by omega) (by omega)
  rw [e8]
  refine ⟨fun z => ?_, fun z => ?_⟩
  · have e : min u 7 = u := by omega
    have eK : fI K 5 (nI (min u 7)) = K := by
      rw [e, ← hK]
      funext j
      unfold fI
      by_cases c : j = 5
      · rw [if_pos c, c]
      · rw [if_neg c]
    refine tail h ?_ (fx_refl _ _) _
    rw [eK]
    exact ms_eq v (fun _ _ => rfl) (fun _ _ => rfl) (fun j hj => by unfold kp1; rw [if_neg (fun y => z y.1)]) (fun _ _ => rfl)
  · subst z
    simp only [zs_125_0, zs_125_0u, zs_125_1, zs_125_4, zs_125_6, zs_125_9, zs_125_10, zs_125_12, zs_125_15, zs_125_18, zs_125_18u, zs_125_19, zs_125_22, zs_125_23, zs_125_23u, zs_125_24, zs_125_27, zs_125_28, zs_125_30, zs_125_31, zs_125_32, zs_125_33, zs_125_36, zs_125_39, zs_125_39u, zs_125_40, zs_125_40i, zs_125_41, zs_125_44, zs_125_45, zs_125_46, zs_125_49, zs_125_50, zs_125_51, zs_125_52, zs_125_54, zs_125_57, zs_125_57u, zs_125_58, zs_125_61, zs_125_63, zs_125_63u, zs_125_64, zs_125_67, zs_125_68, zs_125_69, zs_125_70, zs_125_70u, zs_125_71, zs_125_74, zs_125_75, zs_125_76, zs_125_77, zs_125_80, zs_125_83, zs_125_83u, zs_125_84, zs_125_84i, zs_125_85, zs_125_88, zs_125_89, zs_125_90, zs_125_93, zc_isO, zr_fld_mk, zc_isA, zc_len, zr_elt_mk, zr_kill_i, zr_kill_l, zr_kill_r, zr_kill_u, zr_kill_f, zr_kill_n, zc_cat, zr_cat_i, zr_cat_l, zr_cat_r, zr_cat_f, zr_cat_d, zr_cat_u, beq_self_eq_true, Nat.zero_le, Nat.le_refl, Nat.reduceSub, Nat.reduceAdd, Nat.reduceLeDiff, csl_f, csr_f, cn_f, lg_cmp_eq, lg_cmp_le, lg_cmp_lt, lg_cmp_ge, lg_cmp_gt, nI_1, zr_up_self, zp_O, zr_fup_self, zr_fup_ne, ne_eq, Nat.reduceEqDiff, not_false_eq_true, pk_mul]
    have loop : ∀ t k, k + t = 511 → ∀ h2, ms h2 m E K L f ff (fun j => if j < k then fk (j + 73) else fk j) fs sv bf wf → fx (MX m E) h h2 → zr_Z d 125 Q 11 [some (.ref m), some (.int (nI k))] [] h2 0 0 := by
      intro t
      induction t with
      | zero =>
        intro k hk h2 v2 f2
        have : k = 511 := by omega
        subst this
        simp only [zs_125_0, zs_125_0u, zs_125_1, zs_125_4, zs_125_6, zs_125_9, zs_125_10, zs_125_11, zs_125_12, zs_125_15, zs_125_19, zs_125_22, zs_125_23, zs_125_23u, zs_125_24, zs_125_27, zs_125_28, zs_125_30, zs_125_31, zs_125_32, zs_125_33, zs_125_36, zs_125_40, zs_125_40i, zs_125_41, zs_125_44, zs_125_45, zs_125_46, zs_125_49, zs_125_50, zs_125_51, zs_125_52, zs_125_54, zs_125_57, zs_125_57u, zs_125_58, zs_125_61, zs_125_63, zs_125_63u, zs_125_64, zs_125_67, zs_125_68, zs_125_69, zs_125_70, zs_125_70u, zs_125_71, zs_125_74, zs_125_75, zs_125_76, zs_125_77, zs_125_80, zs_125_83, zs_125_83u, zs_125_84, zs_125_84i, zs_125_85, zs_125_88, zs_125_89, zs_125_90, zs_125_93, zc_isO, zr_fld_mk, zc_isA, zc_len, zr_elt_mk, zr_kill_i, zr_kill_l, zr_kill_r, zr_kill_u, zr_kill_f, zr_kill_n, zc_cat, zr_cat_i, zr_cat_l, zr_cat_r, zr_cat_f, zr_cat_d, zr_cat_u, beq_self_eq_true, Nat.zero_le, Nat.le_refl, Nat.reduceSub, Nat.reduceAdd, Nat.reduceLeDiff, csl_f, csr_f, cn_f, lg_cmp_eq, lg_cmp_le, lg_cmp_lt, lg_cmp_ge, lg_cmp_gt, nI_1, zr_up_self, zp_O, zr_fup_self, zr_fup_ne, ne_eq, Nat.reduceEqDiff, not_false_eq_true, pk_mul]
        refine ⟨fun _ => ?_, fun z => absurd (by decide) z⟩
        have e : nI 8 - 1 = nI 7 := by decide
        simp only [zs_125_0, zs_125_0u, zs_125_1, zs_125_4, zs_125_6, zs_125_9, zs_125_10, zs_125_11, zs_125_12, zs_125_15, zs_125_18, zs_125_18u, zs_125_19, zs_125_22, zs_125_23, zs_125_23u, zs_125_24, zs_125_27, zs_125_28, zs_125_30, zs_125_31, zs_125_32, zs_125_33, zs_125_36, zs_125_39, zs_125_39u, zs_125_40, zs_125_40i, zs_125_41, zs_125_44, zs_125_45, zs_125_46, zs_125_50, zs_125_51, zs_125_52, zs_125_54, zs_125_57, zs_125_57u, zs_125_58, zs_125_61, zs_125_63, zs_125_63u, zs_125_64, zs_125_67, zs_125_68, zs_125_69, zs_125_70, zs_125_70u, zs_125_71, zs_125_74, zs_125_75, zs_125_76, zs_125_77, zs_125_80, zs_125_83, zs_125_83u, zs_125_84, zs_125_84i, zs_125_85, zs_125_88, zs_125_89, zs_125_90, zs_125_93, zc_isO, zr_fld_mk, zc_isA, zc_len, zr_elt_mk, zr_kill_i, zr_kill_l, zr_kill_r, zr_kill_u, zr_kill_f, zr_kill_n, zc_cat, zr_cat_i, zr_cat_l, zr_cat_r, zr_cat_f, zr_cat_d, zr_cat_u, beq_self_eq_true, Nat.zero_le, Nat.le_refl, Nat.reduceSub, Nat.reduceAdd, Nat.reduceLeDiff, csl_f, csr_f, cn_f, lg_cmp_eq, lg_cmp_le, lg_cmp_lt, lg_cmp_ge, lg_cmp_gt, nI_1, zr_up_self, zp_O, zr_fup_self, zr_fup_ne, ne_eq, Nat.reduceEqDiff, not_false_eq_true, pk_mul, v2.1, zy_I, zy_5, hK, e]
        rw [putY v2.1 (by omega)]
        obtain ⟨v3, f3⟩ := ms_up v2 (fI K 5 (nI 7)) L
        refine tail _ (ms_eq v3 (fun _ _ => rfl) (fun _ _ => rfl) (fun j hj => ?_) (fun _ _ => rfl)) (fx_trans f2 f3) _
        unfold kp1
        by_cases l : j < 511
        · rw [if_pos ⟨rfl, l⟩, if_pos l]
        · rw [if_neg (fun y => l y.2), if_neg l]
      | succ t ih =>
        intro k hk h2 v2 f2
        have b1 := aL_isA v2.2.2.2.1
        have b2 := aL_in v2.2.2.2.1 (k := k) (by omega) (by omega)
        have b4 := aL_in v2.2.2.2.1 (k := k + 73) (by omega) (by omega)
        have b5 := aL_elt v2.2.2.2.1 (k := k + 73) (by omega) (by omega)
        rw [if_neg (by omega)] at b5
        have e1 : (nI k).toNatClampNeg = k := nI_clamp (by omega)
        have e2 : nI k + 73 = nI (k + 73) := nI_add k 73
        simp only [zs_125_0, zs_125_0u, zs_125_1, zs_125_4, zs_125_6, zs_125_9, zs_125_10, zs_125_11, zs_125_12, zs_125_15, zs_125_19, zs_125_22, zs_125_23, zs_125_23u, zs_125_24, zs_125_27, zs_125_28, zs_125_30, zs_125_31, zs_125_32, zs_125_33, zs_125_36, zs_125_40, zs_125_40i, zs_125_41, zs_125_44, zs_125_45, zs_125_46, zs_125_49, zs_125_50, zs_125_51, zs_125_52, zs_125_54, zs_125_57, zs_125_57u, zs_125_58, zs_125_61, zs_125_63, zs_125_63u, zs_125_64, zs_125_67, zs_125_68, zs_125_69, zs_125_70, zs_125_70u, zs_125_71, zs_125_74, zs_125_75, zs_125_76, zs_125_77, zs_125_80, zs_125_83, zs_125_83u, zs_125_84, zs_125_84i, zs_125_85, zs_125_88, zs_125_89, zs_125_90, zs_125_93, zc_isO, zr_fld_mk, zc_isA, zc_len, zr_elt_mk, zr_kill_i, zr_kill_l, zr_kill_r, zr_kill_u, zr_kill_f, zr_kill_n, zc_cat, zr_cat_i, zr_cat_l, zr_cat_r, zr_cat_f, zr_cat_d, zr_cat_u, beq_self_eq_true, Nat.zero_le, Nat.le_refl, Nat.reduceSub, Nat.reduceAdd, Nat.reduceLeDiff, csl_f, csr_f, cn_f, lg_cmp_eq, lg_cmp_le, lg_cmp_lt, lg_cmp_ge, lg_cmp_gt, nI_1, zr_up_self, zp_O, zr_fup_self, zr_fup_ne, ne_eq, Nat.reduceEqDiff, not_false_eq_true, pk_mul]
        refine ⟨fun z => absurd z (nI_ge (b := 511) (by omega) (by omega)), fun _ => ?_⟩
        simp only [zs_125_0, zs_125_0u, zs_125_1, zs_125_4, zs_125_6, zs_125_9, zs_125_10, zs_125_11, zs_125_12, zs_125_15, zs_125_18, zs_125_18u, zs_125_19, zs_125_22, zs_125_23, zs_125_23u, zs_125_24, zs_125_27, zs_125_28, zs_125_30, zs_125_31, zs_125_32, zs_125_36, zs_125_39, zs_125_39u, zs_125_40, zs_125_40i, zs_125_41, zs_125_44, zs_125_45, zs_125_46, zs_125_49, zs_125_50, zs_125_51, zs_125_52, zs_125_54, zs_125_57, zs_125_57u, zs_125_58, zs_125_61, zs_125_63, zs_125_63u, zs_125_64, zs_125_67, zs_125_68, zs_125_69, zs_125_70, zs_125_70u, zs_125_71, zs_125_74, zs_125_75, zs_125_76, zs_125_77, zs_125_80, zs_125_83, zs_125_83u, zs_125_84, zs_125_84i, zs_125_85, zs_125_88, zs_125_89, zs_125_90, zs_125_93, zc_isO, zr_fld_mk, zc_isA, zc_len, zr_elt_mk, zr_kill_i, zr_kill_l, zr_kill_r, zr_kill_u, zr_kill_f, zr_kill_n, zc_cat, zr_cat_i, zr_cat_l, zr_cat_r, zr_cat_f, zr_cat_d, zr_cat_u, beq_self_eq_true, Nat.zero_le, Nat.le_refl, Nat.reduceSub, Nat.reduceAdd, Nat.reduceLeDiff, csl_f, csr_f, cn_f, lg_cmp_eq, lg_cmp_le, lg_cmp_lt, lg_cmp_ge, lg_cmp_gt, nI_1, zr_up_self, zp_O, zr_fup_self, zr_fup_ne, ne_eq, Nat.reduceEqDiff, not_false_eq_true, pk_mul, v2.1, zy_I, zy_2, e2, b1, b2, b4, b5, e1]
        obtain ⟨v3, f3⟩ := ms_fk v2 (i := k) (y := fk (k + 73)) (g := fun j => if j < k + 1 then fk (j + 73) else fk j) (fun j hj => by
          by_cases e : j = k
          · rw [if_pos (by omega), if_pos e, e]
          · rw [if_neg e]
            by_cases l : j < k
            · rw [if_pos (by omega), if_pos l]
            · rw [if_neg (by omega), if_neg l])
        have := ih (k + 1) (by omega) _ v3 (fx_trans f2 f3)
        simp only [zs_125_0, zs_125_0u, zs_125_1, zs_125_4, zs_125_6, zs_125_9, zs_125_10, zs_125_12, zs_125_15, zs_125_18, zs_125_18u, zs_125_19, zs_125_22, zs_125_23, zs_125_23u, zs_125_24, zs_125_27, zs_125_28, zs_125_30, zs_125_31, zs_125_32, zs_125_33, zs_125_36, zs_125_39, zs_125_39u, zs_125_40, zs_125_40i, zs_125_41, zs_125_44, zs_125_45, zs_125_46, zs_125_49, zs_125_50, zs_125_51, zs_125_52, zs_125_54, zs_125_57, zs_125_57u, zs_125_58, zs_125_61, zs_125_63, zs_125_63u, zs_125_64, zs_125_67, zs_125_68, zs_125_69, zs_125_70, zs_125_70u, zs_125_71, zs_125_74, zs_125_75, zs_125_76, zs_125_77, zs_125_80, zs_125_83, zs_125_83u, zs_125_84, zs_125_84i, zs_125_85, zs_125_88, zs_125_89, zs_125_90, zs_125_93, zc_isO, zr_fld_mk, zc_isA, zc_len, zr_elt_mk, zr_kill_i, zr_kill_l, zr_kill_r, zr_kill_u, zr_kill_f, zr_kill_n, zc_cat, zr_cat_i, zr_cat_l, zr_cat_r, zr_cat_f, zr_cat_d, zr_cat_u, beq_self_eq_true, Nat.zero_le, Nat.le_refl, Nat.reduceSub, Nat.reduceAdd, Nat.reduceLeDiff, csl_f, csr_f, cn_f, lg_cmp_eq, lg_cmp_le, lg_cmp_lt, lg_cmp_ge, lg_cmp_gt, nI_1, zr_up_self, zp_O, zr_fup_self, zr_fup_ne, ne_eq, Nat.reduceEqDiff, not_false_eq_true, pk_mul]
        exact this
    exact loop 511 0 rfl h (ms_eq v (fun _ _ => rfl) (fun _ _ => rfl) (fun j hj => by rw [if_neg (by omega)]) (fun _ _ => rfl)) (fx_refl _ _)
theorem ms_a (v : ms h m E K L f ff fk fs sv bf wf) {k : Nat} (hk : k < 73) {y : Int32} (hy : y = nI k) : zr_isA (h (E 0)) 1 = true ∧ vp_in y (zr_len (h (E 0))) ∧ zr_elt (h (E 0)) y.toNatClampNeg = .long (f k) ∧ y.toNatClampNeg = k := by
  subst hy
  exact ⟨aL_isA v.2.1, aL_in v.2.1 hk (by omega), aL_elt v.2.1 hk (by omega), nI_clamp (by omega)⟩
theorem k_msn (v : ms h m E K L f ff fk fs sv bf wf) (hQ : Q (.inl (some (.int (nI (nb (f 11) 60 + nb (f 12) 60))))) h) : zr_E (d + 3) 127 [.ref m] h Q := by
  obtain ⟨a1, a2, a3, -⟩ := ms_a v (k := 11) (by omega) (y := 11) rfl
  obtain ⟨-, b2, b3, -⟩ := ms_a v (k := 12) (by omega) (y := 12) rfl
  have e12 : (11 : Int32) + 1 = 12 := by decide
  rw [ze_127]
  simp only [zs_127_0, zs_127_0u, zs_127_1, zs_127_4, zs_127_6, zs_127_7, zt_127_7, zs_127_10, zs_127_10u, zs_127_11, zs_127_14, zs_127_16, zs_127_17, zt_127_17, zs_127_20, zs_127_21, zc_isO, zr_fld_mk, zc_isA, zc_len, zr_elt_mk, zr_kill_i, zr_kill_l, zr_kill_r, zr_kill_u, zr_kill_f, zr_kill_n, zc_cat, zr_cat_i, zr_cat_l, zr_cat_r, zr_cat_f, zr_cat_d, zr_cat_u, beq_self_eq_true, Nat.zero_le, Nat.le_refl, Nat.reduceSub, Nat.reduceAdd, Nat.reduceLeDiff, csl_f, csr_f, cn_f, lg_cmp_eq, lg_cmp_le, lg_cmp_lt, lg_cmp_ge, lg_cmp_gt, nI_1, zr_up_self, zp_O, zr_fup_self, zr_fup_ne, ne_eq, Nat.reduceEqDiff, not_false_eq_true, pk_mul, v.1, zy_I, zy_0, a1, a2, a3]
  refine k_mbits (d := d) ?_
  simp only [zs_127_0, zs_127_0u, zs_127_1, zs_127_4, zs_127_6, zs_127_7, zt_127_7, zs_127_10, zs_127_10u, zs_127_11, zs_127_14, zs_127_16, zs_127_17, zt_127_17, zs_127_20, zs_127_21, zc_isO, zr_fld_mk, zc_isA, zc_len, zr_elt_mk, zr_kill_i, zr_kill_l, zr_kill_r, zr_kill_u, zr_kill_f, zr_kill_n, zc_cat, zr_cat_i, zr_cat_l, zr_cat_r, zr_cat_f, zr_cat_d, zr_cat_u, beq_self_eq_true, Nat.zero_le, Nat.le_refl, Nat.reduceSub, Nat.reduceAdd, Nat.reduceLeDiff, csl_f, csr_f, cn_f, lg_cmp_eq, lg_cmp_le, lg_cmp_lt, lg_cmp_ge, lg_cmp_gt, nI_1, zr_up_self, zp_O, zr_fup_self, zr_fup_ne, ne_eq, Nat.reduceEqDiff, not_false_eq_true, pk_mul, v.1, zy_I, zy_0, a1, b2, b3, e12]
  refine k_mbits (d := d) ?_
  simp only [zs_127_0, zs_127_0u, zs_127_1, zs_127_4, zs_127_6, zs_127_7, zt_127_7, zs_127_10, zs_127_10u, zs_127_11, zs_127_14, zs_127_16, zs_127_17, zt_127_17, zs_127_20, zs_127_21, zc_isO, zr_fld_mk, zc_isA, zc_len, zr_elt_mk, zr_kill_i, zr_kill_l, zr_kill_r, zr_kill_u, zr_kill_f, zr_kill_n, zc_cat, zr_cat_i, zr_cat_l, zr_cat_r, zr_cat_f, zr_cat_d, zr_cat_u, beq_self_eq_true, Nat.zero_le, Nat.le_refl, Nat.reduceSub, Nat.reduceAdd, Nat.reduceLeDiff, csl_f, csr_f, cn_f, lg_cmp_eq, lg_cmp_le, lg_cmp_lt, lg_cmp_ge, lg_cmp_gt, nI_1, zr_up_self, zp_O, zr_fup_self, zr_fup_ne, ne_eq, Nat.reduceEqDiff, not_false_eq_true, pk_mul, nI_add]
  exact hQ
/-- the latest position written behind the others -/
def rm1 (f : Nat → Int64) (l : Nat) : Nat → Int64 := fun j => if l = 30 ∧ 13 ≤ j ∧ j < 71 then f (j + 2) else if j = 10 then lN (min l 29) else f j
def rm2 (f : Nat → Int64) (l : Nat) : Nat → Int64 := fun j => if j = 10 then lN (min (l + 1) 30) else if j = 13 + 2 * min l 29 then f 11 else if j = 14 + 2 * min l 29 then f 12 else rm1 f l j
theorem k_mrem (v : ms h m E K L f ff fk fs sv bf wf) {l : Nat} (hl : l ≤ 30) (e10 : f 10 = lN l) (hQ : ∀ h', ms h' m E K L (rm2 f l) ff fk fs sv bf wf → fx (MX m E) h h' → Q (.inl none) h') : zr_E (d + 1) 131 [.ref m] h Q := by
  have tail : ∀ h1, ms h1 m E K L (rm1 f l) ff fk fs sv bf wf → fx (MX m E) h h1 → ∀ x1 : Option Value, zr_Z d 131 Q 54 [some (.ref m), x1] [] h1 0 0 := by
    intro h1 v1 f1 x1
    have r10 : rm1 f l 10 = lN (min l 29) := by unfold rm1; rw [if_neg (by omega), if_pos rfl]
    have r11 : rm1 f l 11 = f 11 := by unfold rm1; rw [if_neg (by omega), if_neg (by omega)]
    have r12 : rm1 f l 12 = f 12 := by unfold rm1; rw [if_neg (by omega), if_neg (by omega)]
    obtain ⟨a1, a2, a3, -⟩ := ms_a v1 (k := 10) (by omega) (y := 10) rfl
    obtain ⟨-, b2, b3, -⟩ := ms_a v1 (k := 11) (by omega) (y := 11) rfl
    obtain ⟨-, c2, c3, c4⟩ := ms_a v1 (k := 13 + 2 * min l 29) (by omega) (y := nI (13 + 2 * min l 29)) rfl
    rw [r10] at a3
    rw [r11] at b3
    have m1 : (lN (min l 29)).toInt32 = nI (min l 29) := lN_i _
    have m2 : (2 : Int32) * nI (min l 29) = nI (2 * min l 29) := pk_mul 2 _
    have m3 : (13 : Int32) + nI (2 * min l 29) = nI (13 + 2 * min l 29) := nI_add 13 _
    simp only [zs_131_0, zs_131_0u, zs_131_1, zs_131_4, zs_131_6, zs_131_7, zs_131_10, zs_131_11, zs_131_14, zs_131_16, zs_131_17, zs_131_18, zs_131_20, zs_131_23, zs_131_23u, zs_131_24, zs_131_27, zs_131_28, zs_131_28u, zs_131_29, zs_131_32, zs_131_33, zs_131_34, zs_131_35, zs_131_36, zs_131_37, zs_131_40, zs_131_43, zs_131_43u, zs_131_44, zs_131_47, zs_131_49, zs_131_50, zs_131_51, zs_131_52, zs_131_53, zs_131_54, zs_131_56, zs_131_57, zs_131_57u, zs_131_58, zs_131_61, zs_131_63, zs_131_64, zs_131_65, zs_131_66, zs_131_67, zs_131_68, zs_131_68u, zs_131_69, zs_131_72, zs_131_73, zs_131_73u, zs_131_74, zs_131_77, zs_131_79, zs_131_80, zs_131_82, zs_131_85, zs_131_86, zs_131_87, zs_131_88, zs_131_88u, zs_131_89, zs_131_92, zs_131_94, zs_131_95, zs_131_96, zs_131_96u, zs_131_97, zs_131_100, zs_131_102, zs_131_103, zs_131_104, zs_131_105, zs_131_106, zs_131_107, zc_isO, zr_fld_mk, zc_isA, zc_len, zr_elt_mk, zr_kill_i, zr_kill_l, zr_kill_r, zr_kill_u, zr_kill_f, zr_kill_n, zc_cat, zr_cat_i, zr_cat_l, zr_cat_r, zr_cat_f, zr_cat_d, zr_cat_u, beq_self_eq_true, Nat.zero_le, Nat.le_refl, Nat.reduceSub, Nat.reduceAdd, Nat.reduceLeDiff, csl_f, csr_f, cn_f, lg_cmp_eq, lg_cmp_le, lg_cmp_lt, lg_cmp_ge, lg_cmp_gt, nI_1, zr_up_self, zp_O, zr_fup_self, zr_fup_ne, ne_eq, Nat.reduceEqDiff, not_false_eq_true, pk_mul, v1.1, zy_I, zy_0, a1, a2, a3, b2, b3, m1, m2, m3, c2, c4]
    obtain ⟨v2, f2⟩ := ms_f v1 (i := 13 + 2 * min l 29) (y := f 11) (g := fun j => if j = 13 + 2 * min l 29 then f 11 else rm1 f l j) (fun j hj => rfl)
    generalize zr_putA h1 (E 0) (13 + 2 * min l 29) (.long (f 11)) = h2 at *
    obtain ⟨a1, -, -, -⟩ := ms_a v2 (k := 10) (by omega) (y := 10) rfl
    obtain ⟨-, b2, b3, -⟩ := ms_a v2 (k := 12) (by omega) (y := 12) rfl
    obtain ⟨-, c2, c3, c4⟩ := ms_a v2 (k := 14 + 2 * min l 29) (by omega) (y := nI (14 + 2 * min l 29)) rfl
    rw [if_neg (by omega), r12] at b3
    have m4 : nI (13 + 2 * min l 29) + 1 = nI (14 + 2 * min l 29) := by rw [show 14 + 2 * min l 29 = 13 + 2 * min l 29 + 1 by omega]; exact nI_add _ 1
    have e12 : (11 : Int32) + 1 = 12 := by decide
    simp only [zs_131_0, zs_131_0u, zs_131_1, zs_131_4, zs_131_6, zs_131_7, zs_131_10, zs_131_11, zs_131_14, zs_131_16, zs_131_17, zs_131_18, zs_131_20, zs_131_23, zs_131_23u, zs_131_24, zs_131_27, zs_131_28, zs_131_28u, zs_131_29, zs_131_32, zs_131_33, zs_131_34, zs_131_35, zs_131_36, zs_131_37, zs_131_40, zs_131_43, zs_131_43u, zs_131_44, zs_131_47, zs_131_49, zs_131_50, zs_131_51, zs_131_52, zs_131_53, zs_131_54, zs_131_56, zs_131_57, zs_131_57u, zs_131_58, zs_131_61, zs_131_63, zs_131_64, zs_131_65, zs_131_66, zs_131_67, zs_131_68, zs_131_68u, zs_131_69, zs_131_72, zs_131_73, zs_131_73u, zs_131_74, zs_131_77, zs_131_79, zs_131_80, zs_131_81, zs_131_81u, zs_131_82, zs_131_85, zs_131_86, zs_131_87, zs_131_88, zs_131_88u, zs_131_89, zs_131_92, zs_131_94, zs_131_95, zs_131_97, zs_131_100, zs_131_102, zs_131_103, zs_131_104, zs_131_105, zs_131_106, zs_131_107, zc_isO, zr_fld_mk, zc_isA, zc_len, zr_elt_mk, zr_kill_i, zr_kill_l, zr_kill_r, zr_kill_u, zr_kill_f, zr_kill_n, zc_cat, zr_cat_i, zr_cat_l, zr_cat_r, zr_cat_f, zr_cat_d, zr_cat_u, beq_self_eq_true, Nat.zero_le, Nat.le_refl, Nat.reduceSub, Nat.reduceAdd, Nat.reduceLeDiff, csl_f, csr_f, cn_f, lg_cmp_eq, lg_cmp_le, lg_cmp_lt, lg_cmp_ge, lg_cmp_gt, nI_1, zr_up_self, zp_O, zr_fup_self, zr_fup_ne, ne_eq, Nat.reduceEqDiff, not_false_eq_true, pk_mul, v2.1, zy_I, zy_0, a1, b2, b3, c2, c4, m4, e12]
    obtain ⟨v3, f3⟩ := ms_f v2 (i := 14 + 2 * min l 29) (y := f 12) (g := fun j => if j = 14 + 2 * min l 29 then f 12 else if j = 13 + 2 * min l 29 then f 11 else rm1 f l j) (fun j hj => rfl)
    generalize zr_putA h2 (E 0) (14 + 2 * min l 29) (.long (f 12)) = h3 at *
    obtain ⟨a1, a2, a3, a4⟩ := ms_a v3 (k := 10) (by omega) (y := 10) rfl
    rw [if_neg (by omega), if_neg (by omega), r10] at a3
    have a3 : zr_elt (h3 (E 0)) 10 = .long (lN (min l 29)) := a3
    have m5 : lN (min l 29) + 1 = lN (min (l + 1) 30) := by rw [lN_1]; congr 1; omega
    simp only [zs_131_0, zs_131_0u, zs_131_1, zs_131_4, zs_131_6, zs_131_7, zs_131_10, zs_131_11, zs_131_14, zs_131_16, zs_131_17, zs_131_18, zs_131_20, zs_131_23, zs_131_23u, zs_131_24, zs_131_27, zs_131_28, zs_131_28u, zs_131_29, zs_131_32, zs_131_33, zs_131_34, zs_131_35, zs_131_36, zs_131_37, zs_131_40, zs_131_43, zs_131_43u, zs_131_44, zs_131_47, zs_131_49, zs_131_50, zs_131_51, zs_131_52, zs_131_53, zs_131_54, zs_131_56, zs_131_57, zs_131_57u, zs_131_58, zs_131_61, zs_131_63, zs_131_64, zs_131_65, zs_131_66, zs_131_67, zs_131_68, zs_131_68u, zs_131_69, zs_131_72, zs_131_73, zs_131_73u, zs_131_74, zs_131_77, zs_131_79, zs_131_80, zs_131_81, zs_131_81u, zs_131_82, zs_131_85, zs_131_86, zs_131_87, zs_131_88, zs_131_88u, zs_131_89, zs_131_92, zs_131_94, zs_131_95, zs_131_96, zs_131_96u, zs_131_97, zs_131_100, zs_131_102, zs_131_103, zs_131_104, zs_131_105, zs_131_106, zc_isO, zr_fld_mk, zc_isA, zc_len, zr_elt_mk, zr_kill_i, zr_kill_l, zr_kill_r, zr_kill_u, zr_kill_f, zr_kill_n, zc_cat, zr_cat_i, zr_cat_l, zr_cat_r, zr_cat_f, zr_cat_d, zr_cat_u, beq_self_eq_true, Nat.zero_le, Nat.le_refl, Nat.reduceSub, Nat.reduceAdd, Nat.reduceLeDiff, csl_f, csr_f, cn_f, lg_cmp_eq, lg_cmp_le, lg_cmp_lt, lg_cmp_ge, lg_cmp_gt, nI_1, zr_up_self, zp_O, zr_fup_self, zr_fup_ne, ne_eq, Nat.reduceEqDiff, not_false_eq_true, pk_mul, v3.1, zy_I, zy_0, a1, a2, a3, a4, m5]
    obtain ⟨v4, f4⟩ := ms_f v3 (i := 10) (y := lN (min (l + 1) 30)) (g := rm2 f l) (fun j hj => by
      unfold rm2
      by_cases e : j = 10
      · rw [if_pos e, if_pos e]
      · rw [if_neg e, if_neg e]
        by_cases e2 : j = 13 + 2 * min l 29
        · rw [if_pos e2, if_neg (by omega), if_pos e2]
        · rw [if_neg e2, if_neg e2])
    simp only [zs_131_0, zs_131_0u, zs_131_1, zs_131_4, zs_131_6, zs_131_7, zs_131_10, zs_131_11, zs_131_14, zs_131_16, zs_131_17, zs_131_18, zs_131_20, zs_131_23, zs_131_23u, zs_131_24, zs_131_27, zs_131_28, zs_131_28u, zs_131_29, zs_131_32, zs_131_33, zs_131_34, zs_131_35, zs_131_36, zs_131_37, zs_131_40, zs_131_43, zs_131_43u, zs_131_44, zs_131_47, zs_131_49, zs_131_50, zs_131_51, zs_131_52, zs_131_53, zs_131_54, zs_131_56, zs_131_57, zs_131_57u, zs_131_58, zs_131_61, zs_131_63, zs_131_64, zs_131_65, zs_131_66, zs_131_67, zs_131_68, zs_131_68u, zs_131_69, zs_131_72, zs_131_73, zs_131_73u, zs_131_74, zs_131_77, zs_131_79, zs_131_80, zs_131_81, zs_131_81u, zs_131_82, zs_131_85, zs_131_86, zs_131_87, zs_131_88, zs_131_88u, zs_131_89, zs_131_92, zs_131_94, zs_131_95, zs_131_96, zs_131_96u, zs_131_97, zs_131_100, zs_131_102, zs_131_103, zs_131_104, zs_131_105, zs_131_106, zs_131_107, zc_isO, zr_fld_mk, zc_isA, zc_len, zr_elt_mk, zr_kill_i, zr_kill_l, zr_kill_r, zr_kill_u, zr_kill_f, zr_kill_n, zc_cat, zr_cat_i, zr_cat_l, zr_cat_r, zr_cat_f, zr_cat_d, zr_cat_u, beq_self_eq_true, Nat.zero_le, Nat.le_refl, Nat.reduceSub, Nat.reduceAdd, Nat.reduceLeDiff, csl_f, csr_f, cn_f, lg_cmp_eq, lg_cmp_le, lg_cmp_lt, lg_cmp_ge, lg_cmp_gt, nI_1, zr_up_self, zp_O, zr_fup_self, zr_fup_ne, ne_eq, Nat.reduceEqDiff, not_false_eq_true, pk_mul]
    exact hQ _ v4 (fx_trans f1 (fx_trans f2 (fx_trans f3 f4)))
  obtain ⟨a1, a2, a3, a4⟩ := ms_a v (k := 10) (by omega) (y := 10) rfl
  rw [e10] at a3
  rw [ze_131]
  simp only [zs_131_0, zs_131_0u, zs_131_1, zs_131_4, zs_131_6, zs_131_7, zs_131_10, zs_131_11, zs_131_16, zs_131_17, zs_131_18, zs_131_20, zs_131_23, zs_131_23u, zs_131_24, zs_131_27, zs_131_28, zs_131_28u, zs_131_29, zs_131_32, zs_131_33, zs_131_34, zs_131_35, zs_131_36, zs_131_37, zs_131_40, zs_131_43, zs_131_43u, zs_131_44, zs_131_47, zs_131_49, zs_131_50, zs_131_51, zs_131_52, zs_131_53, zs_131_56, zs_131_57, zs_131_57u, zs_131_58, zs_131_61, zs_131_63, zs_131_64, zs_131_65, zs_131_66, zs_131_67, zs_131_68, zs_131_68u, zs_131_69, zs_131_72, zs_131_73, zs_131_73u, zs_131_74, zs_131_77, zs_131_79, zs_131_80, zs_131_81, zs_131_81u, zs_131_82, zs_131_85, zs_131_86, zs_131_87, zs_131_88, zs_131_88u, zs_131_89, zs_131_92, zs_131_94, zs_131_95, zs_131_96, zs_131_96u, zs_131_97, zs_131_100, zs_131_102, zs_131_103, zs_131_104, zs_131_105, zs_131_106, zs_131_107, zc_isO, zr_fld_mk, zc_isA, zc_len, zr_elt_mk, zr_kill_i, zr_kill_l, zr_kill_r, zr_kill_u, zr_kill_f, zr_kill_n, zc_cat, zr_cat_i, zr_cat_l, zr_cat_r, zr_cat_f, zr_cat_d, zr_cat_u, beq_self_eq_true, Nat.zero_le, Nat.le_refl, Nat.reduceSub, Nat.reduceAdd, Nat.reduceLeDiff, csl_f, csr_f, cn_f, lg_cmp_eq, lg_cmp_le, lg_cmp_lt, lg_cmp_ge, lg_cmp_gt, nI_1, zr_up_self, zp_O, zr_fup_self, zr_fup_ne, ne_eq, Nat.reduceEqDiff, not_false_eq_true, pk_mul, v.1, zy_I, zy_0, a1, a2, a3]
  have e30 : lN l = 30 ↔ l = 30 := lN_eq (b := 30) (by omega) (by omega)
  rw [e30]
  refine ⟨fun z => ?_, fun z => ?_⟩
  · refine tail h (ms_eq v (fun j hj => ?_) (fun _ _ => rfl) (fun _ _ => rfl) (fun _ _ => rfl)) (fx_refl _ _) _
    unfold rm1
    rw [if_neg (fun y => z y.1)]
    by_cases e : j = 10
    · rw [if_pos e, e, e10, show min l 29 = l by omega]
    · rw [if_neg e]
  · subst z
    simp only [zs_131_0, zs_131_0u, zs_131_1, zs_131_4, zs_131_6, zs_131_7, zs_131_10, zs_131_11, zs_131_14, zs_131_16, zs_131_18, zs_131_20, zs_131_23, zs_131_23u, zs_131_24, zs_131_27, zs_131_28, zs_131_28u, zs_131_29, zs_131_32, zs_131_33, zs_131_34, zs_131_35, zs_131_36, zs_131_37, zs_131_40, zs_131_43, zs_131_43u, zs_131_44, zs_131_47, zs_131_49, zs_131_50, zs_131_51, zs_131_52, zs_131_53, zs_131_54, zs_131_56, zs_131_57, zs_131_57u, zs_131_58, zs_131_61, zs_131_63, zs_131_64, zs_131_65, zs_131_66, zs_131_67, zs_131_68, zs_131_68u, zs_131_69, zs_131_72, zs_131_73, zs_131_73u, zs_131_74, zs_131_77, zs_131_79, zs_131_80, zs_131_81, zs_131_81u, zs_131_82, zs_131_85, zs_131_86, zs_131_87, zs_131_88, zs_131_88u, zs_131_89, zs_131_92, zs_131_94, zs_131_95, zs_131_96, zs_131_96u, zs_131_97, zs_131_100, zs_131_102, zs_131_103, zs_131_104, zs_131_105, zs_131_106, zs_131_107, zc_isO, zr_fld_mk, zc_isA, zc_len, zr_elt_mk, zr_kill_i, zr_kill_l, zr_kill_r, zr_kill_u, zr_kill_f, zr_kill_n, zc_cat, zr_cat_i, zr_cat_l, zr_cat_r, zr_cat_f, zr_cat_d, zr_cat_u, beq_self_eq_true, Nat.zero_le, Nat.le_refl, Nat.reduceSub, Nat.reduceAdd, Nat.reduceLeDiff, csl_f, csr_f, cn_f, lg_cmp_eq, lg_cmp_le, lg_cmp_lt, lg_cmp_ge, lg_cmp_gt, nI_1, zr_up_self, zp_O, zr_fup_self, zr_fup_ne, ne_eq, Nat.reduceEqDiff, not_false_eq_true, pk_mul]
    have loop : ∀ t k, k + t = 71 → 13 ≤ k → ∀ h2, ms h2 m E K L (fun j => if 13 ≤ j ∧ j < k then f (j + 2) else f j) ff fk fs sv bf wf → fx (MX m E) h h2 → zr_Z d 131 Q 17 [some (.ref m), some (.int (nI k))] [] h2 0 0 := by
      intro t
      induction t with
      | zero =>
        intro k hk hk13 h2 v2 f2
        have : k = 71 := by omega
        subst this
        obtain ⟨a1, a2, a3, a4⟩ := ms_a v2 (k := 10) (by omega) (y := 10) rfl
        rw [if_neg (by omega), e10] at a3
        have a3 : zr_elt (h2 (E 0)) 10 = .long (lN 30) := a3
        have m5 : lN 30 - 1 = lN 29 := lN_sub (b := 1) (by omega)
        simp only [zs_131_0, zs_131_0u, zs_131_1, zs_131_4, zs_131_6, zs_131_7, zs_131_10, zs_131_11, zs_131_14, zs_131_16, zs_131_17, zs_131_18, zs_131_20, zs_131_24, zs_131_27, zs_131_28, zs_131_28u, zs_131_29, zs_131_32, zs_131_33, zs_131_34, zs_131_35, zs_131_36, zs_131_37, zs_131_40, zs_131_44, zs_131_47, zs_131_49, zs_131_50, zs_131_51, zs_131_52, zs_131_53, zs_131_54, zs_131_56, zs_131_57, zs_131_57u, zs_131_58, zs_131_61, zs_131_63, zs_131_64, zs_131_65, zs_131_66, zs_131_67, zs_131_68, zs_131_68u, zs_131_69, zs_131_72, zs_131_73, zs_131_73u, zs_131_74, zs_131_77, zs_131_79, zs_131_80, zs_131_81, zs_131_81u, zs_131_82, zs_131_85, zs_131_86, zs_131_87, zs_131_88, zs_131_88u, zs_131_89, zs_131_92, zs_131_94, zs_131_95, zs_131_96, zs_131_96u, zs_131_97, zs_131_100, zs_131_102, zs_131_103, zs_131_104, zs_131_105, zs_131_106, zs_131_107, zc_isO, zr_fld_mk, zc_isA, zc_len, zr_elt_mk, zr_kill_i, zr_kill_l, zr_kill_r, zr_kill_u, zr_kill_f, zr_kill_n, zc_cat, zr_cat_i, zr_cat_l, zr_cat_r, zr_cat_f, zr_cat_d, zr_cat_u, beq_self_eq_true, Nat.zero_le, Nat.le_refl, Nat.reduceSub, Nat.reduceAdd, Nat.reduceLeDiff, csl_f, csr_f, cn_f, lg_cmp_eq, lg_cmp_le, lg_cmp_lt, lg_cmp_ge, lg_cmp_gt, nI_1, zr_up_self, zp_O, zr_fup_self, zr_fup_ne, ne_eq, Nat.reduceEqDiff, not_false_eq_true, pk_mul]
        refine ⟨fun _ => ?_, fun z => absurd (by decide) z⟩
        simp only [zs_131_0, zs_131_0u, zs_131_1, zs_131_4, zs_131_6, zs_131_7, zs_131_10, zs_131_11, zs_131_14, zs_131_16, zs_131_17, zs_131_18, zs_131_20, zs_131_23, zs_131_23u, zs_131_24, zs_131_27, zs_131_28, zs_131_28u, zs_131_29, zs_131_32, zs_131_33, zs_131_34, zs_131_35, zs_131_36, zs_131_37, zs_131_40, zs_131_43, zs_131_43u, zs_131_44, zs_131_47, zs_131_49, zs_131_50, zs_131_51, zs_131_52, zs_131_53, zs_131_56, zs_131_57, zs_131_57u, zs_131_58, zs_131_61, zs_131_63, zs_131_64, zs_131_65, zs_131_66, zs_131_67, zs_131_68, zs_131_68u, zs_131_69, zs_131_72, zs_131_73, zs_131_73u, zs_131_74, zs_131_77, zs_131_79, zs_131_80, zs_131_81, zs_131_81u, zs_131_82, zs_131_85, zs_131_86, zs_131_87, zs_131_88, zs_131_88u, zs_131_89, zs_131_92, zs_131_94, zs_131_95, zs_131_96, zs_131_96u, zs_131_97, zs_131_100, zs_131_102, zs_131_103, zs_131_104, zs_131_105, zs_131_106, zs_131_107, zc_isO, zr_fld_mk, zc_isA, zc_len, zr_elt_mk, zr_kill_i, zr_kill_l, zr_kill_r, zr_kill_u, zr_kill_f, zr_kill_n, zc_cat, zr_cat_i, zr_cat_l, zr_cat_r, zr_cat_f, zr_cat_d, zr_cat_u, beq_self_eq_true, Nat.zero_le, Nat.le_refl, Nat.reduceSub, Nat.reduceAdd, Nat.reduceLeDiff, csl_f, csr_f, cn_f, lg_cmp_eq, lg_cmp_le, lg_cmp_lt, lg_cmp_ge, lg_cmp_gt, nI_1, zr_up_self, zp_O, zr_fup_self, zr_fup_ne, ne_eq, Nat.reduceEqDiff, not_false_eq_true, pk_mul, v2.1, zy_I, zy_0, a1, a2, a3, a4, m5]
        obtain ⟨v3, f3⟩ := ms_f v2 (i := 10) (y := lN 29) (g := rm1 f 30) (fun j hj => by
          unfold rm1
          by_cases e : j = 10
          · rw [if_neg (by omega), if_pos e, if_pos e]; rfl
          · rw [if_neg e, if_neg e]
            by_cases l : 13 ≤ j ∧ j < 71
            · rw [if_pos ⟨rfl, l⟩, if_pos l]
            · rw [if_neg (fun y => l y.2), if_neg l])
        exact tail _ v3 (fx_trans f2 f3) _
      | succ t ih =>
        intro k hk hk13 h2 v2 f2
        obtain ⟨a1, a2, a3, a4⟩ := ms_a v2 (k := k) (by omega) (y := nI k) rfl
        obtain ⟨-, b2, b3, -⟩ := ms_a v2 (k := k + 2) (by omega) (y := nI (k + 2)) rfl
        rw [if_neg (by omega)] at b3
        have e2 : nI k + 2 = nI (k + 2) := nI_add k 2
        simp only [zs_131_0, zs_131_0u, zs_131_1, zs_131_4, zs_131_6, zs_131_7, zs_131_10, zs_131_11, zs_131_14, zs_131_16, zs_131_17, zs_131_18, zs_131_20, zs_131_24, zs_131_27, zs_131_28, zs_131_28u, zs_131_29, zs_131_32, zs_131_33, zs_131_34, zs_131_35, zs_131_36, zs_131_37, zs_131_40, zs_131_44, zs_131_47, zs_131_49, zs_131_50, zs_131_51, zs_131_52, zs_131_53, zs_131_54, zs_131_56, zs_131_57, zs_131_57u, zs_131_58, zs_131_61, zs_131_63, zs_131_64, zs_131_65, zs_131_66, zs_131_67, zs_131_68, zs_131_68u, zs_131_69, zs_131_72, zs_131_73, zs_131_73u, zs_131_74, zs_131_77, zs_131_79, zs_131_80, zs_131_81, zs_131_81u, zs_131_82, zs_131_85, zs_131_86, zs_131_87, zs_131_88, zs_131_88u, zs_131_89, zs_131_92, zs_131_94, zs_131_95, zs_131_96, zs_131_96u, zs_131_97, zs_131_100, zs_131_102, zs_131_103, zs_131_104, zs_131_105, zs_131_106, zs_131_107, zc_isO, zr_fld_mk, zc_isA, zc_len, zr_elt_mk, zr_kill_i, zr_kill_l, zr_kill_r, zr_kill_u, zr_kill_f, zr_kill_n, zc_cat, zr_cat_i, zr_cat_l, zr_cat_r, zr_cat_f, zr_cat_d, zr_cat_u, beq_self_eq_true, Nat.zero_le, Nat.le_refl, Nat.reduceSub, Nat.reduceAdd, Nat.reduceLeDiff, csl_f, csr_f, cn_f, lg_cmp_eq, lg_cmp_le, lg_cmp_lt, lg_cmp_ge, lg_cmp_gt, nI_1, zr_up_self, zp_O, zr_fup_self, zr_fup_ne, ne_eq, Nat.reduceEqDiff, not_false_eq_true, pk_mul]
        refine ⟨fun z => absurd z (nI_ge (b := 71) (by omega) (by omega)), fun _ => ?_⟩
        simp only [zs_131_0, zs_131_0u, zs_131_1, zs_131_4, zs_131_6, zs_131_7, zs_131_10, zs_131_11, zs_131_14, zs_131_16, zs_131_17, zs_131_18, zs_131_20, zs_131_23, zs_131_23u, zs_131_24, zs_131_27, zs_131_28, zs_131_28u, zs_131_29, zs_131_32, zs_131_33, zs_131_34, zs_131_35, zs_131_36, zs_131_40, zs_131_43, zs_131_43u, zs_131_44, zs_131_47, zs_131_49, zs_131_50, zs_131_51, zs_131_52, zs_131_53, zs_131_54, zs_131_56, zs_131_57, zs_131_57u, zs_131_58, zs_131_61, zs_131_63, zs_131_64, zs_131_65, zs_131_66, zs_131_67, zs_131_68, zs_131_68u, zs_131_69, zs_131_72, zs_131_73, zs_131_73u, zs_131_74, zs_131_77, zs_131_79, zs_131_80, zs_131_81, zs_131_81u, zs_131_82, zs_131_85, zs_131_86, zs_131_87, zs_131_88, zs_131_88u, zs_131_89, zs_131_92, zs_131_94, zs_131_95, zs_131_96, zs_131_96u, zs_131_97, zs_131_100, zs_131_102, zs_131_103, zs_131_104, zs_131_105, zs_131_106, zs_131_107, zc_isO, zr_fld_mk, zc_isA, zc_len, zr_elt_mk, zr_kill_i, zr_kill_l, zr_kill_r, zr_kill_u, zr_kill_f, zr_kill_n, zc_cat, zr_cat_i, zr_cat_l, zr_cat_r, zr_cat_f, zr_cat_d, zr_cat_u, beq_self_eq_true, Nat.zero_le, Nat.le_refl, Nat.reduceSub, Nat.reduceAdd, Nat.reduceLeDiff, csl_f, csr_f, cn_f, lg_cmp_eq, lg_cmp_le, lg_cmp_lt, lg_cmp_ge, lg_cmp_gt, nI_1, zr_up_self, zp_O, zr_fup_self, zr_fup_ne, ne_eq, Nat.reduceEqDiff, not_false_eq_true, pk_mul, v2.1, zy_I, zy_0, e2, a1, a2, b2, b3, a4]
        obtain ⟨v3, f3⟩ := ms_f v2 (i := k) (y := f (k + 2)) (g := fun j => if 13 ≤ j ∧ j < k + 1 then f (j + 2) else f j) (fun j hj => by
          by_cases e : j = k
          · rw [if_pos (by omega), if_pos e, e]
          · rw [if_neg e]
            by_cases l : 13 ≤ j ∧ j < k
            · rw [if_pos (by omega), if_pos l]
            · rw [if_neg (by omega), if_neg l])
        have := ih (k + 1) (by omega) (by omega) _ v3 (fx_trans f2 f3)
        simp only [zs_131_0, zs_131_0u, zs_131_1, zs_131_4, zs_131_6, zs_131_7, zs_131_10, zs_131_11, zs_131_14, zs_131_16, zs_131_18, zs_131_20, zs_131_23, zs_131_23u, zs_131_24, zs_131_27, zs_131_28, zs_131_28u, zs_131_29, zs_131_32, zs_131_33, zs_131_34, zs_131_35, zs_131_36, zs_131_37, zs_131_40, zs_131_43, zs_131_43u, zs_131_44, zs_131_47, zs_131_49, zs_131_50, zs_131_51, zs_131_52, zs_131_53, zs_131_54, zs_131_56, zs_131_57, zs_131_57u, zs_131_58, zs_131_61, zs_131_63, zs_131_64, zs_131_65, zs_131_66, zs_131_67, zs_131_68, zs_131_68u, zs_131_69, zs_131_72, zs_131_73, zs_131_73u, zs_131_74, zs_131_77, zs_131_79, zs_131_80, zs_131_81, zs_131_81u, zs_131_82, zs_131_85, zs_131_86, zs_131_87, zs_131_88, zs_131_88u, zs_131_89, zs_131_92, zs_131_94, zs_131_95, zs_131_96, zs_131_96u, zs_131_97, zs_131_100, zs_131_102, zs_131_103, zs_131_104, zs_131_105, zs_131_106, zs_131_107, zc_isO, zr_fld_mk, zc_isA, zc_len, zr_elt_mk, zr_kill_i, zr_kill_l, zr_kill_r, zr_kill_u, zr_kill_f, zr_kill_n, zc_cat, zr_cat_i, zr_cat_l, zr_cat_r, zr_cat_f, zr_cat_d, zr_cat_u, beq_self_eq_true, Nat.zero_le, Nat.le_refl, Nat.reduceSub, Nat.reduceAdd, Nat.reduceLeDiff, csl_f, csr_f, cn_f, lg_cmp_eq, lg_cmp_le, lg_cmp_lt, lg_cmp_ge, lg_cmp_gt, nI_1, zr_up_self, zp_O, zr_fup_self, zr_fup_ne, ne_eq, Nat.reduceEqDiff, not_false_eq_true, pk_mul]
        exact this
    exact loop 58 13 rfl (by omega) h (ms_eq v (fun j hj => by rw [if_neg (by omega)]) (fun _ _ => rfl) (fun _ _ => rfl) (fun _ _ => rfl)) (fx_refl _ _)
theorem k_mforg (v : ms h m E K L f ff fk fs sv bf wf) (hQ : ∀ h', ms h' m E K L (rm2 (fun j => if j = 10 then 0 else f j) 0) ff fk fs sv bf wf → fx (MX m E) h h' → Q (.inl none) h') : zr_E (d + 2) 132 [.ref m] h Q := by
  obtain ⟨a1, a2, a3, a4⟩ := ms_a v (k := 10) (by omega) (y := 10) rfl
  rw [ze_132]
  simp only [zs_132_0, zs_132_0u, zs_132_1, zs_132_4, zs_132_6, zs_132_7, zs_132_9, zt_132_9, zs_132_12, zc_isO, zr_fld_mk, zc_isA, zc_len, zr_elt_mk, zr_kill_i, zr_kill_l, zr_kill_r, zr_kill_u, zr_kill_f, zr_kill_n, zc_cat, zr_cat_i, zr_cat_l, zr_cat_r, zr_cat_f, zr_cat_d, zr_cat_u, beq_self_eq_true, Nat.zero_le, Nat.le_refl, Nat.reduceSub, Nat.reduceAdd, Nat.reduceLeDiff, csl_f, csr_f, cn_f, lg_cmp_eq, lg_cmp_le, lg_cmp_lt, lg_cmp_ge, lg_cmp_gt, nI_1, zr_up_self, zp_O, zr_fup_self, zr_fup_ne, ne_eq, Nat.reduceEqDiff, not_false_eq_true, pk_mul, v.1, zy_I, zy_0, a1, a2, a4]
  obtain ⟨v2, f2⟩ := ms_f v (i := 10) (y := 0) (g := fun j => if j = 10 then 0 else f j) (fun j hj => rfl)
  generalize zr_putA h (E 0) 10 (.long 0) = h2 at *
  simp only [zs_132_0, zs_132_0u, zs_132_1, zs_132_4, zs_132_6, zs_132_7, zs_132_8, zs_132_8u, zs_132_9, zt_132_9, zs_132_12, zc_isO, zr_fld_mk, zc_isA, zc_len, zr_elt_mk, zr_kill_i, zr_kill_l, zr_kill_r, zr_kill_u, zr_kill_f, zr_kill_n, zc_cat, zr_cat_i, zr_cat_l, zr_cat_r, zr_cat_f, zr_cat_d, zr_cat_u, beq_self_eq_true, Nat.zero_le, Nat.le_refl, Nat.reduceSub, Nat.reduceAdd, Nat.reduceLeDiff, csl_f, csr_f, cn_f, lg_cmp_eq, lg_cmp_le, lg_cmp_lt, lg_cmp_ge, lg_cmp_gt, nI_1, zr_up_self, zp_O, zr_fup_self, zr_fup_ne, ne_eq, Nat.reduceEqDiff, not_false_eq_true, pk_mul, v2.1, zy_I]
  refine k_mrem (d := d) v2 (l := 0) (by omega) rfl (fun h3 v3 f3 => ?_)
  simp only [zs_132_0, zs_132_0u, zs_132_1, zs_132_4, zs_132_6, zs_132_7, zs_132_8, zs_132_8u, zs_132_9, zt_132_9, zs_132_12, zc_isO, zr_fld_mk, zc_isA, zc_len, zr_elt_mk, zr_kill_i, zr_kill_l, zr_kill_r, zr_kill_u, zr_kill_f, zr_kill_n, zc_cat, zr_cat_i, zr_cat_l, zr_cat_r, zr_cat_f, zr_cat_d, zr_cat_u, beq_self_eq_true, Nat.zero_le, Nat.le_refl, Nat.reduceSub, Nat.reduceAdd, Nat.reduceLeDiff, csl_f, csr_f, cn_f, lg_cmp_eq, lg_cmp_le, lg_cmp_lt, lg_cmp_ge, lg_cmp_gt, nI_1, zr_up_self, zp_O, zr_fup_self, zr_fup_ne, ne_eq, Nat.reduceEqDiff, not_false_eq_true, pk_mul]
  exact hQ h3 v3 (fx_trans f2 f3)
/-- a row that is new -/
def fr0 : Nat → Int64 := fun j => if j = 0 then 1 else if j = 1 then 3 else if j = 2 then 1 else if j = 7 then -1 else 0
theorem k_mbeg (v : ms h m E K L f ff fk fs sv bf wf) (hQ : ∀ h', ms h' m E K L f fr0 fk fs sv bf wf → fx (MX m E) h h' → Q (.inl none) h') : zr_E (d + 1) 121 [.ref m] h Q := by
  have fa : ∀ {h : zr_H} {ff : Nat → Int64} (v : ms h m E K L f ff fk fs sv bf wf) {k : Nat} (hk : k < 73) {y : Int32} (hy : y = nI k), zr_isA (h (E 1)) 1 = true ∧ vp_in y (zr_len (h (E 1))) ∧ y.toNatClampNeg = k := by
    intro h ff v k hk y hy
    subst hy
    exact ⟨aL_isA v.2.2.1, aL_in v.2.2.1 hk (by omega), nI_clamp (by omega)⟩
  have loop : ∀ t k, k + t = 73 → ∀ h2, ms h2 m E K L f (fun j => if j < k then 0 else ff j) fk fs sv bf wf → fx (MX m E) h h2 → zr_Z d 121 Q 2 [some (.ref m), some (.int (nI k))] [] h2 0 0 := by
    intro t
    induction t with
    | zero =>
      intro k hk h2 v2 f2
      have : k = 73 := by omega
      subst this
      simp only [zs_121_0, zs_121_1, zs_121_2, zs_121_3, zs_121_5, zs_121_9, zs_121_12, zs_121_13, zs_121_14, zs_121_15, zs_121_18, zs_121_22, zs_121_25, zs_121_26, zs_121_27, zs_121_28, zs_121_28u, zs_121_29, zs_121_32, zs_121_33, zs_121_36, zs_121_37, zs_121_37u, zs_121_38, zs_121_41, zs_121_42, zs_121_43, zs_121_44, zs_121_44u, zs_121_45, zs_121_48, zs_121_50, zs_121_53, zs_121_54, zc_isO, zr_fld_mk, zc_isA, zc_len, zr_elt_mk, zr_kill_i, zr_kill_l, zr_kill_r, zr_kill_u, zr_kill_f, zr_kill_n, zc_cat, zr_cat_i, zr_cat_l, zr_cat_r, zr_cat_f, zr_cat_d, zr_cat_u, beq_self_eq_true, Nat.zero_le, Nat.le_refl, Nat.reduceSub, Nat.reduceAdd, Nat.reduceLeDiff, csl_f, csr_f, cn_f, lg_cmp_eq, lg_cmp_le, lg_cmp_lt, lg_cmp_ge, lg_cmp_gt, nI_1, zr_up_self, zp_O, zr_fup_self, zr_fup_ne, ne_eq, Nat.reduceEqDiff, not_false_eq_true, pk_mul]
      refine ⟨fun _ => ?_, fun z => absurd (by decide) z⟩
      obtain ⟨a1, a2, a4⟩ := fa v2 (k := 0) (by omega) (y := 0) rfl
      simp only [zs_121_0, zs_121_1, zs_121_2, zs_121_3, zs_121_5, zs_121_8, zs_121_8u, zs_121_9, zs_121_12, zs_121_13, zs_121_14, zs_121_15, zs_121_18, zs_121_21, zs_121_21u, zs_121_22, zs_121_25, zs_121_26, zs_121_27, zs_121_29, zs_121_32, zs_121_33, zs_121_36, zs_121_37, zs_121_37u, zs_121_38, zs_121_41, zs_121_42, zs_121_43, zs_121_44, zs_121_44u, zs_121_45, zs_121_48, zs_121_50, zs_121_53, zs_121_54, zc_isO, zr_fld_mk, zc_isA, zc_len, zr_elt_mk, zr_kill_i, zr_kill_l, zr_kill_r, zr_kill_u, zr_kill_f, zr_kill_n, zc_cat, zr_cat_i, zr_cat_l, zr_cat_r, zr_cat_f, zr_cat_d, zr_cat_u, beq_self_eq_true, Nat.zero_le, Nat.le_refl, Nat.reduceSub, Nat.reduceAdd, Nat.reduceLeDiff, csl_f, csr_f, cn_f, lg_cmp_eq, lg_cmp_le, lg_cmp_lt, lg_cmp_ge, lg_cmp_gt, nI_1, zr_up_self, zp_O, zr_fup_self, zr_fup_ne, ne_eq, Nat.reduceEqDiff, not_false_eq_true, pk_mul, v2.1, zy_I, zy_1, a1, a2, a4]
      obtain ⟨v3, f3⟩ := ms_ff v2 (i := 0) (y := 1) (g := fun j => if j = 0 then 1 else 0) (fun j hj => by
        by_cases e : j = 0
        · rw [if_pos e, if_pos e]
        · rw [if_neg e, if_neg e, if_pos hj])
      generalize zr_putA h2 (E 1) 0 (.long 1) = h3 at *
      obtain ⟨a1, a2, a4⟩ := fa v3 (k := 1) (by omega) (y := 1) rfl
      simp only [zs_121_0, zs_121_1, zs_121_2, zs_121_3, zs_121_5, zs_121_8, zs_121_8u, zs_121_9, zs_121_12, zs_121_13, zs_121_14, zs_121_15, zs_121_18, zs_121_21, zs_121_21u, zs_121_22, zs_121_25, zs_121_26, zs_121_27, zs_121_28, zs_121_28u, zs_121_29, zs_121_32, zs_121_33, zs_121_36, zs_121_38, zs_121_41, zs_121_42, zs_121_43, zs_121_44, zs_121_44u, zs_121_45, zs_121_48, zs_121_50, zs_121_53, zs_121_54, zc_isO, zr_fld_mk, zc_isA, zc_len, zr_elt_mk, zr_kill_i, zr_kill_l, zr_kill_r, zr_kill_u, zr_kill_f, zr_kill_n, zc_cat, zr_cat_i, zr_cat_l, zr_cat_r, zr_cat_f, zr_cat_d, zr_cat_u, beq_self_eq_true, Nat.zero_le, Nat.le_refl, Nat.reduceSub, Nat.reduceAdd, Nat.reduceLeDiff, csl_f, csr_f, cn_f, lg_cmp_eq, lg_cmp_le, lg_cmp_lt, lg_cmp_ge, lg_cmp_gt, nI_1, zr_up_self, zp_O, zr_fup_self, zr_fup_ne, ne_eq, Nat.reduceEqDiff, not_false_eq_true, pk_mul, v3.1, zy_I, zy_1, a1, a2, a4]
      obtain ⟨v4, f4⟩ := ms_ff v3 (i := 1) (y := 3) (g := fun j => if j = 1 then 3 else if j = 0 then 1 else 0) (fun j hj => rfl)
      generalize zr_putA h3 (E 1) 1 (.long 3) = h4 at *
      obtain ⟨a1, a2, a4⟩ := fa v4 (k := 2) (by omega) (y := 2) rfl
      simp only [zs_121_0, zs_121_1, zs_121_2, zs_121_3, zs_121_5, zs_121_8, zs_121_8u, zs_121_9, zs_121_12, zs_121_13, zs_121_14, zs_121_15, zs_121_18, zs_121_21, zs_121_21u, zs_121_22, zs_121_25, zs_121_26, zs_121_27, zs_121_28, zs_121_28u, zs_121_29, zs_121_32, zs_121_33, zs_121_36, zs_121_37, zs_121_37u, zs_121_38, zs_121_41, zs_121_42, zs_121_43, zs_121_45, zs_121_48, zs_121_50, zs_121_53, zs_121_54, zc_isO, zr_fld_mk, zc_isA, zc_len, zr_elt_mk, zr_kill_i, zr_kill_l, zr_kill_r, zr_kill_u, zr_kill_f, zr_kill_n, zc_cat, zr_cat_i, zr_cat_l, zr_cat_r, zr_cat_f, zr_cat_d, zr_cat_u, beq_self_eq_true, Nat.zero_le, Nat.le_refl, Nat.reduceSub, Nat.reduceAdd, Nat.reduceLeDiff, csl_f, csr_f, cn_f, lg_cmp_eq, lg_cmp_le, lg_cmp_lt, lg_cmp_ge, lg_cmp_gt, nI_1, zr_up_self, zp_O, zr_fup_self, zr_fup_ne, ne_eq, Nat.reduceEqDiff, not_false_eq_true, pk_mul, v4.1, zy_I, zy_1, a1, a2, a4]
      obtain ⟨v5, f5⟩ := ms_ff v4 (i := 2) (y := 1) (g := fun j => if j = 2 then 1 else if j = 1 then 3 else if j = 0 then 1 else 0) (fun j hj => rfl)
      generalize zr_putA h4 (E 1) 2 (.long 1) = h5 at *
      obtain ⟨a1, a2, a4⟩ := fa v5 (k := 7) (by omega) (y := 7) rfl
      simp only [zs_121_0, zs_121_1, zs_121_2, zs_121_3, zs_121_5, zs_121_8, zs_121_8u, zs_121_9, zs_121_12, zs_121_13, zs_121_14, zs_121_15, zs_121_18, zs_121_21, zs_121_21u, zs_121_22, zs_121_25, zs_121_26, zs_121_27, zs_121_28, zs_121_28u, zs_121_29, zs_121_32, zs_121_33, zs_121_36, zs_121_37, zs_121_37u, zs_121_38, zs_121_41, zs_121_42, zs_121_43, zs_121_44, zs_121_44u, zs_121_45, zs_121_48, zs_121_50, zs_121_53, zc_isO, zr_fld_mk, zc_isA, zc_len, zr_elt_mk, zr_kill_i, zr_kill_l, zr_kill_r, zr_kill_u, zr_kill_f, zr_kill_n, zc_cat, zr_cat_i, zr_cat_l, zr_cat_r, zr_cat_f, zr_cat_d, zr_cat_u, beq_self_eq_true, Nat.zero_le, Nat.le_refl, Nat.reduceSub, Nat.reduceAdd, Nat.reduceLeDiff, csl_f, csr_f, cn_f, lg_cmp_eq, lg_cmp_le, lg_cmp_lt, lg_cmp_ge, lg_cmp_gt, nI_1, zr_up_self, zp_O, zr_fup_self, zr_fup_ne, ne_eq, Nat.reduceEqDiff, not_false_eq_true, pk_mul, v5.1, zy_I, zy_1, a1, a2, a4]
      obtain ⟨v6, f6⟩ := ms_ff v5 (i := 7) (y := -1) (g := fr0) (fun j hj => by
        unfold fr0
        by_cases e : j = 7
        · subst e; rfl
        · rw [if_neg e]
          by_cases e2 : j = 2
          · subst e2; rfl
          · rw [if_neg e2, if_neg e2, if_neg e]
            by_cases e1 : j = 1
            · subst e1; rfl
            · rw [if_neg e1, if_neg e1])
      simp only [zs_121_0, zs_121_1, zs_121_2, zs_121_3, zs_121_5, zs_121_8, zs_121_8u, zs_121_9, zs_121_12, zs_121_13, zs_121_14, zs_121_15, zs_121_18, zs_121_21, zs_121_21u, zs_121_22, zs_121_25, zs_121_26, zs_121_27, zs_121_28, zs_121_28u, zs_121_29, zs_121_32, zs_121_33, zs_121_36, zs_121_37, zs_121_37u, zs_121_38, zs_121_41, zs_121_42, zs_121_43, zs_121_44, zs_121_44u, zs_121_45, zs_121_48, zs_121_50, zs_121_53, zs_121_54, zc_isO, zr_fld_mk, zc_isA, zc_len, zr_elt_mk, zr_kill_i, zr_kill_l, zr_kill_r, zr_kill_u, zr_kill_f, zr_kill_n, zc_cat, zr_cat_i, zr_cat_l, zr_cat_r, zr_cat_f, zr_cat_d, zr_cat_u, beq_self_eq_true, Nat.zero_le, Nat.le_refl, Nat.reduceSub, Nat.reduceAdd, Nat.reduceLeDiff, csl_f, csr_f, cn_f, lg_cmp_eq, lg_cmp_le, lg_cmp_lt, lg_cmp_ge, lg_cmp_gt, nI_1, zr_up_self, zp_O, zr_fup_self, zr_fup_ne, ne_eq, Nat.reduceEqDiff, not_false_eq_true, pk_mul]
      exact hQ _ v6 (fx_trans f2 (fx_trans f3 (fx_trans f4 (fx_trans f5 f6))))
    | succ t ih =>
      intro k hk h2 v2 f2
      obtain ⟨a1, a2, a4⟩ := fa v2 (k := k) (by omega) (y := nI k) rfl
      simp only [zs_121_0, zs_121_1, zs_121_2, zs_121_3, zs_121_5, zs_121_9, zs_121_12, zs_121_13, zs_121_14, zs_121_15, zs_121_18, zs_121_22, zs_121_25, zs_121_26, zs_121_27, zs_121_28, zs_121_28u, zs_121_29, zs_121_32, zs_121_33, zs_121_36, zs_121_37, zs_121_37u, zs_121_38, zs_121_41, zs_121_42, zs_121_43, zs_121_44, zs_121_44u, zs_121_45, zs_121_48, zs_121_50, zs_121_53, zs_121_54, zc_isO, zr_fld_mk, zc_isA, zc_len, zr_elt_mk, zr_kill_i, zr_kill_l, zr_kill_r, zr_kill_u, zr_kill_f, zr_kill_n, zc_cat, zr_cat_i, zr_cat_l, zr_cat_r, zr_cat_f, zr_cat_d, zr_cat_u, beq_self_eq_true, Nat.zero_le, Nat.le_refl, Nat.reduceSub, Nat.reduceAdd, Nat.reduceLeDiff, csl_f, csr_f, cn_f, lg_cmp_eq, lg_cmp_le, lg_cmp_lt, lg_cmp_ge, lg_cmp_gt, nI_1, zr_up_self, zp_O, zr_fup_self, zr_fup_ne, ne_eq, Nat.reduceEqDiff, not_false_eq_true, pk_mul]
      refine ⟨fun z => absurd z (nI_ge (b := 73) (by omega) (by omega)), fun _ => ?_⟩
      simp only [zs_121_0, zs_121_1, zs_121_2, zs_121_3, zs_121_5, zs_121_8, zs_121_8u, zs_121_9, zs_121_12, zs_121_13, zs_121_14, zs_121_18, zs_121_21, zs_121_21u, zs_121_22, zs_121_25, zs_121_26, zs_121_27, zs_121_28, zs_121_28u, zs_121_29, zs_121_32, zs_121_33, zs_121_36, zs_121_37, zs_121_37u, zs_121_38, zs_121_41, zs_121_42, zs_121_43, zs_121_44, zs_121_44u, zs_121_45, zs_121_48, zs_121_50, zs_121_53, zs_121_54, zc_isO, zr_fld_mk, zc_isA, zc_len, zr_elt_mk, zr_kill_i, zr_kill_l, zr_kill_r, zr_kill_u, zr_kill_f, zr_kill_n, zc_cat, zr_cat_i, zr_cat_l, zr_cat_r, zr_cat_f, zr_cat_d, zr_cat_u, beq_self_eq_true, Nat.zero_le, Nat.le_refl, Nat.reduceSub, Nat.reduceAdd, Nat.reduceLeDiff, csl_f, csr_f, cn_f, lg_cmp_eq, lg_cmp_le, lg_cmp_lt, lg_cmp_ge, lg_cmp_gt, nI_1, zr_up_self, zp_O, zr_fup_self, zr_fup_ne, ne_eq, Nat.reduceEqDiff, not_false_eq_true, pk_mul, v2.1, zy_I, zy_1, a1, a2, a4]
      obtain ⟨v3, f3⟩ := ms_ff v2 (i := k) (y := 0) (g := fun j => if j < k + 1 then 0 else ff j) (fun j hj => by
        by_cases e : j = k
        · rw [if_pos (by omega), if_pos e]
        · rw [if_neg e]
          by_cases l : j < k
          · rw [if_pos (by omega), if_pos l]
          · rw [if_neg (by omega), if_neg l])
      have := ih (k + 1) (by omega) _ v3 (fx_trans f2 f3)
      simp only [zs_121_0, zs_121_1, zs_121_3, zs_121_5, zs_121_8, zs_121_8u, zs_121_9, zs_121_12, zs_121_13, zs_121_14, zs_121_15, zs_121_18, zs_121_21, zs_121_21u, zs_121_22, zs_121_25, zs_121_26, zs_121_27, zs_121_28, zs_121_28u, zs_121_29, zs_121_32, zs_121_33, zs_121_36, zs_121_37, zs_121_37u, zs_121_38, zs_121_41, zs_121_42, zs_121_43, zs_121_44, zs_121_44u, zs_121_45, zs_121_48, zs_121_50, zs_121_53, zs_121_54, zc_isO, zr_fld_mk, zc_isA, zc_len, zr_elt_mk, zr_kill_i, zr_kill_l, zr_kill_r, zr_kill_u, zr_kill_f, zr_kill_n, zc_cat, zr_cat_i, zr_cat_l, zr_cat_r, zr_cat_f, zr_cat_d, zr_cat_u, beq_self_eq_true, Nat.zero_le, Nat.le_refl, Nat.reduceSub, Nat.reduceAdd, Nat.reduceLeDiff, csl_f, csr_f, cn_f, lg_cmp_eq, lg_cmp_le, lg_cmp_lt, lg_cmp_ge, lg_cmp_gt, nI_1, zr_up_self, zp_O, zr_fup_self, zr_fup_ne, ne_eq, Nat.reduceEqDiff, not_false_eq_true, pk_mul]
      exact this
  rw [ze_121]
  simp only [zs_121_0, zs_121_1, zs_121_3, zs_121_5, zs_121_8, zs_121_8u, zs_121_9, zs_121_12, zs_121_13, zs_121_14, zs_121_15, zs_121_18, zs_121_21, zs_121_21u, zs_121_22, zs_121_25, zs_121_26, zs_121_27, zs_121_28, zs_121_28u, zs_121_29, zs_121_32, zs_121_33, zs_121_36, zs_121_37, zs_121_37u, zs_121_38, zs_121_41, zs_121_42, zs_121_43, zs_121_44, zs_121_44u, zs_121_45, zs_121_48, zs_121_50, zs_121_53, zs_121_54, zc_isO, zr_fld_mk, zc_isA, zc_len, zr_elt_mk, zr_kill_i, zr_kill_l, zr_kill_r, zr_kill_u, zr_kill_f, zr_kill_n, zc_cat, zr_cat_i, zr_cat_l, zr_cat_r, zr_cat_f, zr_cat_d, zr_cat_u, beq_self_eq_true, Nat.zero_le, Nat.le_refl, Nat.reduceSub, Nat.reduceAdd, Nat.reduceLeDiff, csl_f, csr_f, cn_f, lg_cmp_eq, lg_cmp_le, lg_cmp_lt, lg_cmp_ge, lg_cmp_gt, nI_1, zr_up_self, zp_O, zr_fup_self, zr_fup_ne, ne_eq, Nat.reduceEqDiff, not_false_eq_true, pk_mul]
  exact loop 73 0 rfl h (ms_eq v (fun _ _ => rfl) (fun j hj => by rw [if_neg (by omega)]) (fun _ _ => rfl) (fun _ _ => rfl)) (fx_refl _ _)
end MODEL
