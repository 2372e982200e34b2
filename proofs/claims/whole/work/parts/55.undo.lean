section STATE
variable {d : Nat} {Q : zr_K} {h h' : zr_H} {O : Nat → Prop} {B : Nat → Nat → Nat} {D : Nat → Nat} {V : Nat → Option gm} {u l : Nat} {J : Nat → Int32} {rb rw : Int64} {tf wf : Nat → Int32} {G : gm} {g : Nat}
theorem k_undo (v : vC h O B D V u l J rb rw tf wf) (hz : u = 0 → Q (.inr 0) h) (hQ : ∀ G1, 1 ≤ u → V 1 = some G1 → ∀ h' B', (∀ q, O q → h' q = h q) → vC h' O B' D (unV V G1) (u - 1) l J rb rw tf wf → Q (.inl (some (.int (nI (u - 1))))) h') : zr_E (d + 3) 107 [.ref (D 0)] h Q := by
  have hX := v.1
  have hu := v.2.2.2.2.2.2.2.2.2.2.2.2.1
  rw [ze_107]
  simp only [zs_107_0, zs_107_0u, zs_107_1, zs_107_4, zs_107_5, zs_107_19, zs_107_19u, zs_107_20, zs_107_23, zs_107_24, zs_107_25, zs_107_25u, zs_107_26, zs_107_26u, zs_107_27, zs_107_30, zs_107_30u, zs_107_31, zt_107_31, zs_107_34, zs_107_35, zs_107_37, zs_107_39, zs_107_42, zs_107_42u, zs_107_43, zs_107_46, zs_107_47, zs_107_48, zs_107_49, zs_107_49u, zs_107_50, zs_107_53, zs_107_54, zs_107_55, zs_107_56, zs_107_59, zs_107_62, zs_107_62u, zs_107_63, zs_107_66, zs_107_68, zs_107_68u, zs_107_69, zs_107_70, zs_107_70u, zs_107_71, zs_107_71i, zs_107_72, zs_107_75, zs_107_76, zs_107_77, zs_107_80, zs_107_80u, zs_107_81, zs_107_84, zc_isO, zr_fld_mk, zc_isA, zc_len, zr_elt_mk, zr_kill_i, zr_kill_l, zr_kill_r, zr_kill_u, zr_kill_f, zr_kill_n, zc_cat, zr_cat_i, zr_cat_l, zr_cat_r, zr_cat_f, zr_cat_d, zr_cat_u, beq_self_eq_true, Nat.zero_le, Nat.le_refl, Nat.reduceSub, Nat.reduceAdd, Nat.reduceLeDiff, csl_f, csr_f, cn_f, lg_cmp_eq, lg_cmp_le, lg_cmp_lt, lg_cmp_ge, lg_cmp_gt, nI_1, zr_up_self, zp_O, zr_fup_self, zr_fup_ne, ne_eq, Nat.reduceEqDiff, not_false_eq_true, pk_mul, hX, zx_I, zx_5]
  refine ⟨fun z => ?_, fun z => ?_⟩
  rotate_left
  · refine zs_107_8 (by decide) (by decide) (by rw [zr_cat_0]; decide) (hz ?_)
    rcases Nat.eq_zero_or_pos u with e | e
    · exact e
    · exact (z (nI_le (a := 1) e (by omega))).elim
  have hp : 1 ≤ u := by
    rcases Nat.eq_zero_or_pos u with e | e
    · subst e; exact absurd z (by decide)
    · exact e
  cases e1 : V 1 with
  | none => exact (v.2.2.2.2.2.2.2.2.1 1 (by omega) e1).elim
  | some G1 =>
    have hQ := hQ G1 hp e1
    have c1 := v.2.1
    have a1 := aV_isA c1
    have a2 : vp_in 0 (zr_len (h (D 1))) := aV_in c1 (k := 0) (by omega) (by omega)
    have a3 : zr_elt (h (D 1)) (0 : Int32).toNatClampNeg = .ref (B 1 0) := aV_elt c1 (k := 0) (by omega) (by omega)
    cases e0 : V 0 with
    | none => exact (v.2.2.2.2.2.2.2.2.1 0 (by omega) e0).elim
    | some G0 =>
      obtain ⟨⟨g0, w0, n0⟩, -⟩ := v.2.2.2.2.2.2.2.1.1 0 G0 (by omega) e0
      obtain ⟨⟨g1, w1, n1⟩, -⟩ := v.2.2.2.2.2.2.2.1.1 1 G1 (by omega) e1
      have m0 := w0.1
      have m1 := w1.1
      simp only [zs_107_0, zs_107_0u, zs_107_1, zs_107_4, zs_107_5, zs_107_19, zs_107_19u, zs_107_20, zs_107_23, zs_107_24, zs_107_25, zs_107_25u, zs_107_26, zs_107_26u, zs_107_27, zs_107_30, zs_107_30u, zs_107_31, zt_107_31, zs_107_34, zs_107_35, zs_107_37, zs_107_39, zs_107_42, zs_107_42u, zs_107_43, zs_107_46, zs_107_47, zs_107_48, zs_107_49, zs_107_49u, zs_107_50, zs_107_53, zs_107_54, zs_107_55, zs_107_56, zs_107_59, zs_107_62, zs_107_62u, zs_107_63, zs_107_66, zs_107_68, zs_107_68u, zs_107_69, zs_107_70, zs_107_70u, zs_107_71, zs_107_71i, zs_107_72, zs_107_75, zs_107_76, zs_107_77, zs_107_80, zs_107_80u, zs_107_81, zs_107_84, zc_isO, zr_fld_mk, zc_isA, zc_len, zr_elt_mk, zr_kill_i, zr_kill_l, zr_kill_r, zr_kill_u, zr_kill_f, zr_kill_n, zc_cat, zr_cat_i, zr_cat_l, zr_cat_r, zr_cat_f, zr_cat_d, zr_cat_u, beq_self_eq_true, Nat.zero_le, Nat.le_refl, Nat.reduceSub, Nat.reduceAdd, Nat.reduceLeDiff, csl_f, csr_f, cn_f, lg_cmp_eq, lg_cmp_le, lg_cmp_lt, lg_cmp_ge, lg_cmp_gt, nI_1, zr_up_self, zp_O, zr_fup_self, zr_fup_ne, ne_eq, Nat.reduceEqDiff, not_false_eq_true, pk_mul, hX, zx_I, zx_5, zx_1, zx_0, a1, a2, a3, m0, m1, zm_I]
      refine k_bec (d := d) w0 w1 (fun i hi j hj => v.2.2.2.2.2.2.2.1.2 0 1 _ _ (by omega) (by omega) (by omega) e0 e1 i j hi hj) (fun h1 f1 w2 => ?_)
      obtain ⟨v1, o1⟩ := vC_upd v (i := 0) (G := G1) (by omega) e0 f1 w2 n1
      have hX1 := v1.1
      have dd := vC_dd v1
      have c1 := v1.2.1
      have gI : ∀ i, i < 9 → zr_isO (h1 (B i 0)) 1 = true := fun i hi => vC_gI v1 (by omega) (v1.2.2.2.2.2.2.2.2.1 i hi)
      have nb : ∀ i, i < 9 → B i 0 ≠ D 1 := fun i hi e => by
        have := gI i hi
        obtain ⟨F, c1, -⟩ := c1
        rw [e, c1] at this
        cases this
      simp only [zs_107_0, zs_107_0u, zs_107_1, zs_107_4, zs_107_5, zs_107_19, zs_107_19u, zs_107_20, zs_107_23, zs_107_24, zs_107_25, zs_107_25u, zs_107_26, zs_107_26u, zs_107_27, zs_107_30, zs_107_30u, zs_107_31, zt_107_31, zs_107_34, zs_107_35, zs_107_37, zs_107_39, zs_107_42, zs_107_42u, zs_107_43, zs_107_46, zs_107_47, zs_107_48, zs_107_49, zs_107_49u, zs_107_50, zs_107_53, zs_107_54, zs_107_55, zs_107_56, zs_107_59, zs_107_62, zs_107_62u, zs_107_63, zs_107_66, zs_107_68, zs_107_68u, zs_107_69, zs_107_70, zs_107_70u, zs_107_71, zs_107_71i, zs_107_72, zs_107_75, zs_107_76, zs_107_77, zs_107_80, zs_107_80u, zs_107_81, zs_107_84, zc_isO, zr_fld_mk, zc_isA, zc_len, zr_elt_mk, zr_kill_i, zr_kill_l, zr_kill_r, zr_kill_u, zr_kill_f, zr_kill_n, zc_cat, zr_cat_i, zr_cat_l, zr_cat_r, zr_cat_f, zr_cat_d, zr_cat_u, beq_self_eq_true, Nat.zero_le, Nat.le_refl, Nat.reduceSub, Nat.reduceAdd, Nat.reduceLeDiff, csl_f, csr_f, cn_f, lg_cmp_eq, lg_cmp_le, lg_cmp_lt, lg_cmp_ge, lg_cmp_gt, nI_1, zr_up_self, zp_O, zr_fup_self, zr_fup_ne, ne_eq, Nat.reduceEqDiff, not_false_eq_true, pk_mul]
      have loop : ∀ t i, i + t = 8 → 1 ≤ i → ∀ h2, fx [D 1] h1 h2 → aV 5 h2 (D 1) 8 (shW (fun k => .ref (B (k + 1) 0)) i) → zr_Z (d + 2) 107 Q 36 [some (.ref (D 0)), some (.ref (B 1 0)), some (.int (nI i))] [] h2 1 6 := by
        intro t
        induction t with
        | zero =>
          intro i hi _ h2 f a
          have : i = 8 := by omega
          subst this
          have x1 := fx_get f (by simp; exact dd 0 1 (by omega) (by omega) (by omega)) hX1
          have b1 := aV_isA a
          have b2 : vp_in 7 (zr_len (h2 (D 1))) := aV_in a (k := 7) (by omega) (by omega)
          have b3 : zr_isO (h2 (B 1 0)) 1 = true := by rw [f _ (by simp; exact nb 1 (by omega))]; exact gI 1 (by omega)
          simp only [zs_107_0, zs_107_0u, zs_107_1, zs_107_4, zs_107_5, zs_107_19, zs_107_19u, zs_107_20, zs_107_23, zs_107_24, zs_107_25, zs_107_25u, zs_107_26, zs_107_26u, zs_107_27, zs_107_30, zs_107_30u, zs_107_31, zt_107_31, zs_107_34, zs_107_35, zs_107_36, zs_107_37, zs_107_39, zs_107_42, zs_107_42u, zs_107_43, zs_107_46, zs_107_47, zs_107_48, zs_107_49, zs_107_49u, zs_107_50, zs_107_53, zs_107_54, zs_107_55, zs_107_56, zs_107_59, zs_107_62, zs_107_62u, zs_107_63, zs_107_66, zs_107_68, zs_107_68u, zs_107_70, zs_107_70u, zs_107_71, zs_107_71i, zs_107_72, zs_107_75, zs_107_76, zs_107_77, zs_107_80, zs_107_80u, zs_107_81, zs_107_84, zc_isO, zr_fld_mk, zc_isA, zc_len, zr_elt_mk, zr_kill_i, zr_kill_l, zr_kill_r, zr_kill_u, zr_kill_f, zr_kill_n, zc_cat, zr_cat_i, zr_cat_l, zr_cat_r, zr_cat_f, zr_cat_d, zr_cat_u, beq_self_eq_true, Nat.zero_le, Nat.le_refl, Nat.reduceSub, Nat.reduceAdd, Nat.reduceLeDiff, csl_f, csr_f, cn_f, lg_cmp_eq, lg_cmp_le, lg_cmp_lt, lg_cmp_ge, lg_cmp_gt, nI_1, zr_up_self, zp_O, zr_fup_self, zr_fup_ne, ne_eq, Nat.reduceEqDiff, not_false_eq_true, pk_mul, x1, zx_I, zx_1, b1, b2, b3]
          refine ⟨fun _ => ?_, fun z => absurd (by decide) z⟩
          simp only [zs_107_0, zs_107_0u, zs_107_1, zs_107_4, zs_107_5, zs_107_19, zs_107_19u, zs_107_20, zs_107_23, zs_107_24, zs_107_25, zs_107_25u, zs_107_26, zs_107_26u, zs_107_27, zs_107_30, zs_107_30u, zs_107_31, zt_107_31, zs_107_34, zs_107_35, zs_107_36, zs_107_37, zs_107_39, zs_107_42, zs_107_42u, zs_107_43, zs_107_46, zs_107_47, zs_107_48, zs_107_49, zs_107_49u, zs_107_50, zs_107_53, zs_107_54, zs_107_55, zs_107_56, zs_107_59, zs_107_62, zs_107_62u, zs_107_63, zs_107_66, zs_107_68, zs_107_68u, zs_107_69, zs_107_71, zs_107_71i, zs_107_72, zs_107_75, zs_107_76, zs_107_77, zs_107_80, zs_107_80u, zs_107_81, zs_107_84, zc_isO, zr_fld_mk, zc_isA, zc_len, zr_elt_mk, zr_kill_i, zr_kill_l, zr_kill_r, zr_kill_u, zr_kill_f, zr_kill_n, zc_cat, zr_cat_i, zr_cat_l, zr_cat_r, zr_cat_f, zr_cat_d, zr_cat_u, beq_self_eq_true, Nat.zero_le, Nat.le_refl, Nat.reduceSub, Nat.reduceAdd, Nat.reduceLeDiff, csl_f, csr_f, cn_f, lg_cmp_eq, lg_cmp_le, lg_cmp_lt, lg_cmp_ge, lg_cmp_gt, nI_1, zr_up_self, zp_O, zr_fup_self, zr_fup_ne, ne_eq, Nat.reduceEqDiff, not_false_eq_true, pk_mul, x1, zx_I, zx_1, b1, b2, b3]
          have a2 : aV 5 (zr_putA h2 (D 1) (7 : Int32).toNatClampNeg (.ref (B 1 0))) (D 1) 8 (fun k => .ref (B (rl (k + 1)) 0)) := aV_put a (fun k hk => by
            rw [show (7 : Int32).toNatClampNeg = 7 from rfl]
            by_cases e : k = 7
            · subst e; rfl
            · have e1 : rl (k + 1) = k + 2 := by unfold rl; rw [if_neg (by omega), if_pos (by omega)]
              rw [if_neg e]
              unfold shW
              rw [if_pos (by omega)]
              show Value.ref (B (rl (k + 1)) 0) = Value.ref (B (k + 1 + 1) 0)
              rw [e1])
          have f2 := fx_trans f (putA_fx (i := (7 : Int32).toNatClampNeg) (v := .ref (B 1 0)) (h := h2) (q := D 1) List.mem_cons_self)
          have x2 : zr_putA h2 (D 1) (7 : Int32).toNatClampNeg (.ref (B 1 0)) (D 0) = some (zxs (B 0 0) (D 1) (D 2) (D 3) (D 4) (nI u) (nI l)) := putA_ot (dd 0 1 (by omega) (by omega) (by omega)) x1
          generalize zr_putA h2 (D 1) (7 : Int32).toNatClampNeg (.ref (B 1 0)) = h3 at a2 f2 x2 ⊢
          obtain ⟨v2, o2⟩ := vC_perm v1 (π := rl) (fun i => rl_l) (fun i j => rl_i) rfl (fun j hj => by unfold rl; rw [if_neg (by omega), if_neg (by omega)]) (fun i hi => by unfold rl; split; omega; split <;> omega) f2 a2
          have e : nI u - 1 = nI (u - 1) := nI_p hp
          simp only [zs_107_0, zs_107_0u, zs_107_1, zs_107_4, zs_107_5, zs_107_19, zs_107_19u, zs_107_20, zs_107_23, zs_107_24, zs_107_25, zs_107_25u, zs_107_26, zs_107_26u, zs_107_27, zs_107_30, zs_107_30u, zs_107_31, zt_107_31, zs_107_34, zs_107_35, zs_107_36, zs_107_37, zs_107_39, zs_107_42, zs_107_42u, zs_107_43, zs_107_46, zs_107_47, zs_107_48, zs_107_49, zs_107_49u, zs_107_50, zs_107_53, zs_107_54, zs_107_55, zs_107_56, zs_107_59, zs_107_62, zs_107_62u, zs_107_63, zs_107_66, zs_107_68, zs_107_68u, zs_107_69, zs_107_70, zs_107_70u, zs_107_71, zs_107_71i, zs_107_72, zs_107_75, zs_107_76, zs_107_77, zs_107_81, zs_107_84, zc_isO, zr_fld_mk, zc_isA, zc_len, zr_elt_mk, zr_kill_i, zr_kill_l, zr_kill_r, zr_kill_u, zr_kill_f, zr_kill_n, zc_cat, zr_cat_i, zr_cat_l, zr_cat_r, zr_cat_f, zr_cat_d, zr_cat_u, beq_self_eq_true, Nat.zero_le, Nat.le_refl, Nat.reduceSub, Nat.reduceAdd, Nat.reduceLeDiff, csl_f, csr_f, cn_f, lg_cmp_eq, lg_cmp_le, lg_cmp_lt, lg_cmp_ge, lg_cmp_gt, nI_1, zr_up_self, zp_O, zr_fup_self, zr_fup_ne, ne_eq, Nat.reduceEqDiff, not_false_eq_true, pk_mul, x2, zx_I, zx_5, e]
          rw [putX5 x2]
          obtain ⟨v4, o4⟩ := vC_u v2 (u2 := u - 1) (by omega)
          have x4 := v4.1
          change zr_up h3 (D 0) (zxs (B 0 0) (D 1) (D 2) (D 3) (D 4) (nI (u - 1)) (nI l)) (D 0) = _ at x4
          simp only [zs_107_0, zs_107_0u, zs_107_1, zs_107_4, zs_107_5, zs_107_19, zs_107_19u, zs_107_20, zs_107_23, zs_107_24, zs_107_25, zs_107_25u, zs_107_26, zs_107_26u, zs_107_27, zs_107_30, zs_107_30u, zs_107_31, zt_107_31, zs_107_34, zs_107_35, zs_107_36, zs_107_37, zs_107_39, zs_107_42, zs_107_42u, zs_107_43, zs_107_46, zs_107_47, zs_107_48, zs_107_49, zs_107_49u, zs_107_50, zs_107_53, zs_107_54, zs_107_55, zs_107_56, zs_107_59, zs_107_62, zs_107_62u, zs_107_63, zs_107_66, zs_107_68, zs_107_68u, zs_107_69, zs_107_70, zs_107_70u, zs_107_71, zs_107_71i, zs_107_72, zs_107_75, zs_107_76, zs_107_77, zs_107_80, zs_107_80u, zs_107_81, zs_107_84, zc_isO, zr_fld_mk, zc_isA, zc_len, zr_elt_mk, zr_kill_i, zr_kill_l, zr_kill_r, zr_kill_u, zr_kill_f, zr_kill_n, zc_cat, zr_cat_i, zr_cat_l, zr_cat_r, zr_cat_f, zr_cat_d, zr_cat_u, beq_self_eq_true, Nat.zero_le, Nat.le_refl, Nat.reduceSub, Nat.reduceAdd, Nat.reduceLeDiff, csl_f, csr_f, cn_f, lg_cmp_eq, lg_cmp_le, lg_cmp_lt, lg_cmp_ge, lg_cmp_gt, nI_1, zr_up_self, zp_O, zr_fup_self, zr_fup_ne, ne_eq, Nat.reduceEqDiff, not_false_eq_true, pk_mul, x4, zx_I, zx_5]
          exact hQ _ (fun i => B (rl i)) (fun q o => ((o4 q o).trans (o2 q o)).trans (o1 q o)) v4
        | succ t ih =>
          intro i hi hi1 h2 f a
          have x1 := fx_get f (by simp; exact dd 0 1 (by omega) (by omega) (by omega)) hX1
          have e1 : nI i - 1 = nI (i - 1) := nI_p hi1
          have e2 : (nI (i - 1)).toNatClampNeg = i - 1 := nI_clamp (by omega)
          have b1 := aV_isA a
          have b2 := aV_in a (k := i - 1) (by omega) (by omega)
          have b3 := aV_in a (k := i) (by omega) (by omega)
          have b4 : zr_elt (h2 (D 1)) (nI i).toNatClampNeg = .ref (B (i + 1) 0) := by
            rw [aV_elt a (by omega) (by omega)]
            unfold shW
            rw [if_neg (by omega)]
          have b5 : zr_isO (h2 (B (i + 1) 0)) 1 = true := by rw [f _ (by simp; exact nb (i + 1) (by omega))]; exact gI (i + 1) (by omega)
          simp only [zs_107_0, zs_107_0u, zs_107_1, zs_107_4, zs_107_5, zs_107_19, zs_107_19u, zs_107_20, zs_107_23, zs_107_24, zs_107_25, zs_107_25u, zs_107_26, zs_107_26u, zs_107_27, zs_107_30, zs_107_30u, zs_107_31, zt_107_31, zs_107_34, zs_107_35, zs_107_36, zs_107_37, zs_107_39, zs_107_42, zs_107_42u, zs_107_43, zs_107_46, zs_107_47, zs_107_48, zs_107_49, zs_107_49u, zs_107_50, zs_107_53, zs_107_54, zs_107_55, zs_107_59, zs_107_62, zs_107_62u, zs_107_63, zs_107_66, zs_107_68, zs_107_68u, zs_107_69, zs_107_70, zs_107_70u, zs_107_71, zs_107_71i, zs_107_72, zs_107_75, zs_107_76, zs_107_77, zs_107_80, zs_107_80u, zs_107_81, zs_107_84, zc_isO, zr_fld_mk, zc_isA, zc_len, zr_elt_mk, zr_kill_i, zr_kill_l, zr_kill_r, zr_kill_u, zr_kill_f, zr_kill_n, zc_cat, zr_cat_i, zr_cat_l, zr_cat_r, zr_cat_f, zr_cat_d, zr_cat_u, beq_self_eq_true, Nat.zero_le, Nat.le_refl, Nat.reduceSub, Nat.reduceAdd, Nat.reduceLeDiff, csl_f, csr_f, cn_f, lg_cmp_eq, lg_cmp_le, lg_cmp_lt, lg_cmp_ge, lg_cmp_gt, nI_1, zr_up_self, zp_O, zr_fup_self, zr_fup_ne, ne_eq, Nat.reduceEqDiff, not_false_eq_true, pk_mul, x1, zx_I, zx_1, b1, b2, b3, b4, b5, e1, e2]
          refine ⟨fun z => absurd z (nI_ge (b := 8) (by omega) (by omega)), fun _ => ?_⟩
          have a2 : aV 5 (zr_putA h2 (D 1) (i - 1) (.ref (B (i + 1) 0))) (D 1) 8 (shW (fun k => .ref (B (k + 1) 0)) (i + 1)) := aV_put a (fun k hk => by
            unfold shW
            by_cases e : k = i - 1
            · subst e
              rw [if_pos (by omega), if_pos rfl]
              show Value.ref (B (i - 1 + 1 + 1) 0) = _
              rw [show i - 1 + 1 + 1 = i + 1 by omega]
            · rw [if_neg e]
              by_cases g : k + 1 < i
              · rw [if_pos (by omega), if_pos g]
              · rw [if_neg (by omega), if_neg g])
          have := ih (i + 1) (by omega) (by omega) _ (fx_trans f (putA_fx List.mem_cons_self)) a2
          simp only [zs_107_0, zs_107_0u, zs_107_1, zs_107_4, zs_107_5, zs_107_19, zs_107_19u, zs_107_20, zs_107_23, zs_107_24, zs_107_25, zs_107_25u, zs_107_26, zs_107_26u, zs_107_27, zs_107_30, zs_107_30u, zs_107_31, zt_107_31, zs_107_34, zs_107_35, zs_107_37, zs_107_39, zs_107_42, zs_107_42u, zs_107_43, zs_107_46, zs_107_47, zs_107_48, zs_107_49, zs_107_49u, zs_107_50, zs_107_53, zs_107_54, zs_107_55, zs_107_56, zs_107_59, zs_107_62, zs_107_62u, zs_107_63, zs_107_66, zs_107_68, zs_107_68u, zs_107_69, zs_107_70, zs_107_70u, zs_107_71, zs_107_71i, zs_107_72, zs_107_75, zs_107_76, zs_107_77, zs_107_80, zs_107_80u, zs_107_81, zs_107_84, zc_isO, zr_fld_mk, zc_isA, zc_len, zr_elt_mk, zr_kill_i, zr_kill_l, zr_kill_r, zr_kill_u, zr_kill_f, zr_kill_n, zc_cat, zr_cat_i, zr_cat_l, zr_cat_r, zr_cat_f, zr_cat_d, zr_cat_u, beq_self_eq_true, Nat.zero_le, Nat.le_refl, Nat.reduceSub, Nat.reduceAdd, Nat.reduceLeDiff, csl_f, csr_f, cn_f, lg_cmp_eq, lg_cmp_le, lg_cmp_lt, lg_cmp_ge, lg_cmp_gt, nI_1, zr_up_self, zp_O, zr_fup_self, zr_fup_ne, ne_eq, Nat.reduceEqDiff, not_false_eq_true, pk_mul]
          exact this
      exact loop 7 1 (by omega) (by omega) h1 (fx_refl _ _) (aV_eq c1 (fun k hk => by unfold shW; rw [if_neg (by omega)]))
end STATE
