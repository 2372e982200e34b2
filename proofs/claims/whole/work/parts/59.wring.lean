section STATE
variable {d : Nat} {Q : zr_K} {h h' : zr_H} {O : Nat → Prop} {B : Nat → Nat → Nat} {D : Nat → Nat} {V : Nat → Option gm} {u l : Nat} {J : Nat → Int32} {rb rw : Int64} {tf wf : Nat → Int32} {R S g : Nat} {b w : Int64} {P : List (Int64 × Int64)} {I : Nat → Int32}
theorem ltr_n (p : Nat) : narrow (zr_at 2) (.int ((ltr b w I p).toInt8.toInt32)) = .int (ltr b w I p) := by
  unfold ltr
  split
  · rfl
  · split
    · rfl
    · split <;> rfl
theorem aB_put {q n i : Nat} {f f2 : Nat → Int32} {v : Int32} (a : aB h q n f) (e : ∀ k, k < n → f2 k = if k = i then v else f k) : aB (zr_putA h q i (.int v)) q n f2 := by
  obtain ⟨F, h1, h2⟩ := a
  refine ⟨zr_fup F i (.int v), ?_, fun k hk => ?_⟩
  · rw [zr_putA_mk h1, zr_up_self]
  · rw [e k hk]
    show (if k = i then _ else F k) = _
    by_cases c : k = i
    · rw [if_pos c, if_pos c]
    · rw [if_neg c, if_neg c]; exact h2 k hk
/-- what is written of a ring -/
def wrf (S : Nat) (b w : Int64) (I : Nat → Int32) (r : Nat) (wf : Nat → Int32) (i : Nat) : Nat → Int32 := fun k => if k < i then ltr b w I (S * r + k) else wf k
theorem vC_wf (v : vC h O B D V u l J rb rw tf wf) {wf2 : Nat → Int32} (f : fx [D 4] h h') (a : aB h' (D 4) 12 wf2) : vC h' O B D V u l J rb rw tf wf2 ∧ ∀ q, O q → h' q = h q := by
  obtain ⟨k, fo, fd⟩ := vC_cell v (k := 4) (by omega) f
  obtain ⟨c0, c1, c2, c3, ⟨R, S, c6, hg⟩, c5, c4, -, hn, ne, hD, ho, hu⟩ := v
  exact ⟨⟨(fd 0 (by omega) (by omega)).trans c0, aV_to c1 (fd 1 (by omega) (by omega)), aV_to c2 (fd 2 (by omega) (by omega)), (fd 3 (by omega) (by omega)).trans c3, ⟨R, S, (fd 6 (by omega) (by omega)).trans c6, hg⟩, aB_to c5 (fd 5 (by omega) (by omega)), a, k, hn, ne, hD, fun q o => by rw [fo q o]; exact ho q o, hu⟩, fo⟩
theorem k_wring (v : vC h O B D V u l J rb rw tf wf) (h0 : V 0 = some (R, S, b, w, P, I)) {y : Int32} (q2 : (∀ r, r < R → y ≠ nI r) → Q (.inr 2) h)
    (hQ : ∀ r, r < R → y = nI r → ∀ h' B', (∀ q, O q → h' q = h q) → vC h' O B' D V u S J rb rw tf (wrf S b w I r wf S) → Q (.inl (some (.int (nI S)))) h') : zr_E (d + 4) 105 [.ref (D 0), .int y] h Q := by
  obtain ⟨g, w0, n0⟩ := vC_v0 v h0
  have w0 : vM h (B 0) R S b w P I g := w0
  have hX := v.1
  have hl := g_lt w0.2.2.2.1
  have hn := g_n w0.2.2.2.1
  rw [ze_105]
  simp only [zs_105_0, zs_105_0u, zs_105_1, zs_105_2, zt_105_2, zs_105_6, zs_105_9, zs_105_12, zs_105_15, zs_105_18, zs_105_19, zs_105_20, zs_105_21, zs_105_22, zs_105_23, zs_105_26, zs_105_27, zs_105_29, zs_105_32, zs_105_32u, zs_105_33, zs_105_36, zs_105_37, zs_105_37u, zs_105_38, zs_105_41, zs_105_42, zs_105_43, zs_105_44, zs_105_45, zs_105_46, zt_105_46, zs_105_49, zs_105_50, zs_105_50z, zs_105_51, zs_105_54, zs_105_57, zs_105_57u, zs_105_58, zs_105_59, zs_105_62, zs_105_63, zc_isO, zr_fld_mk, zc_isA, zc_len, zr_elt_mk, zr_kill_i, zr_kill_l, zr_kill_r, zr_kill_u, zr_kill_f, zr_kill_n, zc_cat, zr_cat_i, zr_cat_l, zr_cat_r, zr_cat_f, zr_cat_d, zr_cat_u, beq_self_eq_true, Nat.zero_le, Nat.le_refl, Nat.reduceSub, Nat.reduceAdd, Nat.reduceLeDiff, csl_f, csr_f, cn_f, lg_cmp_eq, lg_cmp_le, lg_cmp_lt, lg_cmp_ge, lg_cmp_gt, nI_1, zr_up_self, zp_O, zr_fup_self, zr_fup_ne, ne_eq, Nat.reduceEqDiff, not_false_eq_true, pk_mul, hX, zx_I]
  refine k_rin hX w0 (fun r hr e => ?_) (fun e => ?_)
  rotate_left
  · rw [zk_thr zf_hh_105]
    exact q2 e
  have hQ' := hQ r hr e
  clear q2 hQ
  subst e
  have hQ := hQ'
  simp only [zs_105_0, zs_105_0u, zs_105_1, zs_105_2, zt_105_2, zs_105_5, zs_105_5u, zs_105_6, zs_105_9, zs_105_12, zs_105_15, zs_105_18, zs_105_19, zs_105_20, zs_105_22, zs_105_23, zs_105_26, zs_105_27, zs_105_29, zs_105_32, zs_105_32u, zs_105_33, zs_105_36, zs_105_37, zs_105_37u, zs_105_38, zs_105_41, zs_105_42, zs_105_43, zs_105_44, zs_105_45, zs_105_46, zt_105_46, zs_105_49, zs_105_50, zs_105_50z, zs_105_51, zs_105_54, zs_105_57, zs_105_57u, zs_105_58, zs_105_59, zs_105_62, zs_105_63, zc_isO, zr_fld_mk, zc_isA, zc_len, zr_elt_mk, zr_kill_i, zr_kill_l, zr_kill_r, zr_kill_u, zr_kill_f, zr_kill_n, zc_cat, zr_cat_i, zr_cat_l, zr_cat_r, zr_cat_f, zr_cat_d, zr_cat_u, beq_self_eq_true, Nat.zero_le, Nat.le_refl, Nat.reduceSub, Nat.reduceAdd, Nat.reduceLeDiff, csl_f, csr_f, cn_f, lg_cmp_eq, lg_cmp_le, lg_cmp_lt, lg_cmp_ge, lg_cmp_gt, nI_1, zr_up_self, zp_O, zr_fup_self, zr_fup_ne, ne_eq, Nat.reduceEqDiff, not_false_eq_true, pk_mul, hX, zx_I, zx_0, w0.1, zm_I, zm_0, w0.2.1, zb_O, zb_0, w0.2.2.1, zg_O, zg_1]
  have loop : ∀ t i, i + t = S → ∀ h1, (∀ q, O q → h1 q = h q) → vC h1 O B D V u l J rb rw tf (wrf S b w I r wf i) → zr_Z (d + 3) 105 Q 21 [some (.ref (D 0)), some (.int (nI r)), some (.int (nI S)), some (.int (nI i))] [] h1 0 0 := by
    intro t
    induction t with
    | zero =>
      intro i hi h1 o1 v1
      have : i = S := by omega
      subst this
      have hX1 := v1.1
      simp only [zs_105_0, zs_105_0u, zs_105_1, zs_105_2, zt_105_2, zs_105_5, zs_105_5u, zs_105_6, zs_105_9, zs_105_12, zs_105_15, zs_105_18, zs_105_19, zs_105_20, zs_105_21, zs_105_22, zs_105_23, zs_105_26, zs_105_27, zs_105_29, zs_105_32, zs_105_32u, zs_105_33, zs_105_36, zs_105_37, zs_105_37u, zs_105_38, zs_105_41, zs_105_42, zs_105_43, zs_105_44, zs_105_45, zs_105_46, zt_105_46, zs_105_49, zs_105_50, zs_105_50z, zs_105_51, zs_105_54, zs_105_58, zs_105_59, zs_105_62, zs_105_63, zc_isO, zr_fld_mk, zc_isA, zc_len, zr_elt_mk, zr_kill_i, zr_kill_l, zr_kill_r, zr_kill_u, zr_kill_f, zr_kill_n, zc_cat, zr_cat_i, zr_cat_l, zr_cat_r, zr_cat_f, zr_cat_d, zr_cat_u, beq_self_eq_true, Nat.zero_le, Nat.le_refl, Nat.reduceSub, Nat.reduceAdd, Nat.reduceLeDiff, csl_f, csr_f, cn_f, lg_cmp_eq, lg_cmp_le, lg_cmp_lt, lg_cmp_ge, lg_cmp_gt, nI_1, zr_up_self, zp_O, zr_fup_self, zr_fup_ne, ne_eq, Nat.reduceEqDiff, not_false_eq_true, pk_mul, hX1, zx_I, zx_4, zx_0]
      refine ⟨fun _ => ?_, fun z => absurd (nI_le (Nat.le_refl _) (by omega)) z⟩
      simp only [zs_105_0, zs_105_0u, zs_105_1, zs_105_2, zt_105_2, zs_105_5, zs_105_5u, zs_105_6, zs_105_9, zs_105_12, zs_105_15, zs_105_18, zs_105_19, zs_105_20, zs_105_21, zs_105_22, zs_105_23, zs_105_26, zs_105_27, zs_105_29, zs_105_32, zs_105_32u, zs_105_33, zs_105_36, zs_105_37, zs_105_37u, zs_105_38, zs_105_41, zs_105_42, zs_105_43, zs_105_44, zs_105_45, zs_105_46, zt_105_46, zs_105_49, zs_105_50, zs_105_50z, zs_105_51, zs_105_54, zs_105_57, zs_105_57u, zs_105_58, zs_105_59, zs_105_63, zc_isO, zr_fld_mk, zc_isA, zc_len, zr_elt_mk, zr_kill_i, zr_kill_l, zr_kill_r, zr_kill_u, zr_kill_f, zr_kill_n, zc_cat, zr_cat_i, zr_cat_l, zr_cat_r, zr_cat_f, zr_cat_d, zr_cat_u, beq_self_eq_true, Nat.zero_le, Nat.le_refl, Nat.reduceSub, Nat.reduceAdd, Nat.reduceLeDiff, csl_f, csr_f, cn_f, lg_cmp_eq, lg_cmp_le, lg_cmp_lt, lg_cmp_ge, lg_cmp_gt, nI_1, zr_up_self, zp_O, zr_fup_self, zr_fup_ne, ne_eq, Nat.reduceEqDiff, not_false_eq_true, pk_mul, hX1, zx_I]
      rw [putX6 hX1]
      obtain ⟨v2, o2⟩ := vC_l v1 (l2 := i) (by omega)
      simp only [zs_105_0, zs_105_0u, zs_105_1, zs_105_2, zt_105_2, zs_105_5, zs_105_5u, zs_105_6, zs_105_9, zs_105_12, zs_105_15, zs_105_18, zs_105_19, zs_105_20, zs_105_21, zs_105_22, zs_105_23, zs_105_26, zs_105_27, zs_105_29, zs_105_32, zs_105_32u, zs_105_33, zs_105_36, zs_105_37, zs_105_37u, zs_105_38, zs_105_41, zs_105_42, zs_105_43, zs_105_44, zs_105_45, zs_105_46, zt_105_46, zs_105_49, zs_105_50, zs_105_50z, zs_105_51, zs_105_54, zs_105_57, zs_105_57u, zs_105_58, zs_105_59, zs_105_62, zs_105_63, zc_isO, zr_fld_mk, zc_isA, zc_len, zr_elt_mk, zr_kill_i, zr_kill_l, zr_kill_r, zr_kill_u, zr_kill_f, zr_kill_n, zc_cat, zr_cat_i, zr_cat_l, zr_cat_r, zr_cat_f, zr_cat_d, zr_cat_u, beq_self_eq_true, Nat.zero_le, Nat.le_refl, Nat.reduceSub, Nat.reduceAdd, Nat.reduceLeDiff, csl_f, csr_f, cn_f, lg_cmp_eq, lg_cmp_le, lg_cmp_lt, lg_cmp_ge, lg_cmp_gt, nI_1, zr_up_self, zp_O, zr_fup_self, zr_fup_ne, ne_eq, Nat.reduceEqDiff, not_false_eq_true, pk_mul]
      exact hQ _ B (fun q o => (o2 q o).trans (o1 q o)) v2
    | succ t ih =>
      intro i hi h1 o1 v1
      have hX1 := v1.1
      obtain ⟨g1, w1, n1⟩ := vC_v0 v1 h0
      have w1 : vM h1 (B 0) R S b w P I g1 := w1
      have hp : S * r + i < R * S := by
        have : (r + 1) * S ≤ R * S := Nat.mul_le_mul_right S (by omega)
        rw [Nat.add_mul, Nat.one_mul, Nat.mul_comm r S] at this
        omega
      have a1 := aB_isA v1.2.2.2.2.2.2.1
      have a2 := aB_in v1.2.2.2.2.2.2.1 (k := i) (by omega) (by omega)
      have e1 : nI S * nI r + nI i = nI (S * r + i) := by rw [pk_mul, nI_add]
      have e2 : (nI i).toNatClampNeg = i := nI_clamp (by omega)
      simp only [zs_105_0, zs_105_0u, zs_105_1, zs_105_2, zt_105_2, zs_105_5, zs_105_5u, zs_105_6, zs_105_9, zs_105_12, zs_105_15, zs_105_18, zs_105_19, zs_105_20, zs_105_21, zs_105_22, zs_105_23, zs_105_26, zs_105_27, zs_105_29, zs_105_33, zs_105_36, zs_105_37, zs_105_37u, zs_105_38, zs_105_41, zs_105_42, zs_105_43, zs_105_44, zs_105_45, zs_105_46, zt_105_46, zs_105_49, zs_105_50, zs_105_50z, zs_105_51, zs_105_54, zs_105_58, zs_105_59, zs_105_62, zs_105_63, zc_isO, zr_fld_mk, zc_isA, zc_len, zr_elt_mk, zr_kill_i, zr_kill_l, zr_kill_r, zr_kill_u, zr_kill_f, zr_kill_n, zc_cat, zr_cat_i, zr_cat_l, zr_cat_r, zr_cat_f, zr_cat_d, zr_cat_u, beq_self_eq_true, Nat.zero_le, Nat.le_refl, Nat.reduceSub, Nat.reduceAdd, Nat.reduceLeDiff, csl_f, csr_f, cn_f, lg_cmp_eq, lg_cmp_le, lg_cmp_lt, lg_cmp_ge, lg_cmp_gt, nI_1, zr_up_self, zp_O, zr_fup_self, zr_fup_ne, ne_eq, Nat.reduceEqDiff, not_false_eq_true, pk_mul, hX1, zx_I, zx_4, zx_0, w1.1, zm_I, a1, a2, nI_add]
      refine ⟨fun z => absurd z (nI_ge (by omega) (by omega)), fun _ => ⟨fun z => absurd z (nI_ge (b := 12) (by omega) (by omega)), fun _ => ?_⟩⟩
      simp only [zs_105_0, zs_105_0u, zs_105_1, zs_105_2, zt_105_2, zs_105_5, zs_105_5u, zs_105_6, zs_105_9, zs_105_12, zs_105_15, zs_105_18, zs_105_19, zs_105_20, zs_105_21, zs_105_22, zs_105_23, zs_105_26, zs_105_27, zs_105_29, zs_105_32, zs_105_32u, zs_105_33, zs_105_36, zs_105_37, zs_105_37u, zs_105_38, zs_105_41, zs_105_42, zs_105_43, zs_105_44, zs_105_45, zs_105_46, zt_105_46, zs_105_49, zs_105_50, zs_105_50z, zs_105_51, zs_105_54, zs_105_58, zs_105_59, zs_105_62, zs_105_63, zc_isO, zr_fld_mk, zc_isA, zc_len, zr_elt_mk, zr_kill_i, zr_kill_l, zr_kill_r, zr_kill_u, zr_kill_f, zr_kill_n, zc_cat, zr_cat_i, zr_cat_l, zr_cat_r, zr_cat_f, zr_cat_d, zr_cat_u, beq_self_eq_true, Nat.zero_le, Nat.le_refl, Nat.reduceSub, Nat.reduceAdd, Nat.reduceLeDiff, csl_f, csr_f, cn_f, lg_cmp_eq, lg_cmp_le, lg_cmp_lt, lg_cmp_ge, lg_cmp_gt, nI_1, zr_up_self, zp_O, zr_fup_self, zr_fup_ne, ne_eq, Nat.reduceEqDiff, not_false_eq_true, pk_mul, hX1, zx_I, zx_4, zx_0, w1.1, zm_I, a1, a2, nI_add]
      refine k_ltr (d := d + 1) w1 hp ?_
      simp only [zs_105_0, zs_105_0u, zs_105_1, zs_105_2, zt_105_2, zs_105_5, zs_105_5u, zs_105_6, zs_105_9, zs_105_12, zs_105_15, zs_105_18, zs_105_19, zs_105_20, zs_105_21, zs_105_22, zs_105_23, zs_105_26, zs_105_27, zs_105_29, zs_105_32, zs_105_32u, zs_105_33, zs_105_36, zs_105_37, zs_105_37u, zs_105_38, zs_105_41, zs_105_42, zs_105_43, zs_105_44, zs_105_45, zs_105_46, zt_105_46, zs_105_49, zs_105_50, zs_105_50z, zs_105_54, zs_105_57, zs_105_57u, zs_105_58, zs_105_59, zs_105_62, zs_105_63, zc_isO, zr_fld_mk, zc_isA, zc_len, zr_elt_mk, zr_kill_i, zr_kill_l, zr_kill_r, zr_kill_u, zr_kill_f, zr_kill_n, zc_cat, zr_cat_i, zr_cat_l, zr_cat_r, zr_cat_f, zr_cat_d, zr_cat_u, beq_self_eq_true, Nat.zero_le, Nat.le_refl, Nat.reduceSub, Nat.reduceAdd, Nat.reduceLeDiff, csl_f, csr_f, cn_f, lg_cmp_eq, lg_cmp_le, lg_cmp_lt, lg_cmp_ge, lg_cmp_gt, nI_1, zr_up_self, zp_O, zr_fup_self, zr_fup_ne, ne_eq, Nat.reduceEqDiff, not_false_eq_true, pk_mul, a1, a2, ltr_n, e2]
      have f : fx [D 4] h1 (zr_putA h1 (D 4) i (.int (ltr b w I (S * r + i)))) := putA_fx List.mem_cons_self
      have a : aB (zr_putA h1 (D 4) i (.int (ltr b w I (S * r + i)))) (D 4) 12 (wrf S b w I r wf (i + 1)) := aB_put v1.2.2.2.2.2.2.1 (fun k hk => by
        unfold wrf
        by_cases e : k = i
        · rw [if_pos e, if_pos (by omega), e]
        · rw [if_neg e]
          by_cases g : k < i
          · rw [if_pos g, if_pos (by omega)]
          · rw [if_neg g, if_neg (by omega)])
      obtain ⟨v2, o2⟩ := vC_wf v1 f a
      have := ih (i + 1) (by omega) _ (fun q o => (o2 q o).trans (o1 q o)) v2
      simp only [zs_105_0, zs_105_0u, zs_105_1, zs_105_2, zt_105_2, zs_105_5, zs_105_5u, zs_105_6, zs_105_9, zs_105_12, zs_105_15, zs_105_18, zs_105_19, zs_105_20, zs_105_22, zs_105_23, zs_105_26, zs_105_27, zs_105_29, zs_105_32, zs_105_32u, zs_105_33, zs_105_36, zs_105_37, zs_105_37u, zs_105_38, zs_105_41, zs_105_42, zs_105_43, zs_105_44, zs_105_45, zs_105_46, zt_105_46, zs_105_49, zs_105_50, zs_105_50z, zs_105_51, zs_105_54, zs_105_57, zs_105_57u, zs_105_58, zs_105_59, zs_105_62, zs_105_63, zc_isO, zr_fld_mk, zc_isA, zc_len, zr_elt_mk, zr_kill_i, zr_kill_l, zr_kill_r, zr_kill_u, zr_kill_f, zr_kill_n, zc_cat, zr_cat_i, zr_cat_l, zr_cat_r, zr_cat_f, zr_cat_d, zr_cat_u, beq_self_eq_true, Nat.zero_le, Nat.le_refl, Nat.reduceSub, Nat.reduceAdd, Nat.reduceLeDiff, csl_f, csr_f, cn_f, lg_cmp_eq, lg_cmp_le, lg_cmp_lt, lg_cmp_ge, lg_cmp_gt, nI_1, zr_up_self, zp_O, zr_fup_self, zr_fup_ne, ne_eq, Nat.reduceEqDiff, not_false_eq_true, pk_mul]
      exact this
  exact loop S 0 (by omega) h (fun _ _ => rfl) (by
    have : wrf S b w I r wf 0 = wf := by funext k; unfold wrf; rw [if_neg (by omega)]
    rw [this]
    exact v)
end STATE
