/-! THE POSITIONS, written -/
section POS
variable {Q : zr_K} {p pb pw n : Nat} {fb fw : Nat → Int64}
def shi (f : Nat → Int64) (i : Nat) : Nat → Int64 := fun k => if i < k then f (k - 1) else f k
def psh (f : Nat → Int64) (v : Int64) : Nat → Int64 := fun k => if k = 0 then v else f (k - 1)
theorem mem_1 {a b c : Nat} : a ∈ [a, b, c] := List.mem_cons_self
theorem mem_2 {a b c : Nat} : b ∈ [a, b, c] := List.mem_cons_of_mem _ List.mem_cons_self
theorem mem_3 {a b c : Nat} : c ∈ [a, b, c] := List.mem_cons_of_mem _ (List.mem_cons_of_mem _ List.mem_cons_self)
theorem cl_0 : (0 : Int32).toNatClampNeg = 0 := rfl
theorem k_padd_ {d : Nat} {h : zr_H} (hn : n ≤ 30) (hpb : p ≠ pb) (hpw : p ≠ pw) (hbw : pb ≠ pw) {b w : Int64} (hQ : ∀ h', fx [p, pb, pw] h h' → vP h' p pb pw (psh fb b) (psh fw w) (min (n + 1) 30) → Q (.inl none) h') (i : Nat) :
    i ≤ 29 → ∀ h1, fx [p, pb, pw] h h1 → vP h1 p pb pw (shi fb i) (shi fw i) n → zr_Z d 52 Q 4 [some (.ref p), some (.long b), none, some (.long w), none, some (.int (nI i))] [] h1 0 0 := by
  induction i with
  | zero =>
    intro _ h1 hf ⟨hP, aB, aW, _, _⟩
    have a1 := aL_isA aB
    have a2 : vp_in 0 (zr_len (h1 pb)) := aL_in aB (k := 0) (by omega) (by omega)
    simp only [zs_52_0, zs_52_2, zs_52_4, zs_52_6, zs_52_10, zs_52_13, zs_52_15, zs_52_15u, zs_52_16, zs_52_19, zs_52_21, zs_52_22, zs_52_23, zs_52_24, zs_52_25, zs_52_25u, zs_52_26, zs_52_29, zs_52_31, zs_52_31u, zs_52_32, zs_52_35, zs_52_37, zs_52_38, zs_52_39, zs_52_40, zs_52_41, zs_52_44, zs_52_47, zs_52_47u, zs_52_48, zs_52_51, zs_52_52, zs_52_53, zs_52_55, zs_52_58, zs_52_59, zs_52_60, zs_52_61, zs_52_61u, zs_52_62, zs_52_62u, zs_52_63, zs_52_66, zs_52_67, zs_52_68, zs_52_70, zs_52_73, zs_52_76, zc_isO, zr_fld_mk, zc_isA, zc_len, zr_elt_mk, zr_kill_i, zr_kill_l, zr_kill_r, zr_kill_u, zr_kill_f, zr_kill_n, zc_cat, zr_cat_i, zr_cat_l, zr_cat_r, zr_cat_f, zr_cat_d, zr_cat_u, beq_self_eq_true, Nat.zero_le, Nat.le_refl, Nat.reduceSub, Nat.reduceAdd, Nat.reduceLeDiff, csl_f, csr_f, cn_f, lg_cmp_eq, lg_cmp_le, lg_cmp_lt, lg_cmp_ge, lg_cmp_gt, nI_1, zr_up_self, zp_O, zr_fup_self, zr_fup_ne, ne_eq, Nat.reduceEqDiff, not_false_eq_true, pk_mul, hP, zp_I, zp_0, zp_1, zp_2, a1, a2]
    refine ⟨fun _ => ?_, fun z => absurd (by decide) z⟩
    have aB2 : aL (zr_putA h1 pb (0 : Int32).toNatClampNeg (.long b)) pb 30 (psh fb b) := aL_put aB (fun k hk => by
      rw [cl_0]
      unfold psh shi
      by_cases e : k = 0
      · rw [if_pos e, if_pos e]
      · rw [if_neg e, if_neg e, if_pos (by omega)])
    have aW2 : aL (zr_putA h1 pb (0 : Int32).toNatClampNeg (.long b)) pw 30 (shi fw 0) := aL_ot aW (Ne.symm hbw)
    have hP2 : zr_putA h1 pb (0 : Int32).toNatClampNeg (.long b) p = some (zps pb pw (nI n)) := putA_ot hpb hP
    have hf2 : fx [p, pb, pw] h (zr_putA h1 pb (0 : Int32).toNatClampNeg (.long b)) := fx_trans hf (putA_fx mem_2)
    generalize zr_putA h1 pb (0 : Int32).toNatClampNeg (.long b) = h2 at aB2 aW2 hP2 hf2 ⊢
    have b1 := aL_isA aW2
    have b2 : vp_in 0 (zr_len (h2 pw)) := aL_in aW2 (k := 0) (by omega) (by omega)
    simp only [zs_52_0, zs_52_2, zs_52_4, zs_52_6, zs_52_9, zs_52_9u, zs_52_10, zs_52_13, zs_52_15, zs_52_15u, zs_52_16, zs_52_19, zs_52_21, zs_52_22, zs_52_23, zs_52_24, zs_52_25, zs_52_25u, zs_52_26, zs_52_29, zs_52_31, zs_52_31u, zs_52_32, zs_52_35, zs_52_37, zs_52_38, zs_52_39, zs_52_40, zs_52_41, zs_52_44, zs_52_47, zs_52_47u, zs_52_48, zs_52_51, zs_52_52, zs_52_53, zs_52_54, zs_52_54u, zs_52_55, zs_52_58, zs_52_59, zs_52_60, zs_52_62, zs_52_62u, zs_52_63, zs_52_66, zs_52_67, zs_52_68, zs_52_70, zs_52_73, zs_52_76, zc_isO, zr_fld_mk, zc_isA, zc_len, zr_elt_mk, zr_kill_i, zr_kill_l, zr_kill_r, zr_kill_u, zr_kill_f, zr_kill_n, zc_cat, zr_cat_i, zr_cat_l, zr_cat_r, zr_cat_f, zr_cat_d, zr_cat_u, beq_self_eq_true, Nat.zero_le, Nat.le_refl, Nat.reduceSub, Nat.reduceAdd, Nat.reduceLeDiff, csl_f, csr_f, cn_f, lg_cmp_eq, lg_cmp_le, lg_cmp_lt, lg_cmp_ge, lg_cmp_gt, nI_1, zr_up_self, zp_O, zr_fup_self, zr_fup_ne, ne_eq, Nat.reduceEqDiff, not_false_eq_true, pk_mul, hP2, zp_I, zp_0, zp_1, zp_2, b1, b2]
    have aW3 : aL (zr_putA h2 pw (0 : Int32).toNatClampNeg (.long w)) pw 30 (psh fw w) := aL_put aW2 (fun k hk => by
      rw [cl_0]
      unfold psh shi
      by_cases e : k = 0
      · rw [if_pos e, if_pos e]
      · rw [if_neg e, if_neg e, if_pos (by omega)])
    have aB3 : aL (zr_putA h2 pw (0 : Int32).toNatClampNeg (.long w)) pb 30 (psh fb b) := aL_ot aB2 hbw
    have hP3 : zr_putA h2 pw (0 : Int32).toNatClampNeg (.long w) p = some (zps pb pw (nI n)) := putA_ot hpw hP2
    have hf3 : fx [p, pb, pw] h (zr_putA h2 pw (0 : Int32).toNatClampNeg (.long w)) := fx_trans hf2 (putA_fx mem_3)
    generalize zr_putA h2 pw (0 : Int32).toNatClampNeg (.long w) = h3 at aW3 aB3 hP3 hf3 ⊢
    simp only [zs_52_0, zs_52_2, zs_52_4, zs_52_6, zs_52_9, zs_52_9u, zs_52_10, zs_52_13, zs_52_15, zs_52_15u, zs_52_16, zs_52_19, zs_52_21, zs_52_22, zs_52_23, zs_52_24, zs_52_25, zs_52_25u, zs_52_26, zs_52_29, zs_52_31, zs_52_31u, zs_52_32, zs_52_35, zs_52_37, zs_52_38, zs_52_39, zs_52_40, zs_52_41, zs_52_44, zs_52_47, zs_52_47u, zs_52_48, zs_52_51, zs_52_52, zs_52_53, zs_52_54, zs_52_54u, zs_52_55, zs_52_58, zs_52_59, zs_52_60, zs_52_61, zs_52_61u, zs_52_62, zs_52_62u, zs_52_63, zs_52_66, zs_52_67, zs_52_68, zs_52_70, zs_52_73, zs_52_76, zc_isO, zr_fld_mk, zc_isA, zc_len, zr_elt_mk, zr_kill_i, zr_kill_l, zr_kill_r, zr_kill_u, zr_kill_f, zr_kill_n, zc_cat, zr_cat_i, zr_cat_l, zr_cat_r, zr_cat_f, zr_cat_d, zr_cat_u, beq_self_eq_true, Nat.zero_le, Nat.le_refl, Nat.reduceSub, Nat.reduceAdd, Nat.reduceLeDiff, csl_f, csr_f, cn_f, lg_cmp_eq, lg_cmp_le, lg_cmp_lt, lg_cmp_ge, lg_cmp_gt, nI_1, zr_up_self, zp_O, zr_fup_self, zr_fup_ne, ne_eq, Nat.reduceEqDiff, not_false_eq_true, pk_mul, hP3, zp_I, zp_0, zp_1, zp_2]
    have e : (if (30 : Int32) < nI (n + 1) then (30 : Int32) else nI (n + 1)) = nI (min (n + 1) 30) := by
      by_cases g : n = 30
      · subst g; rfl
      · rw [if_neg (show ¬ (30 : Int32) < nI (n + 1) from nI_nlt (a := 30) (by omega) (by omega)), Nat.min_eq_left (by omega)]
    rw [e, zr_putO_mk hP3]
    refine hQ _ (fx_trans hf3 (fx_up mem_1)) ⟨?_, ?_, ?_, by omega, hbw⟩
    · rw [zr_up_self, zps_put]
    · exact aL_fx aB3 (fx_up (X := [p]) List.mem_cons_self) (by simp; exact Ne.symm hpb)
    · exact aL_fx aW3 (fx_up (X := [p]) List.mem_cons_self) (by simp; exact Ne.symm hpw)
  | succ i ih =>
    intro hi h1 hf ⟨hP, aB, aW, _, _⟩
    have e1 : nI (i + 1) - 1 = nI i := nI_pred i
    have e2 : (nI (i + 1)).toNatClampNeg = i + 1 := nI_clamp (by omega)
    have a1 := aL_isA aB
    have a2 := aL_in aB (k := i + 1) (by omega) (by omega)
    have a3 := aL_in aB (k := i) (by omega) (by omega)
    have a4 := aL_elt aB (k := i) (by omega) (by omega)
    simp only [zs_52_0, zs_52_2, zs_52_4, zs_52_6, zs_52_9, zs_52_9u, zs_52_10, zs_52_13, zs_52_15, zs_52_15u, zs_52_16, zs_52_19, zs_52_21, zs_52_22, zs_52_23, zs_52_24, zs_52_26, zs_52_29, zs_52_31, zs_52_31u, zs_52_32, zs_52_35, zs_52_37, zs_52_38, zs_52_39, zs_52_40, zs_52_41, zs_52_44, zs_52_48, zs_52_51, zs_52_52, zs_52_53, zs_52_54, zs_52_54u, zs_52_55, zs_52_58, zs_52_59, zs_52_60, zs_52_61, zs_52_61u, zs_52_62, zs_52_62u, zs_52_63, zs_52_66, zs_52_67, zs_52_68, zs_52_70, zs_52_73, zs_52_76, zc_isO, zr_fld_mk, zc_isA, zc_len, zr_elt_mk, zr_kill_i, zr_kill_l, zr_kill_r, zr_kill_u, zr_kill_f, zr_kill_n, zc_cat, zr_cat_i, zr_cat_l, zr_cat_r, zr_cat_f, zr_cat_d, zr_cat_u, beq_self_eq_true, Nat.zero_le, Nat.le_refl, Nat.reduceSub, Nat.reduceAdd, Nat.reduceLeDiff, csl_f, csr_f, cn_f, lg_cmp_eq, lg_cmp_le, lg_cmp_lt, lg_cmp_ge, lg_cmp_gt, nI_1, zr_up_self, zp_O, zr_fup_self, zr_fup_ne, ne_eq, Nat.reduceEqDiff, not_false_eq_true, pk_mul, hP, zp_I, zp_0, zp_1, zp_2, a1, a2, a3, a4, e1, e2]
    refine ⟨fun z => absurd z (nI_nle (by omega) (by omega)), fun _ => ?_⟩
    have st : ∀ f : Nat → Int64, ∀ k, k < 30 → shi f i k = if k = i + 1 then shi f (i + 1) i else shi f (i + 1) k := by
      intro f k hk
      unfold shi
      by_cases e : k = i + 1
      · rw [if_pos (by omega), if_pos e, if_neg (by omega), e]; rfl
      · rw [if_neg e]
        by_cases g : i + 1 < k
        · rw [if_pos (by omega), if_pos g]
        · rw [if_neg (by omega), if_neg g]
    have aB2 : aL (zr_putA h1 pb (i + 1) (.long (shi fb (i + 1) i))) pb 30 (shi fb i) := aL_put aB (st fb)
    have aW2 : aL (zr_putA h1 pb (i + 1) (.long (shi fb (i + 1) i))) pw 30 (shi fw (i + 1)) := aL_ot aW (Ne.symm hbw)
    have hP2 : zr_putA h1 pb (i + 1) (.long (shi fb (i + 1) i)) p = some (zps pb pw (nI n)) := putA_ot hpb hP
    have hf2 : fx [p, pb, pw] h (zr_putA h1 pb (i + 1) (.long (shi fb (i + 1) i))) := fx_trans hf (putA_fx mem_2)
    generalize zr_putA h1 pb (i + 1) (.long (shi fb (i + 1) i)) = h2 at aB2 aW2 hP2 hf2 ⊢
    have b1 := aL_isA aW2
    have b2 := aL_in aW2 (k := i + 1) (by omega) (by omega)
    have b3 := aL_in aW2 (k := i) (by omega) (by omega)
    have b4 := aL_elt aW2 (k := i) (by omega) (by omega)
    simp only [zs_52_0, zs_52_2, zs_52_4, zs_52_6, zs_52_9, zs_52_9u, zs_52_10, zs_52_13, zs_52_15, zs_52_15u, zs_52_16, zs_52_19, zs_52_21, zs_52_22, zs_52_23, zs_52_24, zs_52_25, zs_52_25u, zs_52_26, zs_52_29, zs_52_31, zs_52_31u, zs_52_32, zs_52_35, zs_52_37, zs_52_38, zs_52_39, zs_52_40, zs_52_44, zs_52_47, zs_52_47u, zs_52_48, zs_52_51, zs_52_52, zs_52_53, zs_52_54, zs_52_54u, zs_52_55, zs_52_58, zs_52_59, zs_52_60, zs_52_61, zs_52_61u, zs_52_62, zs_52_62u, zs_52_63, zs_52_66, zs_52_67, zs_52_68, zs_52_70, zs_52_73, zs_52_76, zc_isO, zr_fld_mk, zc_isA, zc_len, zr_elt_mk, zr_kill_i, zr_kill_l, zr_kill_r, zr_kill_u, zr_kill_f, zr_kill_n, zc_cat, zr_cat_i, zr_cat_l, zr_cat_r, zr_cat_f, zr_cat_d, zr_cat_u, beq_self_eq_true, Nat.zero_le, Nat.le_refl, Nat.reduceSub, Nat.reduceAdd, Nat.reduceLeDiff, csl_f, csr_f, cn_f, lg_cmp_eq, lg_cmp_le, lg_cmp_lt, lg_cmp_ge, lg_cmp_gt, nI_1, zr_up_self, zp_O, zr_fup_self, zr_fup_ne, ne_eq, Nat.reduceEqDiff, not_false_eq_true, pk_mul, hP2, zp_I, zp_0, zp_1, zp_2, b1, b2, b3, b4, e1, e2]
    have aW3 : aL (zr_putA h2 pw (i + 1) (.long (shi fw (i + 1) i))) pw 30 (shi fw i) := aL_put aW2 (st fw)
    have aB3 : aL (zr_putA h2 pw (i + 1) (.long (shi fw (i + 1) i))) pb 30 (shi fb i) := aL_ot aB2 hbw
    have hP3 : zr_putA h2 pw (i + 1) (.long (shi fw (i + 1) i)) p = some (zps pb pw (nI n)) := putA_ot hpw hP2
    have hf3 : fx [p, pb, pw] h (zr_putA h2 pw (i + 1) (.long (shi fw (i + 1) i))) := fx_trans hf2 (putA_fx mem_3)
    have := ih (by omega) _ hf3 ⟨hP3, aB3, aW3, hn, hbw⟩
    simp only [zs_52_0, zs_52_2, zs_52_6, zs_52_9, zs_52_9u, zs_52_10, zs_52_13, zs_52_15, zs_52_15u, zs_52_16, zs_52_19, zs_52_21, zs_52_22, zs_52_23, zs_52_24, zs_52_25, zs_52_25u, zs_52_26, zs_52_29, zs_52_31, zs_52_31u, zs_52_32, zs_52_35, zs_52_37, zs_52_38, zs_52_39, zs_52_40, zs_52_41, zs_52_44, zs_52_47, zs_52_47u, zs_52_48, zs_52_51, zs_52_52, zs_52_53, zs_52_54, zs_52_54u, zs_52_55, zs_52_58, zs_52_59, zs_52_60, zs_52_61, zs_52_61u, zs_52_62, zs_52_62u, zs_52_63, zs_52_66, zs_52_67, zs_52_68, zs_52_70, zs_52_73, zs_52_76, zc_isO, zr_fld_mk, zc_isA, zc_len, zr_elt_mk, zr_kill_i, zr_kill_l, zr_kill_r, zr_kill_u, zr_kill_f, zr_kill_n, zc_cat, zr_cat_i, zr_cat_l, zr_cat_r, zr_cat_f, zr_cat_d, zr_cat_u, beq_self_eq_true, Nat.zero_le, Nat.le_refl, Nat.reduceSub, Nat.reduceAdd, Nat.reduceLeDiff, csl_f, csr_f, cn_f, lg_cmp_eq, lg_cmp_le, lg_cmp_lt, lg_cmp_ge, lg_cmp_gt, nI_1, zr_up_self, zp_O, zr_fup_self, zr_fup_ne, ne_eq, Nat.reduceEqDiff, not_false_eq_true, pk_mul, pk_m1]
    exact this
theorem shi_29 {f : Nat → Int64} : ∀ k, k < 30 → shi f 29 k = f k := by
  intro k hk
  unfold shi
  rw [if_neg (by omega)]
theorem aL_eq {h : zr_H} {q n : Nat} {f f2 : Nat → Int64} (a : aL h q n f) (e : ∀ k, k < n → f2 k = f k) : aL h q n f2 := by
  obtain ⟨F, h1, h2⟩ := a
  exact ⟨F, h1, fun k hk => by rw [h2 k hk, e k hk]⟩
theorem k_padd {d : Nat} {h : zr_H} (v : vP h p pb pw fb fw n) {b w : Int64} (hQ : ∀ h', fx [p, pb, pw] h h' → vP h' p pb pw (psh fb b) (psh fw w) (min (n + 1) 30) → Q (.inl none) h') : zr_E (d + 1) 52 [.ref p, .long b, .long w] h Q := by
  have ne := vP_ne v
  obtain ⟨hP, aB, aW, hn, hbw⟩ := v
  rw [ze_52]
  simp only [zs_52_0, zs_52_2, zs_52_6, zs_52_9, zs_52_9u, zs_52_10, zs_52_13, zs_52_15, zs_52_15u, zs_52_16, zs_52_19, zs_52_21, zs_52_22, zs_52_23, zs_52_24, zs_52_25, zs_52_25u, zs_52_26, zs_52_29, zs_52_31, zs_52_31u, zs_52_32, zs_52_35, zs_52_37, zs_52_38, zs_52_39, zs_52_40, zs_52_41, zs_52_44, zs_52_47, zs_52_47u, zs_52_48, zs_52_51, zs_52_52, zs_52_53, zs_52_54, zs_52_54u, zs_52_55, zs_52_58, zs_52_59, zs_52_60, zs_52_61, zs_52_61u, zs_52_62, zs_52_62u, zs_52_63, zs_52_66, zs_52_67, zs_52_68, zs_52_70, zs_52_73, zs_52_76, zc_isO, zr_fld_mk, zc_isA, zc_len, zr_elt_mk, zr_kill_i, zr_kill_l, zr_kill_r, zr_kill_u, zr_kill_f, zr_kill_n, zc_cat, zr_cat_i, zr_cat_l, zr_cat_r, zr_cat_f, zr_cat_d, zr_cat_u, beq_self_eq_true, Nat.zero_le, Nat.le_refl, Nat.reduceSub, Nat.reduceAdd, Nat.reduceLeDiff, csl_f, csr_f, cn_f, lg_cmp_eq, lg_cmp_le, lg_cmp_lt, lg_cmp_ge, lg_cmp_gt, nI_1, zr_up_self, zp_O, zr_fup_self, zr_fup_ne, ne_eq, Nat.reduceEqDiff, not_false_eq_true, pk_mul]
  exact k_padd_ hn ne.1 ne.2 hbw hQ 29 (by omega) h (fx_refl _ _) ⟨hP, aL_eq aB shi_29, aL_eq aW shi_29, hn, hbw⟩
theorem k_pbeg {d : Nat} {h : zr_H} (v : vP h p pb pw fb fw n) {b w : Int64} (hQ : ∀ h', fx [p, pb, pw] h h' → vP h' p pb pw (psh fb b) (psh fw w) 1 → Q (.inl none) h') : zr_E (d + 2) 51 [.ref p, .long b, .long w] h Q := by
  have ne := vP_ne v
  obtain ⟨hP, aB, aW, hn, hbw⟩ := v
  rw [ze_51]
  simp only [zs_51_0, zs_51_0u, zs_51_1, zs_51_2, zs_51_6, zs_51_7, zs_51_8, zt_51_8, zs_51_11, zc_isO, zr_fld_mk, zc_isA, zc_len, zr_elt_mk, zr_kill_i, zr_kill_l, zr_kill_r, zr_kill_u, zr_kill_f, zr_kill_n, zc_cat, zr_cat_i, zr_cat_l, zr_cat_r, zr_cat_f, zr_cat_d, zr_cat_u, beq_self_eq_true, Nat.zero_le, Nat.le_refl, Nat.reduceSub, Nat.reduceAdd, Nat.reduceLeDiff, csl_f, csr_f, cn_f, lg_cmp_eq, lg_cmp_le, lg_cmp_lt, lg_cmp_ge, lg_cmp_gt, nI_1, zr_up_self, zp_O, zr_fup_self, zr_fup_ne, ne_eq, Nat.reduceEqDiff, not_false_eq_true, pk_mul, hP, zp_I]
  rw [zr_putO_mk hP, zps_put]
  have v2 : vP (zr_up h p (zps pb pw 0)) p pb pw fb fw 0 := ⟨zr_up_self _ _ _, aL_fx aB (fx_up (X := [p]) List.mem_cons_self) (by simp; exact Ne.symm ne.1), aL_fx aW (fx_up (X := [p]) List.mem_cons_self) (by simp; exact Ne.symm ne.2), by omega, hbw⟩
  simp only [zs_51_0, zs_51_0u, zs_51_1, zs_51_2, zs_51_5, zs_51_5u, zs_51_6, zs_51_7, zs_51_8, zt_51_8, zs_51_11, zc_isO, zr_fld_mk, zc_isA, zc_len, zr_elt_mk, zr_kill_i, zr_kill_l, zr_kill_r, zr_kill_u, zr_kill_f, zr_kill_n, zc_cat, zr_cat_i, zr_cat_l, zr_cat_r, zr_cat_f, zr_cat_d, zr_cat_u, beq_self_eq_true, Nat.zero_le, Nat.le_refl, Nat.reduceSub, Nat.reduceAdd, Nat.reduceLeDiff, csl_f, csr_f, cn_f, lg_cmp_eq, lg_cmp_le, lg_cmp_lt, lg_cmp_ge, lg_cmp_gt, nI_1, zr_up_self, zp_O, zr_fup_self, zr_fup_ne, ne_eq, Nat.reduceEqDiff, not_false_eq_true, pk_mul, v2.1, zp_I]
  refine k_padd v2 (fun h' f v' => ?_)
  simp only [zs_51_0, zs_51_0u, zs_51_1, zs_51_2, zs_51_5, zs_51_5u, zs_51_6, zs_51_7, zs_51_8, zt_51_8, zs_51_11, zc_isO, zr_fld_mk, zc_isA, zc_len, zr_elt_mk, zr_kill_i, zr_kill_l, zr_kill_r, zr_kill_u, zr_kill_f, zr_kill_n, zc_cat, zr_cat_i, zr_cat_l, zr_cat_r, zr_cat_f, zr_cat_d, zr_cat_u, beq_self_eq_true, Nat.zero_le, Nat.le_refl, Nat.reduceSub, Nat.reduceAdd, Nat.reduceLeDiff, csl_f, csr_f, cn_f, lg_cmp_eq, lg_cmp_le, lg_cmp_lt, lg_cmp_ge, lg_cmp_gt, nI_1, zr_up_self, zp_O, zr_fup_self, zr_fup_ne, ne_eq, Nat.reduceEqDiff, not_false_eq_true, pk_mul]
  exact hQ h' (fx_trans (fx_up mem_1) f) v'
end POS
section POS
variable {Q : zr_K} {p pb pw n p2 pb2 pw2 n2 : Nat} {fb fw fb2 fw2 : Nat → Int64}
def cpy (f f2 : Nat → Int64) (i : Nat) : Nat → Int64 := fun k => if k < i then f2 k else f k
theorem cpy_s (f f2 : Nat → Int64) (i : Nat) (k : Nat) : cpy f f2 (i + 1) k = if k = i then f2 i else cpy f f2 i k := by
  unfold cpy
  by_cases e : k = i
  · rw [if_pos (by omega), if_pos e, e]
  · rw [if_neg e]
    by_cases g : k < i
    · rw [if_pos (by omega), if_pos g]
    · rw [if_neg (by omega), if_neg g]
theorem k_pbec_ {d : Nat} {h : zr_H} (v2 : vP h p2 pb2 pw2 fb2 fw2 n2) (hpb : p ≠ pb) (hpw : p ≠ pw) (hbw : pb ≠ pw) (s1 : p2 ≠ p) (s2 : p2 ≠ pb) (s3 : p2 ≠ pw) (s4 : pb2 ≠ p) (s5 : pb2 ≠ pb) (s6 : pb2 ≠ pw) (s7 : pw2 ≠ p) (s8 : pw2 ≠ pb) (s9 : pw2 ≠ pw)
    (hQ : ∀ h', fx [p, pb, pw] h h' → vP h' p pb pw fb2 fw2 n2 → Q (.inl none) h') (t : Nat) :
    ∀ i, i + t = 30 → ∀ h1, fx [p, pb, pw] h h1 → h1 p = some (zps pb pw (nI n)) → aL h1 pb 30 (cpy fb fb2 i) → aL h1 pw 30 (cpy fw fw2 i) → zr_Z d 50 Q 2 [some (.ref p), some (.ref p2), some (.int (nI i))] [] h1 0 0 := by
  obtain ⟨hP2, aB2, aW2, hn2, _⟩ := v2
  have N : ∀ j, j ≠ p → j ≠ pb → j ≠ pw → ¬ j ∈ [p, pb, pw] := by intro j a b c; simp [a, b, c]
  induction t with
  | zero =>
    intro i hi h1 hf hP aB aW
    have q2 : h1 p2 = some (zps pb2 pw2 (nI n2)) := fx_get hf (N _ s1 s2 s3) hP2
    simp only [zs_50_0, zs_50_1, zs_50_2, zs_50_3, zs_50_5, zs_50_9, zs_50_12, zs_50_13, zs_50_13u, zs_50_14, zs_50_17, zs_50_18, zs_50_19, zs_50_20, zs_50_20u, zs_50_21, zs_50_24, zs_50_25, zs_50_25u, zs_50_26, zs_50_29, zs_50_30, zs_50_31, zs_50_32, zs_50_35, zs_50_38, zs_50_38u, zs_50_39, zs_50_39u, zs_50_40, zs_50_43, zs_50_46, zc_isO, zr_fld_mk, zc_isA, zc_len, zr_elt_mk, zr_kill_i, zr_kill_l, zr_kill_r, zr_kill_u, zr_kill_f, zr_kill_n, zc_cat, zr_cat_i, zr_cat_l, zr_cat_r, zr_cat_f, zr_cat_d, zr_cat_u, beq_self_eq_true, Nat.zero_le, Nat.le_refl, Nat.reduceSub, Nat.reduceAdd, Nat.reduceLeDiff, csl_f, csr_f, cn_f, lg_cmp_eq, lg_cmp_le, lg_cmp_lt, lg_cmp_ge, lg_cmp_gt, nI_1, zr_up_self, zp_O, zr_fup_self, zr_fup_ne, ne_eq, Nat.reduceEqDiff, not_false_eq_true, pk_mul, hP, q2, zp_I, zp_0, zp_1, zp_2]
    refine ⟨fun _ => ?_, fun z => absurd (show (30 : Int32) ≤ nI i by rw [show i = 30 by omega]; decide) z⟩
    rw [zr_putO_mk hP, zps_put]
    refine hQ _ (fx_trans hf (fx_up mem_1)) ⟨zr_up_self _ _ _, ?_, ?_, hn2, hbw⟩
    · exact aL_eq (aL_fx aB (fx_up (X := [p]) List.mem_cons_self) (by simp; exact Ne.symm hpb)) (fun k hk => by unfold cpy; rw [if_pos (by omega)])
    · exact aL_eq (aL_fx aW (fx_up (X := [p]) List.mem_cons_self) (by simp; exact Ne.symm hpw)) (fun k hk => by unfold cpy; rw [if_pos (by omega)])
  | succ t ih =>
    intro i hi h1 hf hP aB aW
    have q2 : h1 p2 = some (zps pb2 pw2 (nI n2)) := fx_get hf (N _ s1 s2 s3) hP2
    have qB := aL_fx aB2 hf (N _ s4 s5 s6)
    have e2 : (nI i).toNatClampNeg = i := nI_clamp (by omega)
    have a1 := aL_isA aB
    have a2 := aL_in aB (k := i) (by omega) (by omega)
    have a3 := aL_isA qB
    have a4 := aL_in qB (k := i) (by omega) (by omega)
    have a5 := aL_elt qB (k := i) (by omega) (by omega)
    simp only [zs_50_0, zs_50_1, zs_50_2, zs_50_3, zs_50_5, zs_50_8, zs_50_8u, zs_50_9, zs_50_12, zs_50_13, zs_50_13u, zs_50_14, zs_50_17, zs_50_18, zs_50_19, zs_50_21, zs_50_24, zs_50_25, zs_50_25u, zs_50_26, zs_50_29, zs_50_30, zs_50_31, zs_50_32, zs_50_35, zs_50_39, zs_50_39u, zs_50_40, zs_50_43, zs_50_46, zc_isO, zr_fld_mk, zc_isA, zc_len, zr_elt_mk, zr_kill_i, zr_kill_l, zr_kill_r, zr_kill_u, zr_kill_f, zr_kill_n, zc_cat, zr_cat_i, zr_cat_l, zr_cat_r, zr_cat_f, zr_cat_d, zr_cat_u, beq_self_eq_true, Nat.zero_le, Nat.le_refl, Nat.reduceSub, Nat.reduceAdd, Nat.reduceLeDiff, csl_f, csr_f, cn_f, lg_cmp_eq, lg_cmp_le, lg_cmp_lt, lg_cmp_ge, lg_cmp_gt, nI_1, zr_up_self, zp_O, zr_fup_self, zr_fup_ne, ne_eq, Nat.reduceEqDiff, not_false_eq_true, pk_mul, hP, q2, zp_I, zp_0, zp_1, zp_2, a1, a2, a3, a4, a5]
    refine ⟨fun z => absurd z (nI_ge (b := 30) (by omega) (by omega)), fun _ => ?_⟩
    rw [e2]
    have aB3 : aL (zr_putA h1 pb i (.long (fb2 i))) pb 30 (cpy fb fb2 (i + 1)) := aL_put aB (fun k hk => cpy_s _ _ _ _)
    have aW3 : aL (zr_putA h1 pb i (.long (fb2 i))) pw 30 (cpy fw fw2 i) := aL_ot aW (Ne.symm hbw)
    have hP3 : zr_putA h1 pb i (.long (fb2 i)) p = some (zps pb pw (nI n)) := putA_ot hpb hP
    have hf3 : fx [p, pb, pw] h (zr_putA h1 pb i (.long (fb2 i))) := fx_trans hf (putA_fx mem_2)
    generalize zr_putA h1 pb i (.long (fb2 i)) = h2 at aB3 aW3 hP3 hf3 ⊢
    have q3 : h2 p2 = some (zps pb2 pw2 (nI n2)) := fx_get hf3 (N _ s1 s2 s3) hP2
    have qW := aL_fx aW2 hf3 (N _ s7 s8 s9)
    have b1 := aL_isA aW3
    have b2 := aL_in aW3 (k := i) (by omega) (by omega)
    have b3 := aL_isA qW
    have b4 := aL_in qW (k := i) (by omega) (by omega)
    have b5 := aL_elt qW (k := i) (by omega) (by omega)
    simp only [zs_50_0, zs_50_1, zs_50_2, zs_50_3, zs_50_5, zs_50_8, zs_50_8u, zs_50_9, zs_50_12, zs_50_13, zs_50_13u, zs_50_14, zs_50_17, zs_50_18, zs_50_19, zs_50_20, zs_50_20u, zs_50_21, zs_50_24, zs_50_25, zs_50_25u, zs_50_26, zs_50_29, zs_50_30, zs_50_31, zs_50_35, zs_50_38, zs_50_38u, zs_50_39, zs_50_39u, zs_50_40, zs_50_43, zs_50_46, zc_isO, zr_fld_mk, zc_isA, zc_len, zr_elt_mk, zr_kill_i, zr_kill_l, zr_kill_r, zr_kill_u, zr_kill_f, zr_kill_n, zc_cat, zr_cat_i, zr_cat_l, zr_cat_r, zr_cat_f, zr_cat_d, zr_cat_u, beq_self_eq_true, Nat.zero_le, Nat.le_refl, Nat.reduceSub, Nat.reduceAdd, Nat.reduceLeDiff, csl_f, csr_f, cn_f, lg_cmp_eq, lg_cmp_le, lg_cmp_lt, lg_cmp_ge, lg_cmp_gt, nI_1, zr_up_self, zp_O, zr_fup_self, zr_fup_ne, ne_eq, Nat.reduceEqDiff, not_false_eq_true, pk_mul, hP3, q3, zp_I, zp_0, zp_1, zp_2, b1, b2, b3, b4, b5]
    rw [e2]
    have := ih (i + 1) (by omega) (zr_putA h2 pw i (.long (fw2 i))) (fx_trans hf3 (putA_fx mem_3)) (putA_ot hpw hP3) (aL_ot aB3 hbw) (aL_put aW3 (fun k hk => cpy_s _ _ _ _))
    simp only [zs_50_0, zs_50_1, zs_50_3, zs_50_5, zs_50_8, zs_50_8u, zs_50_9, zs_50_12, zs_50_13, zs_50_13u, zs_50_14, zs_50_17, zs_50_18, zs_50_19, zs_50_20, zs_50_20u, zs_50_21, zs_50_24, zs_50_25, zs_50_25u, zs_50_26, zs_50_29, zs_50_30, zs_50_31, zs_50_32, zs_50_35, zs_50_38, zs_50_38u, zs_50_39, zs_50_39u, zs_50_40, zs_50_43, zs_50_46, zc_isO, zr_fld_mk, zc_isA, zc_len, zr_elt_mk, zr_kill_i, zr_kill_l, zr_kill_r, zr_kill_u, zr_kill_f, zr_kill_n, zc_cat, zr_cat_i, zr_cat_l, zr_cat_r, zr_cat_f, zr_cat_d, zr_cat_u, beq_self_eq_true, Nat.zero_le, Nat.le_refl, Nat.reduceSub, Nat.reduceAdd, Nat.reduceLeDiff, csl_f, csr_f, cn_f, lg_cmp_eq, lg_cmp_le, lg_cmp_lt, lg_cmp_ge, lg_cmp_gt, nI_1, zr_up_self, zp_O, zr_fup_self, zr_fup_ne, ne_eq, Nat.reduceEqDiff, not_false_eq_true, pk_mul]
    exact this
theorem k_pbec {d : Nat} {h : zr_H} (v : vP h p pb pw fb fw n) (v2 : vP h p2 pb2 pw2 fb2 fw2 n2) (s1 : p2 ≠ p) (s5 : pb2 ≠ pb) (s6 : pb2 ≠ pw) (s8 : pw2 ≠ pb) (s9 : pw2 ≠ pw)
    (hQ : ∀ h', fx [p, pb, pw] h h' → vP h' p pb pw fb2 fw2 n2 → Q (.inl none) h') : zr_E (d + 1) 50 [.ref p, .ref p2] h Q := by
  have ne := vP_ne v
  obtain ⟨hP, ⟨FB, gB, gB2⟩, ⟨FW, gW, gW2⟩, hn, hbw⟩ := v
  obtain ⟨hP2, ⟨FB2, kB, kB2⟩, ⟨FW2, kW, kW2⟩, hn2, hbw2⟩ := id v2
  rw [ze_50]
  simp only [zs_50_0, zs_50_1, zs_50_3, zs_50_5, zs_50_8, zs_50_8u, zs_50_9, zs_50_12, zs_50_13, zs_50_13u, zs_50_14, zs_50_17, zs_50_18, zs_50_19, zs_50_20, zs_50_20u, zs_50_21, zs_50_24, zs_50_25, zs_50_25u, zs_50_26, zs_50_29, zs_50_30, zs_50_31, zs_50_32, zs_50_35, zs_50_38, zs_50_38u, zs_50_39, zs_50_39u, zs_50_40, zs_50_43, zs_50_46, zc_isO, zr_fld_mk, zc_isA, zc_len, zr_elt_mk, zr_kill_i, zr_kill_l, zr_kill_r, zr_kill_u, zr_kill_f, zr_kill_n, zc_cat, zr_cat_i, zr_cat_l, zr_cat_r, zr_cat_f, zr_cat_d, zr_cat_u, beq_self_eq_true, Nat.zero_le, Nat.le_refl, Nat.reduceSub, Nat.reduceAdd, Nat.reduceLeDiff, csl_f, csr_f, cn_f, lg_cmp_eq, lg_cmp_le, lg_cmp_lt, lg_cmp_ge, lg_cmp_gt, nI_1, zr_up_self, zp_O, zr_fup_self, zr_fup_ne, ne_eq, Nat.reduceEqDiff, not_false_eq_true, pk_mul]
  refine k_pbec_ v2 ne.1 ne.2 hbw s1 (fun e => ?_) (fun e => ?_) (fun e => ?_) s5 s6 (fun e => ?_) s8 s9 hQ 30 0 rfl h (fx_refl _ _) hP ⟨FB, gB, gB2⟩ ⟨FW, gW, gW2⟩
  · rw [e, gB] at hP2; cases hP2
  · rw [e, gW] at hP2; cases hP2
  · rw [e, hP] at kB; cases kB
  · rw [e, hP] at kW; cases kW
end POS
