/-! THE READER: spaces, words, numbers -/
def jA (J : Nat → Int32) (a : Nat) : Nat → Int32 := fI J 2 (nI a)
def jE (J : Nat → Int32) (c : Int32) (a : Nat) : Nat → Int32 := fI (fI J 3 c) 7 (nI a)
theorem jA_jA (J : Nat → Int32) (a c : Nat) : jA (jA J a) c = jA J c := by
  funext k
  unfold jA fI
  by_cases e : k = 2
  · rw [if_pos e, if_pos e]
  · rw [if_neg e, if_neg e, if_neg e]
theorem jA_id {J : Nat → Int32} {a : Nat} (h : J 2 = nI a) : jA J a = J := by
  funext k
  unfold jA fI
  by_cases e : k = 2
  · rw [if_pos e, e, h]
  · rw [if_neg e]
theorem up_id {h : zr_H} {q : Nat} {c : zr_C} (e : h q = some c) : zr_up h q c = h := by
  funext j
  by_cases z : j = q
  · rw [z, zr_up_self, e]
  · rw [zr_up_ne _ _ z]
/-- the reader at work: at a of n bytes -/
def rdS (h : zr_H) (rd tx gr : Nat) (J : Nat → Int32) (b w : Int64) (f : Nat → Int32) (n a : Nat) : Prop :=
  h rd = some (zrd tx gr J b w) ∧ aB h tx 300 f ∧ n ≤ 300 ∧ J 1 = nI n ∧ J 2 = nI a ∧ a ≤ n
section READER
variable {d : Nat} {h : zr_H} {Q : zr_K} {rd tx gr n a : Nat} {J : Nat → Int32} {b w : Int64} {f : Nat → Int32} {W : List Int32} {q : Nat}
theorem rd_tx (v : rdS h rd tx gr J b w f n a) : tx ≠ rd := fun e => by
  obtain ⟨h1, ⟨F, h2, -⟩, -⟩ := v
  rw [e, h1] at h2
  exact absurd (Option.some.inj h2) (fun z => by simp [zrd] at z)
theorem rdS_up (v : rdS h rd tx gr J b w f n a) {J2 : Nat → Int32} {b2 w2 : Int64} {a2 : Nat} (e1 : J2 1 = nI n) (e2 : J2 2 = nI a2) (h2 : a2 ≤ n) : rdS (zr_up h rd (zrd tx gr J2 b2 w2)) rd tx gr J2 b2 w2 f n a2 :=
  ⟨zr_up_self _ _ _, aB_to v.2.1 (zr_up_ne _ _ (rd_tx v)), v.2.2.1, e1, e2, h2⟩
theorem rdS_A (v : rdS h rd tx gr J b w f n a) {a2 : Nat} (h2 : a2 ≤ n) : rdS (zr_up h rd (zrd tx gr (jA J a2) b w)) rd tx gr (jA J a2) b w f n a2 := rdS_up v v.2.2.2.1 rfl h2
theorem wS_up (v : rdS h rd tx gr J b w f n a) (s : wS h q W) {c : zr_C} : wS (zr_up h rd c) q W := by
  obtain ⟨m, V, F, h1, h2, h3, h4, h5⟩ := s
  have n1 : q ≠ rd := fun e => by
    rw [e, v.1] at h1
    exact absurd (Option.some.inj h1) (fun z => by simp [zrd] at z)
  have n2 : m ≠ rd := fun e => by
    rw [e, v.1] at h4
    exact absurd (Option.some.inj h4) (fun z => by simp [zrd] at z)
  exact ⟨m, V, F, by rw [zr_up_ne _ _ n1]; exact h1, h2, h3, by rw [zr_up_ne _ _ n2]; exact h4, h5⟩
theorem by_lt {k : Nat} (h : k < n) : by_ f n k = f k &&& 255 := if_pos h
theorem by_ge {k : Nat} (h : n ≤ k) : by_ f n k = -1 := if_neg (by omega)
theorem k_skip (v : rdS h rd tx gr J b w f n a) (hQ : Q (.inl none) (zr_up h rd (zrd tx gr (jA J (sp iSp f n a)) b w))) : zr_E (d + 2) 67 [.ref rd] h Q := by
  have key : ∀ t a h J, n - a = t → rdS h rd tx gr J b w f n a → Q (.inl none) (zr_up h rd (zrd tx gr (jA J (sp iSp f n a)) b w)) → zr_Z (d + 1) 67 Q 0 [some (.ref rd)] [] h 0 0 := by
    intro t
    induction t with
    | zero =>
      intro a h J ht v hQ
      obtain ⟨hR, hT, hn, h1, h2, ha⟩ := id v
      rw [sp_n (fun z => by omega), jA_id h2, up_id hR] at hQ
      simp only [zs_67_0, zs_67_0u, zs_67_1, zs_67_4, zs_67_4u, zs_67_5, zs_67_8, zs_67_12, zs_67_12u, zs_67_13, zs_67_16, zt_67_16, zs_67_19, zs_67_21, zs_67_24, zs_67_24u, zs_67_25, zs_67_25i, zs_67_26, zs_67_29, zs_67_30, zs_67_31, zs_67_34, zs_67_37, zc_isO, zr_fld_mk, zc_isA, zc_len, zr_elt_mk, zr_kill_i, zr_kill_l, zr_kill_r, zr_kill_u, zr_kill_f, zr_kill_n, zc_cat, zr_cat_i, zr_cat_l, zr_cat_r, zr_cat_f, zr_cat_d, zr_cat_u, beq_self_eq_true, Nat.zero_le, Nat.le_refl, Nat.reduceSub, Nat.reduceAdd, Nat.reduceLeDiff, csl_f, csr_f, cn_f, lg_cmp_eq, lg_cmp_le, lg_cmp_lt, lg_cmp_ge, lg_cmp_gt, nI_1, zr_up_self, zp_O, zr_fup_self, zr_fup_ne, ne_eq, Nat.reduceEqDiff, not_false_eq_true, pk_mul, hR, zt_I, zt_f1, zt_f2, h1, h2]
      refine ⟨fun _ => hQ, fun z => (z (nI_le (by omega) (by omega))).elim⟩
    | succ t ih =>
      intro a h J ht v hQ
      obtain ⟨hR, hT, hn, h1, h2, ha⟩ := id v
      simp only [zs_67_0, zs_67_0u, zs_67_1, zs_67_4, zs_67_4u, zs_67_5, zs_67_8, zs_67_12, zs_67_12u, zs_67_13, zs_67_16, zt_67_16, zs_67_19, zs_67_21, zs_67_24, zs_67_24u, zs_67_25, zs_67_25i, zs_67_26, zs_67_29, zs_67_30, zs_67_31, zs_67_34, zs_67_37, zc_isO, zr_fld_mk, zc_isA, zc_len, zr_elt_mk, zr_kill_i, zr_kill_l, zr_kill_r, zr_kill_u, zr_kill_f, zr_kill_n, zc_cat, zr_cat_i, zr_cat_l, zr_cat_r, zr_cat_f, zr_cat_d, zr_cat_u, beq_self_eq_true, Nat.zero_le, Nat.le_refl, Nat.reduceSub, Nat.reduceAdd, Nat.reduceLeDiff, csl_f, csr_f, cn_f, lg_cmp_eq, lg_cmp_le, lg_cmp_lt, lg_cmp_ge, lg_cmp_gt, nI_1, zr_up_self, zp_O, zr_fup_self, zr_fup_ne, ne_eq, Nat.reduceEqDiff, not_false_eq_true, pk_mul, hR, zt_I, zt_f1, zt_f2, h1, h2]
      refine ⟨fun z => absurd z (nI_ge (by omega) (by omega)), fun _ => ?_⟩
      simp only [zs_67_1, zs_67_4, zs_67_4u, zs_67_5, zs_67_8, zs_67_11, zs_67_11u, zs_67_12, zs_67_12u, zs_67_13, zs_67_16, zt_67_16, zs_67_19, zs_67_21, zs_67_25, zs_67_25i, zs_67_26, zs_67_29, zs_67_30, zs_67_31, zs_67_34, zs_67_37, zc_isO, zr_fld_mk, zc_isA, zc_len, zr_elt_mk, zr_kill_i, zr_kill_l, zr_kill_r, zr_kill_u, zr_kill_f, zr_kill_n, zc_cat, zr_cat_i, zr_cat_l, zr_cat_r, zr_cat_f, zr_cat_d, zr_cat_u, beq_self_eq_true, Nat.zero_le, Nat.le_refl, Nat.reduceSub, Nat.reduceAdd, Nat.reduceLeDiff, csl_f, csr_f, cn_f, lg_cmp_eq, lg_cmp_le, lg_cmp_lt, lg_cmp_ge, lg_cmp_gt, nI_1, zr_up_self, zp_O, zr_fup_self, zr_fup_ne, ne_eq, Nat.reduceEqDiff, not_false_eq_true, pk_mul, hR, zt_I, zt_f1, zt_f2, h1, h2]
      refine k_by (d := d) hR hT hn h1 (by omega) ?_
      rw [by_lt (by omega)]
      simp only [zs_67_1, zs_67_4, zs_67_4u, zs_67_5, zs_67_8, zs_67_11, zs_67_11u, zs_67_12, zs_67_12u, zs_67_13, zs_67_16, zt_67_16, zs_67_19, zs_67_21, zs_67_25, zs_67_25i, zs_67_26, zs_67_29, zs_67_30, zs_67_31, zs_67_34, zs_67_37, zc_isO, zr_fld_mk, zc_isA, zc_len, zr_elt_mk, zr_kill_i, zr_kill_l, zr_kill_r, zr_kill_u, zr_kill_f, zr_kill_n, zc_cat, zr_cat_i, zr_cat_l, zr_cat_r, zr_cat_f, zr_cat_d, zr_cat_u, beq_self_eq_true, Nat.zero_le, Nat.le_refl, Nat.reduceSub, Nat.reduceAdd, Nat.reduceLeDiff, csl_f, csr_f, cn_f, lg_cmp_eq, lg_cmp_le, lg_cmp_lt, lg_cmp_ge, lg_cmp_gt, nI_1, zr_up_self, zp_O, zr_fup_self, zr_fup_ne, ne_eq, Nat.reduceEqDiff, not_false_eq_true, pk_mul]
      refine ⟨fun z => ?_, fun z => ?_⟩
      · rw [sp_n (fun y => z (of_decide_eq_true y.2)), jA_id h2, up_id hR] at hQ
        exact hQ
      · rw [sp_y (by omega) (by unfold iSp; rw [z]; rfl)] at hQ
        simp only [zs_67_1, zs_67_4, zs_67_4u, zs_67_5, zs_67_8, zs_67_11, zs_67_11u, zs_67_12, zs_67_12u, zs_67_13, zs_67_16, zt_67_16, zs_67_19, zs_67_21, zs_67_24, zs_67_24u, zs_67_25, zs_67_25i, zs_67_26, zs_67_29, zs_67_30, zs_67_31, zs_67_37, zc_isO, zr_fld_mk, zc_isA, zc_len, zr_elt_mk, zr_kill_i, zr_kill_l, zr_kill_r, zr_kill_u, zr_kill_f, zr_kill_n, zc_cat, zr_cat_i, zr_cat_l, zr_cat_r, zr_cat_f, zr_cat_d, zr_cat_u, beq_self_eq_true, Nat.zero_le, Nat.le_refl, Nat.reduceSub, Nat.reduceAdd, Nat.reduceLeDiff, csl_f, csr_f, cn_f, lg_cmp_eq, lg_cmp_le, lg_cmp_lt, lg_cmp_ge, lg_cmp_gt, nI_1, zr_up_self, zp_O, zr_fup_self, zr_fup_ne, ne_eq, Nat.reduceEqDiff, not_false_eq_true, pk_mul, hR, zt_I, zt_f1, zt_f2, h1, h2]
        rw [putR hR (by omega) (by omega)]
        have v2 := rdS_A v (a2 := a + 1) (by omega)
        have := ih (a + 1) _ _ (by omega) v2 (by rw [zr_up_up, jA_jA]; exact hQ)
        simp only [zs_67_1, zs_67_4, zs_67_4u, zs_67_5, zs_67_8, zs_67_11, zs_67_11u, zs_67_12, zs_67_12u, zs_67_13, zs_67_16, zt_67_16, zs_67_19, zs_67_21, zs_67_24, zs_67_24u, zs_67_25, zs_67_25i, zs_67_26, zs_67_29, zs_67_30, zs_67_31, zs_67_34, zs_67_37, zc_isO, zr_fld_mk, zc_isA, zc_len, zr_elt_mk, zr_kill_i, zr_kill_l, zr_kill_r, zr_kill_u, zr_kill_f, zr_kill_n, zc_cat, zr_cat_i, zr_cat_l, zr_cat_r, zr_cat_f, zr_cat_d, zr_cat_u, beq_self_eq_true, Nat.zero_le, Nat.le_refl, Nat.reduceSub, Nat.reduceAdd, Nat.reduceLeDiff, csl_f, csr_f, cn_f, lg_cmp_eq, lg_cmp_le, lg_cmp_lt, lg_cmp_ge, lg_cmp_gt, nI_1, zr_up_self, zp_O, zr_fup_self, zr_fup_ne, ne_eq, Nat.reduceEqDiff, not_false_eq_true, pk_mul]
        exact this
  rw [ze_67]
  exact key _ a h J rfl v hQ
theorem k_wend (v : rdS h rd tx gr J b w f n a) (hQ : Q (.inl (some (.int (nI (sp iLe f n a))))) h) : zr_E (d + 2) 68 [.ref rd] h Q := by
  obtain ⟨hR, hT, hn, h1, h2, ha⟩ := id v
  have key : ∀ t e, n - e = t → e ≤ n → Q (.inl (some (.int (nI (sp iLe f n e))))) h → zr_Z (d + 1) 68 Q 5 [some (.ref rd), some (.int (nI e))] [] h 0 0 := by
    intro t
    induction t with
    | zero =>
      intro e ht he hQ
      rw [sp_n (fun z => by omega)] at hQ
      simp only [zs_68_0, zs_68_0u, zs_68_1, zs_68_4, zs_68_5, zs_68_6, zs_68_6u, zs_68_7, zs_68_10, zs_68_14, zs_68_15, zt_68_15, zs_68_18, zt_68_18, zs_68_21, zs_68_24, zs_68_27, zs_68_30, zs_68_31, zc_isO, zr_fld_mk, zc_isA, zc_len, zr_elt_mk, zr_kill_i, zr_kill_l, zr_kill_r, zr_kill_u, zr_kill_f, zr_kill_n, zc_cat, zr_cat_i, zr_cat_l, zr_cat_r, zr_cat_f, zr_cat_d, zr_cat_u, beq_self_eq_true, Nat.zero_le, Nat.le_refl, Nat.reduceSub, Nat.reduceAdd, Nat.reduceLeDiff, csl_f, csr_f, cn_f, lg_cmp_eq, lg_cmp_le, lg_cmp_lt, lg_cmp_ge, lg_cmp_gt, nI_1, zr_up_self, zp_O, zr_fup_self, zr_fup_ne, ne_eq, Nat.reduceEqDiff, not_false_eq_true, pk_mul, hR, zt_I, zt_f1, zt_f2, h1, h2]
      refine ⟨fun _ => hQ, fun z => (z (nI_le (by omega) (by omega))).elim⟩
    | succ t ih =>
      intro e ht he hQ
      simp only [zs_68_0, zs_68_0u, zs_68_1, zs_68_4, zs_68_5, zs_68_6, zs_68_6u, zs_68_7, zs_68_10, zs_68_14, zs_68_15, zt_68_15, zs_68_18, zt_68_18, zs_68_21, zs_68_24, zs_68_27, zs_68_30, zs_68_31, zc_isO, zr_fld_mk, zc_isA, zc_len, zr_elt_mk, zr_kill_i, zr_kill_l, zr_kill_r, zr_kill_u, zr_kill_f, zr_kill_n, zc_cat, zr_cat_i, zr_cat_l, zr_cat_r, zr_cat_f, zr_cat_d, zr_cat_u, beq_self_eq_true, Nat.zero_le, Nat.le_refl, Nat.reduceSub, Nat.reduceAdd, Nat.reduceLeDiff, csl_f, csr_f, cn_f, lg_cmp_eq, lg_cmp_le, lg_cmp_lt, lg_cmp_ge, lg_cmp_gt, nI_1, zr_up_self, zp_O, zr_fup_self, zr_fup_ne, ne_eq, Nat.reduceEqDiff, not_false_eq_true, pk_mul, hR, zt_I, zt_f1, zt_f2, h1, h2]
      refine ⟨fun z => absurd z (nI_ge (by omega) (by omega)), fun _ => ?_⟩
      simp only [zs_68_0, zs_68_0u, zs_68_1, zs_68_4, zs_68_6, zs_68_6u, zs_68_7, zs_68_10, zs_68_13, zs_68_13u, zs_68_14, zs_68_15, zt_68_15, zs_68_18, zt_68_18, zs_68_21, zs_68_27, zs_68_30, zs_68_31, zc_isO, zr_fld_mk, zc_isA, zc_len, zr_elt_mk, zr_kill_i, zr_kill_l, zr_kill_r, zr_kill_u, zr_kill_f, zr_kill_n, zc_cat, zr_cat_i, zr_cat_l, zr_cat_r, zr_cat_f, zr_cat_d, zr_cat_u, beq_self_eq_true, Nat.zero_le, Nat.le_refl, Nat.reduceSub, Nat.reduceAdd, Nat.reduceLeDiff, csl_f, csr_f, cn_f, lg_cmp_eq, lg_cmp_le, lg_cmp_lt, lg_cmp_ge, lg_cmp_gt, nI_1, zr_up_self, zp_O, zr_fup_self, zr_fup_ne, ne_eq, Nat.reduceEqDiff, not_false_eq_true, pk_mul, hR, zt_I, zt_f1, zt_f2, h1, h2]
      refine k_by (d := d) hR hT hn h1 (by omega) ?_
      rw [by_lt (by omega)]
      simp only [zs_68_0, zs_68_0u, zs_68_1, zs_68_4, zs_68_6, zs_68_6u, zs_68_7, zs_68_10, zs_68_13, zs_68_13u, zs_68_14, zs_68_15, zt_68_15, zs_68_18, zt_68_18, zs_68_21, zs_68_27, zs_68_30, zs_68_31, zc_isO, zr_fld_mk, zc_isA, zc_len, zr_elt_mk, zr_kill_i, zr_kill_l, zr_kill_r, zr_kill_u, zr_kill_f, zr_kill_n, zc_cat, zr_cat_i, zr_cat_l, zr_cat_r, zr_cat_f, zr_cat_d, zr_cat_u, beq_self_eq_true, Nat.zero_le, Nat.le_refl, Nat.reduceSub, Nat.reduceAdd, Nat.reduceLeDiff, csl_f, csr_f, cn_f, lg_cmp_eq, lg_cmp_le, lg_cmp_lt, lg_cmp_ge, lg_cmp_gt, nI_1, zr_up_self, zp_O, zr_fup_self, zr_fup_ne, ne_eq, Nat.reduceEqDiff, not_false_eq_true, pk_mul]
      refine k_let ?_
      simp only [zs_68_0, zs_68_0u, zs_68_1, zs_68_4, zs_68_6, zs_68_6u, zs_68_7, zs_68_10, zs_68_13, zs_68_13u, zs_68_14, zs_68_15, zt_68_15, zs_68_18, zt_68_18, zs_68_21, zs_68_27, zs_68_30, zs_68_31, zc_isO, zr_fld_mk, zc_isA, zc_len, zr_elt_mk, zr_kill_i, zr_kill_l, zr_kill_r, zr_kill_u, zr_kill_f, zr_kill_n, zc_cat, zr_cat_i, zr_cat_l, zr_cat_r, zr_cat_f, zr_cat_d, zr_cat_u, beq_self_eq_true, Nat.zero_le, Nat.le_refl, Nat.reduceSub, Nat.reduceAdd, Nat.reduceLeDiff, csl_f, csr_f, cn_f, lg_cmp_eq, lg_cmp_le, lg_cmp_lt, lg_cmp_ge, lg_cmp_gt, nI_1, zr_up_self, zp_O, zr_fup_self, zr_fup_ne, ne_eq, Nat.reduceEqDiff, not_false_eq_true, pk_mul]
      by_cases z : iLe (f e &&& 255) = true
      · rw [sp_y (by omega) z] at hQ
        rw [if_pos z]
        refine ⟨fun y => absurd y (by decide), fun _ => ?_⟩
        have := ih (e + 1) (by omega) (by omega) hQ
        simp only [zs_68_0, zs_68_0u, zs_68_1, zs_68_4, zs_68_6, zs_68_6u, zs_68_7, zs_68_10, zs_68_13, zs_68_13u, zs_68_14, zs_68_15, zt_68_15, zs_68_18, zt_68_18, zs_68_21, zs_68_24, zs_68_27, zs_68_30, zs_68_31, zc_isO, zr_fld_mk, zc_isA, zc_len, zr_elt_mk, zr_kill_i, zr_kill_l, zr_kill_r, zr_kill_u, zr_kill_f, zr_kill_n, zc_cat, zr_cat_i, zr_cat_l, zr_cat_r, zr_cat_f, zr_cat_d, zr_cat_u, beq_self_eq_true, Nat.zero_le, Nat.le_refl, Nat.reduceSub, Nat.reduceAdd, Nat.reduceLeDiff, csl_f, csr_f, cn_f, lg_cmp_eq, lg_cmp_le, lg_cmp_lt, lg_cmp_ge, lg_cmp_gt, nI_1, zr_up_self, zp_O, zr_fup_self, zr_fup_ne, ne_eq, Nat.reduceEqDiff, not_false_eq_true, pk_mul]
        exact this
      · rw [sp_n (fun y => z y.2)] at hQ
        rw [if_neg z]
        exact ⟨fun _ => hQ, fun y => absurd rfl y⟩
  rw [ze_68]
  simp only [zs_68_0, zs_68_0u, zs_68_1, zs_68_4, zs_68_6, zs_68_6u, zs_68_7, zs_68_10, zs_68_13, zs_68_13u, zs_68_14, zs_68_15, zt_68_15, zs_68_18, zt_68_18, zs_68_21, zs_68_24, zs_68_27, zs_68_30, zs_68_31, zc_isO, zr_fld_mk, zc_isA, zc_len, zr_elt_mk, zr_kill_i, zr_kill_l, zr_kill_r, zr_kill_u, zr_kill_f, zr_kill_n, zc_cat, zr_cat_i, zr_cat_l, zr_cat_r, zr_cat_f, zr_cat_d, zr_cat_u, beq_self_eq_true, Nat.zero_le, Nat.le_refl, Nat.reduceSub, Nat.reduceAdd, Nat.reduceLeDiff, csl_f, csr_f, cn_f, lg_cmp_eq, lg_cmp_le, lg_cmp_lt, lg_cmp_ge, lg_cmp_gt, nI_1, zr_up_self, zp_O, zr_fup_self, zr_fup_ne, ne_eq, Nat.reduceEqDiff, not_false_eq_true, pk_mul, hR, zt_I, zt_f2, h2]
  exact key _ a rfl ha hQ
/-- the word at a -/
def wm (f : Nat → Int32) (n a : Nat) (W : List Int32) : Prop := sp iLe f n a = a + W.length ∧ ∀ j, j < W.length → by_ f n (a + j) = W.getD j 0
def wok (W : List Int32) : Prop := W.length < 100 ∧ ∀ j, j < W.length → (W.getD j 0 &&& 255 = W.getD j 0 ∧ ((W.getD j 0).toUInt32 % 65536).toInt32 = W.getD j 0 ∧ (W.getD j 0).toUInt32.toUInt16.toUInt32.toInt32 = W.getD j 0)
theorem k_word (v : rdS h rd tx gr J b w f n a) (s : wS h q W) (o : wok W) (q1 : wm f n (sp iSp f n a) W → Q (.inl (some (.int 1))) (zr_up h rd (zrd tx gr (jA J (sp iSp f n a + W.length)) b w))) (q0 : ¬ wm f n (sp iSp f n a) W → Q (.inl (some (.int 0))) (zr_up h rd (zrd tx gr (jA J (sp iSp f n a)) b w))) : zr_E (d + 5) 65 [.ref rd, .ref q] h Q := by
  have ha1 := sp_le (p := iSp) (f := f) v.2.2.2.2.2
  rw [ze_65]
  simp only [zs_65_0, zs_65_0u, zs_65_1, zt_65_1, zs_65_4, zs_65_4u, zs_65_5, zt_65_5, zs_65_8, zs_65_8u, zs_65_9, zs_65_12, zs_65_13, zs_65_13u, zs_65_14, zt_65_14, zs_65_17, zs_65_20, zs_65_21_0, zs_65_21_1, zs_65_21, zs_65_22, zs_65_23, zs_65_24, zs_65_25, zs_65_25u, zs_65_26, zt_65_26, zs_65_29, zs_65_32, zs_65_32u, zs_65_33, zs_65_33u, zs_65_34, zs_65_37, zs_65_38, zs_65_39, zt_65_39, zs_65_42, zs_65_42u, zs_65_43, zs_65_44, zt_65_44, zs_65_47, zs_65_50, zs_65_51_0, zs_65_51_1, zs_65_51, zs_65_52, zs_65_55, zs_65_58, zs_65_58u, zs_65_59, zs_65_59i, zs_65_60, zs_65_63, zs_65_63u, zs_65_64, zt_65_64, zs_65_67, zs_65_68, zs_65_71, zs_65_72_0, zs_65_72_1, zs_65_72, zc_isO, zr_fld_mk, zc_isA, zc_len, zr_elt_mk, zr_kill_i, zr_kill_l, zr_kill_r, zr_kill_u, zr_kill_f, zr_kill_n, zc_cat, zr_cat_i, zr_cat_l, zr_cat_r, zr_cat_f, zr_cat_d, zr_cat_u, beq_self_eq_true, Nat.zero_le, Nat.le_refl, Nat.reduceSub, Nat.reduceAdd, Nat.reduceLeDiff, csl_f, csr_f, cn_f, lg_cmp_eq, lg_cmp_le, lg_cmp_lt, lg_cmp_ge, lg_cmp_gt, nI_1, zr_up_self, zp_O, zr_fup_self, zr_fup_ne, ne_eq, Nat.reduceEqDiff, not_false_eq_true, pk_mul, v.1, zt_I]
  refine k_skip (d := d + 2) v ?_
  have v1 := rdS_A v ha1
  have s1 := wS_up v s (c := zrd tx gr (jA J (sp iSp f n a)) b w)
  generalize sp iSp f n a = m at *
  generalize hh : zr_up h rd (zrd tx gr (jA J m) b w) = h1 at *
  obtain ⟨hR, hT, hn, e1, e2, -⟩ := id v1
  have hw : zr_isO (h1 q) 8 = true := by obtain ⟨_, _, _, e, -⟩ := s1; rw [e]; rfl
  have o1 := o.1
  simp only [zs_65_0, zs_65_0u, zs_65_1, zt_65_1, zs_65_4, zs_65_4u, zs_65_5, zt_65_5, zs_65_8, zs_65_8u, zs_65_9, zs_65_12, zs_65_13, zs_65_13u, zs_65_14, zt_65_14, zs_65_17, zs_65_20, zs_65_21_0, zs_65_21_1, zs_65_21, zs_65_22, zs_65_23, zs_65_24, zs_65_25, zs_65_25u, zs_65_26, zt_65_26, zs_65_29, zs_65_32, zs_65_32u, zs_65_33, zs_65_33u, zs_65_34, zs_65_37, zs_65_38, zs_65_39, zt_65_39, zs_65_42, zs_65_42u, zs_65_43, zs_65_44, zt_65_44, zs_65_47, zs_65_50, zs_65_51_0, zs_65_51_1, zs_65_51, zs_65_52, zs_65_55, zs_65_58, zs_65_58u, zs_65_59, zs_65_59i, zs_65_60, zs_65_63, zs_65_63u, zs_65_64, zt_65_64, zs_65_67, zs_65_68, zs_65_71, zs_65_72_0, zs_65_72_1, zs_65_72, zc_isO, zr_fld_mk, zc_isA, zc_len, zr_elt_mk, zr_kill_i, zr_kill_l, zr_kill_r, zr_kill_u, zr_kill_f, zr_kill_n, zc_cat, zr_cat_i, zr_cat_l, zr_cat_r, zr_cat_f, zr_cat_d, zr_cat_u, beq_self_eq_true, Nat.zero_le, Nat.le_refl, Nat.reduceSub, Nat.reduceAdd, Nat.reduceLeDiff, csl_f, csr_f, cn_f, lg_cmp_eq, lg_cmp_le, lg_cmp_lt, lg_cmp_ge, lg_cmp_gt, nI_1, zr_up_self, zp_O, zr_fup_self, zr_fup_ne, ne_eq, Nat.reduceEqDiff, not_false_eq_true, pk_mul, hR, zt_I]
  refine k_wend (d := d + 2) v1 ?_
  have he : sp iLe f n m ≤ n := sp_le ha1
  have hm := sp_ge (p := iLe) (f := f) (n := n) m
  simp only [zs_65_0, zs_65_0u, zs_65_1, zt_65_1, zs_65_4, zs_65_4u, zs_65_5, zt_65_5, zs_65_8, zs_65_8u, zs_65_9, zs_65_12, zs_65_13, zs_65_13u, zs_65_14, zt_65_14, zs_65_17, zs_65_20, zs_65_21_0, zs_65_21_1, zs_65_21, zs_65_22, zs_65_23, zs_65_24, zs_65_25, zs_65_25u, zs_65_26, zt_65_26, zs_65_29, zs_65_32, zs_65_32u, zs_65_33, zs_65_33u, zs_65_34, zs_65_37, zs_65_38, zs_65_39, zt_65_39, zs_65_42, zs_65_42u, zs_65_43, zs_65_44, zt_65_44, zs_65_47, zs_65_50, zs_65_51_0, zs_65_51_1, zs_65_51, zs_65_52, zs_65_55, zs_65_58, zs_65_58u, zs_65_59, zs_65_59i, zs_65_60, zs_65_63, zs_65_63u, zs_65_64, zt_65_64, zs_65_67, zs_65_68, zs_65_71, zs_65_72_0, zs_65_72_1, zs_65_72, zc_isO, zr_fld_mk, zc_isA, zc_len, zr_elt_mk, zr_kill_i, zr_kill_l, zr_kill_r, zr_kill_u, zr_kill_f, zr_kill_n, zc_cat, zr_cat_i, zr_cat_l, zr_cat_r, zr_cat_f, zr_cat_d, zr_cat_u, beq_self_eq_true, Nat.zero_le, Nat.le_refl, Nat.reduceSub, Nat.reduceAdd, Nat.reduceLeDiff, csl_f, csr_f, cn_f, lg_cmp_eq, lg_cmp_le, lg_cmp_lt, lg_cmp_ge, lg_cmp_gt, nI_1, zr_up_self, zp_O, zr_fup_self, zr_fup_ne, ne_eq, Nat.reduceEqDiff, not_false_eq_true, pk_mul, hR, zt_I, zt_f2, e2, hw]
  refine k_slen (d := d + 2) s1 ?_
  simp only [zs_65_0, zs_65_0u, zs_65_1, zt_65_1, zs_65_4, zs_65_4u, zs_65_5, zt_65_5, zs_65_8, zs_65_8u, zs_65_9, zs_65_12, zs_65_13, zs_65_13u, zs_65_14, zt_65_14, zs_65_17, zs_65_20, zs_65_21_0, zs_65_21_1, zs_65_21, zs_65_23, zs_65_24, zs_65_25, zs_65_25u, zs_65_26, zt_65_26, zs_65_29, zs_65_32, zs_65_32u, zs_65_33, zs_65_33u, zs_65_34, zs_65_37, zs_65_38, zs_65_39, zt_65_39, zs_65_42, zs_65_42u, zs_65_43, zs_65_44, zt_65_44, zs_65_47, zs_65_50, zs_65_51_0, zs_65_51_1, zs_65_51, zs_65_52, zs_65_55, zs_65_58, zs_65_58u, zs_65_59, zs_65_59i, zs_65_60, zs_65_63, zs_65_63u, zs_65_64, zt_65_64, zs_65_67, zs_65_68, zs_65_71, zs_65_72_0, zs_65_72_1, zs_65_72, zc_isO, zr_fld_mk, zc_isA, zc_len, zr_elt_mk, zr_kill_i, zr_kill_l, zr_kill_r, zr_kill_u, zr_kill_f, zr_kill_n, zc_cat, zr_cat_i, zr_cat_l, zr_cat_r, zr_cat_f, zr_cat_d, zr_cat_u, beq_self_eq_true, Nat.zero_le, Nat.le_refl, Nat.reduceSub, Nat.reduceAdd, Nat.reduceLeDiff, csl_f, csr_f, cn_f, lg_cmp_eq, lg_cmp_le, lg_cmp_lt, lg_cmp_ge, lg_cmp_gt, nI_1, zr_up_self, zp_O, zr_fup_self, zr_fup_ne, ne_eq, Nat.reduceEqDiff, not_false_eq_true, pk_mul]
  have ee : nI (sp iLe f n m) - nI m = nI (sp iLe f n m - m) := pk_sub hm
  rw [ee, nI_eq (by omega) (by omega)]
  refine ⟨fun z => ?_, fun z => q0 (fun y => z (by have := y.1; omega))⟩
  have zl : sp iLe f n m = m + W.length := by omega
  simp only [zs_65_0, zs_65_0u, zs_65_1, zt_65_1, zs_65_4, zs_65_4u, zs_65_5, zt_65_5, zs_65_8, zs_65_8u, zs_65_9, zs_65_12, zs_65_13, zs_65_13u, zs_65_14, zt_65_14, zs_65_17, zs_65_20, zs_65_21_0, zs_65_21_1, zs_65_21, zs_65_22, zs_65_23, zs_65_25, zs_65_25u, zs_65_26, zt_65_26, zs_65_29, zs_65_32, zs_65_32u, zs_65_33, zs_65_33u, zs_65_34, zs_65_37, zs_65_38, zs_65_39, zt_65_39, zs_65_42, zs_65_42u, zs_65_43, zs_65_44, zt_65_44, zs_65_47, zs_65_50, zs_65_51_0, zs_65_51_1, zs_65_51, zs_65_52, zs_65_55, zs_65_58, zs_65_58u, zs_65_59, zs_65_59i, zs_65_60, zs_65_63, zs_65_63u, zs_65_64, zt_65_64, zs_65_67, zs_65_68, zs_65_71, zs_65_72_0, zs_65_72_1, zs_65_72, zc_isO, zr_fld_mk, zc_isA, zc_len, zr_elt_mk, zr_kill_i, zr_kill_l, zr_kill_r, zr_kill_u, zr_kill_f, zr_kill_n, zc_cat, zr_cat_i, zr_cat_l, zr_cat_r, zr_cat_f, zr_cat_d, zr_cat_u, beq_self_eq_true, Nat.zero_le, Nat.le_refl, Nat.reduceSub, Nat.reduceAdd, Nat.reduceLeDiff, csl_f, csr_f, cn_f, lg_cmp_eq, lg_cmp_le, lg_cmp_lt, lg_cmp_ge, lg_cmp_gt, nI_1, zr_up_self, zp_O, zr_fup_self, zr_fup_ne, ne_eq, Nat.reduceEqDiff, not_false_eq_true, pk_mul]
  have key : ∀ t j, j + t = W.length → (∀ i, i < j → by_ f n (m + i) = W.getD i 0) → zr_Z (d + 4) 65 Q 24 [some (.ref rd), some (.ref q), some (.int (nI j))] [] h1 0 0 := by
    intro t
    induction t with
    | zero =>
      intro j hj hp
      have : j = W.length := by omega
      subst this
      simp only [zs_65_0, zs_65_0u, zs_65_1, zt_65_1, zs_65_4, zs_65_4u, zs_65_5, zt_65_5, zs_65_8, zs_65_8u, zs_65_9, zs_65_12, zs_65_13, zs_65_13u, zs_65_14, zt_65_14, zs_65_17, zs_65_20, zs_65_21_0, zs_65_21_1, zs_65_21, zs_65_22, zs_65_23, zs_65_24, zs_65_25, zs_65_25u, zs_65_26, zt_65_26, zs_65_29, zs_65_33, zs_65_33u, zs_65_34, zs_65_37, zs_65_38, zs_65_39, zt_65_39, zs_65_42, zs_65_42u, zs_65_43, zs_65_44, zt_65_44, zs_65_47, zs_65_50, zs_65_51_0, zs_65_51_1, zs_65_51, zs_65_52, zs_65_55, zs_65_59, zs_65_59i, zs_65_60, zs_65_63, zs_65_63u, zs_65_64, zt_65_64, zs_65_67, zs_65_68, zs_65_71, zs_65_72_0, zs_65_72_1, zs_65_72, zc_isO, zr_fld_mk, zc_isA, zc_len, zr_elt_mk, zr_kill_i, zr_kill_l, zr_kill_r, zr_kill_u, zr_kill_f, zr_kill_n, zc_cat, zr_cat_i, zr_cat_l, zr_cat_r, zr_cat_f, zr_cat_d, zr_cat_u, beq_self_eq_true, Nat.zero_le, Nat.le_refl, Nat.reduceSub, Nat.reduceAdd, Nat.reduceLeDiff, csl_f, csr_f, cn_f, lg_cmp_eq, lg_cmp_le, lg_cmp_lt, lg_cmp_ge, lg_cmp_gt, nI_1, zr_up_self, zp_O, zr_fup_self, zr_fup_ne, ne_eq, Nat.reduceEqDiff, not_false_eq_true, pk_mul, hw]
      refine k_slen (d := d + 2) s1 ?_
      simp only [zs_65_0, zs_65_0u, zs_65_1, zt_65_1, zs_65_4, zs_65_4u, zs_65_5, zt_65_5, zs_65_8, zs_65_8u, zs_65_9, zs_65_12, zs_65_13, zs_65_13u, zs_65_14, zt_65_14, zs_65_17, zs_65_20, zs_65_21_0, zs_65_21_1, zs_65_21, zs_65_22, zs_65_23, zs_65_24, zs_65_25, zs_65_25u, zs_65_26, zt_65_26, zs_65_29, zs_65_33, zs_65_33u, zs_65_34, zs_65_37, zs_65_38, zs_65_39, zt_65_39, zs_65_42, zs_65_42u, zs_65_43, zs_65_44, zt_65_44, zs_65_47, zs_65_50, zs_65_51_0, zs_65_51_1, zs_65_51, zs_65_52, zs_65_55, zs_65_59, zs_65_59i, zs_65_60, zs_65_63, zs_65_63u, zs_65_64, zt_65_64, zs_65_67, zs_65_68, zs_65_71, zs_65_72_0, zs_65_72_1, zs_65_72, zc_isO, zr_fld_mk, zc_isA, zc_len, zr_elt_mk, zr_kill_i, zr_kill_l, zr_kill_r, zr_kill_u, zr_kill_f, zr_kill_n, zc_cat, zr_cat_i, zr_cat_l, zr_cat_r, zr_cat_f, zr_cat_d, zr_cat_u, beq_self_eq_true, Nat.zero_le, Nat.le_refl, Nat.reduceSub, Nat.reduceAdd, Nat.reduceLeDiff, csl_f, csr_f, cn_f, lg_cmp_eq, lg_cmp_le, lg_cmp_lt, lg_cmp_ge, lg_cmp_gt, nI_1, zr_up_self, zp_O, zr_fup_self, zr_fup_ne, ne_eq, Nat.reduceEqDiff, not_false_eq_true, pk_mul]
      refine ⟨fun _ => ?_, fun z => absurd (nI_le (Nat.le_refl _) (by omega)) z⟩
      simp only [zs_65_0, zs_65_0u, zs_65_1, zt_65_1, zs_65_4, zs_65_4u, zs_65_5, zt_65_5, zs_65_8, zs_65_8u, zs_65_9, zs_65_12, zs_65_13, zs_65_13u, zs_65_14, zt_65_14, zs_65_17, zs_65_20, zs_65_21_0, zs_65_21_1, zs_65_21, zs_65_22, zs_65_23, zs_65_24, zs_65_25, zs_65_25u, zs_65_26, zt_65_26, zs_65_29, zs_65_32, zs_65_32u, zs_65_33, zs_65_33u, zs_65_34, zs_65_37, zs_65_38, zs_65_39, zt_65_39, zs_65_42, zs_65_42u, zs_65_43, zs_65_44, zt_65_44, zs_65_47, zs_65_50, zs_65_51_0, zs_65_51_1, zs_65_51, zs_65_52, zs_65_55, zs_65_58, zs_65_58u, zs_65_59, zs_65_59i, zs_65_60, zs_65_63, zs_65_63u, zs_65_64, zt_65_64, zs_65_67, zs_65_68, zs_65_72_0, zs_65_72_1, zs_65_72, zc_isO, zr_fld_mk, zc_isA, zc_len, zr_elt_mk, zr_kill_i, zr_kill_l, zr_kill_r, zr_kill_u, zr_kill_f, zr_kill_n, zc_cat, zr_cat_i, zr_cat_l, zr_cat_r, zr_cat_f, zr_cat_d, zr_cat_u, beq_self_eq_true, Nat.zero_le, Nat.le_refl, Nat.reduceSub, Nat.reduceAdd, Nat.reduceLeDiff, csl_f, csr_f, cn_f, lg_cmp_eq, lg_cmp_le, lg_cmp_lt, lg_cmp_ge, lg_cmp_gt, nI_1, zr_up_self, zp_O, zr_fup_self, zr_fup_ne, ne_eq, Nat.reduceEqDiff, not_false_eq_true, pk_mul, hR, zt_I, zt_f2, e2, hw]
      refine k_slen (d := d + 2) s1 ?_
      simp only [zs_65_0, zs_65_0u, zs_65_1, zt_65_1, zs_65_4, zs_65_4u, zs_65_5, zt_65_5, zs_65_8, zs_65_8u, zs_65_9, zs_65_12, zs_65_13, zs_65_13u, zs_65_14, zt_65_14, zs_65_17, zs_65_20, zs_65_21_0, zs_65_21_1, zs_65_21, zs_65_22, zs_65_23, zs_65_24, zs_65_25, zs_65_25u, zs_65_26, zt_65_26, zs_65_29, zs_65_32, zs_65_32u, zs_65_33, zs_65_33u, zs_65_34, zs_65_37, zs_65_38, zs_65_39, zt_65_39, zs_65_42, zs_65_42u, zs_65_43, zs_65_44, zt_65_44, zs_65_47, zs_65_50, zs_65_51_0, zs_65_51_1, zs_65_51, zs_65_52, zs_65_55, zs_65_58, zs_65_58u, zs_65_59, zs_65_59i, zs_65_60, zs_65_63, zs_65_63u, zs_65_64, zt_65_64, zs_65_67, zs_65_68, zs_65_72_0, zs_65_72_1, zs_65_72, zc_isO, zr_fld_mk, zc_isA, zc_len, zr_elt_mk, zr_kill_i, zr_kill_l, zr_kill_r, zr_kill_u, zr_kill_f, zr_kill_n, zc_cat, zr_cat_i, zr_cat_l, zr_cat_r, zr_cat_f, zr_cat_d, zr_cat_u, beq_self_eq_true, Nat.zero_le, Nat.le_refl, Nat.reduceSub, Nat.reduceAdd, Nat.reduceLeDiff, csl_f, csr_f, cn_f, lg_cmp_eq, lg_cmp_le, lg_cmp_lt, lg_cmp_ge, lg_cmp_gt, nI_1, zr_up_self, zp_O, zr_fup_self, zr_fup_ne, ne_eq, Nat.reduceEqDiff, not_false_eq_true, pk_mul, hR, zt_I, nI_add]
      rw [putR hR (by omega) (by omega)]
      simp only [zs_65_0, zs_65_0u, zs_65_1, zt_65_1, zs_65_4, zs_65_4u, zs_65_5, zt_65_5, zs_65_8, zs_65_8u, zs_65_9, zs_65_12, zs_65_13, zs_65_13u, zs_65_14, zt_65_14, zs_65_17, zs_65_20, zs_65_21_0, zs_65_21_1, zs_65_21, zs_65_22, zs_65_23, zs_65_24, zs_65_25, zs_65_25u, zs_65_26, zt_65_26, zs_65_29, zs_65_32, zs_65_32u, zs_65_33, zs_65_33u, zs_65_34, zs_65_37, zs_65_38, zs_65_39, zt_65_39, zs_65_42, zs_65_42u, zs_65_43, zs_65_44, zt_65_44, zs_65_47, zs_65_50, zs_65_51_0, zs_65_51_1, zs_65_51, zs_65_52, zs_65_55, zs_65_58, zs_65_58u, zs_65_59, zs_65_59i, zs_65_60, zs_65_63, zs_65_63u, zs_65_64, zt_65_64, zs_65_67, zs_65_68, zs_65_71, zs_65_72_0, zs_65_72_1, zs_65_72, zc_isO, zr_fld_mk, zc_isA, zc_len, zr_elt_mk, zr_kill_i, zr_kill_l, zr_kill_r, zr_kill_u, zr_kill_f, zr_kill_n, zc_cat, zr_cat_i, zr_cat_l, zr_cat_r, zr_cat_f, zr_cat_d, zr_cat_u, beq_self_eq_true, Nat.zero_le, Nat.le_refl, Nat.reduceSub, Nat.reduceAdd, Nat.reduceLeDiff, csl_f, csr_f, cn_f, lg_cmp_eq, lg_cmp_le, lg_cmp_lt, lg_cmp_ge, lg_cmp_gt, nI_1, zr_up_self, zp_O, zr_fup_self, zr_fup_ne, ne_eq, Nat.reduceEqDiff, not_false_eq_true, pk_mul]
      have := q1 ⟨zl, hp⟩
      rw [← hh, zr_up_up]
      change Q _ (zr_up h rd (zrd tx gr (jA (jA J m) (m + W.length)) b w))
      rw [jA_jA]
      exact this
    | succ t ih =>
      intro j hj hp
      simp only [zs_65_0, zs_65_0u, zs_65_1, zt_65_1, zs_65_4, zs_65_4u, zs_65_5, zt_65_5, zs_65_8, zs_65_8u, zs_65_9, zs_65_12, zs_65_13, zs_65_13u, zs_65_14, zt_65_14, zs_65_17, zs_65_20, zs_65_21_0, zs_65_21_1, zs_65_21, zs_65_22, zs_65_23, zs_65_24, zs_65_25, zs_65_25u, zs_65_26, zt_65_26, zs_65_29, zs_65_33, zs_65_33u, zs_65_34, zs_65_37, zs_65_38, zs_65_39, zt_65_39, zs_65_42, zs_65_42u, zs_65_43, zs_65_44, zt_65_44, zs_65_47, zs_65_50, zs_65_51_0, zs_65_51_1, zs_65_51, zs_65_52, zs_65_55, zs_65_59, zs_65_59i, zs_65_60, zs_65_63, zs_65_63u, zs_65_64, zt_65_64, zs_65_67, zs_65_68, zs_65_71, zs_65_72_0, zs_65_72_1, zs_65_72, zc_isO, zr_fld_mk, zc_isA, zc_len, zr_elt_mk, zr_kill_i, zr_kill_l, zr_kill_r, zr_kill_u, zr_kill_f, zr_kill_n, zc_cat, zr_cat_i, zr_cat_l, zr_cat_r, zr_cat_f, zr_cat_d, zr_cat_u, beq_self_eq_true, Nat.zero_le, Nat.le_refl, Nat.reduceSub, Nat.reduceAdd, Nat.reduceLeDiff, csl_f, csr_f, cn_f, lg_cmp_eq, lg_cmp_le, lg_cmp_lt, lg_cmp_ge, lg_cmp_gt, nI_1, zr_up_self, zp_O, zr_fup_self, zr_fup_ne, ne_eq, Nat.reduceEqDiff, not_false_eq_true, pk_mul, hw]
      refine k_slen (d := d + 2) s1 ?_
      simp only [zs_65_0, zs_65_0u, zs_65_1, zt_65_1, zs_65_4, zs_65_4u, zs_65_5, zt_65_5, zs_65_8, zs_65_8u, zs_65_9, zs_65_12, zs_65_13, zs_65_13u, zs_65_14, zt_65_14, zs_65_17, zs_65_20, zs_65_21_0, zs_65_21_1, zs_65_21, zs_65_22, zs_65_23, zs_65_24, zs_65_25, zs_65_25u, zs_65_26, zt_65_26, zs_65_29, zs_65_33, zs_65_33u, zs_65_34, zs_65_37, zs_65_38, zs_65_39, zt_65_39, zs_65_42, zs_65_42u, zs_65_43, zs_65_44, zt_65_44, zs_65_47, zs_65_50, zs_65_51_0, zs_65_51_1, zs_65_51, zs_65_52, zs_65_55, zs_65_59, zs_65_59i, zs_65_60, zs_65_63, zs_65_63u, zs_65_64, zt_65_64, zs_65_67, zs_65_68, zs_65_71, zs_65_72_0, zs_65_72_1, zs_65_72, zc_isO, zr_fld_mk, zc_isA, zc_len, zr_elt_mk, zr_kill_i, zr_kill_l, zr_kill_r, zr_kill_u, zr_kill_f, zr_kill_n, zc_cat, zr_cat_i, zr_cat_l, zr_cat_r, zr_cat_f, zr_cat_d, zr_cat_u, beq_self_eq_true, Nat.zero_le, Nat.le_refl, Nat.reduceSub, Nat.reduceAdd, Nat.reduceLeDiff, csl_f, csr_f, cn_f, lg_cmp_eq, lg_cmp_le, lg_cmp_lt, lg_cmp_ge, lg_cmp_gt, nI_1, zr_up_self, zp_O, zr_fup_self, zr_fup_ne, ne_eq, Nat.reduceEqDiff, not_false_eq_true, pk_mul]
      refine ⟨fun z => absurd z (nI_ge (by omega) (by omega)), fun _ => ?_⟩
      simp only [zs_65_0, zs_65_0u, zs_65_1, zt_65_1, zs_65_4, zs_65_4u, zs_65_5, zt_65_5, zs_65_8, zs_65_8u, zs_65_9, zs_65_12, zs_65_13, zs_65_13u, zs_65_14, zt_65_14, zs_65_17, zs_65_20, zs_65_21_0, zs_65_21_1, zs_65_21, zs_65_22, zs_65_23, zs_65_24, zs_65_25, zs_65_25u, zs_65_26, zt_65_26, zs_65_29, zs_65_32, zs_65_32u, zs_65_33, zs_65_33u, zs_65_34, zs_65_37, zs_65_38, zs_65_39, zt_65_39, zs_65_42, zs_65_42u, zs_65_43, zs_65_44, zt_65_44, zs_65_47, zs_65_50, zs_65_51_0, zs_65_51_1, zs_65_51, zs_65_55, zs_65_58, zs_65_58u, zs_65_59, zs_65_59i, zs_65_60, zs_65_63, zs_65_63u, zs_65_64, zt_65_64, zs_65_67, zs_65_68, zs_65_71, zs_65_72_0, zs_65_72_1, zs_65_72, zc_isO, zr_fld_mk, zc_isA, zc_len, zr_elt_mk, zr_kill_i, zr_kill_l, zr_kill_r, zr_kill_u, zr_kill_f, zr_kill_n, zc_cat, zr_cat_i, zr_cat_l, zr_cat_r, zr_cat_f, zr_cat_d, zr_cat_u, beq_self_eq_true, Nat.zero_le, Nat.le_refl, Nat.reduceSub, Nat.reduceAdd, Nat.reduceLeDiff, csl_f, csr_f, cn_f, lg_cmp_eq, lg_cmp_le, lg_cmp_lt, lg_cmp_ge, lg_cmp_gt, nI_1, zr_up_self, zp_O, zr_fup_self, zr_fup_ne, ne_eq, Nat.reduceEqDiff, not_false_eq_true, pk_mul, hR, zt_I, zt_f2, e2, hw, nI_add]
      refine k_by (d := d + 3) hR hT hn e1 (by omega) ?_
      simp only [zs_65_0, zs_65_0u, zs_65_1, zt_65_1, zs_65_4, zs_65_4u, zs_65_5, zt_65_5, zs_65_8, zs_65_8u, zs_65_9, zs_65_12, zs_65_13, zs_65_13u, zs_65_14, zt_65_14, zs_65_17, zs_65_20, zs_65_21_0, zs_65_21_1, zs_65_21, zs_65_22, zs_65_23, zs_65_24, zs_65_25, zs_65_25u, zs_65_26, zt_65_26, zs_65_29, zs_65_32, zs_65_32u, zs_65_33, zs_65_33u, zs_65_34, zs_65_37, zs_65_38, zs_65_39, zt_65_39, zs_65_42, zs_65_42u, zs_65_43, zs_65_44, zt_65_44, zs_65_47, zs_65_50, zs_65_51_0, zs_65_51_1, zs_65_51, zs_65_55, zs_65_58, zs_65_58u, zs_65_59, zs_65_59i, zs_65_60, zs_65_63, zs_65_63u, zs_65_64, zt_65_64, zs_65_67, zs_65_68, zs_65_71, zs_65_72_0, zs_65_72_1, zs_65_72, zc_isO, zr_fld_mk, zc_isA, zc_len, zr_elt_mk, zr_kill_i, zr_kill_l, zr_kill_r, zr_kill_u, zr_kill_f, zr_kill_n, zc_cat, zr_cat_i, zr_cat_l, zr_cat_r, zr_cat_f, zr_cat_d, zr_cat_u, beq_self_eq_true, Nat.zero_le, Nat.le_refl, Nat.reduceSub, Nat.reduceAdd, Nat.reduceLeDiff, csl_f, csr_f, cn_f, lg_cmp_eq, lg_cmp_le, lg_cmp_lt, lg_cmp_ge, lg_cmp_gt, nI_1, zr_up_self, zp_O, zr_fup_self, zr_fup_ne, ne_eq, Nat.reduceEqDiff, not_false_eq_true, pk_mul, hw]
      refine k_chat (d := d) s1 o1 (by omega) (o.2 j (by omega)) ?_
      simp only [zs_65_0, zs_65_0u, zs_65_1, zt_65_1, zs_65_4, zs_65_4u, zs_65_5, zt_65_5, zs_65_8, zs_65_8u, zs_65_9, zs_65_12, zs_65_13, zs_65_13u, zs_65_14, zt_65_14, zs_65_17, zs_65_20, zs_65_21_0, zs_65_21_1, zs_65_21, zs_65_22, zs_65_23, zs_65_24, zs_65_25, zs_65_25u, zs_65_26, zt_65_26, zs_65_29, zs_65_32, zs_65_32u, zs_65_33, zs_65_33u, zs_65_34, zs_65_37, zs_65_38, zs_65_39, zt_65_39, zs_65_42, zs_65_42u, zs_65_43, zs_65_44, zt_65_44, zs_65_47, zs_65_50, zs_65_51_0, zs_65_51_1, zs_65_51, zs_65_55, zs_65_58, zs_65_58u, zs_65_59, zs_65_59i, zs_65_60, zs_65_63, zs_65_63u, zs_65_64, zt_65_64, zs_65_67, zs_65_68, zs_65_71, zs_65_72_0, zs_65_72_1, zs_65_72, zc_isO, zr_fld_mk, zc_isA, zc_len, zr_elt_mk, zr_kill_i, zr_kill_l, zr_kill_r, zr_kill_u, zr_kill_f, zr_kill_n, zc_cat, zr_cat_i, zr_cat_l, zr_cat_r, zr_cat_f, zr_cat_d, zr_cat_u, beq_self_eq_true, Nat.zero_le, Nat.le_refl, Nat.reduceSub, Nat.reduceAdd, Nat.reduceLeDiff, csl_f, csr_f, cn_f, lg_cmp_eq, lg_cmp_le, lg_cmp_lt, lg_cmp_ge, lg_cmp_gt, nI_1, zr_up_self, zp_O, zr_fup_self, zr_fup_ne, ne_eq, Nat.reduceEqDiff, not_false_eq_true, pk_mul]
      refine ⟨fun z => ?_, fun z => ?_⟩
      · have := ih (j + 1) (by omega) (fun i hi => by
          rcases Nat.lt_or_ge i j with g | g
          · exact hp i g
          · have : i = j := by omega
            rw [this]; exact z)
        simp only [zs_65_0, zs_65_0u, zs_65_1, zt_65_1, zs_65_4, zs_65_4u, zs_65_5, zt_65_5, zs_65_8, zs_65_8u, zs_65_9, zs_65_12, zs_65_13, zs_65_13u, zs_65_14, zt_65_14, zs_65_17, zs_65_20, zs_65_21_0, zs_65_21_1, zs_65_21, zs_65_22, zs_65_23, zs_65_25, zs_65_25u, zs_65_26, zt_65_26, zs_65_29, zs_65_32, zs_65_32u, zs_65_33, zs_65_33u, zs_65_34, zs_65_37, zs_65_38, zs_65_39, zt_65_39, zs_65_42, zs_65_42u, zs_65_43, zs_65_44, zt_65_44, zs_65_47, zs_65_50, zs_65_51_0, zs_65_51_1, zs_65_51, zs_65_52, zs_65_55, zs_65_58, zs_65_58u, zs_65_59, zs_65_59i, zs_65_60, zs_65_63, zs_65_63u, zs_65_64, zt_65_64, zs_65_67, zs_65_68, zs_65_71, zs_65_72_0, zs_65_72_1, zs_65_72, zc_isO, zr_fld_mk, zc_isA, zc_len, zr_elt_mk, zr_kill_i, zr_kill_l, zr_kill_r, zr_kill_u, zr_kill_f, zr_kill_n, zc_cat, zr_cat_i, zr_cat_l, zr_cat_r, zr_cat_f, zr_cat_d, zr_cat_u, beq_self_eq_true, Nat.zero_le, Nat.le_refl, Nat.reduceSub, Nat.reduceAdd, Nat.reduceLeDiff, csl_f, csr_f, cn_f, lg_cmp_eq, lg_cmp_le, lg_cmp_lt, lg_cmp_ge, lg_cmp_gt, nI_1, zr_up_self, zp_O, zr_fup_self, zr_fup_ne, ne_eq, Nat.reduceEqDiff, not_false_eq_true, pk_mul]
        exact this
      · exact q0 (fun y => z (y.2 j (by omega)))
  exact key _ 0 (Nat.zero_add _) (fun i hi => by omega)
end READER
