/-! THE MODEL'S READER: a word, an error, what must be -/
section PURE
variable {f : Nat → Int32} {n p : Nat} {W : List Int32} {K : Nat → Int32} {s : rst} {r : Bool × rst}
theorem nI_subM {a p : Nat} (h : p ≤ a) : nI a - nI p = nI (a - p) := by
  have : nI (a - p) + nI p = nI a := by rw [nI_add]; congr 1; omega
  rw [← this, Int32.add_sub_cancel]
theorem wm_K (h : wm f n p W) (hW : 1 ≤ W.length) : tkK f n p = 0 := by
  have s2 : iLe (-1) = false := by decide
  have c : p < n ∧ iLe (f p &&& 255) = true := Classical.byContradiction (fun c => by
    have := sp_n c
    have := h.1
    omega)
  have c2 := (by_sp s2).mp c
  unfold tkK
  rw [if_neg (by omega), if_pos c2]
theorem tkE_0 (h : tkK f n p = 0) : tkE f n p = sp iLe f n p := by
  unfold tkK at h
  unfold tkE
  by_cases c0 : n ≤ p
  · rw [if_pos c0] at h; cases h
  · rw [if_neg c0] at h ⊢
    by_cases c1 : iLe (by_ f n p)
    · rw [if_pos c1]
    · rw [if_neg c1] at h
      by_cases c2 : iDi (by_ f n p)
      · rw [if_pos c2] at h; cases h
      · rw [if_neg c2] at h; cases h
theorem tkE_1 (h : tkK f n p = 1) : tkE f n p = sp iDi f n p := by
  unfold tkK at h
  unfold tkE
  by_cases c0 : n ≤ p
  · rw [if_pos c0] at h; cases h
  · rw [if_neg c0] at h ⊢
    by_cases c1 : iLe (by_ f n p)
    · rw [if_pos c1] at h; cases h
    · rw [if_neg c1] at h ⊢
      by_cases c2 : iDi (by_ f n p)
      · rw [if_pos c2]
      · rw [if_neg c2] at h; cases h
theorem tkK_1 : tkK f n p = 1 ↔ ¬ sp iDi f n p = p := by
  have s3 : iDi (-1) = false := by decide
  have key : ¬ sp iDi f n p = p ↔ iDi (by_ f n p) = true := by
    rw [← by_sp s3]
    constructor
    · intro h
      exact Classical.byContradiction (fun c => h (sp_n c))
    · intro c z
      rw [sp_y c.1 c.2] at z
      have := sp_ge (p := iDi) (f := f) (n := n) (p + 1)
      omega
  rw [key]
  unfold tkK
  constructor
  · intro h
    by_cases c0 : n ≤ p
    · rw [if_pos c0] at h; cases h
    · rw [if_neg c0] at h
      by_cases c1 : iLe (by_ f n p)
      · rw [if_pos c1] at h; cases h
      · rw [if_neg c1] at h
        by_cases c2 : iDi (by_ f n p)
        · exact c2
        · rw [if_neg c2] at h; cases h
  · intro c
    have c0 : ¬ n ≤ p := fun g => by rw [by_ge g] at c; cases c
    have c1 : ¬ iLe (by_ f n p) = true := fun g => by
      unfold iLe at g
      unfold iDi at c
      rw [Bool.and_eq_true, decide_eq_true_iff, decide_eq_true_iff, Int32.le_iff_toInt_le, Int32.le_iff_toInt_le] at g c
      have e1 : (97 : Int32).toInt = 97 := rfl
      have e2 : (57 : Int32).toInt = 57 := rfl
      omega
    rw [if_neg c0, if_neg c1, if_pos c]
theorem tkE_59 (h : by_ f n p = 59) : tkK f n p = 2 ∧ tkE f n p = p + 1 := by
  have c0 : ¬ n ≤ p := fun g => by rw [by_ge g] at h; exact absurd h (by decide)
  have c1 : ¬ iLe (by_ f n p) = true := by rw [h]; decide
  have c2 : ¬ iDi (by_ f n p) = true := by rw [h]; decide
  unfold tkE tkK
  rw [if_neg c0, if_neg c1, if_neg c2, if_neg c0, if_neg c1, if_neg c2]
  exact ⟨rfl, rfl⟩
theorem tkK_le : tkK f n p ≤ 3 := by
  unfold tkK
  split; omega; split; omega; split <;> omega
/-- the model's ints are those of the class's result -/
def rlM (f : Nat → Int32) (n : Nat) (K : Nat → Int32) (r : Bool × rst) : Prop :=
  ∃ p, tkS f n K p ∧ (r.1 = true → K 14 = 0 ∧ sp iSp f n r.2.1 = p ∧ r.2.1 ≤ n) ∧ (r.1 = false → K 14 = r.2.2.1 3 ∧ ¬ K 14 = 0 ∧ K 15 = r.2.2.1 7)
def fMust (f : Nat → Int32) (n : Nat) (x : Bool) (s : rst) : Bool × rst :=
  if x then (true, sAt s (tkE f n (sp iSp f n s.1))) else (false, sEr (sAt s (sp iSp f n s.1)) (-2) (sp iSp f n s.1))
theorem must_word (hW : 1 ≤ W.length) : orE (fWord f n W s) = fMust f n (wmB f n (sp iSp f n s.1) W) s := by
  unfold fWord fMust
  cases z : wmB f n (sp iSp f n s.1) W
  · rw [if_neg (by decide), if_neg (by decide)]
    rfl
  · rw [if_pos rfl, if_pos rfl, orE_t rfl]
    have w := wmB_iff.mp z
    rw [tkE_0 (wm_K w hW), w.1]
theorem must_semi : fSemi f n s = fMust f n (decide (by_ f n (sp iSp f n s.1) = 59)) s := by
  unfold fSemi fMust
  by_cases z : by_ f n (sp iSp f n s.1) = 59
  · rw [if_pos z, decide_eq_true z, if_pos rfl, (tkE_59 z).2]
  · rw [if_neg z, decide_eq_false z, if_neg (by decide)]
end PURE
section MODEL
variable {d : Nat} {h h' : zr_H} {Q : zr_K} {m q : Nat} {E : Nat → Nat} {K : Nat → Int32} {L : Nat → Int64} {n p a : Nat} {f : Nat → Int32} {W : List Int32} {r : Bool × rst}
theorem wS_I (s : wS h q W) : zr_isO (h q) 8 = true := by
  obtain ⟨a, V, g, h1, -⟩ := s
  rw [h1]
  rfl
theorem k_mword (v : mz h m E K L n f) (t : tkS f n K p) (s : wS h q W) (o : wok W) (hW : 1 ≤ W.length) (hQ : Q (.inl (some (.int (bI (decide (K 14 = 0) && wmB f n p W))))) h) : zr_E (d + 5) 139 [.ref m, .ref q] h Q := by
  obtain ⟨h0, k9, n300, bf, ab, rb⟩ := id v
  obtain ⟨t10, t11, t12, t13, hp, pp⟩ := t
  have no : (¬ K 14 = 0 ∨ ¬ wm f n p W) → Q (.inl (some (.int 0))) h := fun u => by
    have : (decide (K 14 = 0) && wmB f n p W) = false := by
      rw [Bool.and_eq_false_iff]
      rcases u with u | u
      · exact Or.inl (decide_eq_false u)
      · refine Or.inr ?_
        cases z : wmB f n p W
        · rfl
        · exact absurd (wmB_iff.mp z) u
    rw [this] at hQ
    exact hQ
  have yes : K 14 = 0 → wm f n p W → Q (.inl (some (.int 1))) h := fun u1 u2 => by
    rw [decide_eq_true u1, wmB_iff.mpr u2] at hQ
    exact hQ
  have k3 := tkK_le (f := f) (n := n) (p := p)
  have wl := o.1
  rw [ze_139]
  simp only [zs_139_0, zs_139_0u, zs_139_1, zs_139_4, zs_139_8, zs_139_11, zs_139_14, zs_139_14u, zs_139_15, zs_139_18, zs_139_18u, zs_139_19, zs_139_22, zs_139_23, zs_139_23u, zs_139_24, zt_139_24, zs_139_27, zs_139_31_0, zs_139_31_1, zs_139_31, zs_139_32, zs_139_33, zs_139_34, zs_139_35, zs_139_35u, zs_139_36, zt_139_36, zs_139_39, zs_139_42, zs_139_42u, zs_139_43, zs_139_46, zs_139_46u, zs_139_47, zs_139_50, zs_139_51, zs_139_52, zs_139_52_20, zs_139_53, zs_139_53u, zs_139_54, zs_139_55, zt_139_55, zs_139_58, zs_139_61, zs_139_62_0, zs_139_62_1, zs_139_62, zs_139_63, zs_139_66, zs_139_69, zs_139_70_0, zs_139_70_1, zs_139_70, zc_isO, zr_fld_mk, zc_isA, zc_len, zr_elt_mk, zr_kill_i, zr_kill_l, zr_kill_r, zr_kill_u, zr_kill_f, zr_kill_n, zc_cat, zr_cat_i, zr_cat_l, zr_cat_r, zr_cat_f, zr_cat_d, zr_cat_u, beq_self_eq_true, Nat.zero_le, Nat.le_refl, Nat.reduceSub, Nat.reduceAdd, Nat.reduceLeDiff, csl_f, csr_f, cn_f, lg_cmp_eq, lg_cmp_le, lg_cmp_lt, lg_cmp_ge, lg_cmp_gt, nI_1, zr_up_self, zp_O, zr_fup_self, zr_fup_ne, ne_eq, Nat.reduceEqDiff, not_false_eq_true, pk_mul, h0, zy_I, zy_14]
  refine ⟨fun u => ?_, fun u => ?_⟩
  · simp only [zs_139_0, zs_139_0u, zs_139_1, zs_139_4, zs_139_7, zs_139_7u, zs_139_8, zs_139_11, zs_139_14, zs_139_14u, zs_139_15, zs_139_18, zs_139_18u, zs_139_19, zs_139_22, zs_139_23, zs_139_23u, zs_139_24, zt_139_24, zs_139_27, zs_139_30, zs_139_31_0, zs_139_31_1, zs_139_31, zs_139_32, zs_139_33, zs_139_34, zs_139_35, zs_139_35u, zs_139_36, zt_139_36, zs_139_39, zs_139_42, zs_139_42u, zs_139_43, zs_139_46, zs_139_46u, zs_139_47, zs_139_50, zs_139_51, zs_139_52, zs_139_52_20, zs_139_53, zs_139_53u, zs_139_54, zs_139_55, zt_139_55, zs_139_58, zs_139_61, zs_139_62_0, zs_139_62_1, zs_139_62, zs_139_63, zs_139_66, zs_139_69, zs_139_70_0, zs_139_70_1, zs_139_70, zc_isO, zr_fld_mk, zc_isA, zc_len, zr_elt_mk, zr_kill_i, zr_kill_l, zr_kill_r, zr_kill_u, zr_kill_f, zr_kill_n, zc_cat, zr_cat_i, zr_cat_l, zr_cat_r, zr_cat_f, zr_cat_d, zr_cat_u, beq_self_eq_true, Nat.zero_le, Nat.le_refl, Nat.reduceSub, Nat.reduceAdd, Nat.reduceLeDiff, csl_f, csr_f, cn_f, lg_cmp_eq, lg_cmp_le, lg_cmp_lt, lg_cmp_ge, lg_cmp_gt, nI_1, zr_up_self, zp_O, zr_fup_self, zr_fup_ne, ne_eq, Nat.reduceEqDiff, not_false_eq_true, pk_mul]
    exact no (Or.inl u)
  simp only [zs_139_0, zs_139_0u, zs_139_1, zs_139_4, zs_139_7, zs_139_7u, zs_139_8, zs_139_11, zs_139_15, zs_139_18, zs_139_18u, zs_139_19, zs_139_22, zs_139_23, zs_139_23u, zs_139_24, zt_139_24, zs_139_27, zs_139_31_0, zs_139_31_1, zs_139_31, zs_139_32, zs_139_33, zs_139_34, zs_139_35, zs_139_35u, zs_139_36, zt_139_36, zs_139_39, zs_139_42, zs_139_42u, zs_139_43, zs_139_46, zs_139_46u, zs_139_47, zs_139_50, zs_139_51, zs_139_52, zs_139_52_20, zs_139_53, zs_139_53u, zs_139_54, zs_139_55, zt_139_55, zs_139_58, zs_139_61, zs_139_62_0, zs_139_62_1, zs_139_62, zs_139_63, zs_139_66, zs_139_69, zs_139_70_0, zs_139_70_1, zs_139_70, zc_isO, zr_fld_mk, zc_isA, zc_len, zr_elt_mk, zr_kill_i, zr_kill_l, zr_kill_r, zr_kill_u, zr_kill_f, zr_kill_n, zc_cat, zr_cat_i, zr_cat_l, zr_cat_r, zr_cat_f, zr_cat_d, zr_cat_u, beq_self_eq_true, Nat.zero_le, Nat.le_refl, Nat.reduceSub, Nat.reduceAdd, Nat.reduceLeDiff, csl_f, csr_f, cn_f, lg_cmp_eq, lg_cmp_le, lg_cmp_lt, lg_cmp_ge, lg_cmp_gt, nI_1, zr_up_self, zp_O, zr_fup_self, zr_fup_ne, ne_eq, Nat.reduceEqDiff, not_false_eq_true, pk_mul, h0, zy_I, zy_12, t12]
  rw [nI_eq0 (by omega)]
  refine ⟨fun u2 => ?_, fun u2 => ?_⟩
  · simp only [zs_139_0, zs_139_0u, zs_139_1, zs_139_4, zs_139_7, zs_139_7u, zs_139_8, zs_139_11, zs_139_14, zs_139_14u, zs_139_15, zs_139_18, zs_139_18u, zs_139_19, zs_139_22, zs_139_23, zs_139_23u, zs_139_24, zt_139_24, zs_139_27, zs_139_30, zs_139_31_0, zs_139_31_1, zs_139_31, zs_139_32, zs_139_33, zs_139_34, zs_139_35, zs_139_35u, zs_139_36, zt_139_36, zs_139_39, zs_139_42, zs_139_42u, zs_139_43, zs_139_46, zs_139_46u, zs_139_47, zs_139_50, zs_139_51, zs_139_52, zs_139_52_20, zs_139_53, zs_139_53u, zs_139_54, zs_139_55, zt_139_55, zs_139_58, zs_139_61, zs_139_62_0, zs_139_62_1, zs_139_62, zs_139_63, zs_139_66, zs_139_69, zs_139_70_0, zs_139_70_1, zs_139_70, zc_isO, zr_fld_mk, zc_isA, zc_len, zr_elt_mk, zr_kill_i, zr_kill_l, zr_kill_r, zr_kill_u, zr_kill_f, zr_kill_n, zc_cat, zr_cat_i, zr_cat_l, zr_cat_r, zr_cat_f, zr_cat_d, zr_cat_u, beq_self_eq_true, Nat.zero_le, Nat.le_refl, Nat.reduceSub, Nat.reduceAdd, Nat.reduceLeDiff, csl_f, csr_f, cn_f, lg_cmp_eq, lg_cmp_le, lg_cmp_lt, lg_cmp_ge, lg_cmp_gt, nI_1, zr_up_self, zp_O, zr_fup_self, zr_fup_ne, ne_eq, Nat.reduceEqDiff, not_false_eq_true, pk_mul]
    exact no (Or.inr (fun w => u2 (wm_K w hW)))
  rw [tkE_0 u2] at t11
  have be := sp_ge (p := iLe) (f := f) (n := n) p
  have be2 := sp_le (p := iLe) (f := f) (n := n) hp
  have e1 : nI (sp iLe f n p) - nI p = nI (sp iLe f n p - p) := nI_subM be
  have sI := wS_I s
  simp only [zs_139_0, zs_139_0u, zs_139_1, zs_139_4, zs_139_7, zs_139_7u, zs_139_8, zs_139_11, zs_139_14, zs_139_14u, zs_139_15, zs_139_18, zs_139_18u, zs_139_19, zs_139_22, zs_139_23, zs_139_23u, zs_139_24, zt_139_24, zs_139_30, zs_139_31_0, zs_139_31_1, zs_139_31, zs_139_32, zs_139_33, zs_139_34, zs_139_35, zs_139_35u, zs_139_36, zt_139_36, zs_139_39, zs_139_42, zs_139_42u, zs_139_43, zs_139_46, zs_139_46u, zs_139_47, zs_139_50, zs_139_51, zs_139_52, zs_139_52_20, zs_139_53, zs_139_53u, zs_139_54, zs_139_55, zt_139_55, zs_139_58, zs_139_61, zs_139_62_0, zs_139_62_1, zs_139_62, zs_139_63, zs_139_66, zs_139_69, zs_139_70_0, zs_139_70_1, zs_139_70, zc_isO, zr_fld_mk, zc_isA, zc_len, zr_elt_mk, zr_kill_i, zr_kill_l, zr_kill_r, zr_kill_u, zr_kill_f, zr_kill_n, zc_cat, zr_cat_i, zr_cat_l, zr_cat_r, zr_cat_f, zr_cat_d, zr_cat_u, beq_self_eq_true, Nat.zero_le, Nat.le_refl, Nat.reduceSub, Nat.reduceAdd, Nat.reduceLeDiff, csl_f, csr_f, cn_f, lg_cmp_eq, lg_cmp_le, lg_cmp_lt, lg_cmp_ge, lg_cmp_gt, nI_1, zr_up_self, zp_O, zr_fup_self, zr_fup_ne, ne_eq, Nat.reduceEqDiff, not_false_eq_true, pk_mul, h0, zy_I, zy_11, zy_10, t10, t11, sI, e1]
  refine k_slen (d := d + 2) s ?_
  simp only [zs_139_0, zs_139_0u, zs_139_1, zs_139_4, zs_139_7, zs_139_7u, zs_139_8, zs_139_11, zs_139_14, zs_139_14u, zs_139_15, zs_139_18, zs_139_18u, zs_139_19, zs_139_22, zs_139_23, zs_139_23u, zs_139_24, zt_139_24, zs_139_27, zs_139_31_0, zs_139_31_1, zs_139_31, zs_139_33, zs_139_34, zs_139_35, zs_139_35u, zs_139_36, zt_139_36, zs_139_39, zs_139_42, zs_139_42u, zs_139_43, zs_139_46, zs_139_46u, zs_139_47, zs_139_50, zs_139_51, zs_139_52, zs_139_52_20, zs_139_53, zs_139_53u, zs_139_54, zs_139_55, zt_139_55, zs_139_58, zs_139_61, zs_139_62_0, zs_139_62_1, zs_139_62, zs_139_63, zs_139_66, zs_139_69, zs_139_70_0, zs_139_70_1, zs_139_70, zc_isO, zr_fld_mk, zc_isA, zc_len, zr_elt_mk, zr_kill_i, zr_kill_l, zr_kill_r, zr_kill_u, zr_kill_f, zr_kill_n, zc_cat, zr_cat_i, zr_cat_l, zr_cat_r, zr_cat_f, zr_cat_d, zr_cat_u, beq_self_eq_true, Nat.zero_le, Nat.le_refl, Nat.reduceSub, Nat.reduceAdd, Nat.reduceLeDiff, csl_f, csr_f, cn_f, lg_cmp_eq, lg_cmp_le, lg_cmp_lt, lg_cmp_ge, lg_cmp_gt, nI_1, zr_up_self, zp_O, zr_fup_self, zr_fup_ne, ne_eq, Nat.reduceEqDiff, not_false_eq_true, pk_mul]
  rw [nI_eq (by omega) (by omega)]
  refine ⟨fun u3 => ?_, fun u3 => ?_⟩
  rotate_left
  · simp only [zs_139_0, zs_139_0u, zs_139_1, zs_139_4, zs_139_7, zs_139_7u, zs_139_8, zs_139_11, zs_139_14, zs_139_14u, zs_139_15, zs_139_18, zs_139_18u, zs_139_19, zs_139_22, zs_139_23, zs_139_23u, zs_139_24, zt_139_24, zs_139_27, zs_139_30, zs_139_31_0, zs_139_31_1, zs_139_31, zs_139_32, zs_139_33, zs_139_34, zs_139_35, zs_139_35u, zs_139_36, zt_139_36, zs_139_39, zs_139_42, zs_139_42u, zs_139_43, zs_139_46, zs_139_46u, zs_139_47, zs_139_50, zs_139_51, zs_139_52, zs_139_52_20, zs_139_53, zs_139_53u, zs_139_54, zs_139_55, zt_139_55, zs_139_58, zs_139_61, zs_139_62_0, zs_139_62_1, zs_139_62, zs_139_63, zs_139_66, zs_139_69, zs_139_70_0, zs_139_70_1, zs_139_70, zc_isO, zr_fld_mk, zc_isA, zc_len, zr_elt_mk, zr_kill_i, zr_kill_l, zr_kill_r, zr_kill_u, zr_kill_f, zr_kill_n, zc_cat, zr_cat_i, zr_cat_l, zr_cat_r, zr_cat_f, zr_cat_d, zr_cat_u, beq_self_eq_true, Nat.zero_le, Nat.le_refl, Nat.reduceSub, Nat.reduceAdd, Nat.reduceLeDiff, csl_f, csr_f, cn_f, lg_cmp_eq, lg_cmp_le, lg_cmp_lt, lg_cmp_ge, lg_cmp_gt, nI_1, zr_up_self, zp_O, zr_fup_self, zr_fup_ne, ne_eq, Nat.reduceEqDiff, not_false_eq_true, pk_mul]
    exact no (Or.inr (fun w => u3 (by have := w.1; omega)))
  simp only [zs_139_0, zs_139_0u, zs_139_1, zs_139_4, zs_139_7, zs_139_7u, zs_139_8, zs_139_11, zs_139_14, zs_139_14u, zs_139_15, zs_139_18, zs_139_18u, zs_139_19, zs_139_22, zs_139_23, zs_139_23u, zs_139_24, zt_139_24, zs_139_27, zs_139_30, zs_139_31_0, zs_139_31_1, zs_139_31, zs_139_32, zs_139_33, zs_139_35, zs_139_35u, zs_139_36, zt_139_36, zs_139_39, zs_139_42, zs_139_42u, zs_139_43, zs_139_46, zs_139_46u, zs_139_47, zs_139_50, zs_139_51, zs_139_52, zs_139_52_20, zs_139_53, zs_139_53u, zs_139_54, zs_139_55, zt_139_55, zs_139_58, zs_139_61, zs_139_62_0, zs_139_62_1, zs_139_62, zs_139_63, zs_139_66, zs_139_69, zs_139_70_0, zs_139_70_1, zs_139_70, zc_isO, zr_fld_mk, zc_isA, zc_len, zr_elt_mk, zr_kill_i, zr_kill_l, zr_kill_r, zr_kill_u, zr_kill_f, zr_kill_n, zc_cat, zr_cat_i, zr_cat_l, zr_cat_r, zr_cat_f, zr_cat_d, zr_cat_u, beq_self_eq_true, Nat.zero_le, Nat.le_refl, Nat.reduceSub, Nat.reduceAdd, Nat.reduceLeDiff, csl_f, csr_f, cn_f, lg_cmp_eq, lg_cmp_le, lg_cmp_lt, lg_cmp_ge, lg_cmp_gt, nI_1, zr_up_self, zp_O, zr_fup_self, zr_fup_ne, ne_eq, Nat.reduceEqDiff, not_false_eq_true, pk_mul]
  have loop : ∀ t k, k + t = W.length → (∀ j, j < k → by_ f n (p + j) = W.getD j 0) → zr_Z (d + 4) 139 Q 34 [some (.ref m), some (.ref q), some (.int (nI k))] [] h 0 0 := by
    intro t
    induction t with
    | zero =>
      intro k hk hj
      have : k = W.length := by omega
      subst this
      simp only [zs_139_0, zs_139_0u, zs_139_1, zs_139_4, zs_139_7, zs_139_7u, zs_139_8, zs_139_11, zs_139_14, zs_139_14u, zs_139_15, zs_139_18, zs_139_18u, zs_139_19, zs_139_22, zs_139_23, zs_139_23u, zs_139_24, zt_139_24, zs_139_27, zs_139_30, zs_139_31_0, zs_139_31_1, zs_139_31, zs_139_32, zs_139_33, zs_139_34, zs_139_35, zs_139_35u, zs_139_36, zt_139_36, zs_139_42, zs_139_42u, zs_139_43, zs_139_46, zs_139_46u, zs_139_47, zs_139_50, zs_139_51, zs_139_52, zs_139_52_20, zs_139_53, zs_139_53u, zs_139_54, zs_139_55, zt_139_55, zs_139_58, zs_139_61, zs_139_62_0, zs_139_62_1, zs_139_62, zs_139_63, zs_139_66, zs_139_69, zs_139_70_0, zs_139_70_1, zs_139_70, zc_isO, zr_fld_mk, zc_isA, zc_len, zr_elt_mk, zr_kill_i, zr_kill_l, zr_kill_r, zr_kill_u, zr_kill_f, zr_kill_n, zc_cat, zr_cat_i, zr_cat_l, zr_cat_r, zr_cat_f, zr_cat_d, zr_cat_u, beq_self_eq_true, Nat.zero_le, Nat.le_refl, Nat.reduceSub, Nat.reduceAdd, Nat.reduceLeDiff, csl_f, csr_f, cn_f, lg_cmp_eq, lg_cmp_le, lg_cmp_lt, lg_cmp_ge, lg_cmp_gt, nI_1, zr_up_self, zp_O, zr_fup_self, zr_fup_ne, ne_eq, Nat.reduceEqDiff, not_false_eq_true, pk_mul, sI]
      refine k_slen (d := d + 2) s ?_
      simp only [zs_139_0, zs_139_0u, zs_139_1, zs_139_4, zs_139_7, zs_139_7u, zs_139_8, zs_139_11, zs_139_14, zs_139_14u, zs_139_15, zs_139_18, zs_139_18u, zs_139_19, zs_139_22, zs_139_23, zs_139_23u, zs_139_24, zt_139_24, zs_139_27, zs_139_30, zs_139_31_0, zs_139_31_1, zs_139_31, zs_139_32, zs_139_33, zs_139_34, zs_139_35, zs_139_35u, zs_139_36, zt_139_36, zs_139_39, zs_139_43, zs_139_46, zs_139_46u, zs_139_47, zs_139_50, zs_139_51, zs_139_52, zs_139_52_20, zs_139_53, zs_139_53u, zs_139_54, zs_139_55, zt_139_55, zs_139_58, zs_139_61, zs_139_62_0, zs_139_62_1, zs_139_62, zs_139_63, zs_139_66, zs_139_70_0, zs_139_70_1, zs_139_70, zc_isO, zr_fld_mk, zc_isA, zc_len, zr_elt_mk, zr_kill_i, zr_kill_l, zr_kill_r, zr_kill_u, zr_kill_f, zr_kill_n, zc_cat, zr_cat_i, zr_cat_l, zr_cat_r, zr_cat_f, zr_cat_d, zr_cat_u, beq_self_eq_true, Nat.zero_le, Nat.le_refl, Nat.reduceSub, Nat.reduceAdd, Nat.reduceLeDiff, csl_f, csr_f, cn_f, lg_cmp_eq, lg_cmp_le, lg_cmp_lt, lg_cmp_ge, lg_cmp_gt, nI_1, zr_up_self, zp_O, zr_fup_self, zr_fup_ne, ne_eq, Nat.reduceEqDiff, not_false_eq_true, pk_mul]
      refine ⟨fun _ => ?_, fun z => absurd (nI_le (Nat.le_refl _) (by omega)) z⟩
      simp only [zs_139_0, zs_139_0u, zs_139_1, zs_139_4, zs_139_7, zs_139_7u, zs_139_8, zs_139_11, zs_139_14, zs_139_14u, zs_139_15, zs_139_18, zs_139_18u, zs_139_19, zs_139_22, zs_139_23, zs_139_23u, zs_139_24, zt_139_24, zs_139_27, zs_139_30, zs_139_31_0, zs_139_31_1, zs_139_31, zs_139_32, zs_139_33, zs_139_34, zs_139_35, zs_139_35u, zs_139_36, zt_139_36, zs_139_39, zs_139_42, zs_139_42u, zs_139_43, zs_139_46, zs_139_46u, zs_139_47, zs_139_50, zs_139_51, zs_139_52, zs_139_52_20, zs_139_53, zs_139_53u, zs_139_54, zs_139_55, zt_139_55, zs_139_58, zs_139_61, zs_139_62_0, zs_139_62_1, zs_139_62, zs_139_63, zs_139_66, zs_139_69, zs_139_70_0, zs_139_70_1, zs_139_70, zc_isO, zr_fld_mk, zc_isA, zc_len, zr_elt_mk, zr_kill_i, zr_kill_l, zr_kill_r, zr_kill_u, zr_kill_f, zr_kill_n, zc_cat, zr_cat_i, zr_cat_l, zr_cat_r, zr_cat_f, zr_cat_d, zr_cat_u, beq_self_eq_true, Nat.zero_le, Nat.le_refl, Nat.reduceSub, Nat.reduceAdd, Nat.reduceLeDiff, csl_f, csr_f, cn_f, lg_cmp_eq, lg_cmp_le, lg_cmp_lt, lg_cmp_ge, lg_cmp_gt, nI_1, zr_up_self, zp_O, zr_fup_self, zr_fup_ne, ne_eq, Nat.reduceEqDiff, not_false_eq_true, pk_mul]
      exact yes u ⟨by omega, hj⟩
    | succ t ih =>
      intro k hk hj
      have a1 := aV_isA ab
      have a2 := aV_in ab (k := p + k) (by omega) (by omega)
      have a3 := aV_elt ab (k := p + k) (by omega) (by omega)
      rw [rb _ (by omega)] at a3
      simp only [zs_139_0, zs_139_0u, zs_139_1, zs_139_4, zs_139_7, zs_139_7u, zs_139_8, zs_139_11, zs_139_14, zs_139_14u, zs_139_15, zs_139_18, zs_139_18u, zs_139_19, zs_139_22, zs_139_23, zs_139_23u, zs_139_24, zt_139_24, zs_139_27, zs_139_30, zs_139_31_0, zs_139_31_1, zs_139_31, zs_139_32, zs_139_33, zs_139_34, zs_139_35, zs_139_35u, zs_139_36, zt_139_36, zs_139_42, zs_139_42u, zs_139_43, zs_139_46, zs_139_46u, zs_139_47, zs_139_50, zs_139_51, zs_139_52, zs_139_52_20, zs_139_53, zs_139_53u, zs_139_54, zs_139_55, zt_139_55, zs_139_58, zs_139_61, zs_139_62_0, zs_139_62_1, zs_139_62, zs_139_63, zs_139_66, zs_139_69, zs_139_70_0, zs_139_70_1, zs_139_70, zc_isO, zr_fld_mk, zc_isA, zc_len, zr_elt_mk, zr_kill_i, zr_kill_l, zr_kill_r, zr_kill_u, zr_kill_f, zr_kill_n, zc_cat, zr_cat_i, zr_cat_l, zr_cat_r, zr_cat_f, zr_cat_d, zr_cat_u, beq_self_eq_true, Nat.zero_le, Nat.le_refl, Nat.reduceSub, Nat.reduceAdd, Nat.reduceLeDiff, csl_f, csr_f, cn_f, lg_cmp_eq, lg_cmp_le, lg_cmp_lt, lg_cmp_ge, lg_cmp_gt, nI_1, zr_up_self, zp_O, zr_fup_self, zr_fup_ne, ne_eq, Nat.reduceEqDiff, not_false_eq_true, pk_mul, sI]
      refine k_slen (d := d + 2) s ?_
      simp only [zs_139_0, zs_139_0u, zs_139_1, zs_139_4, zs_139_7, zs_139_7u, zs_139_8, zs_139_11, zs_139_14, zs_139_14u, zs_139_15, zs_139_18, zs_139_18u, zs_139_19, zs_139_22, zs_139_23, zs_139_23u, zs_139_24, zt_139_24, zs_139_27, zs_139_30, zs_139_31_0, zs_139_31_1, zs_139_31, zs_139_32, zs_139_33, zs_139_34, zs_139_35, zs_139_35u, zs_139_36, zt_139_36, zs_139_39, zs_139_43, zs_139_46, zs_139_46u, zs_139_47, zs_139_50, zs_139_51, zs_139_52, zs_139_52_20, zs_139_53, zs_139_53u, zs_139_54, zs_139_55, zt_139_55, zs_139_58, zs_139_61, zs_139_62_0, zs_139_62_1, zs_139_62, zs_139_63, zs_139_66, zs_139_70_0, zs_139_70_1, zs_139_70, zc_isO, zr_fld_mk, zc_isA, zc_len, zr_elt_mk, zr_kill_i, zr_kill_l, zr_kill_r, zr_kill_u, zr_kill_f, zr_kill_n, zc_cat, zr_cat_i, zr_cat_l, zr_cat_r, zr_cat_f, zr_cat_d, zr_cat_u, beq_self_eq_true, Nat.zero_le, Nat.le_refl, Nat.reduceSub, Nat.reduceAdd, Nat.reduceLeDiff, csl_f, csr_f, cn_f, lg_cmp_eq, lg_cmp_le, lg_cmp_lt, lg_cmp_ge, lg_cmp_gt, nI_1, zr_up_self, zp_O, zr_fup_self, zr_fup_ne, ne_eq, Nat.reduceEqDiff, not_false_eq_true, pk_mul]
      refine ⟨fun z => absurd z (nI_ge (by omega) (by omega)), fun _ => ?_⟩
      simp only [zs_139_0, zs_139_0u, zs_139_1, zs_139_4, zs_139_7, zs_139_7u, zs_139_8, zs_139_11, zs_139_14, zs_139_14u, zs_139_15, zs_139_18, zs_139_18u, zs_139_19, zs_139_22, zs_139_23, zs_139_23u, zs_139_24, zt_139_24, zs_139_27, zs_139_30, zs_139_31_0, zs_139_31_1, zs_139_31, zs_139_32, zs_139_33, zs_139_34, zs_139_35, zs_139_35u, zs_139_36, zt_139_36, zs_139_39, zs_139_42, zs_139_42u, zs_139_43, zs_139_46, zs_139_46u, zs_139_47, zs_139_50, zs_139_51, zs_139_52, zs_139_52_20, zs_139_53, zs_139_53u, zs_139_54, zs_139_55, zt_139_55, zs_139_61, zs_139_62_0, zs_139_62_1, zs_139_62, zs_139_63, zs_139_66, zs_139_69, zs_139_70_0, zs_139_70_1, zs_139_70, zc_isO, zr_fld_mk, zc_isA, zc_len, zr_elt_mk, zr_kill_i, zr_kill_l, zr_kill_r, zr_kill_u, zr_kill_f, zr_kill_n, zc_cat, zr_cat_i, zr_cat_l, zr_cat_r, zr_cat_f, zr_cat_d, zr_cat_u, beq_self_eq_true, Nat.zero_le, Nat.le_refl, Nat.reduceSub, Nat.reduceAdd, Nat.reduceLeDiff, csl_f, csr_f, cn_f, lg_cmp_eq, lg_cmp_le, lg_cmp_lt, lg_cmp_ge, lg_cmp_gt, nI_1, zr_up_self, zp_O, zr_fup_self, zr_fup_ne, ne_eq, Nat.reduceEqDiff, not_false_eq_true, pk_mul, h0, zy_I, zy_7, zy_10, t10, nI_add, a1, a2, a3, sI]
      refine k_chat (d := d) s o.1 (j := k) (by omega) (o.2 k (by omega)) ?_
      simp only [zs_139_0, zs_139_0u, zs_139_1, zs_139_4, zs_139_7, zs_139_7u, zs_139_8, zs_139_11, zs_139_14, zs_139_14u, zs_139_15, zs_139_18, zs_139_18u, zs_139_19, zs_139_22, zs_139_23, zs_139_23u, zs_139_24, zt_139_24, zs_139_27, zs_139_30, zs_139_31_0, zs_139_31_1, zs_139_31, zs_139_32, zs_139_33, zs_139_34, zs_139_35, zs_139_35u, zs_139_36, zt_139_36, zs_139_39, zs_139_42, zs_139_42u, zs_139_43, zs_139_46, zs_139_46u, zs_139_47, zs_139_50, zs_139_51, zs_139_52, zs_139_52_20, zs_139_53, zs_139_53u, zs_139_54, zs_139_55, zt_139_55, zs_139_58, zs_139_62_0, zs_139_62_1, zs_139_62, zs_139_66, zs_139_69, zs_139_70_0, zs_139_70_1, zs_139_70, zc_isO, zr_fld_mk, zc_isA, zc_len, zr_elt_mk, zr_kill_i, zr_kill_l, zr_kill_r, zr_kill_u, zr_kill_f, zr_kill_n, zc_cat, zr_cat_i, zr_cat_l, zr_cat_r, zr_cat_f, zr_cat_d, zr_cat_u, beq_self_eq_true, Nat.zero_le, Nat.le_refl, Nat.reduceSub, Nat.reduceAdd, Nat.reduceLeDiff, csl_f, csr_f, cn_f, lg_cmp_eq, lg_cmp_le, lg_cmp_lt, lg_cmp_ge, lg_cmp_gt, nI_1, zr_up_self, zp_O, zr_fup_self, zr_fup_ne, ne_eq, Nat.reduceEqDiff, not_false_eq_true, pk_mul]
      refine ⟨fun u4 => ?_, fun u4 => ?_⟩
      · have := ih (k + 1) (by omega) (fun j hj2 => by
          rcases Nat.lt_or_ge j k with g | g
          · exact hj j g
          · have : j = k := by omega
            rw [this, by_lt (by omega)]
            exact u4)
        simp only [zs_139_0, zs_139_0u, zs_139_1, zs_139_4, zs_139_7, zs_139_7u, zs_139_8, zs_139_11, zs_139_14, zs_139_14u, zs_139_15, zs_139_18, zs_139_18u, zs_139_19, zs_139_22, zs_139_23, zs_139_23u, zs_139_24, zt_139_24, zs_139_27, zs_139_30, zs_139_31_0, zs_139_31_1, zs_139_31, zs_139_32, zs_139_33, zs_139_35, zs_139_35u, zs_139_36, zt_139_36, zs_139_39, zs_139_42, zs_139_42u, zs_139_43, zs_139_46, zs_139_46u, zs_139_47, zs_139_50, zs_139_51, zs_139_52, zs_139_52_20, zs_139_53, zs_139_53u, zs_139_54, zs_139_55, zt_139_55, zs_139_58, zs_139_61, zs_139_62_0, zs_139_62_1, zs_139_62, zs_139_63, zs_139_66, zs_139_69, zs_139_70_0, zs_139_70_1, zs_139_70, zc_isO, zr_fld_mk, zc_isA, zc_len, zr_elt_mk, zr_kill_i, zr_kill_l, zr_kill_r, zr_kill_u, zr_kill_f, zr_kill_n, zc_cat, zr_cat_i, zr_cat_l, zr_cat_r, zr_cat_f, zr_cat_d, zr_cat_u, beq_self_eq_true, Nat.zero_le, Nat.le_refl, Nat.reduceSub, Nat.reduceAdd, Nat.reduceLeDiff, csl_f, csr_f, cn_f, lg_cmp_eq, lg_cmp_le, lg_cmp_lt, lg_cmp_ge, lg_cmp_gt, nI_1, zr_up_self, zp_O, zr_fup_self, zr_fup_ne, ne_eq, Nat.reduceEqDiff, not_false_eq_true, pk_mul]
        exact this
      · simp only [zs_139_0, zs_139_0u, zs_139_1, zs_139_4, zs_139_7, zs_139_7u, zs_139_8, zs_139_11, zs_139_14, zs_139_14u, zs_139_15, zs_139_18, zs_139_18u, zs_139_19, zs_139_22, zs_139_23, zs_139_23u, zs_139_24, zt_139_24, zs_139_27, zs_139_30, zs_139_31_0, zs_139_31_1, zs_139_31, zs_139_32, zs_139_33, zs_139_34, zs_139_35, zs_139_35u, zs_139_36, zt_139_36, zs_139_39, zs_139_42, zs_139_42u, zs_139_43, zs_139_46, zs_139_46u, zs_139_47, zs_139_50, zs_139_51, zs_139_52, zs_139_52_20, zs_139_53, zs_139_53u, zs_139_54, zs_139_55, zt_139_55, zs_139_58, zs_139_61, zs_139_62_0, zs_139_62_1, zs_139_62, zs_139_63, zs_139_66, zs_139_69, zs_139_70_0, zs_139_70_1, zs_139_70, zc_isO, zr_fld_mk, zc_isA, zc_len, zr_elt_mk, zr_kill_i, zr_kill_l, zr_kill_r, zr_kill_u, zr_kill_f, zr_kill_n, zc_cat, zr_cat_i, zr_cat_l, zr_cat_r, zr_cat_f, zr_cat_d, zr_cat_u, beq_self_eq_true, Nat.zero_le, Nat.le_refl, Nat.reduceSub, Nat.reduceAdd, Nat.reduceLeDiff, csl_f, csr_f, cn_f, lg_cmp_eq, lg_cmp_le, lg_cmp_lt, lg_cmp_ge, lg_cmp_gt, nI_1, zr_up_self, zp_O, zr_fup_self, zr_fup_ne, ne_eq, Nat.reduceEqDiff, not_false_eq_true, pk_mul]
        exact no (Or.inr (fun w => u4 (by have := w.2 k (by omega); rw [by_lt (by omega)] at this; exact this)))
  exact loop W.length 0 (by omega) (fun j hj => by omega)
def kF (K : Nat → Int32) (c : Int32) : Nat → Int32 := if K 14 = 0 then fI (fI K 14 c) 15 (K 10) else K
theorem k_mfails {c : Int32} (v : mz h m E K L n f) (hQ : Q (.inl none) (zr_up h m (zym E (kF K c) L))) : zr_E (d + 1) 140 [.ref m, .int c] h Q := by
  unfold kF at hQ
  rw [ze_140]
  simp only [zs_140_0, zs_140_0u, zs_140_1, zs_140_4, zs_140_9, zs_140_10, zs_140_13, zs_140_13u, zs_140_14, zs_140_14u, zs_140_15, zs_140_18, zs_140_21, zc_isO, zr_fld_mk, zc_isA, zc_len, zr_elt_mk, zr_kill_i, zr_kill_l, zr_kill_r, zr_kill_u, zr_kill_f, zr_kill_n, zc_cat, zr_cat_i, zr_cat_l, zr_cat_r, zr_cat_f, zr_cat_d, zr_cat_u, beq_self_eq_true, Nat.zero_le, Nat.le_refl, Nat.reduceSub, Nat.reduceAdd, Nat.reduceLeDiff, csl_f, csr_f, cn_f, lg_cmp_eq, lg_cmp_le, lg_cmp_lt, lg_cmp_ge, lg_cmp_gt, nI_1, zr_up_self, zp_O, zr_fup_self, zr_fup_ne, ne_eq, Nat.reduceEqDiff, not_false_eq_true, pk_mul, v.1, zy_I, zy_14]
  refine ⟨fun u => ?_, fun u => ?_⟩
  · rw [if_pos u] at hQ
    simp only [zs_140_0, zs_140_0u, zs_140_1, zs_140_4, zs_140_7, zs_140_8, zs_140_8u, zs_140_9, zs_140_10, zs_140_14, zs_140_14u, zs_140_15, zs_140_18, zs_140_21, zc_isO, zr_fld_mk, zc_isA, zc_len, zr_elt_mk, zr_kill_i, zr_kill_l, zr_kill_r, zr_kill_u, zr_kill_f, zr_kill_n, zc_cat, zr_cat_i, zr_cat_l, zr_cat_r, zr_cat_f, zr_cat_d, zr_cat_u, beq_self_eq_true, Nat.zero_le, Nat.le_refl, Nat.reduceSub, Nat.reduceAdd, Nat.reduceLeDiff, csl_f, csr_f, cn_f, lg_cmp_eq, lg_cmp_le, lg_cmp_lt, lg_cmp_ge, lg_cmp_gt, nI_1, zr_up_self, zp_O, zr_fup_self, zr_fup_ne, ne_eq, Nat.reduceEqDiff, not_false_eq_true, pk_mul, v.1, zy_I]
    rw [putY v.1 (by omega)]
    have v1 := mz_up v (K2 := fI K 14 c) (fI_n _ _ (by omega))
    have e10 : fI K 14 c 10 = K 10 := fI_n _ _ (by omega)
    simp only [zs_140_0, zs_140_0u, zs_140_1, zs_140_4, zs_140_7, zs_140_8, zs_140_8u, zs_140_9, zs_140_10, zs_140_13, zs_140_13u, zs_140_14, zs_140_14u, zs_140_15, zs_140_18, zc_isO, zr_fld_mk, zc_isA, zc_len, zr_elt_mk, zr_kill_i, zr_kill_l, zr_kill_r, zr_kill_u, zr_kill_f, zr_kill_n, zc_cat, zr_cat_i, zr_cat_l, zr_cat_r, zr_cat_f, zr_cat_d, zr_cat_u, beq_self_eq_true, Nat.zero_le, Nat.le_refl, Nat.reduceSub, Nat.reduceAdd, Nat.reduceLeDiff, csl_f, csr_f, cn_f, lg_cmp_eq, lg_cmp_le, lg_cmp_lt, lg_cmp_ge, lg_cmp_gt, nI_1, zr_up_self, zp_O, zr_fup_self, zr_fup_ne, ne_eq, Nat.reduceEqDiff, not_false_eq_true, pk_mul, v1.1, zy_I, zy_10, e10]
    rw [putY v1.1 (by omega), zr_uu]
    simp only [zs_140_0, zs_140_0u, zs_140_1, zs_140_4, zs_140_7, zs_140_8, zs_140_8u, zs_140_9, zs_140_10, zs_140_13, zs_140_13u, zs_140_14, zs_140_14u, zs_140_15, zs_140_18, zs_140_21, zc_isO, zr_fld_mk, zc_isA, zc_len, zr_elt_mk, zr_kill_i, zr_kill_l, zr_kill_r, zr_kill_u, zr_kill_f, zr_kill_n, zc_cat, zr_cat_i, zr_cat_l, zr_cat_r, zr_cat_f, zr_cat_d, zr_cat_u, beq_self_eq_true, Nat.zero_le, Nat.le_refl, Nat.reduceSub, Nat.reduceAdd, Nat.reduceLeDiff, csl_f, csr_f, cn_f, lg_cmp_eq, lg_cmp_le, lg_cmp_lt, lg_cmp_ge, lg_cmp_gt, nI_1, zr_up_self, zp_O, zr_fup_self, zr_fup_ne, ne_eq, Nat.reduceEqDiff, not_false_eq_true, pk_mul]
    exact hQ
  · rw [if_neg u] at hQ
    simp only [zs_140_0, zs_140_0u, zs_140_1, zs_140_4, zs_140_7, zs_140_8, zs_140_8u, zs_140_9, zs_140_10, zs_140_13, zs_140_13u, zs_140_14, zs_140_14u, zs_140_15, zs_140_18, zs_140_21, zc_isO, zr_fld_mk, zc_isA, zc_len, zr_elt_mk, zr_kill_i, zr_kill_l, zr_kill_r, zr_kill_u, zr_kill_f, zr_kill_n, zc_cat, zr_cat_i, zr_cat_l, zr_cat_r, zr_cat_f, zr_cat_d, zr_cat_u, beq_self_eq_true, Nat.zero_le, Nat.le_refl, Nat.reduceSub, Nat.reduceAdd, Nat.reduceLeDiff, csl_f, csr_f, cn_f, lg_cmp_eq, lg_cmp_le, lg_cmp_lt, lg_cmp_ge, lg_cmp_gt, nI_1, zr_up_self, zp_O, zr_fup_self, zr_fup_ne, ne_eq, Nat.reduceEqDiff, not_false_eq_true, pk_mul]
    rw [up_id v.1] at hQ
    exact hQ
theorem k_must {x : Bool} (v : mz h m E K L n f) (t : rlM f n K r) (hQ : ∀ K', rlM f n K' (andT r (fMust f n x)) → kq K K' → Q (.inl none) (zr_up h m (zym E K' L))) : zr_E (d + 4) 141 [.ref m, .int (bI x)] h Q := by
  obtain ⟨p, tk, r1, r0⟩ := t
  have tail : ∀ h1 K1, mz h1 m E K1 L n f → ¬ K1 14 = 0 → zr_up h m (zym E K1 L) = h1 → rlM f n K1 (andT r (fMust f n x)) → kq K K1 → zr_Z (d + 3) 141 Q 10 [some (.ref m), some (.int (bI x))] [] h1 0 0 := by
    intro h1 K1 v1 n14 e1 r2 q1
    simp only [zs_141_0, zs_141_1, zs_141_4, zs_141_4u, zs_141_5, zs_141_7, zt_141_7, zs_141_10, zs_141_10u, zs_141_11, zs_141_14, zs_141_18, zt_141_18, zc_isO, zr_fld_mk, zc_isA, zc_len, zr_elt_mk, zr_kill_i, zr_kill_l, zr_kill_r, zr_kill_u, zr_kill_f, zr_kill_n, zc_cat, zr_cat_i, zr_cat_l, zr_cat_r, zr_cat_f, zr_cat_d, zr_cat_u, beq_self_eq_true, Nat.zero_le, Nat.le_refl, Nat.reduceSub, Nat.reduceAdd, Nat.reduceLeDiff, csl_f, csr_f, cn_f, lg_cmp_eq, lg_cmp_le, lg_cmp_lt, lg_cmp_ge, lg_cmp_gt, nI_1, zr_up_self, zp_O, zr_fup_self, zr_fup_ne, ne_eq, Nat.reduceEqDiff, not_false_eq_true, pk_mul, v1.1, zy_I, zy_14]
    refine ⟨fun _ => ?_, fun y => absurd y n14⟩
    simp only [zs_141_0, zs_141_1, zs_141_4, zs_141_4u, zs_141_5, zs_141_7, zt_141_7, zs_141_10, zs_141_10u, zs_141_11, zs_141_14, zs_141_17, zs_141_17u, zs_141_18, zt_141_18, zs_141_21, zc_isO, zr_fld_mk, zc_isA, zc_len, zr_elt_mk, zr_kill_i, zr_kill_l, zr_kill_r, zr_kill_u, zr_kill_f, zr_kill_n, zc_cat, zr_cat_i, zr_cat_l, zr_cat_r, zr_cat_f, zr_cat_d, zr_cat_u, beq_self_eq_true, Nat.zero_le, Nat.le_refl, Nat.reduceSub, Nat.reduceAdd, Nat.reduceLeDiff, csl_f, csr_f, cn_f, lg_cmp_eq, lg_cmp_le, lg_cmp_lt, lg_cmp_ge, lg_cmp_gt, nI_1, zr_up_self, zp_O, zr_fup_self, zr_fup_ne, ne_eq, Nat.reduceEqDiff, not_false_eq_true, pk_mul]
    have := hQ K1 r2 q1
    rw [e1] at this
    exact this
  rw [ze_141]
  rcases tf_c r.1 with z | z
  · obtain ⟨k14, hp, hn⟩ := r1 z
    rw [andT_t z] at hQ tail
    unfold fMust at hQ tail
    cases x
    · rw [if_neg (by decide)] at hQ tail
      rw [bI_f] at tail ⊢
      simp only [zs_141_0, zs_141_1, zs_141_5, zs_141_7, zt_141_7, zs_141_11, zs_141_14, zs_141_17, zs_141_17u, zs_141_18, zt_141_18, zs_141_21, zc_isO, zr_fld_mk, zc_isA, zc_len, zr_elt_mk, zr_kill_i, zr_kill_l, zr_kill_r, zr_kill_u, zr_kill_f, zr_kill_n, zc_cat, zr_cat_i, zr_cat_l, zr_cat_r, zr_cat_f, zr_cat_d, zr_cat_u, beq_self_eq_true, Nat.zero_le, Nat.le_refl, Nat.reduceSub, Nat.reduceAdd, Nat.reduceLeDiff, csl_f, csr_f, cn_f, lg_cmp_eq, lg_cmp_le, lg_cmp_lt, lg_cmp_ge, lg_cmp_gt, nI_1, zr_up_self, zp_O, zr_fup_self, zr_fup_ne, ne_eq, Nat.reduceEqDiff, not_false_eq_true, pk_mul]
      refine ⟨fun y => absurd trivial y, fun _ => ?_⟩
      simp only [zs_141_0, zs_141_1, zs_141_4, zs_141_4u, zs_141_5, zs_141_7, zt_141_7, zs_141_11, zs_141_14, zs_141_17, zs_141_17u, zs_141_18, zt_141_18, zs_141_21, zc_isO, zr_fld_mk, zc_isA, zc_len, zr_elt_mk, zr_kill_i, zr_kill_l, zr_kill_r, zr_kill_u, zr_kill_f, zr_kill_n, zc_cat, zr_cat_i, zr_cat_l, zr_cat_r, zr_cat_f, zr_cat_d, zr_cat_u, beq_self_eq_true, Nat.zero_le, Nat.le_refl, Nat.reduceSub, Nat.reduceAdd, Nat.reduceLeDiff, csl_f, csr_f, cn_f, lg_cmp_eq, lg_cmp_le, lg_cmp_lt, lg_cmp_ge, lg_cmp_gt, nI_1, zr_up_self, zp_O, zr_fup_self, zr_fup_ne, ne_eq, Nat.reduceEqDiff, not_false_eq_true, pk_mul, v.1, zy_I]
      refine k_mfails (d := d + 2) v ?_
      have ek : kF K (-2) = fI (fI K 14 (-2)) 15 (K 10) := if_pos k14
      have v1 := mz_up v (K2 := kF K (-2)) (by rw [ek, fI_n _ _ (by omega), fI_n _ _ (by omega)])
      have e14 : kF K (-2) 14 = -2 := by rw [ek, fI_n _ _ (by omega), fI_s]
      have e15 : kF K (-2) 15 = K 10 := by rw [ek, fI_s]
      have eo : ∀ k, k ≠ 14 → k ≠ 15 → kF K (-2) k = K k := fun k h1 h2 => by rw [ek, fI_n _ _ h2, fI_n _ _ h1]
      simp only [zs_141_0, zs_141_1, zs_141_4, zs_141_4u, zs_141_5, zs_141_7, zt_141_7, zs_141_11, zs_141_14, zs_141_17, zs_141_17u, zs_141_18, zt_141_18, zs_141_21, zc_isO, zr_fld_mk, zc_isA, zc_len, zr_elt_mk, zr_kill_i, zr_kill_l, zr_kill_r, zr_kill_u, zr_kill_f, zr_kill_n, zc_cat, zr_cat_i, zr_cat_l, zr_cat_r, zr_cat_f, zr_cat_d, zr_cat_u, beq_self_eq_true, Nat.zero_le, Nat.le_refl, Nat.reduceSub, Nat.reduceAdd, Nat.reduceLeDiff, csl_f, csr_f, cn_f, lg_cmp_eq, lg_cmp_le, lg_cmp_lt, lg_cmp_ge, lg_cmp_gt, nI_1, zr_up_self, zp_O, zr_fup_self, zr_fup_ne, ne_eq, Nat.reduceEqDiff, not_false_eq_true, pk_mul]
      refine tail _ _ v1 (by rw [e14]; decide) rfl ⟨p, ?_, (fun y => by cases y), fun _ => ⟨e14, by rw [e14]; decide, ?_⟩⟩ (fun k hk => eo k (by omega) (by omega))
      · obtain ⟨t10, t11, t12, t13, t14⟩ := tk
        exact ⟨(eo 10 (by omega) (by omega)).trans t10, (eo 11 (by omega) (by omega)).trans t11, (eo 12 (by omega) (by omega)).trans t12, fun y => (eo 13 (by omega) (by omega)).trans (t13 y), t14⟩
      · rw [e15, tk.1, hp]
        rfl
    · rw [if_pos rfl] at hQ
      clear tail
      rw [bI_t]
      simp only [zs_141_0, zs_141_1, zs_141_5, zs_141_7, zt_141_7, zs_141_11, zs_141_14, zs_141_17, zs_141_17u, zs_141_18, zt_141_18, zs_141_21, zc_isO, zr_fld_mk, zc_isA, zc_len, zr_elt_mk, zr_kill_i, zr_kill_l, zr_kill_r, zr_kill_u, zr_kill_f, zr_kill_n, zc_cat, zr_cat_i, zr_cat_l, zr_cat_r, zr_cat_f, zr_cat_d, zr_cat_u, beq_self_eq_true, Nat.zero_le, Nat.le_refl, Nat.reduceSub, Nat.reduceAdd, Nat.reduceLeDiff, csl_f, csr_f, cn_f, lg_cmp_eq, lg_cmp_le, lg_cmp_lt, lg_cmp_ge, lg_cmp_gt, nI_1, zr_up_self, zp_O, zr_fup_self, zr_fup_ne, ne_eq, Nat.reduceEqDiff, not_false_eq_true, pk_mul]
      refine ⟨fun _ => ?_, fun y => absurd y (by decide)⟩
      simp only [zs_141_0, zs_141_1, zs_141_4, zs_141_4u, zs_141_5, zs_141_7, zt_141_7, zs_141_10, zs_141_10u, zs_141_11, zs_141_14, zs_141_18, zt_141_18, zc_isO, zr_fld_mk, zc_isA, zc_len, zr_elt_mk, zr_kill_i, zr_kill_l, zr_kill_r, zr_kill_u, zr_kill_f, zr_kill_n, zc_cat, zr_cat_i, zr_cat_l, zr_cat_r, zr_cat_f, zr_cat_d, zr_cat_u, beq_self_eq_true, Nat.zero_le, Nat.le_refl, Nat.reduceSub, Nat.reduceAdd, Nat.reduceLeDiff, csl_f, csr_f, cn_f, lg_cmp_eq, lg_cmp_le, lg_cmp_lt, lg_cmp_ge, lg_cmp_gt, nI_1, zr_up_self, zp_O, zr_fup_self, zr_fup_ne, ne_eq, Nat.reduceEqDiff, not_false_eq_true, pk_mul, v.1, zy_I, zy_14, k14]
      refine ⟨fun y => absurd trivial y, fun _ => ?_⟩
      simp only [zs_141_0, zs_141_1, zs_141_4, zs_141_4u, zs_141_5, zs_141_7, zt_141_7, zs_141_10, zs_141_10u, zs_141_11, zs_141_14, zs_141_17, zs_141_17u, zs_141_18, zt_141_18, zc_isO, zr_fld_mk, zc_isA, zc_len, zr_elt_mk, zr_kill_i, zr_kill_l, zr_kill_r, zr_kill_u, zr_kill_f, zr_kill_n, zc_cat, zr_cat_i, zr_cat_l, zr_cat_r, zr_cat_f, zr_cat_d, zr_cat_u, beq_self_eq_true, Nat.zero_le, Nat.le_refl, Nat.reduceSub, Nat.reduceAdd, Nat.reduceLeDiff, csl_f, csr_f, cn_f, lg_cmp_eq, lg_cmp_le, lg_cmp_lt, lg_cmp_ge, lg_cmp_gt, nI_1, zr_up_self, zp_O, zr_fup_self, zr_fup_ne, ne_eq, Nat.reduceEqDiff, not_false_eq_true, pk_mul, v.1, zy_I]
      rw [hp] at hQ
      have el := tkE_le (f := f) tk.2.2.2.2.1
      refine k_next (d := d) v tk.2.1 el.2 (fun K' t' h14 h15 q' _ => ?_)
      simp only [zs_141_0, zs_141_1, zs_141_4, zs_141_4u, zs_141_5, zs_141_7, zt_141_7, zs_141_10, zs_141_10u, zs_141_11, zs_141_14, zs_141_17, zs_141_17u, zs_141_18, zt_141_18, zs_141_21, zc_isO, zr_fld_mk, zc_isA, zc_len, zr_elt_mk, zr_kill_i, zr_kill_l, zr_kill_r, zr_kill_u, zr_kill_f, zr_kill_n, zc_cat, zr_cat_i, zr_cat_l, zr_cat_r, zr_cat_f, zr_cat_d, zr_cat_u, beq_self_eq_true, Nat.zero_le, Nat.le_refl, Nat.reduceSub, Nat.reduceAdd, Nat.reduceLeDiff, csl_f, csr_f, cn_f, lg_cmp_eq, lg_cmp_le, lg_cmp_lt, lg_cmp_ge, lg_cmp_gt, nI_1, zr_up_self, zp_O, zr_fup_self, zr_fup_ne, ne_eq, Nat.reduceEqDiff, not_false_eq_true, pk_mul]
      exact hQ K' ⟨_, t', fun _ => ⟨h14.trans k14, rfl, el.2⟩, (fun y => by cases y)⟩ q'
  · obtain ⟨k3, k14, k15⟩ := r0 z
    rw [andT_f z] at hQ tail
    have base : zr_Z (d + 3) 141 Q 10 [some (.ref m), some (.int (bI x))] [] h 0 0 := tail h K v k14 (up_id v.1) ⟨p, tk, r1, r0⟩ (kq_r K)
    cases x
    · rw [bI_f] at base ⊢
      simp only [zs_141_0, zs_141_1, zs_141_5, zs_141_7, zt_141_7, zs_141_11, zs_141_14, zs_141_17, zs_141_17u, zs_141_18, zt_141_18, zs_141_21, zc_isO, zr_fld_mk, zc_isA, zc_len, zr_elt_mk, zr_kill_i, zr_kill_l, zr_kill_r, zr_kill_u, zr_kill_f, zr_kill_n, zc_cat, zr_cat_i, zr_cat_l, zr_cat_r, zr_cat_f, zr_cat_d, zr_cat_u, beq_self_eq_true, Nat.zero_le, Nat.le_refl, Nat.reduceSub, Nat.reduceAdd, Nat.reduceLeDiff, csl_f, csr_f, cn_f, lg_cmp_eq, lg_cmp_le, lg_cmp_lt, lg_cmp_ge, lg_cmp_gt, nI_1, zr_up_self, zp_O, zr_fup_self, zr_fup_ne, ne_eq, Nat.reduceEqDiff, not_false_eq_true, pk_mul]
      refine ⟨fun y => absurd trivial y, fun _ => ?_⟩
      simp only [zs_141_0, zs_141_1, zs_141_4, zs_141_4u, zs_141_5, zs_141_7, zt_141_7, zs_141_11, zs_141_14, zs_141_17, zs_141_17u, zs_141_18, zt_141_18, zs_141_21, zc_isO, zr_fld_mk, zc_isA, zc_len, zr_elt_mk, zr_kill_i, zr_kill_l, zr_kill_r, zr_kill_u, zr_kill_f, zr_kill_n, zc_cat, zr_cat_i, zr_cat_l, zr_cat_r, zr_cat_f, zr_cat_d, zr_cat_u, beq_self_eq_true, Nat.zero_le, Nat.le_refl, Nat.reduceSub, Nat.reduceAdd, Nat.reduceLeDiff, csl_f, csr_f, cn_f, lg_cmp_eq, lg_cmp_le, lg_cmp_lt, lg_cmp_ge, lg_cmp_gt, nI_1, zr_up_self, zp_O, zr_fup_self, zr_fup_ne, ne_eq, Nat.reduceEqDiff, not_false_eq_true, pk_mul, v.1, zy_I]
      refine k_mfails (d := d + 2) v ?_
      have ek : kF K (-2) = K := if_neg k14
      rw [ek, up_id v.1]
      simp only [zs_141_0, zs_141_1, zs_141_4, zs_141_4u, zs_141_5, zs_141_7, zt_141_7, zs_141_11, zs_141_14, zs_141_17, zs_141_17u, zs_141_18, zt_141_18, zs_141_21, zc_isO, zr_fld_mk, zc_isA, zc_len, zr_elt_mk, zr_kill_i, zr_kill_l, zr_kill_r, zr_kill_u, zr_kill_f, zr_kill_n, zc_cat, zr_cat_i, zr_cat_l, zr_cat_r, zr_cat_f, zr_cat_d, zr_cat_u, beq_self_eq_true, Nat.zero_le, Nat.le_refl, Nat.reduceSub, Nat.reduceAdd, Nat.reduceLeDiff, csl_f, csr_f, cn_f, lg_cmp_eq, lg_cmp_le, lg_cmp_lt, lg_cmp_ge, lg_cmp_gt, nI_1, zr_up_self, zp_O, zr_fup_self, zr_fup_ne, ne_eq, Nat.reduceEqDiff, not_false_eq_true, pk_mul]
      exact base
    · rw [bI_t] at base ⊢
      simp only [zs_141_0, zs_141_1, zs_141_5, zs_141_7, zt_141_7, zs_141_11, zs_141_14, zs_141_17, zs_141_17u, zs_141_18, zt_141_18, zs_141_21, zc_isO, zr_fld_mk, zc_isA, zc_len, zr_elt_mk, zr_kill_i, zr_kill_l, zr_kill_r, zr_kill_u, zr_kill_f, zr_kill_n, zc_cat, zr_cat_i, zr_cat_l, zr_cat_r, zr_cat_f, zr_cat_d, zr_cat_u, beq_self_eq_true, Nat.zero_le, Nat.le_refl, Nat.reduceSub, Nat.reduceAdd, Nat.reduceLeDiff, csl_f, csr_f, cn_f, lg_cmp_eq, lg_cmp_le, lg_cmp_lt, lg_cmp_ge, lg_cmp_gt, nI_1, zr_up_self, zp_O, zr_fup_self, zr_fup_ne, ne_eq, Nat.reduceEqDiff, not_false_eq_true, pk_mul]
      exact ⟨fun _ => base, fun y => absurd y (by decide)⟩
theorem k_msemi (v : mz h m E K L n f) (t : rlM f n K r) (hQ : ∀ K', rlM f n K' (andT r (fSemi f n)) → kq K K' → Q (.inl none) (zr_up h m (zym E K' L))) : zr_E (d + 5) 142 [.ref m] h Q := by
  obtain ⟨p, tk, r1, r0⟩ := id t
  have n300 := v.2.2.1
  have k3 := tkK_le (f := f) (n := n) (p := p)
  have hp := tk.2.2.2.2.1
  have go : ∀ x : Bool, (r.1 = true → x = decide (by_ f n (sp iSp f n r.2.1) = 59)) → zr_Z (d + 4) 142 Q 27 [some (.ref m)] [.int (bI x), .ref m] h 0 0 := by
    intro x hx
    simp only [zs_142_0, zs_142_0u, zs_142_1, zs_142_1u, zs_142_2, zs_142_5, zs_142_6, zs_142_9, zs_142_9u, zs_142_10, zs_142_10u, zs_142_11, zs_142_14, zt_142_14, zs_142_17, zs_142_19, zs_142_22, zs_142_23, zs_142_26, zs_142_27, zt_142_27, zc_isO, zr_fld_mk, zc_isA, zc_len, zr_elt_mk, zr_kill_i, zr_kill_l, zr_kill_r, zr_kill_u, zr_kill_f, zr_kill_n, zc_cat, zr_cat_i, zr_cat_l, zr_cat_r, zr_cat_f, zr_cat_d, zr_cat_u, beq_self_eq_true, Nat.zero_le, Nat.le_refl, Nat.reduceSub, Nat.reduceAdd, Nat.reduceLeDiff, csl_f, csr_f, cn_f, lg_cmp_eq, lg_cmp_le, lg_cmp_lt, lg_cmp_ge, lg_cmp_gt, nI_1, zr_up_self, zp_O, zr_fup_self, zr_fup_ne, ne_eq, Nat.reduceEqDiff, not_false_eq_true, pk_mul, v.1, zy_I]
    refine k_must (d := d) v t (fun K' r' q' => ?_)
    simp only [zs_142_0, zs_142_0u, zs_142_1, zs_142_1u, zs_142_2, zs_142_5, zs_142_6, zs_142_9, zs_142_9u, zs_142_10, zs_142_10u, zs_142_11, zs_142_14, zt_142_14, zs_142_17, zs_142_19, zs_142_22, zs_142_23, zs_142_26, zs_142_27, zt_142_27, zs_142_30, zc_isO, zr_fld_mk, zc_isA, zc_len, zr_elt_mk, zr_kill_i, zr_kill_l, zr_kill_r, zr_kill_u, zr_kill_f, zr_kill_n, zc_cat, zr_cat_i, zr_cat_l, zr_cat_r, zr_cat_f, zr_cat_d, zr_cat_u, beq_self_eq_true, Nat.zero_le, Nat.le_refl, Nat.reduceSub, Nat.reduceAdd, Nat.reduceLeDiff, csl_f, csr_f, cn_f, lg_cmp_eq, lg_cmp_le, lg_cmp_lt, lg_cmp_ge, lg_cmp_gt, nI_1, zr_up_self, zp_O, zr_fup_self, zr_fup_ne, ne_eq, Nat.reduceEqDiff, not_false_eq_true, pk_mul]
    refine hQ K' ?_ q'
    rcases tf_c r.1 with z | z
    · rw [andT_t z] at r' ⊢
      rw [must_semi, ← hx z]
      exact r'
    · rw [andT_f z] at r' ⊢
      exact r'
  rw [ze_142]
  simp only [zs_142_0, zs_142_0u, zs_142_1, zs_142_1u, zs_142_2, zs_142_5, zs_142_6, zs_142_10, zs_142_10u, zs_142_11, zs_142_14, zt_142_14, zs_142_17, zs_142_19, zs_142_22, zs_142_23, zs_142_27, zt_142_27, zs_142_30, zc_isO, zr_fld_mk, zc_isA, zc_len, zr_elt_mk, zr_kill_i, zr_kill_l, zr_kill_r, zr_kill_u, zr_kill_f, zr_kill_n, zc_cat, zr_cat_i, zr_cat_l, zr_cat_r, zr_cat_f, zr_cat_d, zr_cat_u, beq_self_eq_true, Nat.zero_le, Nat.le_refl, Nat.reduceSub, Nat.reduceAdd, Nat.reduceLeDiff, csl_f, csr_f, cn_f, lg_cmp_eq, lg_cmp_le, lg_cmp_lt, lg_cmp_ge, lg_cmp_gt, nI_1, zr_up_self, zp_O, zr_fup_self, zr_fup_ne, ne_eq, Nat.reduceEqDiff, not_false_eq_true, pk_mul, v.1, zy_I, zy_12, tk.2.2.1]
  have t2 : nI (tkK f n p) = 2 ↔ tkK f n p = 2 := nI_eq (b := 2) (by omega) (by omega)
  rw [t2]
  refine ⟨fun u => ?_, fun u => ?_⟩
  · simp only [zs_142_0, zs_142_0u, zs_142_1, zs_142_1u, zs_142_2, zs_142_5, zs_142_6, zs_142_9, zs_142_9u, zs_142_10, zs_142_10u, zs_142_11, zs_142_14, zt_142_14, zs_142_17, zs_142_19, zs_142_22, zs_142_23, zs_142_26, zs_142_30, zc_isO, zr_fld_mk, zc_isA, zc_len, zr_elt_mk, zr_kill_i, zr_kill_l, zr_kill_r, zr_kill_u, zr_kill_f, zr_kill_n, zc_cat, zr_cat_i, zr_cat_l, zr_cat_r, zr_cat_f, zr_cat_d, zr_cat_u, beq_self_eq_true, Nat.zero_le, Nat.le_refl, Nat.reduceSub, Nat.reduceAdd, Nat.reduceLeDiff, csl_f, csr_f, cn_f, lg_cmp_eq, lg_cmp_le, lg_cmp_lt, lg_cmp_ge, lg_cmp_gt, nI_1, zr_up_self, zp_O, zr_fup_self, zr_fup_ne, ne_eq, Nat.reduceEqDiff, not_false_eq_true, pk_mul]
    refine go false (fun z => ?_)
    rw [(r1 z).2.1]
    exact (decide_eq_false (fun y => u (tkE_59 y).1)).symm
  · simp only [zs_142_0, zs_142_0u, zs_142_1, zs_142_1u, zs_142_2, zs_142_5, zs_142_6, zs_142_9, zs_142_9u, zs_142_10, zs_142_10u, zs_142_11, zs_142_14, zt_142_14, zs_142_17, zs_142_19, zs_142_23, zs_142_27, zt_142_27, zs_142_30, zc_isO, zr_fld_mk, zc_isA, zc_len, zr_elt_mk, zr_kill_i, zr_kill_l, zr_kill_r, zr_kill_u, zr_kill_f, zr_kill_n, zc_cat, zr_cat_i, zr_cat_l, zr_cat_r, zr_cat_f, zr_cat_d, zr_cat_u, beq_self_eq_true, Nat.zero_le, Nat.le_refl, Nat.reduceSub, Nat.reduceAdd, Nat.reduceLeDiff, csl_f, csr_f, cn_f, lg_cmp_eq, lg_cmp_le, lg_cmp_lt, lg_cmp_ge, lg_cmp_gt, nI_1, zr_up_self, zp_O, zr_fup_self, zr_fup_ne, ne_eq, Nat.reduceEqDiff, not_false_eq_true, pk_mul, v.1, zy_I, zy_10, tk.1]
    refine k_see (d := d + 3) v (by omega) ?_
    simp only [zs_142_0, zs_142_0u, zs_142_1, zs_142_1u, zs_142_2, zs_142_5, zs_142_6, zs_142_9, zs_142_9u, zs_142_10, zs_142_10u, zs_142_11, zs_142_14, zt_142_14, zs_142_17, zs_142_19, zs_142_23, zs_142_27, zt_142_27, zs_142_30, zc_isO, zr_fld_mk, zc_isA, zc_len, zr_elt_mk, zr_kill_i, zr_kill_l, zr_kill_r, zr_kill_u, zr_kill_f, zr_kill_n, zc_cat, zr_cat_i, zr_cat_l, zr_cat_r, zr_cat_f, zr_cat_d, zr_cat_u, beq_self_eq_true, Nat.zero_le, Nat.le_refl, Nat.reduceSub, Nat.reduceAdd, Nat.reduceLeDiff, csl_f, csr_f, cn_f, lg_cmp_eq, lg_cmp_le, lg_cmp_lt, lg_cmp_ge, lg_cmp_gt, nI_1, zr_up_self, zp_O, zr_fup_self, zr_fup_ne, ne_eq, Nat.reduceEqDiff, not_false_eq_true, pk_mul]
    refine ⟨fun u2 => ?_, fun u2 => ?_⟩
    · simp only [zs_142_0, zs_142_0u, zs_142_1, zs_142_1u, zs_142_2, zs_142_5, zs_142_6, zs_142_9, zs_142_9u, zs_142_10, zs_142_10u, zs_142_11, zs_142_14, zt_142_14, zs_142_17, zs_142_19, zs_142_22, zs_142_23, zs_142_26, zs_142_30, zc_isO, zr_fld_mk, zc_isA, zc_len, zr_elt_mk, zr_kill_i, zr_kill_l, zr_kill_r, zr_kill_u, zr_kill_f, zr_kill_n, zc_cat, zr_cat_i, zr_cat_l, zr_cat_r, zr_cat_f, zr_cat_d, zr_cat_u, beq_self_eq_true, Nat.zero_le, Nat.le_refl, Nat.reduceSub, Nat.reduceAdd, Nat.reduceLeDiff, csl_f, csr_f, cn_f, lg_cmp_eq, lg_cmp_le, lg_cmp_lt, lg_cmp_ge, lg_cmp_gt, nI_1, zr_up_self, zp_O, zr_fup_self, zr_fup_ne, ne_eq, Nat.reduceEqDiff, not_false_eq_true, pk_mul]
      refine go false (fun z => ?_)
      rw [(r1 z).2.1]
      exact (decide_eq_false u2).symm
    · simp only [zs_142_0, zs_142_0u, zs_142_1, zs_142_1u, zs_142_2, zs_142_5, zs_142_6, zs_142_9, zs_142_9u, zs_142_10, zs_142_10u, zs_142_11, zs_142_14, zt_142_14, zs_142_17, zs_142_19, zs_142_22, zs_142_23, zs_142_26, zs_142_30, zc_isO, zr_fld_mk, zc_isA, zc_len, zr_elt_mk, zr_kill_i, zr_kill_l, zr_kill_r, zr_kill_u, zr_kill_f, zr_kill_n, zc_cat, zr_cat_i, zr_cat_l, zr_cat_r, zr_cat_f, zr_cat_d, zr_cat_u, beq_self_eq_true, Nat.zero_le, Nat.le_refl, Nat.reduceSub, Nat.reduceAdd, Nat.reduceLeDiff, csl_f, csr_f, cn_f, lg_cmp_eq, lg_cmp_le, lg_cmp_lt, lg_cmp_ge, lg_cmp_gt, nI_1, zr_up_self, zp_O, zr_fup_self, zr_fup_ne, ne_eq, Nat.reduceEqDiff, not_false_eq_true, pk_mul]
      refine go true (fun z => ?_)
      rw [(r1 z).2.1]
      exact (decide_eq_true u2).symm
end MODEL
