/-! THE MODEL'S READER: numbers -/
section PURE
variable {f : Nat → Int32} {n p : Nat}
def vR (v w : Int32) : Prop := v.toInt = min w.toInt 1000 ∧ 0 ≤ w.toInt ∧ w.toInt ≤ 9999
theorem vR_step {v w c : Int32} (h : vR v w) (hc : iDi c = true) : vR (nst v c) (mst w c) := by
  obtain ⟨h1, h2, h3⟩ := h
  unfold iDi at hc
  rw [Bool.and_eq_true, decide_eq_true_iff, decide_eq_true_iff, Int32.le_iff_toInt_le, Int32.le_iff_toInt_le] at hc
  have e1 : (48 : Int32).toInt = 48 := rfl
  have e2 : (57 : Int32).toInt = 57 := rfl
  have e3 : (1000 : Int32).toInt = 1000 := rfl
  have e4 : (10 : Int32).toInt = 10 := rfl
  have key : ∀ x : Int32, 0 ≤ x.toInt → x.toInt ≤ 1000 → (10 * x + c - 48).toInt = 10 * x.toInt + c.toInt - 48 := by
    intro x a1 a2
    have m1 : (10 * x).toInt = 10 * x.toInt := by
      rw [Int32.toInt_mul, e4, Int.bmod_eq_of_le (by omega) (by omega)]
    have m2 : (10 * x + c).toInt = 10 * x.toInt + c.toInt := by
      rw [Int32.toInt_add, m1, Int.bmod_eq_of_le (by omega) (by omega)]
    rw [Int32.toInt_sub, m2, e1, Int.bmod_eq_of_le (by omega) (by omega)]
  have kv := key v (by omega) (by omega)
  unfold nst mst vR
  by_cases c1 : w < 1000
  · rw [if_pos c1]
    rw [Int32.lt_iff_toInt_lt, e3] at c1
    have kw := key w (by omega) (by omega)
    by_cases c2 : 1000 < 10 * v + c - 48
    · rw [if_pos c2]
      rw [Int32.lt_iff_toInt_lt, e3] at c2
      omega
    · rw [if_neg c2]
      rw [Int32.lt_iff_toInt_lt, e3] at c2
      omega
  · rw [if_neg c1]
    rw [Int32.lt_iff_toInt_lt, e3] at c1
    have c2 : 1000 < 10 * v + c - 48 := by
      rw [Int32.lt_iff_toInt_lt, e3]
      omega
    rw [if_pos c2]
    omega
theorem vR_all (t : Nat) : ∀ a v w, vR v w → vR (nvl f n t a v) (mvl f n t a w) := by
  induction t with
  | zero => intro a v w h; exact h
  | succ t ih =>
    intro a v w h
    change vR (if a < n ∧ iDi (f a &&& 255) = true then nvl f n t (a + 1) (nst v (f a &&& 255)) else v) (if a < n ∧ iDi (f a &&& 255) = true then mvl f n t (a + 1) (mst w (f a &&& 255)) else w)
    by_cases c : a < n ∧ iDi (f a &&& 255) = true
    · rw [if_pos c, if_pos c]
      exact ih _ _ _ (vR_step h c.2)
    · rw [if_neg c, if_neg c]
      exact h
theorem vR_in {v w lo hi : Int32} (h : vR v w) (hh : hi ≤ 99) : ((lo ≤ v ∧ v ≤ hi) ↔ (lo ≤ w ∧ w ≤ hi)) ∧ ((lo ≤ w ∧ w ≤ hi) → v = w) := by
  obtain ⟨h1, h2, h3⟩ := h
  have e3 : (99 : Int32).toInt = 99 := rfl
  rw [Int32.le_iff_toInt_le, Int32.le_iff_toInt_le, Int32.le_iff_toInt_le, Int32.le_iff_toInt_le]
  rw [Int32.le_iff_toInt_le, e3] at hh
  refine ⟨by omega, fun z => ?_⟩
  apply Int32.toInt_inj.mp
  omega
def fTk (f : Nat → Int32) (n : Nat) (lo hi : Int32) (s : rst) : Bool × rst := (decide (¬ (fNum f n lo hi s).1 = -1), (fNum f n lo hi s).2)
end PURE
section MODEL
variable {d : Nat} {h h' : zr_H} {Q : zr_K} {m q : Nat} {E : Nat → Nat} {K : Nat → Int32} {L : Nat → Int64} {n p a : Nat} {f : Nat → Int32} {W : List Int32} {r : Bool × rst}
theorem kF_o {c : Int32} (k14 : K 14 = 0) : kF K c 14 = c ∧ kF K c 15 = K 10 ∧ (∀ k, k ≠ 14 → k ≠ 15 → kF K c k = K k) := by
  have ek : kF K c = fI (fI K 14 c) 15 (K 10) := if_pos k14
  exact ⟨by rw [ek, fI_n _ _ (by omega), fI_s], by rw [ek, fI_s], fun k h1 h2 => by rw [ek, fI_n _ _ h2, fI_n _ _ h1]⟩
theorem tkS_o {K1 : Nat → Int32} (t : tkS f n K p) (eo : ∀ k, k ≠ 14 → k ≠ 15 → K1 k = K k) : tkS f n K1 p := by
  obtain ⟨t10, t11, t12, t13, t14⟩ := t
  exact ⟨(eo 10 (by omega) (by omega)).trans t10, (eo 11 (by omega) (by omega)).trans t11, (eo 12 (by omega) (by omega)).trans t12, fun y => (eo 13 (by omega) (by omega)).trans (t13 y), t14⟩
theorem k_takes {lo hi : Int32} (v : mz h m E K L n f) (t : rlM f n K r) (hl : 0 ≤ lo) (hh : hi ≤ 99) (hQ : ∀ K' x, rlM f n K' (andT r (fTk f n lo hi)) → ((andT r (fTk f n lo hi)).1 = true → x = (fNum f n lo hi r.2).1) → kq K K' → Q (.inl (some (.int x))) (zr_up h m (zym E K' L))) : zr_E (d + 4) 143 [.ref m, .int lo, .int hi] h Q := by
  obtain ⟨p, tk, r1, r0⟩ := id t
  have n300 := v.2.2.1
  have k3 := tkK_le (f := f) (n := n) (p := p)
  have hp := tk.2.2.2.2.1
  have el := tkE_le (f := f) hp
  have stop : ∀ K1, mz (zr_up h m (zym E K1 L)) m E K1 L n f → ¬ K1 14 = 0 → rlM f n K1 (andT r (fTk f n lo hi)) → ((andT r (fTk f n lo hi)).1 = true → False) → kq K K1 → zr_Z (d + 3) 143 Q 52 [some (.ref m), some (.int lo), some (.int hi), none] [] (zr_up h m (zym E K1 L)) 0 0 := by
    intro K1 v1 n14 r2 rf q1
    simp only [zs_143_0, zs_143_0u, zs_143_1, zs_143_4, zs_143_7, zs_143_7u, zs_143_8, zs_143_11, zs_143_12, zs_143_15, zs_143_15u, zs_143_16, zs_143_18, zt_143_18, zs_143_21, zs_143_24, zs_143_24u, zs_143_25, zs_143_28, zs_143_31, zs_143_31u, zs_143_32, zs_143_35, zs_143_36, zs_143_37, zs_143_38, zs_143_39, zs_143_40, zt_143_40, zs_143_43, zs_143_46, zs_143_46u, zs_143_47, zs_143_49, zt_143_49, zs_143_52, zs_143_52u, zs_143_53, zs_143_56, zs_143_57, zs_143_57u, zs_143_58, zs_143_61, zs_143_65, zt_143_65, zs_143_69, zc_isO, zr_fld_mk, zc_isA, zc_len, zr_elt_mk, zr_kill_i, zr_kill_l, zr_kill_r, zr_kill_u, zr_kill_f, zr_kill_n, zc_cat, zr_cat_i, zr_cat_l, zr_cat_r, zr_cat_f, zr_cat_d, zr_cat_u, beq_self_eq_true, Nat.zero_le, Nat.le_refl, Nat.reduceSub, Nat.reduceAdd, Nat.reduceLeDiff, csl_f, csr_f, cn_f, lg_cmp_eq, lg_cmp_le, lg_cmp_lt, lg_cmp_ge, lg_cmp_gt, nI_1, zr_up_self, zp_O, zr_fup_self, zr_fup_ne, ne_eq, Nat.reduceEqDiff, not_false_eq_true, pk_mul, v1.1, zy_I, zy_13, zy_14]
    refine ⟨fun _ => ?_, fun y => absurd y n14⟩
    simp only [zs_143_0, zs_143_0u, zs_143_1, zs_143_4, zs_143_7, zs_143_7u, zs_143_8, zs_143_11, zs_143_12, zs_143_15, zs_143_15u, zs_143_16, zs_143_18, zt_143_18, zs_143_21, zs_143_24, zs_143_24u, zs_143_25, zs_143_28, zs_143_31, zs_143_31u, zs_143_32, zs_143_35, zs_143_36, zs_143_37, zs_143_38, zs_143_39, zs_143_40, zt_143_40, zs_143_43, zs_143_46, zs_143_46u, zs_143_47, zs_143_49, zt_143_49, zs_143_52, zs_143_52u, zs_143_53, zs_143_56, zs_143_57, zs_143_57u, zs_143_58, zs_143_61, zs_143_64, zs_143_64u, zs_143_65, zt_143_65, zs_143_68, zs_143_69, zc_isO, zr_fld_mk, zc_isA, zc_len, zr_elt_mk, zr_kill_i, zr_kill_l, zr_kill_r, zr_kill_u, zr_kill_f, zr_kill_n, zc_cat, zr_cat_i, zr_cat_l, zr_cat_r, zr_cat_f, zr_cat_d, zr_cat_u, beq_self_eq_true, Nat.zero_le, Nat.le_refl, Nat.reduceSub, Nat.reduceAdd, Nat.reduceLeDiff, csl_f, csr_f, cn_f, lg_cmp_eq, lg_cmp_le, lg_cmp_lt, lg_cmp_ge, lg_cmp_gt, nI_1, zr_up_self, zp_O, zr_fup_self, zr_fup_ne, ne_eq, Nat.reduceEqDiff, not_false_eq_true, pk_mul]
    exact hQ K1 _ r2 (fun z => (rf z).elim) q1
  rw [ze_143]
  rcases tf_c r.1 with z | z
  · obtain ⟨k14, hs, hn⟩ := r1 z
    have e14 : ∀ x : Prop, (¬ (0 : Int32) = 0 → x) := fun x y => absurd rfl y
    simp only [zs_143_0, zs_143_0u, zs_143_1, zs_143_4, zs_143_8, zs_143_11, zs_143_12, zs_143_15, zs_143_15u, zs_143_16, zs_143_18, zt_143_18, zs_143_21, zs_143_25, zs_143_28, zs_143_31, zs_143_31u, zs_143_32, zs_143_35, zs_143_36, zs_143_37, zs_143_38, zs_143_39, zs_143_40, zt_143_40, zs_143_43, zs_143_46, zs_143_46u, zs_143_47, zs_143_49, zt_143_49, zs_143_52, zs_143_52u, zs_143_53, zs_143_56, zs_143_57, zs_143_57u, zs_143_58, zs_143_61, zs_143_64, zs_143_64u, zs_143_65, zt_143_65, zs_143_68, zs_143_69, zc_isO, zr_fld_mk, zc_isA, zc_len, zr_elt_mk, zr_kill_i, zr_kill_l, zr_kill_r, zr_kill_u, zr_kill_f, zr_kill_n, zc_cat, zr_cat_i, zr_cat_l, zr_cat_r, zr_cat_f, zr_cat_d, zr_cat_u, beq_self_eq_true, Nat.zero_le, Nat.le_refl, Nat.reduceSub, Nat.reduceAdd, Nat.reduceLeDiff, csl_f, csr_f, cn_f, lg_cmp_eq, lg_cmp_le, lg_cmp_lt, lg_cmp_ge, lg_cmp_gt, nI_1, zr_up_self, zp_O, zr_fup_self, zr_fup_ne, ne_eq, Nat.reduceEqDiff, not_false_eq_true, pk_mul, v.1, zy_I, zy_14, k14]
    refine ⟨fun y => absurd trivial y, fun _ => ?_⟩
    simp only [zs_143_0, zs_143_0u, zs_143_1, zs_143_4, zs_143_7, zs_143_7u, zs_143_8, zs_143_11, zs_143_12, zs_143_16, zs_143_18, zt_143_18, zs_143_21, zs_143_25, zs_143_28, zs_143_31, zs_143_31u, zs_143_32, zs_143_35, zs_143_36, zs_143_37, zs_143_38, zs_143_39, zs_143_40, zt_143_40, zs_143_43, zs_143_46, zs_143_46u, zs_143_47, zs_143_49, zt_143_49, zs_143_52, zs_143_52u, zs_143_53, zs_143_56, zs_143_57, zs_143_57u, zs_143_58, zs_143_61, zs_143_64, zs_143_64u, zs_143_65, zt_143_65, zs_143_68, zs_143_69, zc_isO, zr_fld_mk, zc_isA, zc_len, zr_elt_mk, zr_kill_i, zr_kill_l, zr_kill_r, zr_kill_u, zr_kill_f, zr_kill_n, zc_cat, zr_cat_i, zr_cat_l, zr_cat_r, zr_cat_f, zr_cat_d, zr_cat_u, beq_self_eq_true, Nat.zero_le, Nat.le_refl, Nat.reduceSub, Nat.reduceAdd, Nat.reduceLeDiff, csl_f, csr_f, cn_f, lg_cmp_eq, lg_cmp_le, lg_cmp_lt, lg_cmp_ge, lg_cmp_gt, nI_1, zr_up_self, zp_O, zr_fup_self, zr_fup_ne, ne_eq, Nat.reduceEqDiff, not_false_eq_true, pk_mul, v.1, zy_I, zy_12, tk.2.2.1]
    rw [nI_eq1 (by omega)]
    have eR : andT r (fTk f n lo hi) = fTk f n lo hi r.2 := andT_t z
    have fail : ∀ c : Int32, ¬ c = 0 → (fTk f n lo hi r.2).1 = false → (fTk f n lo hi r.2).2.2.1 3 = c → (fTk f n lo hi r.2).2.2.1 7 = nI p → zr_Z (d + 3) 143 Q 52 [some (.ref m), some (.int lo), some (.int hi), none] [] (zr_up h m (zym E (kF K c) L)) 0 0 := by
      intro c hc ef e3 e7
      obtain ⟨f14, f15, fo⟩ := kF_o (c := c) k14
      refine stop (kF K c) (mz_up v (fo 9 (by omega) (by omega))) (by rw [f14]; exact hc) ?_ (fun y => by rw [eR, ef] at y; cases y) (fun k hk => fo k (by omega) (by omega))
      rw [eR]
      exact ⟨p, tkS_o tk fo, (fun y => by rw [ef] at y; cases y), fun _ => ⟨by rw [f14, e3], by rw [f14]; exact hc, by rw [f15, tk.1, e7]⟩⟩
    refine ⟨fun u => ?_, fun u => ?_⟩
    rotate_left
    · have c1 : sp iDi f n (sp iSp f n r.2.1) = sp iSp f n r.2.1 := by
        rw [hs]
        exact Classical.byContradiction (fun y => u (tkK_1.mpr y))
      have eN : fNum f n lo hi r.2 = (-1, sEr (sAt r.2 (sp iSp f n r.2.1)) (-2) (sp iSp f n r.2.1)) := by unfold fNum; rw [if_pos c1]
      simp only [zs_143_0, zs_143_0u, zs_143_1, zs_143_4, zs_143_7, zs_143_7u, zs_143_8, zs_143_11, zs_143_12, zs_143_15, zs_143_15u, zs_143_16, zs_143_18, zt_143_18, zs_143_24, zs_143_24u, zs_143_25, zs_143_28, zs_143_31, zs_143_31u, zs_143_32, zs_143_35, zs_143_36, zs_143_37, zs_143_38, zs_143_39, zs_143_40, zt_143_40, zs_143_43, zs_143_46, zs_143_46u, zs_143_47, zs_143_49, zt_143_49, zs_143_52, zs_143_52u, zs_143_53, zs_143_56, zs_143_57, zs_143_57u, zs_143_58, zs_143_61, zs_143_64, zs_143_64u, zs_143_65, zt_143_65, zs_143_68, zs_143_69, zc_isO, zr_fld_mk, zc_isA, zc_len, zr_elt_mk, zr_kill_i, zr_kill_l, zr_kill_r, zr_kill_u, zr_kill_f, zr_kill_n, zc_cat, zr_cat_i, zr_cat_l, zr_cat_r, zr_cat_f, zr_cat_d, zr_cat_u, beq_self_eq_true, Nat.zero_le, Nat.le_refl, Nat.reduceSub, Nat.reduceAdd, Nat.reduceLeDiff, csl_f, csr_f, cn_f, lg_cmp_eq, lg_cmp_le, lg_cmp_lt, lg_cmp_ge, lg_cmp_gt, nI_1, zr_up_self, zp_O, zr_fup_self, zr_fup_ne, ne_eq, Nat.reduceEqDiff, not_false_eq_true, pk_mul, v.1, zy_I]
      refine k_mfails (d := d + 2) v ?_
      simp only [zs_143_0, zs_143_0u, zs_143_1, zs_143_4, zs_143_7, zs_143_7u, zs_143_8, zs_143_11, zs_143_12, zs_143_15, zs_143_15u, zs_143_16, zs_143_18, zt_143_18, zs_143_21, zs_143_24, zs_143_24u, zs_143_25, zs_143_28, zs_143_31, zs_143_31u, zs_143_32, zs_143_35, zs_143_36, zs_143_37, zs_143_38, zs_143_39, zs_143_40, zt_143_40, zs_143_43, zs_143_46, zs_143_46u, zs_143_47, zs_143_49, zt_143_49, zs_143_53, zs_143_56, zs_143_57, zs_143_57u, zs_143_58, zs_143_61, zs_143_64, zs_143_64u, zs_143_65, zt_143_65, zs_143_68, zs_143_69, zc_isO, zr_fld_mk, zc_isA, zc_len, zr_elt_mk, zr_kill_i, zr_kill_l, zr_kill_r, zr_kill_u, zr_kill_f, zr_kill_n, zc_cat, zr_cat_i, zr_cat_l, zr_cat_r, zr_cat_f, zr_cat_d, zr_cat_u, beq_self_eq_true, Nat.zero_le, Nat.le_refl, Nat.reduceSub, Nat.reduceAdd, Nat.reduceLeDiff, csl_f, csr_f, cn_f, lg_cmp_eq, lg_cmp_le, lg_cmp_lt, lg_cmp_ge, lg_cmp_gt, nI_1, zr_up_self, zp_O, zr_fup_self, zr_fup_ne, ne_eq, Nat.reduceEqDiff, not_false_eq_true, pk_mul]
      refine fail (-2) (by decide) ?_ ?_ ?_
      · unfold fTk; rw [eN]; show decide (¬ (-1 : Int32) = -1) = false; decide
      · unfold fTk; rw [eN]; rfl
      · unfold fTk; rw [eN, hs]; rfl
    have c1 : ¬ sp iDi f n (sp iSp f n r.2.1) = sp iSp f n r.2.1 := by rw [hs]; exact tkK_1.mp u
    have k13 := tk.2.2.2.1 u
    have vr : vR (nvl f n (n - p) p 0) (mvl f n (n - p) p 0) := vR_all _ _ _ _ ⟨by decide, by decide, by decide⟩
    obtain ⟨i1, i2⟩ := vR_in (lo := lo) vr hh
    simp only [zs_143_0, zs_143_0u, zs_143_1, zs_143_4, zs_143_7, zs_143_7u, zs_143_8, zs_143_11, zs_143_12, zs_143_15, zs_143_15u, zs_143_16, zs_143_18, zt_143_18, zs_143_21, zs_143_24, zs_143_24u, zs_143_25, zs_143_28, zs_143_32, zs_143_35, zs_143_36, zs_143_37, zs_143_38, zs_143_39, zs_143_40, zt_143_40, zs_143_43, zs_143_46, zs_143_46u, zs_143_47, zs_143_49, zt_143_49, zs_143_53, zs_143_56, zs_143_57, zs_143_57u, zs_143_58, zs_143_61, zs_143_64, zs_143_64u, zs_143_65, zt_143_65, zs_143_68, zs_143_69, zc_isO, zr_fld_mk, zc_isA, zc_len, zr_elt_mk, zr_kill_i, zr_kill_l, zr_kill_r, zr_kill_u, zr_kill_f, zr_kill_n, zc_cat, zr_cat_i, zr_cat_l, zr_cat_r, zr_cat_f, zr_cat_d, zr_cat_u, beq_self_eq_true, Nat.zero_le, Nat.le_refl, Nat.reduceSub, Nat.reduceAdd, Nat.reduceLeDiff, csl_f, csr_f, cn_f, lg_cmp_eq, lg_cmp_le, lg_cmp_lt, lg_cmp_ge, lg_cmp_gt, nI_1, zr_up_self, zp_O, zr_fup_self, zr_fup_ne, ne_eq, Nat.reduceEqDiff, not_false_eq_true, pk_mul, v.1, zy_I, zy_14, k14]
    refine ⟨fun y => absurd trivial y, fun _ => ?_⟩
    simp only [zs_143_0, zs_143_0u, zs_143_1, zs_143_4, zs_143_7, zs_143_7u, zs_143_8, zs_143_11, zs_143_12, zs_143_15, zs_143_15u, zs_143_16, zs_143_18, zt_143_18, zs_143_21, zs_143_24, zs_143_24u, zs_143_25, zs_143_28, zs_143_31, zs_143_31u, zs_143_32, zs_143_35, zs_143_36, zs_143_37, zs_143_38, zs_143_39, zs_143_40, zt_143_40, zs_143_43, zs_143_46, zs_143_46u, zs_143_47, zs_143_49, zt_143_49, zs_143_52, zs_143_52u, zs_143_53, zs_143_56, zs_143_57, zs_143_57u, zs_143_58, zs_143_61, zs_143_64, zs_143_64u, zs_143_65, zt_143_65, zs_143_68, zs_143_69, zc_isO, zr_fld_mk, zc_isA, zc_len, zr_elt_mk, zr_kill_i, zr_kill_l, zr_kill_r, zr_kill_u, zr_kill_f, zr_kill_n, zc_cat, zr_cat_i, zr_cat_l, zr_cat_r, zr_cat_f, zr_cat_d, zr_cat_u, beq_self_eq_true, Nat.zero_le, Nat.le_refl, Nat.reduceSub, Nat.reduceAdd, Nat.reduceLeDiff, csl_f, csr_f, cn_f, lg_cmp_eq, lg_cmp_le, lg_cmp_lt, lg_cmp_ge, lg_cmp_gt, nI_1, zr_up_self, zp_O, zr_fup_self, zr_fup_ne, ne_eq, Nat.reduceEqDiff, not_false_eq_true, pk_mul, v.1, zy_I, zy_13, k13]
    refine k_isin (d := d + 2) (fun u2 => ?_) (fun u2 => ?_)
    · rw [i_l] at u2
      have vEq := i2 u2
      have eN : fNum f n lo hi r.2 = (nvl f n (n - p) p 0, sAt r.2 (sp iDi f n p)) := by
        unfold fNum
        rw [if_neg c1, hs, if_pos (i1.mpr u2)]
      have nn : ¬ nvl f n (n - p) p 0 = -1 := fun y => by
        rw [vEq] at y
        have := u2.1
        rw [y] at this
        have g := Int32.le_trans hl this
        exact absurd g (by decide)
      simp only [zs_143_0, zs_143_0u, zs_143_1, zs_143_4, zs_143_7, zs_143_7u, zs_143_8, zs_143_11, zs_143_12, zs_143_15, zs_143_15u, zs_143_16, zs_143_18, zt_143_18, zs_143_21, zs_143_24, zs_143_24u, zs_143_25, zs_143_28, zs_143_31, zs_143_31u, zs_143_32, zs_143_35, zs_143_36, zs_143_37, zs_143_38, zs_143_39, zs_143_40, zt_143_40, zs_143_43, zs_143_47, zs_143_49, zt_143_49, zs_143_53, zs_143_56, zs_143_57, zs_143_57u, zs_143_58, zs_143_61, zs_143_64, zs_143_64u, zs_143_65, zt_143_65, zs_143_68, zs_143_69, zc_isO, zr_fld_mk, zc_isA, zc_len, zr_elt_mk, zr_kill_i, zr_kill_l, zr_kill_r, zr_kill_u, zr_kill_f, zr_kill_n, zc_cat, zr_cat_i, zr_cat_l, zr_cat_r, zr_cat_f, zr_cat_d, zr_cat_u, beq_self_eq_true, Nat.zero_le, Nat.le_refl, Nat.reduceSub, Nat.reduceAdd, Nat.reduceLeDiff, csl_f, csr_f, cn_f, lg_cmp_eq, lg_cmp_le, lg_cmp_lt, lg_cmp_ge, lg_cmp_gt, nI_1, zr_up_self, zp_O, zr_fup_self, zr_fup_ne, ne_eq, Nat.reduceEqDiff, not_false_eq_true, pk_mul]
      refine ⟨fun _ => ?_, fun y => absurd y (by decide)⟩
      simp only [zs_143_0, zs_143_0u, zs_143_1, zs_143_4, zs_143_7, zs_143_7u, zs_143_8, zs_143_11, zs_143_12, zs_143_15, zs_143_15u, zs_143_16, zs_143_18, zt_143_18, zs_143_21, zs_143_24, zs_143_24u, zs_143_25, zs_143_28, zs_143_31, zs_143_31u, zs_143_32, zs_143_35, zs_143_36, zs_143_37, zs_143_38, zs_143_39, zs_143_40, zt_143_40, zs_143_43, zs_143_46, zs_143_46u, zs_143_47, zs_143_49, zt_143_49, zs_143_52, zs_143_52u, zs_143_53, zs_143_56, zs_143_57, zs_143_57u, zs_143_58, zs_143_61, zs_143_65, zt_143_65, zs_143_69, zc_isO, zr_fld_mk, zc_isA, zc_len, zr_elt_mk, zr_kill_i, zr_kill_l, zr_kill_r, zr_kill_u, zr_kill_f, zr_kill_n, zc_cat, zr_cat_i, zr_cat_l, zr_cat_r, zr_cat_f, zr_cat_d, zr_cat_u, beq_self_eq_true, Nat.zero_le, Nat.le_refl, Nat.reduceSub, Nat.reduceAdd, Nat.reduceLeDiff, csl_f, csr_f, cn_f, lg_cmp_eq, lg_cmp_le, lg_cmp_lt, lg_cmp_ge, lg_cmp_gt, nI_1, zr_up_self, zp_O, zr_fup_self, zr_fup_ne, ne_eq, Nat.reduceEqDiff, not_false_eq_true, pk_mul, v.1, zy_I, zy_13, zy_14, k13, k14]
      refine ⟨fun y => absurd trivial y, fun _ => ?_⟩
      simp only [zs_143_0, zs_143_0u, zs_143_1, zs_143_4, zs_143_7, zs_143_7u, zs_143_8, zs_143_11, zs_143_12, zs_143_15, zs_143_15u, zs_143_16, zs_143_18, zt_143_18, zs_143_21, zs_143_24, zs_143_24u, zs_143_25, zs_143_28, zs_143_31, zs_143_31u, zs_143_32, zs_143_35, zs_143_36, zs_143_37, zs_143_38, zs_143_39, zs_143_40, zt_143_40, zs_143_43, zs_143_46, zs_143_46u, zs_143_47, zs_143_49, zt_143_49, zs_143_52, zs_143_52u, zs_143_53, zs_143_56, zs_143_57, zs_143_57u, zs_143_58, zs_143_61, zs_143_64, zs_143_64u, zs_143_65, zt_143_65, zs_143_69, zc_isO, zr_fld_mk, zc_isA, zc_len, zr_elt_mk, zr_kill_i, zr_kill_l, zr_kill_r, zr_kill_u, zr_kill_f, zr_kill_n, zc_cat, zr_cat_i, zr_cat_l, zr_cat_r, zr_cat_f, zr_cat_d, zr_cat_u, beq_self_eq_true, Nat.zero_le, Nat.le_refl, Nat.reduceSub, Nat.reduceAdd, Nat.reduceLeDiff, csl_f, csr_f, cn_f, lg_cmp_eq, lg_cmp_le, lg_cmp_lt, lg_cmp_ge, lg_cmp_gt, nI_1, zr_up_self, zp_O, zr_fup_self, zr_fup_ne, ne_eq, Nat.reduceEqDiff, not_false_eq_true, pk_mul, v.1, zy_I]
      refine k_next (d := d) v tk.2.1 el.2 (fun K' t' h14 h15 q' _ => ?_)
      simp only [zs_143_0, zs_143_0u, zs_143_1, zs_143_4, zs_143_7, zs_143_7u, zs_143_8, zs_143_11, zs_143_12, zs_143_15, zs_143_15u, zs_143_16, zs_143_18, zt_143_18, zs_143_21, zs_143_24, zs_143_24u, zs_143_25, zs_143_28, zs_143_31, zs_143_31u, zs_143_32, zs_143_35, zs_143_36, zs_143_37, zs_143_38, zs_143_39, zs_143_40, zt_143_40, zs_143_43, zs_143_46, zs_143_46u, zs_143_47, zs_143_49, zt_143_49, zs_143_52, zs_143_52u, zs_143_53, zs_143_56, zs_143_57, zs_143_57u, zs_143_58, zs_143_61, zs_143_64, zs_143_64u, zs_143_65, zt_143_65, zs_143_68, zs_143_69, zc_isO, zr_fld_mk, zc_isA, zc_len, zr_elt_mk, zr_kill_i, zr_kill_l, zr_kill_r, zr_kill_u, zr_kill_f, zr_kill_n, zc_cat, zr_cat_i, zr_cat_l, zr_cat_r, zr_cat_f, zr_cat_d, zr_cat_u, beq_self_eq_true, Nat.zero_le, Nat.le_refl, Nat.reduceSub, Nat.reduceAdd, Nat.reduceLeDiff, csl_f, csr_f, cn_f, lg_cmp_eq, lg_cmp_le, lg_cmp_lt, lg_cmp_ge, lg_cmp_gt, nI_1, zr_up_self, zp_O, zr_fup_self, zr_fup_ne, ne_eq, Nat.reduceEqDiff, not_false_eq_true, pk_mul]
      refine hQ K' _ ?_ (fun _ => by rw [eN]; exact vEq.symm) q'
      rw [eR]
      unfold fTk
      rw [eN]
      have : tkE f n p = sp iDi f n p := tkE_1 u
      rw [this] at t' el
      exact ⟨_, t', fun _ => ⟨h14.trans k14, rfl, el.2⟩, (fun y => by rw [decide_eq_true nn] at y; cases y)⟩
    · rw [i_l] at u2
      have eN : fNum f n lo hi r.2 = (-1, sEr (sAt r.2 (sp iDi f n p)) (-3) p) := by
        unfold fNum
        rw [if_neg c1, hs, if_neg (fun y => u2 (i1.mp y))]
      simp only [zs_143_0, zs_143_0u, zs_143_1, zs_143_4, zs_143_7, zs_143_7u, zs_143_8, zs_143_11, zs_143_12, zs_143_15, zs_143_15u, zs_143_16, zs_143_18, zt_143_18, zs_143_21, zs_143_24, zs_143_24u, zs_143_25, zs_143_28, zs_143_31, zs_143_31u, zs_143_32, zs_143_35, zs_143_36, zs_143_37, zs_143_38, zs_143_39, zs_143_40, zt_143_40, zs_143_43, zs_143_47, zs_143_49, zt_143_49, zs_143_53, zs_143_56, zs_143_57, zs_143_57u, zs_143_58, zs_143_61, zs_143_64, zs_143_64u, zs_143_65, zt_143_65, zs_143_68, zs_143_69, zc_isO, zr_fld_mk, zc_isA, zc_len, zr_elt_mk, zr_kill_i, zr_kill_l, zr_kill_r, zr_kill_u, zr_kill_f, zr_kill_n, zc_cat, zr_cat_i, zr_cat_l, zr_cat_r, zr_cat_f, zr_cat_d, zr_cat_u, beq_self_eq_true, Nat.zero_le, Nat.le_refl, Nat.reduceSub, Nat.reduceAdd, Nat.reduceLeDiff, csl_f, csr_f, cn_f, lg_cmp_eq, lg_cmp_le, lg_cmp_lt, lg_cmp_ge, lg_cmp_gt, nI_1, zr_up_self, zp_O, zr_fup_self, zr_fup_ne, ne_eq, Nat.reduceEqDiff, not_false_eq_true, pk_mul]
      refine ⟨fun y => absurd trivial y, fun _ => ?_⟩
      simp only [zs_143_0, zs_143_0u, zs_143_1, zs_143_4, zs_143_7, zs_143_7u, zs_143_8, zs_143_11, zs_143_12, zs_143_15, zs_143_15u, zs_143_16, zs_143_18, zt_143_18, zs_143_21, zs_143_24, zs_143_24u, zs_143_25, zs_143_28, zs_143_31, zs_143_31u, zs_143_32, zs_143_35, zs_143_36, zs_143_37, zs_143_38, zs_143_39, zs_143_40, zt_143_40, zs_143_43, zs_143_46, zs_143_46u, zs_143_47, zs_143_49, zt_143_49, zs_143_53, zs_143_56, zs_143_57, zs_143_57u, zs_143_58, zs_143_61, zs_143_64, zs_143_64u, zs_143_65, zt_143_65, zs_143_68, zs_143_69, zc_isO, zr_fld_mk, zc_isA, zc_len, zr_elt_mk, zr_kill_i, zr_kill_l, zr_kill_r, zr_kill_u, zr_kill_f, zr_kill_n, zc_cat, zr_cat_i, zr_cat_l, zr_cat_r, zr_cat_f, zr_cat_d, zr_cat_u, beq_self_eq_true, Nat.zero_le, Nat.le_refl, Nat.reduceSub, Nat.reduceAdd, Nat.reduceLeDiff, csl_f, csr_f, cn_f, lg_cmp_eq, lg_cmp_le, lg_cmp_lt, lg_cmp_ge, lg_cmp_gt, nI_1, zr_up_self, zp_O, zr_fup_self, zr_fup_ne, ne_eq, Nat.reduceEqDiff, not_false_eq_true, pk_mul, v.1, zy_I]
      refine k_mfails (d := d + 2) v ?_
      simp only [zs_143_0, zs_143_0u, zs_143_1, zs_143_4, zs_143_7, zs_143_7u, zs_143_8, zs_143_11, zs_143_12, zs_143_15, zs_143_15u, zs_143_16, zs_143_18, zt_143_18, zs_143_21, zs_143_24, zs_143_24u, zs_143_25, zs_143_28, zs_143_31, zs_143_31u, zs_143_32, zs_143_35, zs_143_36, zs_143_37, zs_143_38, zs_143_39, zs_143_40, zt_143_40, zs_143_43, zs_143_46, zs_143_46u, zs_143_47, zs_143_49, zt_143_49, zs_143_53, zs_143_56, zs_143_57, zs_143_57u, zs_143_58, zs_143_61, zs_143_64, zs_143_64u, zs_143_65, zt_143_65, zs_143_68, zs_143_69, zc_isO, zr_fld_mk, zc_isA, zc_len, zr_elt_mk, zr_kill_i, zr_kill_l, zr_kill_r, zr_kill_u, zr_kill_f, zr_kill_n, zc_cat, zr_cat_i, zr_cat_l, zr_cat_r, zr_cat_f, zr_cat_d, zr_cat_u, beq_self_eq_true, Nat.zero_le, Nat.le_refl, Nat.reduceSub, Nat.reduceAdd, Nat.reduceLeDiff, csl_f, csr_f, cn_f, lg_cmp_eq, lg_cmp_le, lg_cmp_lt, lg_cmp_ge, lg_cmp_gt, nI_1, zr_up_self, zp_O, zr_fup_self, zr_fup_ne, ne_eq, Nat.reduceEqDiff, not_false_eq_true, pk_mul]
      refine fail (-3) (by decide) ?_ ?_ ?_
      · unfold fTk; rw [eN]; show decide (¬ (-1 : Int32) = -1) = false; decide
      · unfold fTk; rw [eN]; rfl
      · unfold fTk; rw [eN]; rfl
  · obtain ⟨k3', k14, k15⟩ := r0 z
    have eR : andT r (fTk f n lo hi) = r := andT_f z
    have base := stop K (by rw [up_id v.1]; exact v) k14 (by rw [eR]; exact t) (by rw [eR, z]; intro y; cases y) (kq_r K)
    rw [up_id v.1] at base
    simp only [zs_143_0, zs_143_0u, zs_143_1, zs_143_4, zs_143_8, zs_143_11, zs_143_12, zs_143_15, zs_143_15u, zs_143_16, zs_143_18, zt_143_18, zs_143_21, zs_143_25, zs_143_28, zs_143_31, zs_143_31u, zs_143_32, zs_143_35, zs_143_36, zs_143_37, zs_143_38, zs_143_39, zs_143_40, zt_143_40, zs_143_43, zs_143_46, zs_143_46u, zs_143_47, zs_143_49, zt_143_49, zs_143_52, zs_143_52u, zs_143_53, zs_143_56, zs_143_57, zs_143_57u, zs_143_58, zs_143_61, zs_143_64, zs_143_64u, zs_143_65, zt_143_65, zs_143_68, zs_143_69, zc_isO, zr_fld_mk, zc_isA, zc_len, zr_elt_mk, zr_kill_i, zr_kill_l, zr_kill_r, zr_kill_u, zr_kill_f, zr_kill_n, zc_cat, zr_cat_i, zr_cat_l, zr_cat_r, zr_cat_f, zr_cat_d, zr_cat_u, beq_self_eq_true, Nat.zero_le, Nat.le_refl, Nat.reduceSub, Nat.reduceAdd, Nat.reduceLeDiff, csl_f, csr_f, cn_f, lg_cmp_eq, lg_cmp_le, lg_cmp_lt, lg_cmp_ge, lg_cmp_gt, nI_1, zr_up_self, zp_O, zr_fup_self, zr_fup_ne, ne_eq, Nat.reduceEqDiff, not_false_eq_true, pk_mul, v.1, zy_I, zy_14]
    refine ⟨fun _ => ?_, fun y => absurd y k14⟩
    simp only [zs_143_0, zs_143_0u, zs_143_1, zs_143_4, zs_143_7, zs_143_7u, zs_143_8, zs_143_11, zs_143_12, zs_143_15, zs_143_15u, zs_143_16, zs_143_18, zt_143_18, zs_143_21, zs_143_24, zs_143_24u, zs_143_25, zs_143_28, zs_143_32, zs_143_35, zs_143_36, zs_143_37, zs_143_38, zs_143_39, zs_143_40, zt_143_40, zs_143_43, zs_143_46, zs_143_46u, zs_143_47, zs_143_49, zt_143_49, zs_143_53, zs_143_56, zs_143_57, zs_143_57u, zs_143_58, zs_143_61, zs_143_64, zs_143_64u, zs_143_65, zt_143_65, zs_143_68, zs_143_69, zc_isO, zr_fld_mk, zc_isA, zc_len, zr_elt_mk, zr_kill_i, zr_kill_l, zr_kill_r, zr_kill_u, zr_kill_f, zr_kill_n, zc_cat, zr_cat_i, zr_cat_l, zr_cat_r, zr_cat_f, zr_cat_d, zr_cat_u, beq_self_eq_true, Nat.zero_le, Nat.le_refl, Nat.reduceSub, Nat.reduceAdd, Nat.reduceLeDiff, csl_f, csr_f, cn_f, lg_cmp_eq, lg_cmp_le, lg_cmp_lt, lg_cmp_ge, lg_cmp_gt, nI_1, zr_up_self, zp_O, zr_fup_self, zr_fup_ne, ne_eq, Nat.reduceEqDiff, not_false_eq_true, pk_mul, v.1, zy_I, zy_14]
    exact ⟨fun _ => base, fun y => absurd y k14⟩
end MODEL
