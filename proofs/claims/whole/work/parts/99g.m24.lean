/-! THE MODEL: bytes appended -/
def aw (a b c d e : Int32) (k : Nat) : Int32 := if k < 4 then a else if k < 8 then b else if k < 12 then c else if k < 16 then d else e
def mbz (v : Int32) (k : Nat) : Int32 := (v >>> ((24 - 8 * (nI k - nI k / 4 * 4)) &&& 31)) &&& 255
def bfA (bf : Nat → Int32) (n : Nat) (a b c d e : Int32) (k : Nat) : Nat → Int32 := fun j => if n ≤ j ∧ j < n + k then mbz (aw a b c d e (j - n)) (j - n) else bf j
section MODEL
variable {d : Nat} {h h' : zr_H} {Q : zr_K} {m : Nat} {E : Nat → Nat} {K : Nat → Int32} {L : Nat → Int64} {G : gm} {H : List gm} {T : Nat → Option gm} {n l : Nat} {e : Int32} {bf wf : Nat → Int32} {f ff fk fs : Nat → Int64} {R S : Nat} {b w : Int64} {P : List (Int64 × Int64)} {I : Nat → Int32}
theorem mM_n (v : mM h m E K L G H T n e l bf wf) {n2 : Nat} : mM (zr_up h m (zym E (fI K 8 (nI n2)) L)) m E (fI K 8 (nI n2)) L G H T n2 e l bf wf ∧ fx (MX m E) h (zr_up h m (zym E (fI K 8 (nI n2)) L)) := by
  obtain ⟨f, ff, fk, fs, v, r, g, hk, ht, hl, k5, k8, k16, k23⟩ := v
  obtain ⟨v2, f2⟩ := ms_up v (fI K 8 (nI n2)) L
  exact ⟨⟨f, ff, fk, fs, v2, r, g, hk, ht, hl, (fI_n _ _ (by omega)).trans k5, fI_s _ _ _, (fI_n _ _ (by omega)).trans k16, (fI_n _ _ (by omega)).trans k23⟩, f2⟩
theorem mM_bf (v : mM h m E K L G H T n e l bf wf) {i : Nat} {y : Int32} {bf2 : Nat → Int32} (e2 : ∀ k, k < 300 → bf2 k = if k = i then y else bf k) : mM (zr_putA h (E 7) i (.int y)) m E K L G H T n e l bf2 wf ∧ fx (MX m E) h (zr_putA h (E 7) i (.int y)) := by
  obtain ⟨f, ff, fk, fs, v, r⟩ := v
  obtain ⟨v2, f2⟩ := ms_bf v (i := i) (y := .int y) (g := fun k => .int (bf2 k)) (fun k hk => by
    rw [e2 k hk]
    split <;> rfl)
  exact ⟨⟨f, ff, fk, fs, v2, r⟩, f2⟩
theorem mM_b7 (v : mM h m E K L G H T n e l bf wf) {i : Nat} (hi : i < 300) : zr_isA (h (E 7)) 0 = true ∧ vp_in (nI i) (zr_len (h (E 7))) ∧ zr_elt (h (E 7)) (nI i).toNatClampNeg = .int (bf i) := by
  obtain ⟨f, ff, fk, fs, v, r⟩ := v
  exact ⟨aV_isA v.2.2.2.2.2.2.1, aV_in v.2.2.2.2.2.2.1 hi (by omega), aV_elt v.2.2.2.2.2.2.1 hi (by omega)⟩
theorem k_mappend (v : mM h m E K L (R, S, b, w, P, I) H T n e l bf wf) (hn : n ≤ 300) {a1 a2 a3 a4 a5 : Int32} (q0 : 280 < n → mQM h m E Q [0] (R, S, b, w, P, I) H T n e l bf wf (.inr 0))
    (hQ : n ≤ 280 → mQM h m E Q [0] (R, S, b, w, P, I) H T (n + 20) e l (bfA bf n a1 a2 a3 a4 a5 20) wf (.inl (nI (n + 20)))) : zr_E (d + 1) 134 [.ref m, .int a1, .int a2, .int a3, .int a4, .int a5] h Q := by
  obtain ⟨f0, v0⟩ := mM_q v
  have k8 := (mM_23 v).2.1
  have c20 : nI n + 20 = nI (n + 20) := nI_add n 20
  rw [ze_134]
  simp only [zs_134_0, zs_134_0u, zs_134_1, zs_134_1u, zs_134_2, zs_134_5, zs_134_7, zs_134_8, zs_134_11, zs_134_15, zs_134_19, zs_134_22, zs_134_22u, zs_134_23, zs_134_26, zs_134_29, zs_134_30, zs_134_31, zs_134_32, zs_134_34, zs_134_36, zs_134_38, zs_134_41, zs_134_43, zs_134_44, zs_134_47, zs_134_48, zs_134_51, zs_134_53, zs_134_55, zs_134_58, zs_134_59, zs_134_62, zs_134_64, zs_134_66, zs_134_69, zs_134_70, zs_134_73, zs_134_75, zs_134_77, zs_134_80, zs_134_82, zs_134_85, zs_134_87, zs_134_89, zs_134_89u, zs_134_90, zs_134_93, zs_134_93u, zs_134_94, zs_134_97, zs_134_99, zs_134_101, zs_134_103, zs_134_105, zs_134_106, zs_134_107, zs_134_108, zs_134_109, zs_134_110, zs_134_113, zs_134_114, zs_134_115, zs_134_115u, zs_134_116, zs_134_116i, zs_134_117, zs_134_120, zs_134_121, zs_134_122, zs_134_125, zs_134_128, zs_134_131, zs_134_131u, zs_134_132, zs_134_135, zc_isO, zr_fld_mk, zc_isA, zc_len, zr_elt_mk, zr_kill_i, zr_kill_l, zr_kill_r, zr_kill_u, zr_kill_f, zr_kill_n, zc_cat, zr_cat_i, zr_cat_l, zr_cat_r, zr_cat_f, zr_cat_d, zr_cat_u, beq_self_eq_true, Nat.zero_le, Nat.le_refl, Nat.reduceSub, Nat.reduceAdd, Nat.reduceLeDiff, csl_f, csr_f, cn_f, lg_cmp_eq, lg_cmp_le, lg_cmp_lt, lg_cmp_ge, lg_cmp_gt, nI_1, zr_up_self, zp_O, zr_fup_self, zr_fup_ne, ne_eq, Nat.reduceEqDiff, not_false_eq_true, pk_mul, v0.1, zy_I, zy_8, k8, c20]
  refine ⟨fun u => ?_, fun u => ?_⟩
  rotate_left
  · have hn2 : 280 < n := by
      rcases Nat.lt_or_ge 280 n with g | g
      · exact g
      · exact (u (nI_le (b := 300) (by omega) (by omega))).elim
    have q2 := mQ_of v (q0 hn2)
    simp only [zs_134_0, zs_134_0u, zs_134_1, zs_134_1u, zs_134_2, zs_134_5, zs_134_7, zs_134_8, zs_134_11, zs_134_14, zs_134_15, zs_134_18, zs_134_19, zs_134_23, zs_134_26, zs_134_29, zs_134_30, zs_134_31, zs_134_32, zs_134_34, zs_134_36, zs_134_38, zs_134_41, zs_134_43, zs_134_44, zs_134_47, zs_134_48, zs_134_51, zs_134_53, zs_134_55, zs_134_58, zs_134_59, zs_134_62, zs_134_64, zs_134_66, zs_134_69, zs_134_70, zs_134_73, zs_134_75, zs_134_77, zs_134_80, zs_134_82, zs_134_85, zs_134_87, zs_134_89, zs_134_89u, zs_134_90, zs_134_93, zs_134_93u, zs_134_94, zs_134_97, zs_134_99, zs_134_101, zs_134_103, zs_134_105, zs_134_106, zs_134_107, zs_134_108, zs_134_109, zs_134_110, zs_134_113, zs_134_114, zs_134_115, zs_134_115u, zs_134_116, zs_134_116i, zs_134_117, zs_134_120, zs_134_121, zs_134_122, zs_134_125, zs_134_128, zs_134_131, zs_134_131u, zs_134_132, zs_134_135, zc_isO, zr_fld_mk, zc_isA, zc_len, zr_elt_mk, zr_kill_i, zr_kill_l, zr_kill_r, zr_kill_u, zr_kill_f, zr_kill_n, zc_cat, zr_cat_i, zr_cat_l, zr_cat_r, zr_cat_f, zr_cat_d, zr_cat_u, beq_self_eq_true, Nat.zero_le, Nat.le_refl, Nat.reduceSub, Nat.reduceAdd, Nat.reduceLeDiff, csl_f, csr_f, cn_f, lg_cmp_eq, lg_cmp_le, lg_cmp_lt, lg_cmp_ge, lg_cmp_gt, nI_1, zr_up_self, zp_O, zr_fup_self, zr_fup_ne, ne_eq, Nat.reduceEqDiff, not_false_eq_true, pk_mul, v0.1, zy_I]
    rw [putY v0.1 (by omega)]
    have v2 := mq_up v0 (fI K 6 1) L
    have e6 : fI K 6 1 6 = 1 := fI_s _ _ _
    simp only [zs_134_0, zs_134_0u, zs_134_1, zs_134_1u, zs_134_2, zs_134_5, zs_134_7, zs_134_8, zs_134_11, zs_134_14, zs_134_15, zs_134_18, zs_134_19, zs_134_22, zs_134_22u, zs_134_23, zs_134_26, zs_134_30, zs_134_32, zs_134_34, zs_134_36, zs_134_38, zs_134_41, zs_134_43, zs_134_44, zs_134_47, zs_134_48, zs_134_51, zs_134_53, zs_134_55, zs_134_58, zs_134_59, zs_134_62, zs_134_64, zs_134_66, zs_134_69, zs_134_70, zs_134_73, zs_134_75, zs_134_77, zs_134_80, zs_134_82, zs_134_85, zs_134_87, zs_134_89, zs_134_89u, zs_134_90, zs_134_93, zs_134_93u, zs_134_94, zs_134_97, zs_134_99, zs_134_101, zs_134_103, zs_134_105, zs_134_106, zs_134_107, zs_134_108, zs_134_109, zs_134_110, zs_134_113, zs_134_114, zs_134_115, zs_134_115u, zs_134_116, zs_134_116i, zs_134_117, zs_134_120, zs_134_121, zs_134_122, zs_134_125, zs_134_128, zs_134_131, zs_134_131u, zs_134_132, zs_134_135, zc_isO, zr_fld_mk, zc_isA, zc_len, zr_elt_mk, zr_kill_i, zr_kill_l, zr_kill_r, zr_kill_u, zr_kill_f, zr_kill_n, zc_cat, zr_cat_i, zr_cat_l, zr_cat_r, zr_cat_f, zr_cat_d, zr_cat_u, beq_self_eq_true, Nat.zero_le, Nat.le_refl, Nat.reduceSub, Nat.reduceAdd, Nat.reduceLeDiff, csl_f, csr_f, cn_f, lg_cmp_eq, lg_cmp_le, lg_cmp_lt, lg_cmp_ge, lg_cmp_gt, nI_1, zr_up_self, zp_O, zr_fup_self, zr_fup_ne, ne_eq, Nat.reduceEqDiff, not_false_eq_true, pk_mul, zy_I, zy_6, e6]
    refine ⟨fun y => absurd y (by decide), fun _ => ?_⟩
    simp only [zs_134_0, zs_134_0u, zs_134_1, zs_134_1u, zs_134_2, zs_134_5, zs_134_7, zs_134_8, zs_134_11, zs_134_14, zs_134_15, zs_134_18, zs_134_19, zs_134_22, zs_134_22u, zs_134_23, zs_134_26, zs_134_29, zs_134_30, zs_134_31, zs_134_32, zs_134_34, zs_134_36, zs_134_38, zs_134_41, zs_134_43, zs_134_44, zs_134_47, zs_134_48, zs_134_51, zs_134_53, zs_134_55, zs_134_58, zs_134_59, zs_134_62, zs_134_64, zs_134_66, zs_134_69, zs_134_70, zs_134_73, zs_134_75, zs_134_77, zs_134_80, zs_134_82, zs_134_85, zs_134_87, zs_134_89, zs_134_89u, zs_134_90, zs_134_93, zs_134_93u, zs_134_94, zs_134_97, zs_134_99, zs_134_101, zs_134_103, zs_134_105, zs_134_106, zs_134_107, zs_134_108, zs_134_109, zs_134_110, zs_134_113, zs_134_114, zs_134_115, zs_134_115u, zs_134_116, zs_134_116i, zs_134_117, zs_134_120, zs_134_121, zs_134_122, zs_134_125, zs_134_128, zs_134_131, zs_134_131u, zs_134_132, zs_134_135, zc_isO, zr_fld_mk, zc_isA, zc_len, zr_elt_mk, zr_kill_i, zr_kill_l, zr_kill_r, zr_kill_u, zr_kill_f, zr_kill_n, zc_cat, zr_cat_i, zr_cat_l, zr_cat_r, zr_cat_f, zr_cat_d, zr_cat_u, beq_self_eq_true, Nat.zero_le, Nat.le_refl, Nat.reduceSub, Nat.reduceAdd, Nat.reduceLeDiff, csl_f, csr_f, cn_f, lg_cmp_eq, lg_cmp_le, lg_cmp_lt, lg_cmp_ge, lg_cmp_gt, nI_1, zr_up_self, zp_O, zr_fup_self, zr_fup_ne, ne_eq, Nat.reduceEqDiff, not_false_eq_true, pk_mul]
    exact mQ_e q2 0 L
  have hn2 : n ≤ 280 := by
    rcases Nat.lt_or_ge 280 n with g | g
    · exact absurd u (nI_ge (a := 300) (by omega) (by omega))
    · exact g
  have hQ := hQ hn2
  clear q0
  simp only [zs_134_0, zs_134_0u, zs_134_1, zs_134_1u, zs_134_2, zs_134_5, zs_134_7, zs_134_8, zs_134_11, zs_134_14, zs_134_15, zs_134_18, zs_134_19, zs_134_23, zs_134_26, zs_134_29, zs_134_30, zs_134_31, zs_134_32, zs_134_34, zs_134_36, zs_134_38, zs_134_41, zs_134_43, zs_134_44, zs_134_47, zs_134_48, zs_134_51, zs_134_53, zs_134_55, zs_134_58, zs_134_59, zs_134_62, zs_134_64, zs_134_66, zs_134_69, zs_134_70, zs_134_73, zs_134_75, zs_134_77, zs_134_80, zs_134_82, zs_134_85, zs_134_87, zs_134_89, zs_134_89u, zs_134_90, zs_134_93, zs_134_93u, zs_134_94, zs_134_97, zs_134_99, zs_134_101, zs_134_103, zs_134_105, zs_134_106, zs_134_107, zs_134_108, zs_134_109, zs_134_110, zs_134_113, zs_134_114, zs_134_115, zs_134_115u, zs_134_116, zs_134_116i, zs_134_117, zs_134_120, zs_134_121, zs_134_122, zs_134_125, zs_134_128, zs_134_131, zs_134_131u, zs_134_132, zs_134_135, zc_isO, zr_fld_mk, zc_isA, zc_len, zr_elt_mk, zr_kill_i, zr_kill_l, zr_kill_r, zr_kill_u, zr_kill_f, zr_kill_n, zc_cat, zr_cat_i, zr_cat_l, zr_cat_r, zr_cat_f, zr_cat_d, zr_cat_u, beq_self_eq_true, Nat.zero_le, Nat.le_refl, Nat.reduceSub, Nat.reduceAdd, Nat.reduceLeDiff, csl_f, csr_f, cn_f, lg_cmp_eq, lg_cmp_le, lg_cmp_lt, lg_cmp_ge, lg_cmp_gt, nI_1, zr_up_self, zp_O, zr_fup_self, zr_fup_ne, ne_eq, Nat.reduceEqDiff, not_false_eq_true, pk_mul, v0.1, zy_I]
  rw [putY v0.1 (by omega)]
  obtain ⟨v1, f1⟩ := mM_up v (K2 := fI K 6 0) (L2 := L) (fI_n _ _ (by omega)) (fI_n _ _ (by omega)) (fI_n _ _ (by omega)) (fI_n _ _ (by omega))
  have e6 : fI K 6 0 6 = 0 := fI_s _ _ _
  generalize zr_up h m (zym E (fI K 6 0) L) = h1 at *
  obtain ⟨_, w1⟩ := mM_q v1
  simp only [zs_134_0, zs_134_0u, zs_134_1, zs_134_1u, zs_134_2, zs_134_5, zs_134_7, zs_134_8, zs_134_11, zs_134_14, zs_134_15, zs_134_18, zs_134_19, zs_134_22, zs_134_22u, zs_134_23, zs_134_26, zs_134_30, zs_134_32, zs_134_34, zs_134_36, zs_134_38, zs_134_41, zs_134_43, zs_134_44, zs_134_47, zs_134_48, zs_134_51, zs_134_53, zs_134_55, zs_134_58, zs_134_59, zs_134_62, zs_134_64, zs_134_66, zs_134_69, zs_134_70, zs_134_73, zs_134_75, zs_134_77, zs_134_80, zs_134_82, zs_134_85, zs_134_87, zs_134_89, zs_134_89u, zs_134_90, zs_134_93, zs_134_93u, zs_134_94, zs_134_97, zs_134_99, zs_134_101, zs_134_103, zs_134_105, zs_134_106, zs_134_107, zs_134_108, zs_134_109, zs_134_110, zs_134_113, zs_134_114, zs_134_115, zs_134_115u, zs_134_116, zs_134_116i, zs_134_117, zs_134_120, zs_134_121, zs_134_122, zs_134_125, zs_134_128, zs_134_131, zs_134_131u, zs_134_132, zs_134_135, zc_isO, zr_fld_mk, zc_isA, zc_len, zr_elt_mk, zr_kill_i, zr_kill_l, zr_kill_r, zr_kill_u, zr_kill_f, zr_kill_n, zc_cat, zr_cat_i, zr_cat_l, zr_cat_r, zr_cat_f, zr_cat_d, zr_cat_u, beq_self_eq_true, Nat.zero_le, Nat.le_refl, Nat.reduceSub, Nat.reduceAdd, Nat.reduceLeDiff, csl_f, csr_f, cn_f, lg_cmp_eq, lg_cmp_le, lg_cmp_lt, lg_cmp_ge, lg_cmp_gt, nI_1, zr_up_self, zp_O, zr_fup_self, zr_fup_ne, ne_eq, Nat.reduceEqDiff, not_false_eq_true, pk_mul, w1.1, zy_I, zy_6, e6]
  refine ⟨fun _ => ?_, fun y => absurd (by decide) y⟩
  simp only [zs_134_0, zs_134_0u, zs_134_1, zs_134_1u, zs_134_2, zs_134_5, zs_134_7, zs_134_8, zs_134_11, zs_134_14, zs_134_15, zs_134_18, zs_134_19, zs_134_22, zs_134_22u, zs_134_23, zs_134_26, zs_134_29, zs_134_30, zs_134_31, zs_134_32, zs_134_36, zs_134_38, zs_134_41, zs_134_43, zs_134_44, zs_134_47, zs_134_48, zs_134_51, zs_134_53, zs_134_55, zs_134_58, zs_134_59, zs_134_62, zs_134_64, zs_134_66, zs_134_69, zs_134_70, zs_134_73, zs_134_75, zs_134_77, zs_134_80, zs_134_82, zs_134_85, zs_134_87, zs_134_89, zs_134_89u, zs_134_90, zs_134_93, zs_134_93u, zs_134_94, zs_134_97, zs_134_99, zs_134_101, zs_134_103, zs_134_105, zs_134_106, zs_134_107, zs_134_108, zs_134_109, zs_134_110, zs_134_113, zs_134_114, zs_134_115, zs_134_115u, zs_134_116, zs_134_116i, zs_134_117, zs_134_120, zs_134_121, zs_134_122, zs_134_125, zs_134_128, zs_134_131, zs_134_131u, zs_134_132, zs_134_135, zc_isO, zr_fld_mk, zc_isA, zc_len, zr_elt_mk, zr_kill_i, zr_kill_l, zr_kill_r, zr_kill_u, zr_kill_f, zr_kill_n, zc_cat, zr_cat_i, zr_cat_l, zr_cat_r, zr_cat_f, zr_cat_d, zr_cat_u, beq_self_eq_true, Nat.zero_le, Nat.le_refl, Nat.reduceSub, Nat.reduceAdd, Nat.reduceLeDiff, csl_f, csr_f, cn_f, lg_cmp_eq, lg_cmp_le, lg_cmp_lt, lg_cmp_ge, lg_cmp_gt, nI_1, zr_up_self, zp_O, zr_fup_self, zr_fup_ne, ne_eq, Nat.reduceEqDiff, not_false_eq_true, pk_mul]
  have loop : ∀ t k, k + t = 20 → ∀ h3 K3, K3 6 = 0 → mM h3 m E K3 L (R, S, b, w, P, I) H T (n + k) e l (bfA bf n a1 a2 a3 a4 a5 k) wf → fx (MX m E) h h3 → ∀ x7 : Option Value, zr_Z d 134 Q 34 [some (.ref m), some (.int a1), some (.int a2), some (.int a3), some (.int a4), some (.int a5), some (.int (nI k)), x7] [] h3 0 0 := by
    intro t
    induction t with
    | zero =>
      intro k hk h3 K3 z6 v3 f3 x7
      have : k = 20 := by omega
      subst this
      obtain ⟨_, w3⟩ := mM_q v3
      have k8 := (mM_23 v3).2.1
      simp only [zs_134_0, zs_134_0u, zs_134_1, zs_134_1u, zs_134_2, zs_134_5, zs_134_7, zs_134_8, zs_134_11, zs_134_14, zs_134_15, zs_134_18, zs_134_19, zs_134_22, zs_134_22u, zs_134_23, zs_134_26, zs_134_29, zs_134_30, zs_134_31, zs_134_32, zs_134_34, zs_134_36, zs_134_38, zs_134_43, zs_134_44, zs_134_47, zs_134_48, zs_134_51, zs_134_53, zs_134_55, zs_134_58, zs_134_59, zs_134_62, zs_134_64, zs_134_66, zs_134_69, zs_134_70, zs_134_73, zs_134_75, zs_134_77, zs_134_80, zs_134_82, zs_134_85, zs_134_87, zs_134_89, zs_134_89u, zs_134_90, zs_134_93, zs_134_93u, zs_134_94, zs_134_97, zs_134_99, zs_134_101, zs_134_103, zs_134_105, zs_134_106, zs_134_107, zs_134_108, zs_134_109, zs_134_110, zs_134_113, zs_134_114, zs_134_115, zs_134_115u, zs_134_116, zs_134_116i, zs_134_117, zs_134_120, zs_134_121, zs_134_122, zs_134_125, zs_134_128, zs_134_132, zs_134_135, zc_isO, zr_fld_mk, zc_isA, zc_len, zr_elt_mk, zr_kill_i, zr_kill_l, zr_kill_r, zr_kill_u, zr_kill_f, zr_kill_n, zc_cat, zr_cat_i, zr_cat_l, zr_cat_r, zr_cat_f, zr_cat_d, zr_cat_u, beq_self_eq_true, Nat.zero_le, Nat.le_refl, Nat.reduceSub, Nat.reduceAdd, Nat.reduceLeDiff, csl_f, csr_f, cn_f, lg_cmp_eq, lg_cmp_le, lg_cmp_lt, lg_cmp_ge, lg_cmp_gt, nI_1, zr_up_self, zp_O, zr_fup_self, zr_fup_ne, ne_eq, Nat.reduceEqDiff, not_false_eq_true, pk_mul]
      refine ⟨fun _ => ?_, fun y => absurd (by decide) y⟩
      simp only [zs_134_0, zs_134_0u, zs_134_1, zs_134_1u, zs_134_2, zs_134_5, zs_134_7, zs_134_8, zs_134_11, zs_134_14, zs_134_15, zs_134_18, zs_134_19, zs_134_22, zs_134_22u, zs_134_23, zs_134_26, zs_134_29, zs_134_30, zs_134_31, zs_134_32, zs_134_34, zs_134_36, zs_134_38, zs_134_41, zs_134_43, zs_134_44, zs_134_47, zs_134_48, zs_134_51, zs_134_53, zs_134_55, zs_134_58, zs_134_59, zs_134_62, zs_134_64, zs_134_66, zs_134_69, zs_134_70, zs_134_73, zs_134_75, zs_134_77, zs_134_80, zs_134_82, zs_134_85, zs_134_87, zs_134_89, zs_134_89u, zs_134_90, zs_134_93, zs_134_93u, zs_134_94, zs_134_97, zs_134_99, zs_134_101, zs_134_103, zs_134_105, zs_134_106, zs_134_107, zs_134_108, zs_134_109, zs_134_110, zs_134_113, zs_134_114, zs_134_115, zs_134_115u, zs_134_116, zs_134_116i, zs_134_117, zs_134_120, zs_134_121, zs_134_122, zs_134_125, zs_134_128, zs_134_131, zs_134_131u, zs_134_132, zs_134_135, zc_isO, zr_fld_mk, zc_isA, zc_len, zr_elt_mk, zr_kill_i, zr_kill_l, zr_kill_r, zr_kill_u, zr_kill_f, zr_kill_n, zc_cat, zr_cat_i, zr_cat_l, zr_cat_r, zr_cat_f, zr_cat_d, zr_cat_u, beq_self_eq_true, Nat.zero_le, Nat.le_refl, Nat.reduceSub, Nat.reduceAdd, Nat.reduceLeDiff, csl_f, csr_f, cn_f, lg_cmp_eq, lg_cmp_le, lg_cmp_lt, lg_cmp_ge, lg_cmp_gt, nI_1, zr_up_self, zp_O, zr_fup_self, zr_fup_ne, ne_eq, Nat.reduceEqDiff, not_false_eq_true, pk_mul, w3.1, zy_I, zy_8, k8]
      exact hQ _ h3 K3 L ⟨z6, rfl⟩ v3 f3
    | succ t ih =>
      intro k hk h3 K3 z6 v3 f3 x7
      obtain ⟨_, w3⟩ := mM_q v3
      have k8 := (mM_23 v3).2.1
      obtain ⟨b1, b2, b3⟩ := mM_b7 v3 (i := n + k) (by omega)
      have e2 : (nI (n + k)).toNatClampNeg = n + k := nI_clamp (by omega)
      have n4 : ¬ (4 : Int32) = 0 := by decide
      have fin : ∀ x7 : Option Value, zr_Z d 134 Q 87 [some (.ref m), some (.int a1), some (.int a2), some (.int a3), some (.int a4), some (.int a5), some (.int (nI k)), x7] [.int (aw a1 a2 a3 a4 a5 k)] h3 0 0 := by
        intro x7
        obtain ⟨v4, f4⟩ := mM_bf v3 (i := n + k) (y := mbz (aw a1 a2 a3 a4 a5 k) k) (bf2 := bfA bf n a1 a2 a3 a4 a5 (k + 1)) (fun j hj => by
          unfold bfA
          by_cases e : j = n + k
          · rw [if_pos (by omega), if_pos e, e, Nat.add_sub_cancel_left]
          · rw [if_neg e]
            by_cases g : n ≤ j ∧ j < n + k
            · rw [if_pos g, if_pos (by omega)]
            · rw [if_neg g, if_neg (by omega)])
        have f4 := fx_trans f3 f4
        simp only [zs_134_0, zs_134_0u, zs_134_1, zs_134_1u, zs_134_2, zs_134_5, zs_134_7, zs_134_8, zs_134_11, zs_134_14, zs_134_15, zs_134_18, zs_134_19, zs_134_22, zs_134_22u, zs_134_23, zs_134_26, zs_134_29, zs_134_30, zs_134_31, zs_134_32, zs_134_34, zs_134_36, zs_134_38, zs_134_41, zs_134_43, zs_134_44, zs_134_47, zs_134_48, zs_134_51, zs_134_53, zs_134_55, zs_134_58, zs_134_59, zs_134_62, zs_134_64, zs_134_66, zs_134_69, zs_134_70, zs_134_73, zs_134_75, zs_134_77, zs_134_80, zs_134_82, zs_134_85, zs_134_87, zs_134_89, zs_134_89u, zs_134_90, zs_134_93, zs_134_93u, zs_134_94, zs_134_97, zs_134_99, zs_134_101, zs_134_103, zs_134_105, zs_134_106, zs_134_107, zs_134_108, zs_134_109, zs_134_110, zs_134_113, zs_134_114, zs_134_116, zs_134_116i, zs_134_117, zs_134_120, zs_134_121, zs_134_122, zs_134_125, zs_134_128, zs_134_131, zs_134_131u, zs_134_132, zs_134_135, zc_isO, zr_fld_mk, zc_isA, zc_len, zr_elt_mk, zr_kill_i, zr_kill_l, zr_kill_r, zr_kill_u, zr_kill_f, zr_kill_n, zc_cat, zr_cat_i, zr_cat_l, zr_cat_r, zr_cat_f, zr_cat_d, zr_cat_u, beq_self_eq_true, Nat.zero_le, Nat.le_refl, Nat.reduceSub, Nat.reduceAdd, Nat.reduceLeDiff, csl_f, csr_f, cn_f, lg_cmp_eq, lg_cmp_le, lg_cmp_lt, lg_cmp_ge, lg_cmp_gt, nI_1, zr_up_self, zp_O, zr_fup_self, zr_fup_ne, ne_eq, Nat.reduceEqDiff, not_false_eq_true, pk_mul, w3.1, zy_I, zy_7, zy_8, k8, b1, b2, e2, n4, not_false_eq_true]
        change zr_Z _ _ _ _ _ _ (zr_putA h3 (E 7) (n + k) (.int (mbz (aw a1 a2 a3 a4 a5 k) k))) _ _
        generalize zr_putA h3 (E 7) (n + k) (.int (mbz (aw a1 a2 a3 a4 a5 k) k)) = h4 at *
        obtain ⟨_, w4⟩ := mM_q v4
        have a1' : nI (n + k) + 1 = nI (n + (k + 1)) := nI_add _ 1
        simp only [zs_134_0, zs_134_0u, zs_134_1, zs_134_1u, zs_134_2, zs_134_5, zs_134_7, zs_134_8, zs_134_11, zs_134_14, zs_134_15, zs_134_18, zs_134_19, zs_134_22, zs_134_22u, zs_134_23, zs_134_26, zs_134_29, zs_134_30, zs_134_31, zs_134_32, zs_134_34, zs_134_36, zs_134_38, zs_134_41, zs_134_43, zs_134_44, zs_134_47, zs_134_48, zs_134_51, zs_134_53, zs_134_55, zs_134_58, zs_134_59, zs_134_62, zs_134_64, zs_134_66, zs_134_69, zs_134_70, zs_134_73, zs_134_75, zs_134_77, zs_134_80, zs_134_82, zs_134_85, zs_134_87, zs_134_89, zs_134_89u, zs_134_90, zs_134_93, zs_134_93u, zs_134_94, zs_134_97, zs_134_99, zs_134_101, zs_134_103, zs_134_105, zs_134_106, zs_134_107, zs_134_108, zs_134_109, zs_134_110, zs_134_113, zs_134_114, zs_134_115, zs_134_115u, zs_134_116, zs_134_116i, zs_134_117, zs_134_120, zs_134_121, zs_134_122, zs_134_128, zs_134_131, zs_134_131u, zs_134_132, zs_134_135, zc_isO, zr_fld_mk, zc_isA, zc_len, zr_elt_mk, zr_kill_i, zr_kill_l, zr_kill_r, zr_kill_u, zr_kill_f, zr_kill_n, zc_cat, zr_cat_i, zr_cat_l, zr_cat_r, zr_cat_f, zr_cat_d, zr_cat_u, beq_self_eq_true, Nat.zero_le, Nat.le_refl, Nat.reduceSub, Nat.reduceAdd, Nat.reduceLeDiff, csl_f, csr_f, cn_f, lg_cmp_eq, lg_cmp_le, lg_cmp_lt, lg_cmp_ge, lg_cmp_gt, nI_1, zr_up_self, zp_O, zr_fup_self, zr_fup_ne, ne_eq, Nat.reduceEqDiff, not_false_eq_true, pk_mul, w4.1, zy_I, zy_8, k8, a1']
        rw [putY w4.1 (by omega)]
        obtain ⟨v5, f5⟩ := mM_n v4 (n2 := n + (k + 1))
        have f5 := fx_trans f4 f5
        have := ih (k + 1) (by omega) _ _ ((fI_n _ _ (by omega)).trans z6) v5 f5 (some (.int (aw a1 a2 a3 a4 a5 k)))
        simp only [zs_134_0, zs_134_0u, zs_134_1, zs_134_1u, zs_134_2, zs_134_5, zs_134_7, zs_134_8, zs_134_11, zs_134_14, zs_134_15, zs_134_18, zs_134_19, zs_134_22, zs_134_22u, zs_134_23, zs_134_26, zs_134_29, zs_134_30, zs_134_31, zs_134_32, zs_134_36, zs_134_38, zs_134_41, zs_134_43, zs_134_44, zs_134_47, zs_134_48, zs_134_51, zs_134_53, zs_134_55, zs_134_58, zs_134_59, zs_134_62, zs_134_64, zs_134_66, zs_134_69, zs_134_70, zs_134_73, zs_134_75, zs_134_77, zs_134_80, zs_134_82, zs_134_85, zs_134_87, zs_134_89, zs_134_89u, zs_134_90, zs_134_93, zs_134_93u, zs_134_94, zs_134_97, zs_134_99, zs_134_101, zs_134_103, zs_134_105, zs_134_106, zs_134_107, zs_134_108, zs_134_109, zs_134_110, zs_134_113, zs_134_114, zs_134_115, zs_134_115u, zs_134_116, zs_134_116i, zs_134_117, zs_134_120, zs_134_121, zs_134_122, zs_134_125, zs_134_128, zs_134_131, zs_134_131u, zs_134_132, zs_134_135, zc_isO, zr_fld_mk, zc_isA, zc_len, zr_elt_mk, zr_kill_i, zr_kill_l, zr_kill_r, zr_kill_u, zr_kill_f, zr_kill_n, zc_cat, zr_cat_i, zr_cat_l, zr_cat_r, zr_cat_f, zr_cat_d, zr_cat_u, beq_self_eq_true, Nat.zero_le, Nat.le_refl, Nat.reduceSub, Nat.reduceAdd, Nat.reduceLeDiff, csl_f, csr_f, cn_f, lg_cmp_eq, lg_cmp_le, lg_cmp_lt, lg_cmp_ge, lg_cmp_gt, nI_1, zr_up_self, zp_O, zr_fup_self, zr_fup_ne, ne_eq, Nat.reduceEqDiff, not_false_eq_true, pk_mul]
        exact this
      simp only [zs_134_0, zs_134_0u, zs_134_1, zs_134_1u, zs_134_2, zs_134_5, zs_134_7, zs_134_8, zs_134_11, zs_134_14, zs_134_15, zs_134_18, zs_134_19, zs_134_22, zs_134_22u, zs_134_23, zs_134_26, zs_134_29, zs_134_30, zs_134_31, zs_134_32, zs_134_34, zs_134_36, zs_134_38, zs_134_43, zs_134_44, zs_134_47, zs_134_48, zs_134_51, zs_134_53, zs_134_55, zs_134_58, zs_134_59, zs_134_62, zs_134_64, zs_134_66, zs_134_69, zs_134_70, zs_134_73, zs_134_75, zs_134_77, zs_134_80, zs_134_82, zs_134_85, zs_134_87, zs_134_89, zs_134_89u, zs_134_90, zs_134_93, zs_134_93u, zs_134_94, zs_134_97, zs_134_99, zs_134_101, zs_134_103, zs_134_105, zs_134_106, zs_134_107, zs_134_108, zs_134_109, zs_134_110, zs_134_113, zs_134_114, zs_134_115, zs_134_115u, zs_134_116, zs_134_116i, zs_134_117, zs_134_120, zs_134_121, zs_134_122, zs_134_125, zs_134_128, zs_134_132, zs_134_135, zc_isO, zr_fld_mk, zc_isA, zc_len, zr_elt_mk, zr_kill_i, zr_kill_l, zr_kill_r, zr_kill_u, zr_kill_f, zr_kill_n, zc_cat, zr_cat_i, zr_cat_l, zr_cat_r, zr_cat_f, zr_cat_d, zr_cat_u, beq_self_eq_true, Nat.zero_le, Nat.le_refl, Nat.reduceSub, Nat.reduceAdd, Nat.reduceLeDiff, csl_f, csr_f, cn_f, lg_cmp_eq, lg_cmp_le, lg_cmp_lt, lg_cmp_ge, lg_cmp_gt, nI_1, zr_up_self, zp_O, zr_fup_self, zr_fup_ne, ne_eq, Nat.reduceEqDiff, not_false_eq_true, pk_mul]
      refine ⟨fun y => absurd y (nI_ge (b := 20) (by omega) (by omega)), fun _ => ?_⟩
      unfold aw at fin
      simp only [zs_134_0, zs_134_0u, zs_134_1, zs_134_1u, zs_134_2, zs_134_5, zs_134_7, zs_134_8, zs_134_11, zs_134_14, zs_134_15, zs_134_18, zs_134_19, zs_134_22, zs_134_22u, zs_134_23, zs_134_26, zs_134_29, zs_134_30, zs_134_31, zs_134_32, zs_134_34, zs_134_36, zs_134_38, zs_134_41, zs_134_43, zs_134_44, zs_134_48, zs_134_53, zs_134_55, zs_134_58, zs_134_59, zs_134_62, zs_134_64, zs_134_66, zs_134_69, zs_134_70, zs_134_73, zs_134_75, zs_134_77, zs_134_80, zs_134_82, zs_134_85, zs_134_87, zs_134_89, zs_134_89u, zs_134_90, zs_134_93, zs_134_93u, zs_134_94, zs_134_97, zs_134_99, zs_134_101, zs_134_103, zs_134_105, zs_134_106, zs_134_107, zs_134_108, zs_134_109, zs_134_110, zs_134_113, zs_134_114, zs_134_115, zs_134_115u, zs_134_116, zs_134_116i, zs_134_117, zs_134_120, zs_134_121, zs_134_122, zs_134_125, zs_134_128, zs_134_131, zs_134_131u, zs_134_132, zs_134_135, zc_isO, zr_fld_mk, zc_isA, zc_len, zr_elt_mk, zr_kill_i, zr_kill_l, zr_kill_r, zr_kill_u, zr_kill_f, zr_kill_n, zc_cat, zr_cat_i, zr_cat_l, zr_cat_r, zr_cat_f, zr_cat_d, zr_cat_u, beq_self_eq_true, Nat.zero_le, Nat.le_refl, Nat.reduceSub, Nat.reduceAdd, Nat.reduceLeDiff, csl_f, csr_f, cn_f, lg_cmp_eq, lg_cmp_le, lg_cmp_lt, lg_cmp_ge, lg_cmp_gt, nI_1, zr_up_self, zp_O, zr_fup_self, zr_fup_ne, ne_eq, Nat.reduceEqDiff, not_false_eq_true, pk_mul]
      refine ⟨fun u1 => ?_, fun u1 => ?_⟩
      rotate_left
      · have g : k < 4 := by
          rcases Nat.lt_or_ge k 4 with g | g
          · exact g
          · exact (u1 (nI_le (a := 4) g (by omega))).elim
        rw [if_pos g] at fin
        simp only [zs_134_0, zs_134_0u, zs_134_1, zs_134_1u, zs_134_2, zs_134_5, zs_134_7, zs_134_8, zs_134_11, zs_134_14, zs_134_15, zs_134_18, zs_134_19, zs_134_22, zs_134_22u, zs_134_23, zs_134_26, zs_134_29, zs_134_30, zs_134_31, zs_134_32, zs_134_34, zs_134_36, zs_134_38, zs_134_41, zs_134_43, zs_134_44, zs_134_47, zs_134_48, zs_134_51, zs_134_53, zs_134_55, zs_134_58, zs_134_59, zs_134_62, zs_134_64, zs_134_66, zs_134_69, zs_134_70, zs_134_73, zs_134_75, zs_134_77, zs_134_80, zs_134_82, zs_134_85, zs_134_89, zs_134_89u, zs_134_90, zs_134_93, zs_134_93u, zs_134_94, zs_134_97, zs_134_99, zs_134_101, zs_134_103, zs_134_105, zs_134_106, zs_134_107, zs_134_108, zs_134_109, zs_134_110, zs_134_113, zs_134_114, zs_134_115, zs_134_115u, zs_134_116, zs_134_116i, zs_134_117, zs_134_120, zs_134_121, zs_134_122, zs_134_125, zs_134_128, zs_134_131, zs_134_131u, zs_134_132, zs_134_135, zc_isO, zr_fld_mk, zc_isA, zc_len, zr_elt_mk, zr_kill_i, zr_kill_l, zr_kill_r, zr_kill_u, zr_kill_f, zr_kill_n, zc_cat, zr_cat_i, zr_cat_l, zr_cat_r, zr_cat_f, zr_cat_d, zr_cat_u, beq_self_eq_true, Nat.zero_le, Nat.le_refl, Nat.reduceSub, Nat.reduceAdd, Nat.reduceLeDiff, csl_f, csr_f, cn_f, lg_cmp_eq, lg_cmp_le, lg_cmp_lt, lg_cmp_ge, lg_cmp_gt, nI_1, zr_up_self, zp_O, zr_fup_self, zr_fup_ne, ne_eq, Nat.reduceEqDiff, not_false_eq_true, pk_mul]
        exact fin x7
      have g1 : ¬ k < 4 := fun g => nI_ge (b := 4) g (by omega) u1
      rw [if_neg g1] at fin
      simp only [zs_134_0, zs_134_0u, zs_134_1, zs_134_1u, zs_134_2, zs_134_5, zs_134_7, zs_134_8, zs_134_11, zs_134_14, zs_134_15, zs_134_18, zs_134_19, zs_134_22, zs_134_22u, zs_134_23, zs_134_26, zs_134_29, zs_134_30, zs_134_31, zs_134_32, zs_134_34, zs_134_36, zs_134_38, zs_134_41, zs_134_43, zs_134_44, zs_134_47, zs_134_48, zs_134_51, zs_134_53, zs_134_55, zs_134_59, zs_134_64, zs_134_66, zs_134_69, zs_134_70, zs_134_73, zs_134_75, zs_134_77, zs_134_80, zs_134_82, zs_134_85, zs_134_87, zs_134_89, zs_134_89u, zs_134_90, zs_134_93, zs_134_93u, zs_134_94, zs_134_97, zs_134_99, zs_134_101, zs_134_103, zs_134_105, zs_134_106, zs_134_107, zs_134_108, zs_134_109, zs_134_110, zs_134_113, zs_134_114, zs_134_115, zs_134_115u, zs_134_116, zs_134_116i, zs_134_117, zs_134_120, zs_134_121, zs_134_122, zs_134_125, zs_134_128, zs_134_131, zs_134_131u, zs_134_132, zs_134_135, zc_isO, zr_fld_mk, zc_isA, zc_len, zr_elt_mk, zr_kill_i, zr_kill_l, zr_kill_r, zr_kill_u, zr_kill_f, zr_kill_n, zc_cat, zr_cat_i, zr_cat_l, zr_cat_r, zr_cat_f, zr_cat_d, zr_cat_u, beq_self_eq_true, Nat.zero_le, Nat.le_refl, Nat.reduceSub, Nat.reduceAdd, Nat.reduceLeDiff, csl_f, csr_f, cn_f, lg_cmp_eq, lg_cmp_le, lg_cmp_lt, lg_cmp_ge, lg_cmp_gt, nI_1, zr_up_self, zp_O, zr_fup_self, zr_fup_ne, ne_eq, Nat.reduceEqDiff, not_false_eq_true, pk_mul]
      refine ⟨fun u1 => ?_, fun u1 => ?_⟩
      rotate_left
      · have g : k < 8 := by
          rcases Nat.lt_or_ge k 8 with g | g
          · exact g
          · exact (u1 (nI_le (a := 8) g (by omega))).elim
        rw [if_pos g] at fin
        simp only [zs_134_0, zs_134_0u, zs_134_1, zs_134_1u, zs_134_2, zs_134_5, zs_134_7, zs_134_8, zs_134_11, zs_134_14, zs_134_15, zs_134_18, zs_134_19, zs_134_22, zs_134_22u, zs_134_23, zs_134_26, zs_134_29, zs_134_30, zs_134_31, zs_134_32, zs_134_34, zs_134_36, zs_134_38, zs_134_41, zs_134_43, zs_134_44, zs_134_47, zs_134_48, zs_134_51, zs_134_53, zs_134_55, zs_134_58, zs_134_59, zs_134_62, zs_134_64, zs_134_66, zs_134_69, zs_134_70, zs_134_73, zs_134_75, zs_134_77, zs_134_80, zs_134_82, zs_134_85, zs_134_89, zs_134_89u, zs_134_90, zs_134_93, zs_134_93u, zs_134_94, zs_134_97, zs_134_99, zs_134_101, zs_134_103, zs_134_105, zs_134_106, zs_134_107, zs_134_108, zs_134_109, zs_134_110, zs_134_113, zs_134_114, zs_134_115, zs_134_115u, zs_134_116, zs_134_116i, zs_134_117, zs_134_120, zs_134_121, zs_134_122, zs_134_125, zs_134_128, zs_134_131, zs_134_131u, zs_134_132, zs_134_135, zc_isO, zr_fld_mk, zc_isA, zc_len, zr_elt_mk, zr_kill_i, zr_kill_l, zr_kill_r, zr_kill_u, zr_kill_f, zr_kill_n, zc_cat, zr_cat_i, zr_cat_l, zr_cat_r, zr_cat_f, zr_cat_d, zr_cat_u, beq_self_eq_true, Nat.zero_le, Nat.le_refl, Nat.reduceSub, Nat.reduceAdd, Nat.reduceLeDiff, csl_f, csr_f, cn_f, lg_cmp_eq, lg_cmp_le, lg_cmp_lt, lg_cmp_ge, lg_cmp_gt, nI_1, zr_up_self, zp_O, zr_fup_self, zr_fup_ne, ne_eq, Nat.reduceEqDiff, not_false_eq_true, pk_mul]
        exact fin x7
      have g1 : ¬ k < 8 := fun g => nI_ge (b := 8) g (by omega) u1
      rw [if_neg g1] at fin
      simp only [zs_134_0, zs_134_0u, zs_134_1, zs_134_1u, zs_134_2, zs_134_5, zs_134_7, zs_134_8, zs_134_11, zs_134_14, zs_134_15, zs_134_18, zs_134_19, zs_134_22, zs_134_22u, zs_134_23, zs_134_26, zs_134_29, zs_134_30, zs_134_31, zs_134_32, zs_134_34, zs_134_36, zs_134_38, zs_134_41, zs_134_43, zs_134_44, zs_134_47, zs_134_48, zs_134_51, zs_134_53, zs_134_55, zs_134_58, zs_134_59, zs_134_62, zs_134_64, zs_134_66, zs_134_70, zs_134_75, zs_134_77, zs_134_80, zs_134_82, zs_134_85, zs_134_87, zs_134_89, zs_134_89u, zs_134_90, zs_134_93, zs_134_93u, zs_134_94, zs_134_97, zs_134_99, zs_134_101, zs_134_103, zs_134_105, zs_134_106, zs_134_107, zs_134_108, zs_134_109, zs_134_110, zs_134_113, zs_134_114, zs_134_115, zs_134_115u, zs_134_116, zs_134_116i, zs_134_117, zs_134_120, zs_134_121, zs_134_122, zs_134_125, zs_134_128, zs_134_131, zs_134_131u, zs_134_132, zs_134_135, zc_isO, zr_fld_mk, zc_isA, zc_len, zr_elt_mk, zr_kill_i, zr_kill_l, zr_kill_r, zr_kill_u, zr_kill_f, zr_kill_n, zc_cat, zr_cat_i, zr_cat_l, zr_cat_r, zr_cat_f, zr_cat_d, zr_cat_u, beq_self_eq_true, Nat.zero_le, Nat.le_refl, Nat.reduceSub, Nat.reduceAdd, Nat.reduceLeDiff, csl_f, csr_f, cn_f, lg_cmp_eq, lg_cmp_le, lg_cmp_lt, lg_cmp_ge, lg_cmp_gt, nI_1, zr_up_self, zp_O, zr_fup_self, zr_fup_ne, ne_eq, Nat.reduceEqDiff, not_false_eq_true, pk_mul]
      refine ⟨fun u1 => ?_, fun u1 => ?_⟩
      rotate_left
      · have g : k < 12 := by
          rcases Nat.lt_or_ge k 12 with g | g
          · exact g
          · exact (u1 (nI_le (a := 12) g (by omega))).elim
        rw [if_pos g] at fin
        simp only [zs_134_0, zs_134_0u, zs_134_1, zs_134_1u, zs_134_2, zs_134_5, zs_134_7, zs_134_8, zs_134_11, zs_134_14, zs_134_15, zs_134_18, zs_134_19, zs_134_22, zs_134_22u, zs_134_23, zs_134_26, zs_134_29, zs_134_30, zs_134_31, zs_134_32, zs_134_34, zs_134_36, zs_134_38, zs_134_41, zs_134_43, zs_134_44, zs_134_47, zs_134_48, zs_134_51, zs_134_53, zs_134_55, zs_134_58, zs_134_59, zs_134_62, zs_134_64, zs_134_66, zs_134_69, zs_134_70, zs_134_73, zs_134_75, zs_134_77, zs_134_80, zs_134_82, zs_134_85, zs_134_89, zs_134_89u, zs_134_90, zs_134_93, zs_134_93u, zs_134_94, zs_134_97, zs_134_99, zs_134_101, zs_134_103, zs_134_105, zs_134_106, zs_134_107, zs_134_108, zs_134_109, zs_134_110, zs_134_113, zs_134_114, zs_134_115, zs_134_115u, zs_134_116, zs_134_116i, zs_134_117, zs_134_120, zs_134_121, zs_134_122, zs_134_125, zs_134_128, zs_134_131, zs_134_131u, zs_134_132, zs_134_135, zc_isO, zr_fld_mk, zc_isA, zc_len, zr_elt_mk, zr_kill_i, zr_kill_l, zr_kill_r, zr_kill_u, zr_kill_f, zr_kill_n, zc_cat, zr_cat_i, zr_cat_l, zr_cat_r, zr_cat_f, zr_cat_d, zr_cat_u, beq_self_eq_true, Nat.zero_le, Nat.le_refl, Nat.reduceSub, Nat.reduceAdd, Nat.reduceLeDiff, csl_f, csr_f, cn_f, lg_cmp_eq, lg_cmp_le, lg_cmp_lt, lg_cmp_ge, lg_cmp_gt, nI_1, zr_up_self, zp_O, zr_fup_self, zr_fup_ne, ne_eq, Nat.reduceEqDiff, not_false_eq_true, pk_mul]
        exact fin x7
      have g1 : ¬ k < 12 := fun g => nI_ge (b := 12) g (by omega) u1
      rw [if_neg g1] at fin
      simp only [zs_134_0, zs_134_0u, zs_134_1, zs_134_1u, zs_134_2, zs_134_5, zs_134_7, zs_134_8, zs_134_11, zs_134_14, zs_134_15, zs_134_18, zs_134_19, zs_134_22, zs_134_22u, zs_134_23, zs_134_26, zs_134_29, zs_134_30, zs_134_31, zs_134_32, zs_134_34, zs_134_36, zs_134_38, zs_134_41, zs_134_43, zs_134_44, zs_134_47, zs_134_48, zs_134_51, zs_134_53, zs_134_55, zs_134_58, zs_134_59, zs_134_62, zs_134_64, zs_134_66, zs_134_69, zs_134_70, zs_134_73, zs_134_75, zs_134_77, zs_134_82, zs_134_87, zs_134_89, zs_134_89u, zs_134_90, zs_134_93, zs_134_93u, zs_134_94, zs_134_97, zs_134_99, zs_134_101, zs_134_103, zs_134_105, zs_134_106, zs_134_107, zs_134_108, zs_134_109, zs_134_110, zs_134_113, zs_134_114, zs_134_115, zs_134_115u, zs_134_116, zs_134_116i, zs_134_117, zs_134_120, zs_134_121, zs_134_122, zs_134_125, zs_134_128, zs_134_131, zs_134_131u, zs_134_132, zs_134_135, zc_isO, zr_fld_mk, zc_isA, zc_len, zr_elt_mk, zr_kill_i, zr_kill_l, zr_kill_r, zr_kill_u, zr_kill_f, zr_kill_n, zc_cat, zr_cat_i, zr_cat_l, zr_cat_r, zr_cat_f, zr_cat_d, zr_cat_u, beq_self_eq_true, Nat.zero_le, Nat.le_refl, Nat.reduceSub, Nat.reduceAdd, Nat.reduceLeDiff, csl_f, csr_f, cn_f, lg_cmp_eq, lg_cmp_le, lg_cmp_lt, lg_cmp_ge, lg_cmp_gt, nI_1, zr_up_self, zp_O, zr_fup_self, zr_fup_ne, ne_eq, Nat.reduceEqDiff, not_false_eq_true, pk_mul]
      refine ⟨fun u1 => ?_, fun u1 => ?_⟩
      rotate_left
      · have g : k < 16 := by
          rcases Nat.lt_or_ge k 16 with g | g
          · exact g
          · exact (u1 (nI_le (a := 16) g (by omega))).elim
        rw [if_pos g] at fin
        simp only [zs_134_0, zs_134_0u, zs_134_1, zs_134_1u, zs_134_2, zs_134_5, zs_134_7, zs_134_8, zs_134_11, zs_134_14, zs_134_15, zs_134_18, zs_134_19, zs_134_22, zs_134_22u, zs_134_23, zs_134_26, zs_134_29, zs_134_30, zs_134_31, zs_134_32, zs_134_34, zs_134_36, zs_134_38, zs_134_41, zs_134_43, zs_134_44, zs_134_47, zs_134_48, zs_134_51, zs_134_53, zs_134_55, zs_134_58, zs_134_59, zs_134_62, zs_134_64, zs_134_66, zs_134_69, zs_134_70, zs_134_73, zs_134_75, zs_134_77, zs_134_80, zs_134_82, zs_134_85, zs_134_89, zs_134_89u, zs_134_90, zs_134_93, zs_134_93u, zs_134_94, zs_134_97, zs_134_99, zs_134_101, zs_134_103, zs_134_105, zs_134_106, zs_134_107, zs_134_108, zs_134_109, zs_134_110, zs_134_113, zs_134_114, zs_134_115, zs_134_115u, zs_134_116, zs_134_116i, zs_134_117, zs_134_120, zs_134_121, zs_134_122, zs_134_125, zs_134_128, zs_134_131, zs_134_131u, zs_134_132, zs_134_135, zc_isO, zr_fld_mk, zc_isA, zc_len, zr_elt_mk, zr_kill_i, zr_kill_l, zr_kill_r, zr_kill_u, zr_kill_f, zr_kill_n, zc_cat, zr_cat_i, zr_cat_l, zr_cat_r, zr_cat_f, zr_cat_d, zr_cat_u, beq_self_eq_true, Nat.zero_le, Nat.le_refl, Nat.reduceSub, Nat.reduceAdd, Nat.reduceLeDiff, csl_f, csr_f, cn_f, lg_cmp_eq, lg_cmp_le, lg_cmp_lt, lg_cmp_ge, lg_cmp_gt, nI_1, zr_up_self, zp_O, zr_fup_self, zr_fup_ne, ne_eq, Nat.reduceEqDiff, not_false_eq_true, pk_mul]
        exact fin x7
      have g1 : ¬ k < 16 := fun g => nI_ge (b := 16) g (by omega) u1
      rw [if_neg g1] at fin
      simp only [zs_134_0, zs_134_0u, zs_134_1, zs_134_1u, zs_134_2, zs_134_5, zs_134_7, zs_134_8, zs_134_11, zs_134_14, zs_134_15, zs_134_18, zs_134_19, zs_134_22, zs_134_22u, zs_134_23, zs_134_26, zs_134_29, zs_134_30, zs_134_31, zs_134_32, zs_134_34, zs_134_36, zs_134_38, zs_134_41, zs_134_43, zs_134_44, zs_134_47, zs_134_48, zs_134_51, zs_134_53, zs_134_55, zs_134_58, zs_134_59, zs_134_62, zs_134_64, zs_134_66, zs_134_69, zs_134_70, zs_134_73, zs_134_75, zs_134_77, zs_134_80, zs_134_82, zs_134_85, zs_134_89, zs_134_89u, zs_134_90, zs_134_93, zs_134_93u, zs_134_94, zs_134_97, zs_134_99, zs_134_101, zs_134_103, zs_134_105, zs_134_106, zs_134_107, zs_134_108, zs_134_109, zs_134_110, zs_134_113, zs_134_114, zs_134_115, zs_134_115u, zs_134_116, zs_134_116i, zs_134_117, zs_134_120, zs_134_121, zs_134_122, zs_134_125, zs_134_128, zs_134_131, zs_134_131u, zs_134_132, zs_134_135, zc_isO, zr_fld_mk, zc_isA, zc_len, zr_elt_mk, zr_kill_i, zr_kill_l, zr_kill_r, zr_kill_u, zr_kill_f, zr_kill_n, zc_cat, zr_cat_i, zr_cat_l, zr_cat_r, zr_cat_f, zr_cat_d, zr_cat_u, beq_self_eq_true, Nat.zero_le, Nat.le_refl, Nat.reduceSub, Nat.reduceAdd, Nat.reduceLeDiff, csl_f, csr_f, cn_f, lg_cmp_eq, lg_cmp_le, lg_cmp_lt, lg_cmp_ge, lg_cmp_gt, nI_1, zr_up_self, zp_O, zr_fup_self, zr_fup_ne, ne_eq, Nat.reduceEqDiff, not_false_eq_true, pk_mul]
      exact fin x7
  exact loop 20 0 rfl h1 _ e6 (by
    have : bfA bf n a1 a2 a3 a4 a5 0 = bf := by funext j; unfold bfA; rw [if_neg (by omega)]
    rw [this]
    exact v1) f1 _
end MODEL
section PURE
theorem bz_m (v : Int32) : bz v 24 &&& 255 = mbz v 0 ∧ bz v 16 &&& 255 = mbz v 1 ∧ bz v 8 &&& 255 = mbz v 2 ∧ bz v 0 &&& 255 = mbz v 3 := by
  have key : ∀ s : Nat, s ≤ 24 → ((v.toBitVec >>> s).signExtend 8).signExtend 32 &&& 255#32 = (v.toBitVec.sshiftRight s) &&& 255#32 := by
    intro s hs
    apply BitVec.eq_of_getLsbD_eq
    intro i hi
    have h255 : (255#32).getLsbD i = decide (i < 8) := by
      have : ∀ i : Fin 32, (255#32).getLsbD i.val = decide (i.val < 8) := by decide
      exact this ⟨i, hi⟩
    rw [BitVec.getLsbD_and, BitVec.getLsbD_and, h255]
    by_cases g : i < 8
    · have e : (v.toBitVec.sshiftRight s).getLsbD i = v.toBitVec.getLsbD (s + i) := by
        rw [BitVec.getLsbD_sshiftRight]
        simp [show ¬ 32 ≤ i by omega, show s + i < 32 by omega]
      have e2 : ((v.toBitVec >>> s).signExtend 8).getLsbD i = (v.toBitVec >>> s).getLsbD i := by
        rw [BitVec.getLsbD_signExtend]
        simp [g, hi]
      have e3 : (((v.toBitVec >>> s).signExtend 8).signExtend 32).getLsbD i = ((v.toBitVec >>> s).signExtend 8).getLsbD i := by
        rw [BitVec.getLsbD_signExtend]
        simp [g, hi]
      rw [e, e3, e2, BitVec.getLsbD_ushiftRight]
    · simp [g]
  have bs : ∀ s, (bz v s).toBitVec = ((v.toBitVec >>> ((s.toBitVec &&& 31#32) % 32#32)).signExtend 8).signExtend 32 := fun _ => rfl
  have b24 : (bz v 24).toBitVec = ((v.toBitVec >>> 24).signExtend 8).signExtend 32 := by
    rw [bs, show (((24 : Int32).toBitVec &&& 31#32) % 32#32) = 24#32 from by decide]
    rfl
  have b16 : (bz v 16).toBitVec = ((v.toBitVec >>> 16).signExtend 8).signExtend 32 := rfl
  have b8 : (bz v 8).toBitVec = ((v.toBitVec >>> 8).signExtend 8).signExtend 32 := rfl
  have b0 : (bz v 0).toBitVec = ((v.toBitVec >>> 0).signExtend 8).signExtend 32 := rfl
  have m0 : (mbz v 0).toBitVec = v.toBitVec.sshiftRight 24 &&& 255#32 := rfl
  have m1 : (mbz v 1).toBitVec = v.toBitVec.sshiftRight 16 &&& 255#32 := rfl
  have m2 : (mbz v 2).toBitVec = v.toBitVec.sshiftRight 8 &&& 255#32 := rfl
  have m3 : (mbz v 3).toBitVec = v.toBitVec.sshiftRight 0 &&& 255#32 := rfl
  have a (x : Int32) : (x &&& 255).toBitVec = x.toBitVec &&& 255#32 := rfl
  refine ⟨?_, ?_, ?_, ?_⟩
  · exact Int32.toBitVec_inj.mp (by rw [a, b24, m0]; exact key 24 (by omega))
  · exact Int32.toBitVec_inj.mp (by rw [a, b16, m1]; exact key 16 (by omega))
  · exact Int32.toBitVec_inj.mp (by rw [a, b8, m2]; exact key 8 (by omega))
  · exact Int32.toBitVec_inj.mp (by rw [a, b0, m3]; exact key 0 (by omega))
theorem mbz_mod (v : Int32) (j k : Nat) (hj : j < 4) (hk : k < 5) : mbz v (4 * k + j) = mbz v j := by
  have : nI (4 * k + j) - nI (4 * k + j) / 4 * 4 = nI j - nI j / 4 * 4 := by
    have : ∀ k : Fin 5, ∀ j : Fin 4, nI (4 * k.val + j.val) - nI (4 * k.val + j.val) / 4 * 4 = nI j.val - nI j.val / 4 * 4 := by decide
    exact this ⟨k, hk⟩ ⟨j, hj⟩
  unfold mbz
  rw [this]
theorem four_ne {f : Nat → Int32} {m j : Nat} {v : Int32} (h : j < m ∨ m + 4 ≤ j) : four f m v j = f j := by
  unfold four pu
  rw [if_neg (by omega), if_neg (by omega), if_neg (by omega), if_neg (by omega)]
theorem four_at {f : Nat → Int32} {m i j u : Nat} {v : Int32} (hi : i < 4) (hu : u < 5) (e : j = m + i) : four f m v j &&& 255 = mbz v (4 * u + i) := by
  obtain ⟨q0, q1, q2, q3⟩ := bz_m v
  rw [mbz_mod v i u hi hu, e]
  have : i = 0 ∨ i = 1 ∨ i = 2 ∨ i = 3 := by omega
  unfold four pu
  rcases this with c | c | c | c <;> subst c
  · rw [if_neg (by omega), if_neg (by omega), if_neg (by omega), if_pos (by omega)]; exact q0
  · rw [if_neg (by omega), if_neg (by omega), if_pos (by omega)]; exact q1
  · rw [if_neg (by omega), if_pos (by omega)]; exact q2
  · rw [if_pos (by omega)]; exact q3
theorem app_m {tf bf : Nat → Int32} {n : Nat} {a b c d e : Int32} (h : ∀ j, j < n → bf j = tf j &&& 255) : ∀ j, j < n + 20 → bfA bf n a b c d e 20 j = app tf n a b c d e j &&& 255 := by
  intro j hj
  unfold bfA app
  by_cases g : j < n
  · rw [if_neg (by omega), h j g, four_ne (by omega), four_ne (by omega), four_ne (by omega), four_ne (by omega), four_ne (by omega)]
  · rw [if_pos (by omega)]
    obtain ⟨k, rfl⟩ : ∃ k, j = n + k := ⟨j - n, by omega⟩
    rw [Nat.add_sub_cancel_left]
    obtain ⟨u, i, hi, ek⟩ : ∃ u i, i < 4 ∧ k = 4 * u + i := ⟨k / 4, k % 4, Nat.mod_lt _ (by omega), by omega⟩
    have hu : u = 0 ∨ u = 1 ∨ u = 2 ∨ u = 3 ∨ u = 4 := by omega
    unfold aw
    rw [ek]
    rcases hu with c | c | c | c | c <;> subst c
    · rw [four_ne (by omega), four_ne (by omega), four_ne (by omega), four_ne (by omega), if_pos (by omega)]
      exact (four_at hi (by omega) (by omega)).symm
    · rw [four_ne (by omega), four_ne (by omega), four_ne (by omega), if_neg (by omega), if_pos (by omega)]
      exact (four_at hi (by omega) (by omega)).symm
    · rw [four_ne (by omega), four_ne (by omega), if_neg (by omega), if_neg (by omega), if_pos (by omega)]
      exact (four_at hi (by omega) (by omega)).symm
    · rw [four_ne (by omega), if_neg (by omega), if_neg (by omega), if_neg (by omega), if_pos (by omega)]
      exact (four_at hi (by omega) (by omega)).symm
    · rw [if_neg (by omega), if_neg (by omega), if_neg (by omega), if_neg (by omega)]
      exact (four_at hi (by omega) (by omega)).symm
end PURE
