/-! THE READER: bytes taken, a text read -/
def bz (v : Int32) (s : Int32) : Int32 := ((v.toUInt32 >>> (s.toUInt32 &&& Int32.toUInt32 31)).toInt32).toInt8.toInt32
def pu (f : Nat → Int32) (i : Nat) (x : Int32) : Nat → Int32 := fun j => if j = i then x else f j
def four (f : Nat → Int32) (m : Nat) (v : Int32) : Nat → Int32 := pu (pu (pu (pu f m (bz v 24)) (m + 1) (bz v 16)) (m + 2) (bz v 8)) (m + 3) (bz v 0)
theorem fI_fI (J : Nat → Int32) (k : Nat) (a c : Int32) : fI (fI J k a) k c = fI J k c := by
  funext j
  unfold fI
  by_cases e : j = k
  · rw [if_pos e, if_pos e]
  · rw [if_neg e, if_neg e, if_neg e]
theorem bz_n (v s : Int32) : narrow (zr_at 2) (.int ((v.toUInt32 >>> (s.toUInt32 &&& Int32.toUInt32 31)).toInt32).toInt8.toInt32) = .int (bz v s) := by
  show Value.int _ = Value.int _
  unfold bz
  congr 1
  simp
section READER
variable {d : Nat} {h : zr_H} {Q : zr_K} {rd tx gr n m : Nat} {J : Nat → Int32} {b w : Int64} {f : Nat → Int32}
theorem k_four {v : Int32} (hR : h rd = some (zrd tx gr J b w)) (hT : aB h tx 300 f) (hJ : J 6 = nI m) (hm : m + 4 ≤ 300) (hQ : ∀ h', fx [rd, tx] h h' → h' rd = some (zrd tx gr (fI J 6 (nI (m + 4))) b w) → aB h' tx 300 (four f m v) → Q (.inl none) h') : zr_E (d + 1) 55 [.ref rd, .int v] h Q := by
  have st : ∀ m h1 f1 J1 (k : Nat), m < 300 → k < 100 → h1 rd = some (zrd tx gr J1 b w) → J1 6 = nI m → aB h1 tx 300 f1 → (∀ h2, fx [rd, tx] h1 h2 → h2 rd = some (zrd tx gr (fI J1 6 (nI (m + 1))) b w) → aB h2 tx 300 (pu f1 m (bz v (nI k))) → zr_Z d 55 Q 3 [some (.ref rd), some (.int v), some (.int (nI k + (-8)))] [] h2 0 0) → zr_Z d 55 Q 3 [some (.ref rd), some (.int v), some (.int (nI k))] [] h1 0 0 := by
    intro m h1 f1 J1 k hm hk hR hJ hT hQ
    have ne : tx ≠ rd := fun e => by
      obtain ⟨F, h2, -⟩ := hT
      rw [e, hR] at h2
      exact absurd (Option.some.inj h2) (fun z => by simp [zrd] at z)
    simp only [zs_55_0, zs_55_2, zs_55_3, zs_55_4, zs_55_8, zs_55_11, zs_55_14, zs_55_14u, zs_55_15, zs_55_18, zs_55_21, zs_55_24, zs_55_24u, zs_55_25, zs_55_28, zs_55_28u, zs_55_29, zs_55_32, zs_55_33, zs_55_34, zs_55_35, zs_55_36, zs_55_36z, zs_55_37, zs_55_37u, zs_55_38, zs_55_38i, zs_55_39, zs_55_42, zs_55_43, zs_55_44, zs_55_47, zs_55_50, zs_55_53, zc_isO, zr_fld_mk, zc_isA, zc_len, zr_elt_mk, zr_kill_i, zr_kill_l, zr_kill_r, zr_kill_u, zr_kill_f, zr_kill_n, zc_cat, zr_cat_i, zr_cat_l, zr_cat_r, zr_cat_f, zr_cat_d, zr_cat_u, beq_self_eq_true, Nat.zero_le, Nat.le_refl, Nat.reduceSub, Nat.reduceAdd, Nat.reduceLeDiff, csl_f, csr_f, cn_f, lg_cmp_eq, lg_cmp_le, lg_cmp_lt, lg_cmp_ge, lg_cmp_gt, nI_1, zr_up_self, zp_O, zr_fup_self, zr_fup_ne, ne_eq, Nat.reduceEqDiff, not_false_eq_true, pk_mul]
    refine ⟨fun z => absurd z (nI_pos (by omega)), fun _ => ?_⟩
    have a1 := aB_isA hT
    have a2 := aB_in hT (k := m) (by omega) (by omega)
    have e2 : (nI m).toNatClampNeg = m := nI_clamp (by omega)
    simp only [zs_55_0, zs_55_2, zs_55_4, zs_55_7, zs_55_7u, zs_55_8, zs_55_11, zs_55_14, zs_55_14u, zs_55_15, zs_55_18, zs_55_21, zs_55_24, zs_55_24u, zs_55_25, zs_55_28, zs_55_28u, zs_55_29, zs_55_32, zs_55_33, zs_55_34, zs_55_35, zs_55_36, zs_55_36z, zs_55_38, zs_55_38i, zs_55_39, zs_55_42, zs_55_43, zs_55_44, zs_55_50, zs_55_53, zc_isO, zr_fld_mk, zc_isA, zc_len, zr_elt_mk, zr_kill_i, zr_kill_l, zr_kill_r, zr_kill_u, zr_kill_f, zr_kill_n, zc_cat, zr_cat_i, zr_cat_l, zr_cat_r, zr_cat_f, zr_cat_d, zr_cat_u, beq_self_eq_true, Nat.zero_le, Nat.le_refl, Nat.reduceSub, Nat.reduceAdd, Nat.reduceLeDiff, csl_f, csr_f, cn_f, lg_cmp_eq, lg_cmp_le, lg_cmp_lt, lg_cmp_ge, lg_cmp_gt, nI_1, zr_up_self, zp_O, zr_fup_self, zr_fup_ne, ne_eq, Nat.reduceEqDiff, not_false_eq_true, pk_mul, hR, zt_I, zt_f0, zt_f6, hJ, a1, a2, e2, bz_n]
    refine ⟨fun z => absurd z (nI_pos (by omega)), fun _ => ⟨fun z => absurd z (nI_ge (b := 300) (by omega) (by omega)), fun _ => ?_⟩⟩
    have hR2 : zr_putA h1 tx m (.int (bz v (nI k))) rd = some (zrd tx gr J1 b w) := putA_ot (Ne.symm ne) hR
    have f2 : fx [rd, tx] h1 (zr_putA h1 tx m (.int (bz v (nI k)))) := putA_fx (by simp)
    have hT2 : aB (zr_putA h1 tx m (.int (bz v (nI k)))) tx 300 (pu f1 m (bz v (nI k))) := aB_put hT (fun j hj => rfl)
    generalize zr_putA h1 tx m (.int (bz v (nI k))) = h2 at *
    simp only [zs_55_0, zs_55_2, zs_55_4, zs_55_7, zs_55_7u, zs_55_8, zs_55_11, zs_55_14, zs_55_14u, zs_55_15, zs_55_18, zs_55_21, zs_55_24, zs_55_24u, zs_55_25, zs_55_28, zs_55_28u, zs_55_29, zs_55_32, zs_55_33, zs_55_34, zs_55_35, zs_55_36, zs_55_36z, zs_55_37, zs_55_37u, zs_55_38, zs_55_38i, zs_55_39, zs_55_42, zs_55_43, zs_55_44, zs_55_50, zs_55_53, zc_isO, zr_fld_mk, zc_isA, zc_len, zr_elt_mk, zr_kill_i, zr_kill_l, zr_kill_r, zr_kill_u, zr_kill_f, zr_kill_n, zc_cat, zr_cat_i, zr_cat_l, zr_cat_r, zr_cat_f, zr_cat_d, zr_cat_u, beq_self_eq_true, Nat.zero_le, Nat.le_refl, Nat.reduceSub, Nat.reduceAdd, Nat.reduceLeDiff, csl_f, csr_f, cn_f, lg_cmp_eq, lg_cmp_le, lg_cmp_lt, lg_cmp_ge, lg_cmp_gt, nI_1, zr_up_self, zp_O, zr_fup_self, zr_fup_ne, ne_eq, Nat.reduceEqDiff, not_false_eq_true, pk_mul, hR2, zt_I, zt_f6, hJ]
    rw [putR hR2 (by omega) (by omega)]
    have := hQ _ (fx_trans f2 (fx_up (by simp))) (zr_up_self _ _ _) (aB_to hT2 (zr_up_ne _ _ ne))
    simp only [zs_55_0, zs_55_2, zs_55_4, zs_55_7, zs_55_7u, zs_55_8, zs_55_11, zs_55_14, zs_55_14u, zs_55_15, zs_55_18, zs_55_21, zs_55_24, zs_55_24u, zs_55_25, zs_55_28, zs_55_28u, zs_55_29, zs_55_32, zs_55_33, zs_55_34, zs_55_35, zs_55_36, zs_55_36z, zs_55_37, zs_55_37u, zs_55_38, zs_55_38i, zs_55_39, zs_55_42, zs_55_43, zs_55_44, zs_55_47, zs_55_50, zs_55_53, zc_isO, zr_fld_mk, zc_isA, zc_len, zr_elt_mk, zr_kill_i, zr_kill_l, zr_kill_r, zr_kill_u, zr_kill_f, zr_kill_n, zc_cat, zr_cat_i, zr_cat_l, zr_cat_r, zr_cat_f, zr_cat_d, zr_cat_u, beq_self_eq_true, Nat.zero_le, Nat.le_refl, Nat.reduceSub, Nat.reduceAdd, Nat.reduceLeDiff, csl_f, csr_f, cn_f, lg_cmp_eq, lg_cmp_le, lg_cmp_lt, lg_cmp_ge, lg_cmp_gt, nI_1, zr_up_self, zp_O, zr_fup_self, zr_fup_ne, ne_eq, Nat.reduceEqDiff, not_false_eq_true, pk_mul]
    exact this
  rw [ze_55]
  simp only [zs_55_0, zs_55_2, zs_55_4, zs_55_7, zs_55_7u, zs_55_8, zs_55_11, zs_55_14, zs_55_14u, zs_55_15, zs_55_18, zs_55_21, zs_55_24, zs_55_24u, zs_55_25, zs_55_28, zs_55_28u, zs_55_29, zs_55_32, zs_55_33, zs_55_34, zs_55_35, zs_55_36, zs_55_36z, zs_55_37, zs_55_37u, zs_55_38, zs_55_38i, zs_55_39, zs_55_42, zs_55_43, zs_55_44, zs_55_47, zs_55_50, zs_55_53, zc_isO, zr_fld_mk, zc_isA, zc_len, zr_elt_mk, zr_kill_i, zr_kill_l, zr_kill_r, zr_kill_u, zr_kill_f, zr_kill_n, zc_cat, zr_cat_i, zr_cat_l, zr_cat_r, zr_cat_f, zr_cat_d, zr_cat_u, beq_self_eq_true, Nat.zero_le, Nat.le_refl, Nat.reduceSub, Nat.reduceAdd, Nat.reduceLeDiff, csl_f, csr_f, cn_f, lg_cmp_eq, lg_cmp_le, lg_cmp_lt, lg_cmp_ge, lg_cmp_gt, nI_1, zr_up_self, zp_O, zr_fup_self, zr_fup_ne, ne_eq, Nat.reduceEqDiff, not_false_eq_true, pk_mul]
  refine st m h f J 24 (by omega) (by omega) hR hJ hT (fun h1 f1 r1 t1 => ?_)
  refine st (m + 1) h1 _ _ 16 (by omega) (by omega) r1 (fI_s _ _ _) t1 (fun h2 f2 r2 t2 => ?_)
  rw [fI_fI] at r2
  refine st (m + 2) h2 _ _ 8 (by omega) (by omega) r2 (fI_s _ _ _) t2 (fun h3 f3 r3 t3 => ?_)
  rw [fI_fI] at r3
  refine st (m + 3) h3 _ _ 0 (by omega) (by omega) r3 (fI_s _ _ _) t3 (fun h4 f4 r4 t4 => ?_)
  rw [fI_fI] at r4
  simp only [zs_55_0, zs_55_2, zs_55_3, zs_55_4, zs_55_8, zs_55_11, zs_55_14, zs_55_14u, zs_55_15, zs_55_18, zs_55_21, zs_55_24, zs_55_24u, zs_55_25, zs_55_28, zs_55_28u, zs_55_29, zs_55_32, zs_55_33, zs_55_34, zs_55_35, zs_55_36, zs_55_36z, zs_55_37, zs_55_37u, zs_55_38, zs_55_38i, zs_55_39, zs_55_42, zs_55_43, zs_55_44, zs_55_47, zs_55_50, zs_55_53, zc_isO, zr_fld_mk, zc_isA, zc_len, zr_elt_mk, zr_kill_i, zr_kill_l, zr_kill_r, zr_kill_u, zr_kill_f, zr_kill_n, zc_cat, zr_cat_i, zr_cat_l, zr_cat_r, zr_cat_f, zr_cat_d, zr_cat_u, beq_self_eq_true, Nat.zero_le, Nat.le_refl, Nat.reduceSub, Nat.reduceAdd, Nat.reduceLeDiff, csl_f, csr_f, cn_f, lg_cmp_eq, lg_cmp_le, lg_cmp_lt, lg_cmp_ge, lg_cmp_gt, nI_1, zr_up_self, zp_O, zr_fup_self, zr_fup_ne, ne_eq, Nat.reduceEqDiff, not_false_eq_true, pk_mul]
  refine ⟨fun _ => ?_, fun z => absurd (by decide) z⟩
  exact hQ h4 (fx_trans f1 (fx_trans f2 (fx_trans f3 f4))) r4 t4
end READER
section STATE
variable {d : Nat} {Q : zr_K} {h h' : zr_H} {O : Nat → Prop} {B : Nat → Nat → Nat} {D : Nat → Nat} {V : Nat → Option gm} {u l m : Nat} {J : Nat → Int32} {rb rw : Int64} {tf wf : Nat → Int32}
/-- the reader changes, its text too -/
theorem vC_rd (v : vC h O B D V u l J rb rw tf wf) {J2 : Nat → Int32} {b2 w2 : Int64} {tf2 : Nat → Int32} (f : fx [D 3, D 5] h h') (e1 : h' (D 3) = some (zrd (D 5) (D 6) J2 b2 w2)) (e2 : aB h' (D 5) 300 tf2) : vC h' O B D V u l J2 b2 w2 tf2 wf ∧ ∀ q, O q → h' q = h q := by
  have dd := vC_dd v
  have ng := vC_ng v
  obtain ⟨c0, c1, c2, c3, ⟨R, S, c6, hg⟩, c5, c4, k, hn, ne, hD, ho, hu⟩ := v
  have st : ∀ j, j < 7 → j ≠ 3 → j ≠ 5 → h' (D j) = h (D j) := fun j hj n3 n5 => f _ (fun m => by
    simp at m
    rcases m with z | z
    · exact dd j 3 hj (by omega) n3 z
    · exact dd j 5 hj (by omega) n5 z)
  have fo : ∀ q, O q → h' q = h q := fun q o => f _ (fun m => by
    simp at m
    rcases m with z | z
    · exact hD 3 (by omega) (z ▸ o)
    · exact hD 5 (by omega) (z ▸ o))
  refine ⟨⟨(st 0 (by omega) (by omega) (by omega)).trans c0, aV_to c1 (st 1 (by omega) (by omega) (by omega)), aV_to c2 (st 2 (by omega) (by omega) (by omega)), e1, ⟨R, S, (st 6 (by omega) (by omega) (by omega)).trans c6, hg⟩, e2, aB_to c4 (st 4 (by omega) (by omega) (by omega)), zK_fx k (fun q _ o => f q (fun m => ?_)), hn, ne, hD, fun q o => by rw [fo q o]; exact ho q o, hu⟩, fo⟩
  simp at m
  rcases m with z | z
  · exact ng 3 (by omega) (z ▸ o)
  · exact ng 5 (by omega) (z ▸ o)
def app (f : Nat → Int32) (m : Nat) (a b c d e : Int32) : Nat → Int32 := four (four (four (four (four f m a) (m + 4) b) (m + 8) c) (m + 12) d) (m + 16) e
theorem k_append (v : vC h O B D V u l J rb rw tf wf) (hJ : J 6 = nI m) (hm : m ≤ 300) {a1 a2 a3 a4 a5 : Int32} (q0 : 280 < m → Q (.inr 0) h)
    (hQ : m ≤ 280 → ∀ h', (∀ q, O q → h' q = h q) → vC h' O B D V u l (fI J 6 (nI (m + 20))) rb rw (app tf m a1 a2 a3 a4 a5) wf → Q (.inl (some (.int (nI (m + 20))))) h') : zr_E (d + 2) 74 [.ref (D 0), .int a1, .int a2, .int a3, .int a4, .int a5] h Q := by
  have hX := v.1
  have hR := v.2.2.2.1
  have hT := v.2.2.2.2.2.1
  have dd := vC_dd v
  have nX : ∀ {h'}, fx [D 3, D 5] h h' → h' (D 0) = some (zxs (B 0 0) (D 1) (D 2) (D 3) (D 4) (nI u) (nI l)) := fun f => fx_get f (by simp; exact ⟨dd 0 3 (by omega) (by omega) (by omega), dd 0 5 (by omega) (by omega) (by omega)⟩) hX
  have c20 : nI m + 20 = nI (m + 20) := nI_add m 20
  rw [ze_74]
  simp only [zs_74_0, zs_74_0u, zs_74_1, zs_74_4, zs_74_7, zs_74_9, zs_74_10, zs_74_13, zs_74_27, zs_74_30, zs_74_31, zt_74_31, zs_74_34, zs_74_34u, zs_74_35, zs_74_38, zs_74_39, zt_74_39, zs_74_42, zs_74_42u, zs_74_43, zs_74_46, zs_74_47, zt_74_47, zs_74_50, zs_74_50u, zs_74_51, zs_74_54, zs_74_56, zt_74_56, zs_74_59, zs_74_59u, zs_74_60, zs_74_63, zs_74_65, zt_74_65, zs_74_68, zs_74_68u, zs_74_69, zs_74_72, zs_74_75, zc_isO, zr_fld_mk, zc_isA, zc_len, zr_elt_mk, zr_kill_i, zr_kill_l, zr_kill_r, zr_kill_u, zr_kill_f, zr_kill_n, zc_cat, zr_cat_i, zr_cat_l, zr_cat_r, zr_cat_f, zr_cat_d, zr_cat_u, beq_self_eq_true, Nat.zero_le, Nat.le_refl, Nat.reduceSub, Nat.reduceAdd, Nat.reduceLeDiff, csl_f, csr_f, cn_f, lg_cmp_eq, lg_cmp_le, lg_cmp_lt, lg_cmp_ge, lg_cmp_gt, nI_1, zr_up_self, zp_O, zr_fup_self, zr_fup_ne, ne_eq, Nat.reduceEqDiff, not_false_eq_true, pk_mul, hX, zx_I, zx_3, hR, zt_I, zt_f6, hJ, c20]
  refine ⟨fun z => ?_, fun z => ?_⟩
  · have hm2 : m ≤ 280 := by
      rcases Nat.lt_or_ge 280 m with g | g
      · exact absurd z (nI_ge (a := 300) (by omega) (by omega))
      · exact g
    have hQ := hQ hm2
    simp only [zs_74_0, zs_74_0u, zs_74_1, zs_74_4, zs_74_7, zs_74_9, zs_74_10, zs_74_13, zs_74_26, zs_74_26u, zs_74_27, zs_74_30, zs_74_31, zt_74_31, zs_74_34, zs_74_34u, zs_74_35, zs_74_38, zs_74_39, zt_74_39, zs_74_42, zs_74_42u, zs_74_43, zs_74_46, zs_74_47, zt_74_47, zs_74_50, zs_74_50u, zs_74_51, zs_74_54, zs_74_56, zt_74_56, zs_74_59, zs_74_59u, zs_74_60, zs_74_63, zs_74_65, zt_74_65, zs_74_68, zs_74_68u, zs_74_69, zs_74_72, zs_74_75, zc_isO, zr_fld_mk, zc_isA, zc_len, zr_elt_mk, zr_kill_i, zr_kill_l, zr_kill_r, zr_kill_u, zr_kill_f, zr_kill_n, zc_cat, zr_cat_i, zr_cat_l, zr_cat_r, zr_cat_f, zr_cat_d, zr_cat_u, beq_self_eq_true, Nat.zero_le, Nat.le_refl, Nat.reduceSub, Nat.reduceAdd, Nat.reduceLeDiff, csl_f, csr_f, cn_f, lg_cmp_eq, lg_cmp_le, lg_cmp_lt, lg_cmp_ge, lg_cmp_gt, nI_1, zr_up_self, zp_O, zr_fup_self, zr_fup_ne, ne_eq, Nat.reduceEqDiff, not_false_eq_true, pk_mul, hX, zx_I, zx_3, hR, zt_I]
    refine k_four (d := d) hR hT hJ (by omega) (fun h1 f1 r1 t1 => ?_)
    have x1 := nX f1
    simp only [zs_74_0, zs_74_0u, zs_74_1, zs_74_4, zs_74_7, zs_74_9, zs_74_10, zs_74_13, zs_74_26, zs_74_26u, zs_74_27, zs_74_30, zs_74_31, zt_74_31, zs_74_34, zs_74_34u, zs_74_35, zs_74_38, zs_74_39, zt_74_39, zs_74_42, zs_74_42u, zs_74_43, zs_74_46, zs_74_47, zt_74_47, zs_74_50, zs_74_50u, zs_74_51, zs_74_54, zs_74_56, zt_74_56, zs_74_59, zs_74_59u, zs_74_60, zs_74_63, zs_74_65, zt_74_65, zs_74_68, zs_74_68u, zs_74_69, zs_74_72, zs_74_75, zc_isO, zr_fld_mk, zc_isA, zc_len, zr_elt_mk, zr_kill_i, zr_kill_l, zr_kill_r, zr_kill_u, zr_kill_f, zr_kill_n, zc_cat, zr_cat_i, zr_cat_l, zr_cat_r, zr_cat_f, zr_cat_d, zr_cat_u, beq_self_eq_true, Nat.zero_le, Nat.le_refl, Nat.reduceSub, Nat.reduceAdd, Nat.reduceLeDiff, csl_f, csr_f, cn_f, lg_cmp_eq, lg_cmp_le, lg_cmp_lt, lg_cmp_ge, lg_cmp_gt, nI_1, zr_up_self, zp_O, zr_fup_self, zr_fup_ne, ne_eq, Nat.reduceEqDiff, not_false_eq_true, pk_mul, x1, zx_I, zx_3, r1, zt_I]
    refine k_four (d := d) r1 t1 (fI_s _ _ _) (by omega) (fun h2 f2 r2 t2 => ?_)
    have f2 := fx_trans f1 f2
    rw [fI_fI] at r2
    have x2 := nX f2
    simp only [zs_74_0, zs_74_0u, zs_74_1, zs_74_4, zs_74_7, zs_74_9, zs_74_10, zs_74_13, zs_74_26, zs_74_26u, zs_74_27, zs_74_30, zs_74_31, zt_74_31, zs_74_34, zs_74_34u, zs_74_35, zs_74_38, zs_74_39, zt_74_39, zs_74_42, zs_74_42u, zs_74_43, zs_74_46, zs_74_47, zt_74_47, zs_74_50, zs_74_50u, zs_74_51, zs_74_54, zs_74_56, zt_74_56, zs_74_59, zs_74_59u, zs_74_60, zs_74_63, zs_74_65, zt_74_65, zs_74_68, zs_74_68u, zs_74_69, zs_74_72, zs_74_75, zc_isO, zr_fld_mk, zc_isA, zc_len, zr_elt_mk, zr_kill_i, zr_kill_l, zr_kill_r, zr_kill_u, zr_kill_f, zr_kill_n, zc_cat, zr_cat_i, zr_cat_l, zr_cat_r, zr_cat_f, zr_cat_d, zr_cat_u, beq_self_eq_true, Nat.zero_le, Nat.le_refl, Nat.reduceSub, Nat.reduceAdd, Nat.reduceLeDiff, csl_f, csr_f, cn_f, lg_cmp_eq, lg_cmp_le, lg_cmp_lt, lg_cmp_ge, lg_cmp_gt, nI_1, zr_up_self, zp_O, zr_fup_self, zr_fup_ne, ne_eq, Nat.reduceEqDiff, not_false_eq_true, pk_mul, x2, zx_I, zx_3, r2, zt_I]
    refine k_four (d := d) r2 t2 (fI_s _ _ _) (by omega) (fun h3 f3 r3 t3 => ?_)
    have f3 := fx_trans f2 f3
    rw [fI_fI] at r3
    have x3 := nX f3
    simp only [zs_74_0, zs_74_0u, zs_74_1, zs_74_4, zs_74_7, zs_74_9, zs_74_10, zs_74_13, zs_74_26, zs_74_26u, zs_74_27, zs_74_30, zs_74_31, zt_74_31, zs_74_34, zs_74_34u, zs_74_35, zs_74_38, zs_74_39, zt_74_39, zs_74_42, zs_74_42u, zs_74_43, zs_74_46, zs_74_47, zt_74_47, zs_74_50, zs_74_50u, zs_74_51, zs_74_54, zs_74_56, zt_74_56, zs_74_59, zs_74_59u, zs_74_60, zs_74_63, zs_74_65, zt_74_65, zs_74_68, zs_74_68u, zs_74_69, zs_74_72, zs_74_75, zc_isO, zr_fld_mk, zc_isA, zc_len, zr_elt_mk, zr_kill_i, zr_kill_l, zr_kill_r, zr_kill_u, zr_kill_f, zr_kill_n, zc_cat, zr_cat_i, zr_cat_l, zr_cat_r, zr_cat_f, zr_cat_d, zr_cat_u, beq_self_eq_true, Nat.zero_le, Nat.le_refl, Nat.reduceSub, Nat.reduceAdd, Nat.reduceLeDiff, csl_f, csr_f, cn_f, lg_cmp_eq, lg_cmp_le, lg_cmp_lt, lg_cmp_ge, lg_cmp_gt, nI_1, zr_up_self, zp_O, zr_fup_self, zr_fup_ne, ne_eq, Nat.reduceEqDiff, not_false_eq_true, pk_mul, x3, zx_I, zx_3, r3, zt_I]
    refine k_four (d := d) r3 t3 (fI_s _ _ _) (by omega) (fun h4 f4 r4 t4 => ?_)
    have f4 := fx_trans f3 f4
    rw [fI_fI] at r4
    have x4 := nX f4
    simp only [zs_74_0, zs_74_0u, zs_74_1, zs_74_4, zs_74_7, zs_74_9, zs_74_10, zs_74_13, zs_74_26, zs_74_26u, zs_74_27, zs_74_30, zs_74_31, zt_74_31, zs_74_34, zs_74_34u, zs_74_35, zs_74_38, zs_74_39, zt_74_39, zs_74_42, zs_74_42u, zs_74_43, zs_74_46, zs_74_47, zt_74_47, zs_74_50, zs_74_50u, zs_74_51, zs_74_54, zs_74_56, zt_74_56, zs_74_59, zs_74_59u, zs_74_60, zs_74_63, zs_74_65, zt_74_65, zs_74_68, zs_74_68u, zs_74_69, zs_74_72, zs_74_75, zc_isO, zr_fld_mk, zc_isA, zc_len, zr_elt_mk, zr_kill_i, zr_kill_l, zr_kill_r, zr_kill_u, zr_kill_f, zr_kill_n, zc_cat, zr_cat_i, zr_cat_l, zr_cat_r, zr_cat_f, zr_cat_d, zr_cat_u, beq_self_eq_true, Nat.zero_le, Nat.le_refl, Nat.reduceSub, Nat.reduceAdd, Nat.reduceLeDiff, csl_f, csr_f, cn_f, lg_cmp_eq, lg_cmp_le, lg_cmp_lt, lg_cmp_ge, lg_cmp_gt, nI_1, zr_up_self, zp_O, zr_fup_self, zr_fup_ne, ne_eq, Nat.reduceEqDiff, not_false_eq_true, pk_mul, x4, zx_I, zx_3, r4, zt_I]
    refine k_four (d := d) r4 t4 (fI_s _ _ _) (by omega) (fun h5 f5 r5 t5 => ?_)
    have f5 := fx_trans f4 f5
    rw [fI_fI] at r5
    have x5 := nX f5
    have e6 : fI J 6 (nI (m + 20)) 6 = nI (m + 20) := fI_s _ _ _
    simp only [zs_74_0, zs_74_0u, zs_74_1, zs_74_4, zs_74_7, zs_74_9, zs_74_10, zs_74_13, zs_74_26, zs_74_26u, zs_74_27, zs_74_30, zs_74_31, zt_74_31, zs_74_34, zs_74_34u, zs_74_35, zs_74_38, zs_74_39, zt_74_39, zs_74_42, zs_74_42u, zs_74_43, zs_74_46, zs_74_47, zt_74_47, zs_74_50, zs_74_50u, zs_74_51, zs_74_54, zs_74_56, zt_74_56, zs_74_59, zs_74_59u, zs_74_60, zs_74_63, zs_74_65, zt_74_65, zs_74_68, zs_74_68u, zs_74_69, zs_74_72, zs_74_75, zc_isO, zr_fld_mk, zc_isA, zc_len, zr_elt_mk, zr_kill_i, zr_kill_l, zr_kill_r, zr_kill_u, zr_kill_f, zr_kill_n, zc_cat, zr_cat_i, zr_cat_l, zr_cat_r, zr_cat_f, zr_cat_d, zr_cat_u, beq_self_eq_true, Nat.zero_le, Nat.le_refl, Nat.reduceSub, Nat.reduceAdd, Nat.reduceLeDiff, csl_f, csr_f, cn_f, lg_cmp_eq, lg_cmp_le, lg_cmp_lt, lg_cmp_ge, lg_cmp_gt, nI_1, zr_up_self, zp_O, zr_fup_self, zr_fup_ne, ne_eq, Nat.reduceEqDiff, not_false_eq_true, pk_mul, x5, zx_I, zx_3, r5, zt_I, zt_f6, fI_s]
    obtain ⟨v2, o2⟩ := vC_rd v f5 r5 t5
    exact hQ h5 o2 v2
  · refine zs_74_16 (by decide) (by decide) (by rw [zr_cat_0]; decide) (q0 ?_)
    rcases Nat.lt_or_ge 280 m with g | g
    · exact g
    · exact (z (nI_le (b := 300) (by omega) (by omega))).elim
end STATE
