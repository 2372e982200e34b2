/-! THE MODEL: positions that were there, why a move is refused -/
theorem wi60 {R S : Nat} {x : Int64} (hg : vG R S) (hx : wi (R * S) x) : wi 60 x := fun i h => by have := hx i h; have := g_n hg; omega
theorem i64_eq {x y : Int32} : x.toInt64 = y.toInt64 ↔ x = y := by
  rw [← Int64.toInt_inj, ← Int32.toInt_inj, Int32.toInt_toInt64, Int32.toInt_toInt64]
section MODEL
variable {d : Nat} {h : zr_H} {Q : zr_K} {m : Nat} {E : Nat → Nat} {K : Nat → Int32} {L : Nat → Int64} {f : Nat → Int64} {R S : Nat} {b w : Int64} {P : List (Int64 × Int64)} {I : Nat → Int32}
theorem pos_mem (r : rG f R S b w P I) {x y : Int64} : (x, y) ∈ P ↔ ∃ k, k < P.length ∧ f (13 + 2 * k) = x ∧ f (14 + 2 * k) = y := by
  have hp := r.2.2.2.2.2.2.2.2.2.2.2.2.2
  constructor
  · intro hm
    obtain ⟨j, hj⟩ := List.mem_iff_getElem?.mp hm
    have hl : j < P.length := by
      rcases Nat.lt_or_ge j P.length with g | g
      · exact g
      · rw [List.getElem?_eq_none g] at hj; cases hj
    have := hp (P.length - 1 - j) (by omega)
    rw [show P.length - 1 - (P.length - 1 - j) = j by omega, hj] at this
    have := Option.some.inj this
    exact ⟨P.length - 1 - j, by omega, (congrArg Prod.fst this).symm, (congrArg Prod.snd this).symm⟩
  · intro ⟨k, hk, e1, e2⟩
    have := hp k hk
    rw [e1, e2] at this
    exact List.mem_of_getElem? this
theorem k_was (v : mq h m E K L f R S b w P I) {x y : Int64} (h1 : (x, y) ∈ P → Q (.inl (some (.int 1))) h) (h0 : ¬ (x, y) ∈ P → Q (.inl (some (.int 0))) h) : zr_E (d + 1) 133 [.ref m, .long x, .long y] h Q := by
  have r := v.2.2.1
  rw [pos_mem r] at h1 h0
  have hl : P.length ≤ 30 := v.2.2.2.2.2.2.2.2.2.2.2.2
  obtain ⟨a1, p1, p2⟩ := mq_e v (k := 10) (by omega)
  rw [r.2.2.2.2.2.2.2.2.2.2.1] at p2
  have t2 : (2 : Int64) * lN P.length = lN (2 * P.length) := lN_mul 2 _
  have t13 : (13 : Int64) + lN (2 * P.length) = lN (13 + 2 * P.length) := lN_add 13 _
  have p1 : vp_in 10 (zr_len (h (E 0))) := p1
  have p2 : zr_elt (h (E 0)) (10 : Int32).toNatClampNeg = .long (lN P.length) := p2
  have loop : ∀ t k, k + t = P.length → (∀ j, j < k → ¬ (f (13 + 2 * j) = x ∧ f (14 + 2 * j) = y)) → zr_Z d 133 Q 4 [some (.ref m), some (.long x), none, some (.long y), none, some (.int (nI (13 + 2 * k)))] [] h 0 0 := by
    intro t
    induction t with
    | zero =>
      intro k hk hno
      have c1 : (nI (13 + 2 * k)).toInt64 = lN (13 + 2 * k) := nI_l (by omega)
      simp only [zs_133_0, zs_133_2, zs_133_4, zs_133_6, zs_133_7, zs_133_10, zs_133_13, zs_133_13u, zs_133_14, zs_133_17, zs_133_19, zs_133_20, zs_133_21, zs_133_22, zs_133_23, zs_133_27, zs_133_30, zs_133_32, zs_133_33, zs_133_34, zs_133_35, zs_133_38, zs_133_38u, zs_133_39, zs_133_42, zs_133_44, zs_133_45, zs_133_46, zs_133_47, zs_133_48, zs_133_49, zs_133_52, zs_133_53_0, zs_133_53_1, zs_133_53, zs_133_54, zs_133_57, zs_133_61_0, zs_133_61_1, zs_133_61, zc_isO, zr_fld_mk, zc_isA, zc_len, zr_elt_mk, zr_kill_i, zr_kill_l, zr_kill_r, zr_kill_u, zr_kill_f, zr_kill_n, zc_cat, zr_cat_i, zr_cat_l, zr_cat_r, zr_cat_f, zr_cat_d, zr_cat_u, beq_self_eq_true, Nat.zero_le, Nat.le_refl, Nat.reduceSub, Nat.reduceAdd, Nat.reduceLeDiff, csl_f, csr_f, cn_f, lg_cmp_eq, lg_cmp_le, lg_cmp_lt, lg_cmp_ge, lg_cmp_gt, nI_1, zr_up_self, zp_O, zr_fup_self, zr_fup_ne, ne_eq, Nat.reduceEqDiff, not_false_eq_true, pk_mul, v.1, zy_I, zy_0, a1, p1, p2, t2, t13, c1]
      rw [lN_le (by omega) (by omega)]
      refine ⟨fun _ => ?_, fun z => absurd (by omega) z⟩
      simp only [zs_133_0, zs_133_2, zs_133_4, zs_133_6, zs_133_7, zs_133_10, zs_133_13, zs_133_13u, zs_133_14, zs_133_17, zs_133_19, zs_133_20, zs_133_21, zs_133_22, zs_133_23, zs_133_26, zs_133_26u, zs_133_27, zs_133_30, zs_133_32, zs_133_33, zs_133_34, zs_133_35, zs_133_38, zs_133_38u, zs_133_39, zs_133_42, zs_133_44, zs_133_45, zs_133_46, zs_133_47, zs_133_48, zs_133_49, zs_133_52, zs_133_53_0, zs_133_53_1, zs_133_53, zs_133_54, zs_133_57, zs_133_60, zs_133_61_0, zs_133_61_1, zs_133_61, zc_isO, zr_fld_mk, zc_isA, zc_len, zr_elt_mk, zr_kill_i, zr_kill_l, zr_kill_r, zr_kill_u, zr_kill_f, zr_kill_n, zc_cat, zr_cat_i, zr_cat_l, zr_cat_r, zr_cat_f, zr_cat_d, zr_cat_u, beq_self_eq_true, Nat.zero_le, Nat.le_refl, Nat.reduceSub, Nat.reduceAdd, Nat.reduceLeDiff, csl_f, csr_f, cn_f, lg_cmp_eq, lg_cmp_le, lg_cmp_lt, lg_cmp_ge, lg_cmp_gt, nI_1, zr_up_self, zp_O, zr_fup_self, zr_fup_ne, ne_eq, Nat.reduceEqDiff, not_false_eq_true, pk_mul]
      exact h0 (fun ⟨j, hj, e⟩ => hno j (by omega) e)
    | succ t ih =>
      intro k hk hno
      have c1 : (nI (13 + 2 * k)).toInt64 = lN (13 + 2 * k) := nI_l (by omega)
      simp only [zs_133_0, zs_133_2, zs_133_4, zs_133_6, zs_133_7, zs_133_10, zs_133_13, zs_133_13u, zs_133_14, zs_133_17, zs_133_19, zs_133_20, zs_133_21, zs_133_22, zs_133_23, zs_133_27, zs_133_30, zs_133_32, zs_133_33, zs_133_34, zs_133_35, zs_133_38, zs_133_38u, zs_133_39, zs_133_42, zs_133_44, zs_133_45, zs_133_46, zs_133_47, zs_133_48, zs_133_49, zs_133_52, zs_133_53_0, zs_133_53_1, zs_133_53, zs_133_54, zs_133_57, zs_133_61_0, zs_133_61_1, zs_133_61, zc_isO, zr_fld_mk, zc_isA, zc_len, zr_elt_mk, zr_kill_i, zr_kill_l, zr_kill_r, zr_kill_u, zr_kill_f, zr_kill_n, zc_cat, zr_cat_i, zr_cat_l, zr_cat_r, zr_cat_f, zr_cat_d, zr_cat_u, beq_self_eq_true, Nat.zero_le, Nat.le_refl, Nat.reduceSub, Nat.reduceAdd, Nat.reduceLeDiff, csl_f, csr_f, cn_f, lg_cmp_eq, lg_cmp_le, lg_cmp_lt, lg_cmp_ge, lg_cmp_gt, nI_1, zr_up_self, zp_O, zr_fup_self, zr_fup_ne, ne_eq, Nat.reduceEqDiff, not_false_eq_true, pk_mul, v.1, zy_I, zy_0, a1, p1, p2, t2, t13, c1]
      rw [lN_le (by omega) (by omega)]
      refine ⟨fun z => absurd z (by omega), fun _ => ?_⟩
      obtain ⟨-, q1, q2⟩ := mq_e v (k := 13 + 2 * k) (by omega)
      obtain ⟨-, q3, q4⟩ := mq_e v (k := 13 + 2 * k + 1) (by omega)
      have e2 : (nI (13 + 2 * k + 2)) = nI (13 + 2 * (k + 1)) := rfl
      have n2 : nI (13 + 2 * k) + 2 = nI (13 + 2 * (k + 1)) := nI_add _ 2
      rw [show 13 + 2 * k + 1 = 14 + 2 * k by omega] at q3 q4
      have n1 : nI (13 + 2 * k) + 1 = nI (14 + 2 * k) := by rw [show 14 + 2 * k = 13 + 2 * k + 1 by omega]; exact nI_add _ 1
      simp only [zs_133_0, zs_133_2, zs_133_6, zs_133_7, zs_133_10, zs_133_13, zs_133_13u, zs_133_14, zs_133_17, zs_133_19, zs_133_20, zs_133_21, zs_133_22, zs_133_23, zs_133_26, zs_133_26u, zs_133_27, zs_133_30, zs_133_32, zs_133_33, zs_133_34, zs_133_35, zs_133_38, zs_133_38u, zs_133_39, zs_133_42, zs_133_44, zs_133_45, zs_133_46, zs_133_47, zs_133_48, zs_133_49, zs_133_53_0, zs_133_53_1, zs_133_53, zs_133_57, zs_133_60, zs_133_61_0, zs_133_61_1, zs_133_61, zc_isO, zr_fld_mk, zc_isA, zc_len, zr_elt_mk, zr_kill_i, zr_kill_l, zr_kill_r, zr_kill_u, zr_kill_f, zr_kill_n, zc_cat, zr_cat_i, zr_cat_l, zr_cat_r, zr_cat_f, zr_cat_d, zr_cat_u, beq_self_eq_true, Nat.zero_le, Nat.le_refl, Nat.reduceSub, Nat.reduceAdd, Nat.reduceLeDiff, csl_f, csr_f, cn_f, lg_cmp_eq, lg_cmp_le, lg_cmp_lt, lg_cmp_ge, lg_cmp_gt, nI_1, zr_up_self, zp_O, zr_fup_self, zr_fup_ne, ne_eq, Nat.reduceEqDiff, not_false_eq_true, pk_mul, v.1, zy_I, zy_0, a1, q1, q2]
      refine ⟨fun z => ?_, fun z => ?_⟩
      · have := ih (k + 1) (by omega) (fun j hj => by
          rcases Nat.lt_or_ge j k with g | g
          · exact hno j g
          · have : j = k := by omega
            subst this
            exact fun y => z y.1)
        simp only [zs_133_0, zs_133_2, zs_133_6, zs_133_7, zs_133_10, zs_133_13, zs_133_13u, zs_133_14, zs_133_17, zs_133_19, zs_133_20, zs_133_21, zs_133_22, zs_133_23, zs_133_26, zs_133_26u, zs_133_27, zs_133_30, zs_133_32, zs_133_33, zs_133_34, zs_133_35, zs_133_38, zs_133_38u, zs_133_39, zs_133_42, zs_133_44, zs_133_45, zs_133_46, zs_133_47, zs_133_48, zs_133_49, zs_133_52, zs_133_53_0, zs_133_53_1, zs_133_53, zs_133_54, zs_133_57, zs_133_60, zs_133_61_0, zs_133_61_1, zs_133_61, zc_isO, zr_fld_mk, zc_isA, zc_len, zr_elt_mk, zr_kill_i, zr_kill_l, zr_kill_r, zr_kill_u, zr_kill_f, zr_kill_n, zc_cat, zr_cat_i, zr_cat_l, zr_cat_r, zr_cat_f, zr_cat_d, zr_cat_u, beq_self_eq_true, Nat.zero_le, Nat.le_refl, Nat.reduceSub, Nat.reduceAdd, Nat.reduceLeDiff, csl_f, csr_f, cn_f, lg_cmp_eq, lg_cmp_le, lg_cmp_lt, lg_cmp_ge, lg_cmp_gt, nI_1, zr_up_self, zp_O, zr_fup_self, zr_fup_ne, ne_eq, Nat.reduceEqDiff, not_false_eq_true, pk_mul, n2]
        exact this
      · rw [show 13 + 2 * k + 1 = 14 + 2 * k by omega]
        simp only [zs_133_0, zs_133_2, zs_133_6, zs_133_7, zs_133_10, zs_133_13, zs_133_13u, zs_133_14, zs_133_17, zs_133_19, zs_133_20, zs_133_21, zs_133_22, zs_133_23, zs_133_26, zs_133_26u, zs_133_27, zs_133_30, zs_133_32, zs_133_33, zs_133_34, zs_133_35, zs_133_38, zs_133_38u, zs_133_39, zs_133_42, zs_133_44, zs_133_45, zs_133_46, zs_133_47, zs_133_48, zs_133_49, zs_133_53_0, zs_133_53_1, zs_133_53, zs_133_57, zs_133_60, zs_133_61_0, zs_133_61_1, zs_133_61, zc_isO, zr_fld_mk, zc_isA, zc_len, zr_elt_mk, zr_kill_i, zr_kill_l, zr_kill_r, zr_kill_u, zr_kill_f, zr_kill_n, zc_cat, zr_cat_i, zr_cat_l, zr_cat_r, zr_cat_f, zr_cat_d, zr_cat_u, beq_self_eq_true, Nat.zero_le, Nat.le_refl, Nat.reduceSub, Nat.reduceAdd, Nat.reduceLeDiff, csl_f, csr_f, cn_f, lg_cmp_eq, lg_cmp_le, lg_cmp_lt, lg_cmp_ge, lg_cmp_gt, nI_1, zr_up_self, zp_O, zr_fup_self, zr_fup_ne, ne_eq, Nat.reduceEqDiff, not_false_eq_true, pk_mul, v.1, zy_I, zy_0, a1, q3, q4, n1]
        refine ⟨fun z2 => ?_, fun z2 => ?_⟩
        · have := ih (k + 1) (by omega) (fun j hj => by
            rcases Nat.lt_or_ge j k with g | g
            · exact hno j g
            · have : j = k := by omega
              subst this
              exact fun y => z2 y.2)
          simp only [zs_133_0, zs_133_2, zs_133_6, zs_133_7, zs_133_10, zs_133_13, zs_133_13u, zs_133_14, zs_133_17, zs_133_19, zs_133_20, zs_133_21, zs_133_22, zs_133_23, zs_133_26, zs_133_26u, zs_133_27, zs_133_30, zs_133_32, zs_133_33, zs_133_34, zs_133_35, zs_133_38, zs_133_38u, zs_133_39, zs_133_42, zs_133_44, zs_133_45, zs_133_46, zs_133_47, zs_133_48, zs_133_49, zs_133_52, zs_133_53_0, zs_133_53_1, zs_133_53, zs_133_54, zs_133_57, zs_133_60, zs_133_61_0, zs_133_61_1, zs_133_61, zc_isO, zr_fld_mk, zc_isA, zc_len, zr_elt_mk, zr_kill_i, zr_kill_l, zr_kill_r, zr_kill_u, zr_kill_f, zr_kill_n, zc_cat, zr_cat_i, zr_cat_l, zr_cat_r, zr_cat_f, zr_cat_d, zr_cat_u, beq_self_eq_true, Nat.zero_le, Nat.le_refl, Nat.reduceSub, Nat.reduceAdd, Nat.reduceLeDiff, csl_f, csr_f, cn_f, lg_cmp_eq, lg_cmp_le, lg_cmp_lt, lg_cmp_ge, lg_cmp_gt, nI_1, zr_up_self, zp_O, zr_fup_self, zr_fup_ne, ne_eq, Nat.reduceEqDiff, not_false_eq_true, pk_mul, n2]
          exact this
        · simp only [zs_133_0, zs_133_2, zs_133_4, zs_133_6, zs_133_7, zs_133_10, zs_133_13, zs_133_13u, zs_133_14, zs_133_17, zs_133_19, zs_133_20, zs_133_21, zs_133_22, zs_133_23, zs_133_26, zs_133_26u, zs_133_27, zs_133_30, zs_133_32, zs_133_33, zs_133_34, zs_133_35, zs_133_38, zs_133_38u, zs_133_39, zs_133_42, zs_133_44, zs_133_45, zs_133_46, zs_133_47, zs_133_48, zs_133_49, zs_133_52, zs_133_53_0, zs_133_53_1, zs_133_53, zs_133_54, zs_133_57, zs_133_60, zs_133_61_0, zs_133_61_1, zs_133_61, zc_isO, zr_fld_mk, zc_isA, zc_len, zr_elt_mk, zr_kill_i, zr_kill_l, zr_kill_r, zr_kill_u, zr_kill_f, zr_kill_n, zc_cat, zr_cat_i, zr_cat_l, zr_cat_r, zr_cat_f, zr_cat_d, zr_cat_u, beq_self_eq_true, Nat.zero_le, Nat.le_refl, Nat.reduceSub, Nat.reduceAdd, Nat.reduceLeDiff, csl_f, csr_f, cn_f, lg_cmp_eq, lg_cmp_le, lg_cmp_lt, lg_cmp_ge, lg_cmp_gt, nI_1, zr_up_self, zp_O, zr_fup_self, zr_fup_ne, ne_eq, Nat.reduceEqDiff, not_false_eq_true, pk_mul]
          exact h1 ⟨k, by omega, z, z2⟩
  rw [ze_133]
  simp only [zs_133_0, zs_133_2, zs_133_6, zs_133_7, zs_133_10, zs_133_13, zs_133_13u, zs_133_14, zs_133_17, zs_133_19, zs_133_20, zs_133_21, zs_133_22, zs_133_23, zs_133_26, zs_133_26u, zs_133_27, zs_133_30, zs_133_32, zs_133_33, zs_133_34, zs_133_35, zs_133_38, zs_133_38u, zs_133_39, zs_133_42, zs_133_44, zs_133_45, zs_133_46, zs_133_47, zs_133_48, zs_133_49, zs_133_52, zs_133_53_0, zs_133_53_1, zs_133_53, zs_133_54, zs_133_57, zs_133_60, zs_133_61_0, zs_133_61_1, zs_133_61, zc_isO, zr_fld_mk, zc_isA, zc_len, zr_elt_mk, zr_kill_i, zr_kill_l, zr_kill_r, zr_kill_u, zr_kill_f, zr_kill_n, zc_cat, zr_cat_i, zr_cat_l, zr_cat_r, zr_cat_f, zr_cat_d, zr_cat_u, beq_self_eq_true, Nat.zero_le, Nat.le_refl, Nat.reduceSub, Nat.reduceAdd, Nat.reduceLeDiff, csl_f, csr_f, cn_f, lg_cmp_eq, lg_cmp_le, lg_cmp_lt, lg_cmp_ge, lg_cmp_gt, nI_1, zr_up_self, zp_O, zr_fup_self, zr_fup_ne, ne_eq, Nat.reduceEqDiff, not_false_eq_true, pk_mul]
  exact loop P.length 0 (Nat.zero_add _) (fun j hj => by omega)
theorem trT_cb {p c : Nat} (hc : c = 1 ∨ c = 2) : trT R S (so c b w) (so (3 - c) b w) p = cb R S b w p c := by
  unfold trT cb
  rw [so_or hc]
theorem trC_cm {p c : Nat} : trC R S (so c b w) p = cm R S b w p c := rfl
theorem trF_fm (hg : gI R S b w P I) {p c : Nat} (hp : p < R * S) (hc : c = 1 ∨ c = 2) : trF R S (so c b w) (so (3 - c) b w) p = fm R S b w p c := by
  have hg1 := hg.1
  have hn := g_n hg1
  unfold trF fm fr
  rw [trT_cb hc, trC_cm]
  have wc : wi (R * S) (cAround R S (cm R S b w p c)) := vn_N (ar_vn hg1) (rc_wi hg1 (wi_ob hp (by omega)))
  have hor := so_or (b := b) (w := w) hc
  refine tb_ext (fun i hi => ?_)
  rw [tb_and, tb_and, tb_and]
  cases z : tb (cAround R S (cm R S b w p c)) i
  · rw [Bool.false_and, Bool.false_and, Bool.false_and]
  · rw [tb_fa (by omega), decide_eq_true (wc i z), Bool.true_and, Bool.true_and, Bool.true_and, tb_cn _ hi, tb_cn _ hi]
    congr 1
    rw [← hor]
    have sub : tb (cb R S b w p c) i = true → tb (so (3 - c) b w) i = true ∧ tb (so c b w) i = false ∧ tb (ob p) i = tb (ob p) i := fun g => by
      have g1 : tb (so (3 - c) b w) i = true := sk_in g
      refine ⟨g1, ?_, rfl⟩
      rcases hc with e | e <;> subst e
      · cases y : tb (so 1 b w) i
        · rfl
        · have := hg.2.2.2.1 i y
          rw [show so (3 - 1) b w = w from rfl, this] at g1; cases g1
      · cases y : tb (so 2 b w) i
        · rfl
        · have g1 : tb b i = true := g1
          have := hg.2.2.2.1 i g1
          rw [show so 2 b w = w from rfl, this] at y; cases y
    simp only [tb_or, tb_and, tb_cn _ hi]
    cases y : tb (cb R S b w p c) i
    · cases tb (so c b w) i <;> cases tb (so (3 - c) b w) i <;> cases tb (ob p) i <;> rfl
    · have := sub y
      rw [this.1, this.2.1]
      have cbp : tb (ob p) i = false ∨ tb (ob p) i = true := by cases tb (ob p) i; exact Or.inl rfl; exact Or.inr rfl
      rcases cbp with u | u
      · rw [u]; rfl
      · exfalso
        rw [tb_ob (by omega) hi, decide_eq_true_eq] at u
        subst u
        have hi2 := this.1
        have hw := so_wi hg (3 - c)
        have g2 := (sk_tb hg1 hw hi2).mp y
        rw [and_0] at g2
        have hcm : tb (cm R S b w i c) i = true := clo_1 (by rw [tb_ob (by omega) hi, decide_eq_true rfl])
        have hne := sk_tb hg1 hw hi2 (t := b ||| w)
        have h0 : sk R S (so (3 - c) b w) (b ||| w) = 0 := by
          have hk := hs_sk hg
          rcases hc with e | e <;> subst e
          · exact hk.2
          · exact hk.1
        rw [h0, tb_0] at hne
        have : cAround R S (rc R S (so (3 - c) b w) (ob i)) &&& ab R S (b ||| w) = 0 := by
          rw [and_0]
          intro e he
          have h1 := g2 e he
          cases z2 : tb (ab R S (b ||| w)) e
          · rfl
          · have h2 := (ab_tb hg1).mp z2
            have : tb (ab R S (b ||| w ||| ob i)) e = true := (ab_tb hg1).mpr ⟨h2.1, by
              rw [tb_or, h2.2, tb_ob (by omega) (tb_lt he), Bool.false_or, decide_eq_false_iff_not]
              intro ee
              subst ee
              have h3 := h2.2
              rw [tb_or] at h3
              have h4 : tb (b ||| w) e = true := by rw [← so_or hc, tb_or, hi2, Bool.or_true]
              rw [tb_or, h3] at h4
              cases h4⟩
            rw [h1] at this
            cases this
        exact absurd (hne.mpr this) (by decide)
theorem trL_sb {L' : Nat → Int64} {p c : Nat} (hc : c = 1 ∨ c = 2) (t : trL R S (so c b w) (so (3 - c) b w) p L') : (sb R S b w p c 1, sb R S b w p c 2) = if c = 1 then (L' 17, L' 18) else (L' 18, L' 17) := by
  rcases hc with e | e <;> subst e
  · rw [if_pos rfl, t.1, t.2.1, trT_cb (Or.inl rfl)]
    rfl
  · rw [if_neg (by decide), t.1, t.2.1, trT_cb (Or.inr rfl)]
    rfl
theorem k_mref (v : mq h m E K L f R S b w P I) {p c : Nat} (hp : p < R * S) (hc : c = 1 ∨ c = 2) (hQ : ∀ L', (rf R S b w P I p c = 0 → trL R S (so c b w) (so (3 - c) b w) p L') → Q (.inl (some (.int (nI (rf R S b w P I p c))))) (zr_up h m (zym E K L'))) : zr_E (d + 7) 177 [.ref m, .int (nI p), .int (nI c)] h Q := by
  have hg := v.2.2.2.1
  have hn := g_n hg
  have r := v.2.2.1
  have g4 := v.2.2.2.2.2.2.2.2.2.1
  have g8 := v.2.2.2.2.2.2.2.2.2.2.2.1
  have two : ∀ x : Int32, (2 : Int64) = (2 : Int32).toInt64 := fun _ => rfl
  obtain ⟨a1, q4, e4⟩ := mq_e v (k := 4) (by omega)
  obtain ⟨-, q7, e7⟩ := mq_e v (k := 7) (by omega)
  obtain ⟨-, q2, e2⟩ := mq_e v (k := 2) (by omega)
  rw [r.2.2.2.2.1] at e4
  rw [r.2.2.2.2.2.2.2.1] at e7
  rw [r.2.2.1] at e2
  have q4 : vp_in 4 (zr_len (h (E 0))) := q4
  have e4 : zr_elt (h (E 0)) (4 : Int32).toNatClampNeg = .long (I 4).toInt64 := e4
  have q7 : vp_in 7 (zr_len (h (E 0))) := q7
  have e7 : zr_elt (h (E 0)) (7 : Int32).toNatClampNeg = .long (I 7).toInt64 := e7
  have q2 : vp_in 2 (zr_len (h (E 0))) := q2
  have e2 : zr_elt (h (E 0)) (2 : Int32).toNatClampNeg = .long (I 2).toInt64 := e2
  have hid := up_id v.1
  have fin : ∀ x, rf R S b w P I p c = x → ¬ x = 0 → Q (.inl (some (.int (nI x)))) h := fun x e n => by
    have := hQ L (fun z => absurd z (by rw [e]; exact n))
    rw [e, hid] at this
    exact this
  have p4 : ((I 4).toInt64 = 2) ↔ 2 ≤ I 4 := by
    rw [show (2 : Int64) = (2 : Int32).toInt64 from rfl, i64_eq]
    rcases g4 with e | e | e <;> rw [e] <;> decide
  have hco := co_lt b w p
  rw [ze_177]
  simp only [zs_177_0, zs_177_0u, zs_177_1, zs_177_4, zs_177_5, zs_177_6, zs_177_9, zs_177_10, zs_177_14, zs_177_16, zs_177_17, zt_177_17, zs_177_20, zs_177_23, zs_177_24, zs_177_25, zs_177_25u, zs_177_26, zs_177_29, zs_177_31, zs_177_32, zs_177_33, zs_177_34, zs_177_35, zs_177_38, zs_177_38u, zs_177_39, zs_177_42, zs_177_43, zs_177_44, zs_177_45, zs_177_46, zs_177_47, zs_177_50, zs_177_51, zs_177_52, zs_177_52u, zs_177_53, zs_177_54, zs_177_55, zt_177_55, zs_177_58, zs_177_61, zs_177_62, zs_177_63, zs_177_63u, zs_177_64, zs_177_67, zs_177_69, zs_177_70, zs_177_71, zs_177_72, zs_177_75, zs_177_76, zs_177_77, zs_177_80, zs_177_80u, zs_177_81, zs_177_81u, zs_177_82, zs_177_85, zs_177_85u, zs_177_86, zs_177_89, zt_177_89, zs_177_92, zs_177_95, zs_177_98, zs_177_98u, zs_177_99, zs_177_99u, zs_177_100, zs_177_103, zs_177_103u, zs_177_104, zs_177_107, zt_177_107, zs_177_110, zs_177_113, zs_177_114, zs_177_117, zs_177_118, zc_isO, zr_fld_mk, zc_isA, zc_len, zr_elt_mk, zr_kill_i, zr_kill_l, zr_kill_r, zr_kill_u, zr_kill_f, zr_kill_n, zc_cat, zr_cat_i, zr_cat_l, zr_cat_r, zr_cat_f, zr_cat_d, zr_cat_u, beq_self_eq_true, Nat.zero_le, Nat.le_refl, Nat.reduceSub, Nat.reduceAdd, Nat.reduceLeDiff, csl_f, csr_f, cn_f, lg_cmp_eq, lg_cmp_le, lg_cmp_lt, lg_cmp_ge, lg_cmp_gt, nI_1, zr_up_self, zp_O, zr_fup_self, zr_fup_ne, ne_eq, Nat.reduceEqDiff, not_false_eq_true, pk_mul, v.1, zy_I, zy_0, a1, q4, e4]
  rw [p4]
  refine ⟨fun z => ?_, fun z => ?_⟩
  rotate_left
  · simp only [zs_177_0, zs_177_0u, zs_177_1, zs_177_4, zs_177_5, zs_177_6, zs_177_9, zs_177_10, zs_177_13, zs_177_14, zs_177_15, zs_177_15u, zs_177_16, zs_177_17, zt_177_17, zs_177_20, zs_177_23, zs_177_24, zs_177_25, zs_177_25u, zs_177_26, zs_177_29, zs_177_31, zs_177_32, zs_177_33, zs_177_34, zs_177_35, zs_177_38, zs_177_38u, zs_177_39, zs_177_42, zs_177_43, zs_177_44, zs_177_45, zs_177_46, zs_177_47, zs_177_50, zs_177_51, zs_177_52, zs_177_52u, zs_177_53, zs_177_54, zs_177_55, zt_177_55, zs_177_58, zs_177_61, zs_177_62, zs_177_63, zs_177_63u, zs_177_64, zs_177_67, zs_177_69, zs_177_70, zs_177_71, zs_177_72, zs_177_75, zs_177_76, zs_177_77, zs_177_80, zs_177_80u, zs_177_81, zs_177_81u, zs_177_82, zs_177_85, zs_177_85u, zs_177_86, zs_177_89, zt_177_89, zs_177_92, zs_177_95, zs_177_98, zs_177_98u, zs_177_99, zs_177_99u, zs_177_100, zs_177_103, zs_177_103u, zs_177_104, zs_177_107, zt_177_107, zs_177_110, zs_177_113, zs_177_114, zs_177_117, zs_177_118, zc_isO, zr_fld_mk, zc_isA, zc_len, zr_elt_mk, zr_kill_i, zr_kill_l, zr_kill_r, zr_kill_u, zr_kill_f, zr_kill_n, zc_cat, zr_cat_i, zr_cat_l, zr_cat_r, zr_cat_f, zr_cat_d, zr_cat_u, beq_self_eq_true, Nat.zero_le, Nat.le_refl, Nat.reduceSub, Nat.reduceAdd, Nat.reduceLeDiff, csl_f, csr_f, cn_f, lg_cmp_eq, lg_cmp_le, lg_cmp_lt, lg_cmp_ge, lg_cmp_gt, nI_1, zr_up_self, zp_O, zr_fup_self, zr_fup_ne, ne_eq, Nat.reduceEqDiff, not_false_eq_true, pk_mul]
    exact fin 1 (by unfold rf; rw [if_pos z]) (by omega)
  simp only [zs_177_0, zs_177_0u, zs_177_1, zs_177_4, zs_177_5, zs_177_6, zs_177_9, zs_177_10, zs_177_13, zs_177_14, zs_177_15, zs_177_15u, zs_177_16, zs_177_17, zt_177_17, zs_177_20, zs_177_23, zs_177_24, zs_177_25, zs_177_25u, zs_177_26, zs_177_29, zs_177_31, zs_177_32, zs_177_33, zs_177_34, zs_177_35, zs_177_38, zs_177_38u, zs_177_39, zs_177_42, zs_177_43, zs_177_44, zs_177_45, zs_177_46, zs_177_47, zs_177_50, zs_177_51, zs_177_52, zs_177_52u, zs_177_53, zs_177_54, zs_177_55, zt_177_55, zs_177_58, zs_177_61, zs_177_62, zs_177_63, zs_177_63u, zs_177_64, zs_177_67, zs_177_69, zs_177_70, zs_177_71, zs_177_72, zs_177_75, zs_177_76, zs_177_77, zs_177_80, zs_177_80u, zs_177_81, zs_177_81u, zs_177_82, zs_177_85, zs_177_85u, zs_177_86, zs_177_89, zt_177_89, zs_177_92, zs_177_95, zs_177_98, zs_177_98u, zs_177_99, zs_177_99u, zs_177_100, zs_177_103, zs_177_103u, zs_177_104, zs_177_107, zt_177_107, zs_177_110, zs_177_113, zs_177_114, zs_177_117, zs_177_118, zc_isO, zr_fld_mk, zc_isA, zc_len, zr_elt_mk, zr_kill_i, zr_kill_l, zr_kill_r, zr_kill_u, zr_kill_f, zr_kill_n, zc_cat, zr_cat_i, zr_cat_l, zr_cat_r, zr_cat_f, zr_cat_d, zr_cat_u, beq_self_eq_true, Nat.zero_le, Nat.le_refl, Nat.reduceSub, Nat.reduceAdd, Nat.reduceLeDiff, csl_f, csr_f, cn_f, lg_cmp_eq, lg_cmp_le, lg_cmp_lt, lg_cmp_ge, lg_cmp_gt, nI_1, zr_up_self, zp_O, zr_fup_self, zr_fup_ne, ne_eq, Nat.reduceEqDiff, not_false_eq_true, pk_mul, v.1, zy_I]
  refine k_mco (d := d + 4) v (by omega) ?_
  simp only [zs_177_0, zs_177_0u, zs_177_1, zs_177_4, zs_177_5, zs_177_6, zs_177_9, zs_177_10, zs_177_13, zs_177_14, zs_177_15, zs_177_15u, zs_177_16, zs_177_17, zt_177_17, zs_177_20, zs_177_24, zs_177_26, zs_177_29, zs_177_31, zs_177_32, zs_177_33, zs_177_34, zs_177_35, zs_177_38, zs_177_38u, zs_177_39, zs_177_42, zs_177_43, zs_177_44, zs_177_45, zs_177_46, zs_177_47, zs_177_50, zs_177_51, zs_177_52, zs_177_52u, zs_177_53, zs_177_54, zs_177_55, zt_177_55, zs_177_58, zs_177_61, zs_177_62, zs_177_63, zs_177_63u, zs_177_64, zs_177_67, zs_177_69, zs_177_70, zs_177_71, zs_177_72, zs_177_75, zs_177_76, zs_177_77, zs_177_80, zs_177_80u, zs_177_81, zs_177_81u, zs_177_82, zs_177_85, zs_177_85u, zs_177_86, zs_177_89, zt_177_89, zs_177_92, zs_177_95, zs_177_98, zs_177_98u, zs_177_99, zs_177_99u, zs_177_100, zs_177_103, zs_177_103u, zs_177_104, zs_177_107, zt_177_107, zs_177_110, zs_177_113, zs_177_114, zs_177_117, zs_177_118, zc_isO, zr_fld_mk, zc_isA, zc_len, zr_elt_mk, zr_kill_i, zr_kill_l, zr_kill_r, zr_kill_u, zr_kill_f, zr_kill_n, zc_cat, zr_cat_i, zr_cat_l, zr_cat_r, zr_cat_f, zr_cat_d, zr_cat_u, beq_self_eq_true, Nat.zero_le, Nat.le_refl, Nat.reduceSub, Nat.reduceAdd, Nat.reduceLeDiff, csl_f, csr_f, cn_f, lg_cmp_eq, lg_cmp_le, lg_cmp_lt, lg_cmp_ge, lg_cmp_gt, nI_1, zr_up_self, zp_O, zr_fup_self, zr_fup_ne, ne_eq, Nat.reduceEqDiff, not_false_eq_true, pk_mul]
  by_cases zc : co b w p = 0
  rotate_left
  · refine ⟨fun y => absurd y (nI_nle (by omega) (by omega)), fun _ => ?_⟩
    simp only [zs_177_0, zs_177_0u, zs_177_1, zs_177_4, zs_177_5, zs_177_6, zs_177_9, zs_177_10, zs_177_13, zs_177_14, zs_177_15, zs_177_15u, zs_177_16, zs_177_17, zt_177_17, zs_177_20, zs_177_23, zs_177_24, zs_177_25, zs_177_25u, zs_177_26, zs_177_29, zs_177_31, zs_177_32, zs_177_33, zs_177_34, zs_177_35, zs_177_38, zs_177_38u, zs_177_39, zs_177_42, zs_177_43, zs_177_44, zs_177_45, zs_177_46, zs_177_47, zs_177_50, zs_177_51, zs_177_52, zs_177_52u, zs_177_53, zs_177_54, zs_177_55, zt_177_55, zs_177_58, zs_177_61, zs_177_62, zs_177_63, zs_177_63u, zs_177_64, zs_177_67, zs_177_69, zs_177_70, zs_177_71, zs_177_72, zs_177_75, zs_177_76, zs_177_77, zs_177_80, zs_177_80u, zs_177_81, zs_177_81u, zs_177_82, zs_177_85, zs_177_85u, zs_177_86, zs_177_89, zt_177_89, zs_177_92, zs_177_95, zs_177_98, zs_177_98u, zs_177_99, zs_177_99u, zs_177_100, zs_177_103, zs_177_103u, zs_177_104, zs_177_107, zt_177_107, zs_177_110, zs_177_113, zs_177_114, zs_177_117, zs_177_118, zc_isO, zr_fld_mk, zc_isA, zc_len, zr_elt_mk, zr_kill_i, zr_kill_l, zr_kill_r, zr_kill_u, zr_kill_f, zr_kill_n, zc_cat, zr_cat_i, zr_cat_l, zr_cat_r, zr_cat_f, zr_cat_d, zr_cat_u, beq_self_eq_true, Nat.zero_le, Nat.le_refl, Nat.reduceSub, Nat.reduceAdd, Nat.reduceLeDiff, csl_f, csr_f, cn_f, lg_cmp_eq, lg_cmp_le, lg_cmp_lt, lg_cmp_ge, lg_cmp_gt, nI_1, zr_up_self, zp_O, zr_fup_self, zr_fup_ne, ne_eq, Nat.reduceEqDiff, not_false_eq_true, pk_mul]
    exact fin 2 (by unfold rf; rw [if_neg z, if_pos zc]) (by omega)
  rw [zc]
  refine ⟨fun _ => ?_, fun y => absurd (by decide) y⟩
  have tail : ¬ (nI p = I 7 ∧ nI c = I 2) → zr_Z (d + 6) 177 Q 52 [some (.ref m), some (.int (nI p)), some (.int (nI c))] [] h 0 0 := by
    intro zb
    have erf : rf R S b w P I p c = if fm R S b w p c = 0 then 4 else if I 8 = 0 then 0 else if (sb R S b w p c 1, sb R S b w p c 2) ∈ P then 5 else 0 := by
      unfold rf
      rw [if_neg z, if_neg (by rw [zc]; decide), if_neg zb]
    rw [erf] at hQ
    simp only [zs_177_0, zs_177_0u, zs_177_1, zs_177_4, zs_177_5, zs_177_6, zs_177_9, zs_177_10, zs_177_13, zs_177_14, zs_177_15, zs_177_15u, zs_177_16, zs_177_17, zt_177_17, zs_177_20, zs_177_23, zs_177_24, zs_177_25, zs_177_25u, zs_177_26, zs_177_29, zs_177_31, zs_177_32, zs_177_33, zs_177_34, zs_177_35, zs_177_38, zs_177_38u, zs_177_39, zs_177_42, zs_177_43, zs_177_44, zs_177_45, zs_177_46, zs_177_47, zs_177_50, zs_177_51, zs_177_52, zs_177_52u, zs_177_53, zs_177_54, zs_177_55, zt_177_55, zs_177_61, zs_177_62, zs_177_63, zs_177_63u, zs_177_64, zs_177_67, zs_177_69, zs_177_70, zs_177_71, zs_177_72, zs_177_75, zs_177_76, zs_177_77, zs_177_80, zs_177_80u, zs_177_81, zs_177_81u, zs_177_82, zs_177_85, zs_177_85u, zs_177_86, zs_177_89, zt_177_89, zs_177_92, zs_177_95, zs_177_98, zs_177_98u, zs_177_99, zs_177_99u, zs_177_100, zs_177_103, zs_177_103u, zs_177_104, zs_177_107, zt_177_107, zs_177_110, zs_177_113, zs_177_114, zs_177_117, zs_177_118, zc_isO, zr_fld_mk, zc_isA, zc_len, zr_elt_mk, zr_kill_i, zr_kill_l, zr_kill_r, zr_kill_u, zr_kill_f, zr_kill_n, zc_cat, zr_cat_i, zr_cat_l, zr_cat_r, zr_cat_f, zr_cat_d, zr_cat_u, beq_self_eq_true, Nat.zero_le, Nat.le_refl, Nat.reduceSub, Nat.reduceAdd, Nat.reduceLeDiff, csl_f, csr_f, cn_f, lg_cmp_eq, lg_cmp_le, lg_cmp_lt, lg_cmp_ge, lg_cmp_gt, nI_1, zr_up_self, zp_O, zr_fup_self, zr_fup_ne, ne_eq, Nat.reduceEqDiff, not_false_eq_true, pk_mul, v.1, zy_I]
    refine k_tryby (d := d) v hp hc (fun L' hL => ?_)
    have v2 := mq_up v K L'
    have hQ := hQ L' (fun _ => hL)
    rw [trF_fm v.2.2.2 hp hc]
    generalize zr_up h m (zym E K L') = h2 at *
    simp only [zs_177_0, zs_177_0u, zs_177_1, zs_177_4, zs_177_5, zs_177_6, zs_177_9, zs_177_10, zs_177_13, zs_177_14, zs_177_15, zs_177_15u, zs_177_16, zs_177_17, zt_177_17, zs_177_20, zs_177_23, zs_177_24, zs_177_25, zs_177_25u, zs_177_26, zs_177_29, zs_177_31, zs_177_32, zs_177_33, zs_177_34, zs_177_35, zs_177_38, zs_177_38u, zs_177_39, zs_177_42, zs_177_43, zs_177_44, zs_177_45, zs_177_46, zs_177_47, zs_177_50, zs_177_51, zs_177_52, zs_177_52u, zs_177_53, zs_177_54, zs_177_55, zt_177_55, zs_177_58, zs_177_62, zs_177_64, zs_177_67, zs_177_69, zs_177_70, zs_177_71, zs_177_72, zs_177_75, zs_177_76, zs_177_77, zs_177_80, zs_177_80u, zs_177_81, zs_177_81u, zs_177_82, zs_177_85, zs_177_85u, zs_177_86, zs_177_89, zt_177_89, zs_177_92, zs_177_95, zs_177_98, zs_177_98u, zs_177_99, zs_177_99u, zs_177_100, zs_177_103, zs_177_103u, zs_177_104, zs_177_107, zt_177_107, zs_177_110, zs_177_113, zs_177_114, zs_177_117, zs_177_118, zc_isO, zr_fld_mk, zc_isA, zc_len, zr_elt_mk, zr_kill_i, zr_kill_l, zr_kill_r, zr_kill_u, zr_kill_f, zr_kill_n, zc_cat, zr_cat_i, zr_cat_l, zr_cat_r, zr_cat_f, zr_cat_d, zr_cat_u, beq_self_eq_true, Nat.zero_le, Nat.le_refl, Nat.reduceSub, Nat.reduceAdd, Nat.reduceLeDiff, csl_f, csr_f, cn_f, lg_cmp_eq, lg_cmp_le, lg_cmp_lt, lg_cmp_ge, lg_cmp_gt, nI_1, zr_up_self, zp_O, zr_fup_self, zr_fup_ne, ne_eq, Nat.reduceEqDiff, not_false_eq_true, pk_mul]
    by_cases z4 : fm R S b w p c = 0
    · rw [decide_eq_false (fun y => y z4)]
      rw [if_pos z4] at hQ
      refine ⟨fun y => absurd rfl y, fun _ => ?_⟩
      simp only [zs_177_0, zs_177_0u, zs_177_1, zs_177_4, zs_177_5, zs_177_6, zs_177_9, zs_177_10, zs_177_13, zs_177_14, zs_177_15, zs_177_15u, zs_177_16, zs_177_17, zt_177_17, zs_177_20, zs_177_23, zs_177_24, zs_177_25, zs_177_25u, zs_177_26, zs_177_29, zs_177_31, zs_177_32, zs_177_33, zs_177_34, zs_177_35, zs_177_38, zs_177_38u, zs_177_39, zs_177_42, zs_177_43, zs_177_44, zs_177_45, zs_177_46, zs_177_47, zs_177_50, zs_177_51, zs_177_52, zs_177_52u, zs_177_53, zs_177_54, zs_177_55, zt_177_55, zs_177_58, zs_177_61, zs_177_62, zs_177_63, zs_177_63u, zs_177_64, zs_177_67, zs_177_69, zs_177_70, zs_177_71, zs_177_72, zs_177_75, zs_177_76, zs_177_77, zs_177_80, zs_177_80u, zs_177_81, zs_177_81u, zs_177_82, zs_177_85, zs_177_85u, zs_177_86, zs_177_89, zt_177_89, zs_177_92, zs_177_95, zs_177_98, zs_177_98u, zs_177_99, zs_177_99u, zs_177_100, zs_177_103, zs_177_103u, zs_177_104, zs_177_107, zt_177_107, zs_177_110, zs_177_113, zs_177_114, zs_177_117, zs_177_118, zc_isO, zr_fld_mk, zc_isA, zc_len, zr_elt_mk, zr_kill_i, zr_kill_l, zr_kill_r, zr_kill_u, zr_kill_f, zr_kill_n, zc_cat, zr_cat_i, zr_cat_l, zr_cat_r, zr_cat_f, zr_cat_d, zr_cat_u, beq_self_eq_true, Nat.zero_le, Nat.le_refl, Nat.reduceSub, Nat.reduceAdd, Nat.reduceLeDiff, csl_f, csr_f, cn_f, lg_cmp_eq, lg_cmp_le, lg_cmp_lt, lg_cmp_ge, lg_cmp_gt, nI_1, zr_up_self, zp_O, zr_fup_self, zr_fup_ne, ne_eq, Nat.reduceEqDiff, not_false_eq_true, pk_mul]
      exact hQ
    · rw [decide_eq_true z4]
      rw [if_neg z4] at hQ
      refine ⟨fun _ => ?_, fun y => absurd y (by decide)⟩
      obtain ⟨a1', q8, e8⟩ := mq_e v2 (k := 8) (by omega)
      rw [r.2.2.2.2.2.2.2.2.1] at e8
      have q8 : vp_in 8 (zr_len (h2 (E 0))) := q8
      have e8 : zr_elt (h2 (E 0)) (8 : Int32).toNatClampNeg = .long (I 8).toInt64 := e8
      simp only [zs_177_0, zs_177_0u, zs_177_1, zs_177_4, zs_177_5, zs_177_6, zs_177_9, zs_177_10, zs_177_13, zs_177_14, zs_177_15, zs_177_15u, zs_177_16, zs_177_17, zt_177_17, zs_177_20, zs_177_23, zs_177_24, zs_177_25, zs_177_25u, zs_177_26, zs_177_29, zs_177_31, zs_177_32, zs_177_33, zs_177_34, zs_177_35, zs_177_38, zs_177_38u, zs_177_39, zs_177_42, zs_177_43, zs_177_44, zs_177_45, zs_177_46, zs_177_47, zs_177_50, zs_177_51, zs_177_52, zs_177_52u, zs_177_53, zs_177_54, zs_177_55, zt_177_55, zs_177_58, zs_177_61, zs_177_62, zs_177_63, zs_177_63u, zs_177_64, zs_177_67, zs_177_69, zs_177_70, zs_177_71, zs_177_72, zs_177_76, zs_177_77, zs_177_80, zs_177_80u, zs_177_81, zs_177_81u, zs_177_82, zs_177_85, zs_177_85u, zs_177_86, zs_177_89, zt_177_89, zs_177_92, zs_177_95, zs_177_98, zs_177_98u, zs_177_99, zs_177_99u, zs_177_100, zs_177_103, zs_177_103u, zs_177_104, zs_177_107, zt_177_107, zs_177_110, zs_177_113, zs_177_114, zs_177_118, zc_isO, zr_fld_mk, zc_isA, zc_len, zr_elt_mk, zr_kill_i, zr_kill_l, zr_kill_r, zr_kill_u, zr_kill_f, zr_kill_n, zc_cat, zr_cat_i, zr_cat_l, zr_cat_r, zr_cat_f, zr_cat_d, zr_cat_u, beq_self_eq_true, Nat.zero_le, Nat.le_refl, Nat.reduceSub, Nat.reduceAdd, Nat.reduceLeDiff, csl_f, csr_f, cn_f, lg_cmp_eq, lg_cmp_le, lg_cmp_lt, lg_cmp_ge, lg_cmp_gt, nI_1, zr_up_self, zp_O, zr_fup_self, zr_fup_ne, ne_eq, Nat.reduceEqDiff, not_false_eq_true, pk_mul, v2.1, zy_I, zy_0, a1', q8, e8]
      rw [show (1 : Int64) = (1 : Int32).toInt64 from rfl, i64_eq]
      refine ⟨fun y => ?_, fun y => ?_⟩
      · have y0 : I 8 = 0 := g8.elim (fun e => e) (fun e => absurd e y)
        rw [if_pos y0] at hQ
        simp only [zs_177_0, zs_177_0u, zs_177_1, zs_177_4, zs_177_5, zs_177_6, zs_177_9, zs_177_10, zs_177_13, zs_177_14, zs_177_15, zs_177_15u, zs_177_16, zs_177_17, zt_177_17, zs_177_20, zs_177_23, zs_177_24, zs_177_25, zs_177_25u, zs_177_26, zs_177_29, zs_177_31, zs_177_32, zs_177_33, zs_177_34, zs_177_35, zs_177_38, zs_177_38u, zs_177_39, zs_177_42, zs_177_43, zs_177_44, zs_177_45, zs_177_46, zs_177_47, zs_177_50, zs_177_51, zs_177_52, zs_177_52u, zs_177_53, zs_177_54, zs_177_55, zt_177_55, zs_177_58, zs_177_61, zs_177_62, zs_177_63, zs_177_63u, zs_177_64, zs_177_67, zs_177_69, zs_177_70, zs_177_71, zs_177_72, zs_177_75, zs_177_76, zs_177_77, zs_177_80, zs_177_80u, zs_177_81, zs_177_81u, zs_177_82, zs_177_85, zs_177_85u, zs_177_86, zs_177_89, zt_177_89, zs_177_92, zs_177_95, zs_177_98, zs_177_98u, zs_177_99, zs_177_99u, zs_177_100, zs_177_103, zs_177_103u, zs_177_104, zs_177_107, zt_177_107, zs_177_110, zs_177_113, zs_177_114, zs_177_117, zs_177_118, zc_isO, zr_fld_mk, zc_isA, zc_len, zr_elt_mk, zr_kill_i, zr_kill_l, zr_kill_r, zr_kill_u, zr_kill_f, zr_kill_n, zc_cat, zr_cat_i, zr_cat_l, zr_cat_r, zr_cat_f, zr_cat_d, zr_cat_u, beq_self_eq_true, Nat.zero_le, Nat.le_refl, Nat.reduceSub, Nat.reduceAdd, Nat.reduceLeDiff, csl_f, csr_f, cn_f, lg_cmp_eq, lg_cmp_le, lg_cmp_lt, lg_cmp_ge, lg_cmp_gt, nI_1, zr_up_self, zp_O, zr_fup_self, zr_fup_ne, ne_eq, Nat.reduceEqDiff, not_false_eq_true, pk_mul]
        exact hQ
      · rw [if_neg (by rw [y]; decide), trL_sb hc hL] at hQ
        simp only [zs_177_0, zs_177_0u, zs_177_1, zs_177_4, zs_177_5, zs_177_6, zs_177_9, zs_177_10, zs_177_13, zs_177_14, zs_177_15, zs_177_15u, zs_177_16, zs_177_17, zt_177_17, zs_177_20, zs_177_23, zs_177_24, zs_177_25, zs_177_25u, zs_177_26, zs_177_29, zs_177_31, zs_177_32, zs_177_33, zs_177_34, zs_177_35, zs_177_38, zs_177_38u, zs_177_39, zs_177_42, zs_177_43, zs_177_44, zs_177_45, zs_177_46, zs_177_47, zs_177_50, zs_177_51, zs_177_52, zs_177_52u, zs_177_53, zs_177_54, zs_177_55, zt_177_55, zs_177_58, zs_177_61, zs_177_62, zs_177_63, zs_177_63u, zs_177_64, zs_177_67, zs_177_69, zs_177_70, zs_177_71, zs_177_72, zs_177_75, zs_177_76, zs_177_77, zs_177_81, zs_177_81u, zs_177_82, zs_177_85, zs_177_85u, zs_177_86, zs_177_89, zt_177_89, zs_177_92, zs_177_95, zs_177_99, zs_177_99u, zs_177_100, zs_177_103, zs_177_103u, zs_177_104, zs_177_107, zt_177_107, zs_177_110, zs_177_113, zs_177_114, zs_177_117, zs_177_118, zc_isO, zr_fld_mk, zc_isA, zc_len, zr_elt_mk, zr_kill_i, zr_kill_l, zr_kill_r, zr_kill_u, zr_kill_f, zr_kill_n, zc_cat, zr_cat_i, zr_cat_l, zr_cat_r, zr_cat_f, zr_cat_d, zr_cat_u, beq_self_eq_true, Nat.zero_le, Nat.le_refl, Nat.reduceSub, Nat.reduceAdd, Nat.reduceLeDiff, csl_f, csr_f, cn_f, lg_cmp_eq, lg_cmp_le, lg_cmp_lt, lg_cmp_ge, lg_cmp_gt, nI_1, zr_up_self, zp_O, zr_fup_self, zr_fup_ne, ne_eq, Nat.reduceEqDiff, not_false_eq_true, pk_mul]
        rw [nI_eq1 (by omega)]
        refine ⟨fun u => ?_, fun u => ?_⟩
        · rw [if_neg u] at hQ
          simp only [zs_177_0, zs_177_0u, zs_177_1, zs_177_4, zs_177_5, zs_177_6, zs_177_9, zs_177_10, zs_177_13, zs_177_14, zs_177_15, zs_177_15u, zs_177_16, zs_177_17, zt_177_17, zs_177_20, zs_177_23, zs_177_24, zs_177_25, zs_177_25u, zs_177_26, zs_177_29, zs_177_31, zs_177_32, zs_177_33, zs_177_34, zs_177_35, zs_177_38, zs_177_38u, zs_177_39, zs_177_42, zs_177_43, zs_177_44, zs_177_45, zs_177_46, zs_177_47, zs_177_50, zs_177_51, zs_177_52, zs_177_52u, zs_177_53, zs_177_54, zs_177_55, zt_177_55, zs_177_58, zs_177_61, zs_177_62, zs_177_63, zs_177_63u, zs_177_64, zs_177_67, zs_177_69, zs_177_70, zs_177_71, zs_177_72, zs_177_75, zs_177_76, zs_177_77, zs_177_80, zs_177_80u, zs_177_81, zs_177_81u, zs_177_82, zs_177_85, zs_177_85u, zs_177_86, zs_177_89, zt_177_89, zs_177_92, zs_177_95, zs_177_98, zs_177_98u, zs_177_99, zs_177_99u, zs_177_100, zs_177_103, zs_177_103u, zs_177_104, zs_177_107, zt_177_107, zs_177_110, zs_177_113, zs_177_114, zs_177_117, zs_177_118, zc_isO, zr_fld_mk, zc_isA, zc_len, zr_elt_mk, zr_kill_i, zr_kill_l, zr_kill_r, zr_kill_u, zr_kill_f, zr_kill_n, zc_cat, zr_cat_i, zr_cat_l, zr_cat_r, zr_cat_f, zr_cat_d, zr_cat_u, beq_self_eq_true, Nat.zero_le, Nat.le_refl, Nat.reduceSub, Nat.reduceAdd, Nat.reduceLeDiff, csl_f, csr_f, cn_f, lg_cmp_eq, lg_cmp_le, lg_cmp_lt, lg_cmp_ge, lg_cmp_gt, nI_1, zr_up_self, zp_O, zr_fup_self, zr_fup_ne, ne_eq, Nat.reduceEqDiff, not_false_eq_true, pk_mul, v2.1, zy_I, zy_17, zy_18]
          refine k_was (d := d + 5) v2 (fun s => ?_) (fun s => ?_)
          · rw [if_pos s] at hQ
            simp only [zs_177_0, zs_177_0u, zs_177_1, zs_177_4, zs_177_5, zs_177_6, zs_177_9, zs_177_10, zs_177_13, zs_177_14, zs_177_15, zs_177_15u, zs_177_16, zs_177_17, zt_177_17, zs_177_20, zs_177_23, zs_177_24, zs_177_25, zs_177_25u, zs_177_26, zs_177_29, zs_177_31, zs_177_32, zs_177_33, zs_177_34, zs_177_35, zs_177_38, zs_177_38u, zs_177_39, zs_177_42, zs_177_43, zs_177_44, zs_177_45, zs_177_46, zs_177_47, zs_177_50, zs_177_51, zs_177_52, zs_177_52u, zs_177_53, zs_177_54, zs_177_55, zt_177_55, zs_177_58, zs_177_61, zs_177_62, zs_177_63, zs_177_63u, zs_177_64, zs_177_67, zs_177_69, zs_177_70, zs_177_71, zs_177_72, zs_177_75, zs_177_76, zs_177_77, zs_177_80, zs_177_80u, zs_177_81, zs_177_81u, zs_177_82, zs_177_85, zs_177_85u, zs_177_86, zs_177_89, zt_177_89, zs_177_92, zs_177_95, zs_177_98, zs_177_98u, zs_177_99, zs_177_99u, zs_177_100, zs_177_103, zs_177_103u, zs_177_104, zs_177_107, zt_177_107, zs_177_110, zs_177_114, zs_177_118, zc_isO, zr_fld_mk, zc_isA, zc_len, zr_elt_mk, zr_kill_i, zr_kill_l, zr_kill_r, zr_kill_u, zr_kill_f, zr_kill_n, zc_cat, zr_cat_i, zr_cat_l, zr_cat_r, zr_cat_f, zr_cat_d, zr_cat_u, beq_self_eq_true, Nat.zero_le, Nat.le_refl, Nat.reduceSub, Nat.reduceAdd, Nat.reduceLeDiff, csl_f, csr_f, cn_f, lg_cmp_eq, lg_cmp_le, lg_cmp_lt, lg_cmp_ge, lg_cmp_gt, nI_1, zr_up_self, zp_O, zr_fup_self, zr_fup_ne, ne_eq, Nat.reduceEqDiff, not_false_eq_true, pk_mul]
            refine ⟨fun y => absurd y (by decide), fun _ => ?_⟩
            simp only [zs_177_0, zs_177_0u, zs_177_1, zs_177_4, zs_177_5, zs_177_6, zs_177_9, zs_177_10, zs_177_13, zs_177_14, zs_177_15, zs_177_15u, zs_177_16, zs_177_17, zt_177_17, zs_177_20, zs_177_23, zs_177_24, zs_177_25, zs_177_25u, zs_177_26, zs_177_29, zs_177_31, zs_177_32, zs_177_33, zs_177_34, zs_177_35, zs_177_38, zs_177_38u, zs_177_39, zs_177_42, zs_177_43, zs_177_44, zs_177_45, zs_177_46, zs_177_47, zs_177_50, zs_177_51, zs_177_52, zs_177_52u, zs_177_53, zs_177_54, zs_177_55, zt_177_55, zs_177_58, zs_177_61, zs_177_62, zs_177_63, zs_177_63u, zs_177_64, zs_177_67, zs_177_69, zs_177_70, zs_177_71, zs_177_72, zs_177_75, zs_177_76, zs_177_77, zs_177_80, zs_177_80u, zs_177_81, zs_177_81u, zs_177_82, zs_177_85, zs_177_85u, zs_177_86, zs_177_89, zt_177_89, zs_177_92, zs_177_95, zs_177_98, zs_177_98u, zs_177_99, zs_177_99u, zs_177_100, zs_177_103, zs_177_103u, zs_177_104, zs_177_107, zt_177_107, zs_177_110, zs_177_113, zs_177_114, zs_177_117, zs_177_118, zc_isO, zr_fld_mk, zc_isA, zc_len, zr_elt_mk, zr_kill_i, zr_kill_l, zr_kill_r, zr_kill_u, zr_kill_f, zr_kill_n, zc_cat, zr_cat_i, zr_cat_l, zr_cat_r, zr_cat_f, zr_cat_d, zr_cat_u, beq_self_eq_true, Nat.zero_le, Nat.le_refl, Nat.reduceSub, Nat.reduceAdd, Nat.reduceLeDiff, csl_f, csr_f, cn_f, lg_cmp_eq, lg_cmp_le, lg_cmp_lt, lg_cmp_ge, lg_cmp_gt, nI_1, zr_up_self, zp_O, zr_fup_self, zr_fup_ne, ne_eq, Nat.reduceEqDiff, not_false_eq_true, pk_mul]
            exact hQ
          · rw [if_neg s] at hQ
            simp only [zs_177_0, zs_177_0u, zs_177_1, zs_177_4, zs_177_5, zs_177_6, zs_177_9, zs_177_10, zs_177_13, zs_177_14, zs_177_15, zs_177_15u, zs_177_16, zs_177_17, zt_177_17, zs_177_20, zs_177_23, zs_177_24, zs_177_25, zs_177_25u, zs_177_26, zs_177_29, zs_177_31, zs_177_32, zs_177_33, zs_177_34, zs_177_35, zs_177_38, zs_177_38u, zs_177_39, zs_177_42, zs_177_43, zs_177_44, zs_177_45, zs_177_46, zs_177_47, zs_177_50, zs_177_51, zs_177_52, zs_177_52u, zs_177_53, zs_177_54, zs_177_55, zt_177_55, zs_177_58, zs_177_61, zs_177_62, zs_177_63, zs_177_63u, zs_177_64, zs_177_67, zs_177_69, zs_177_70, zs_177_71, zs_177_72, zs_177_75, zs_177_76, zs_177_77, zs_177_80, zs_177_80u, zs_177_81, zs_177_81u, zs_177_82, zs_177_85, zs_177_85u, zs_177_86, zs_177_89, zt_177_89, zs_177_92, zs_177_95, zs_177_98, zs_177_98u, zs_177_99, zs_177_99u, zs_177_100, zs_177_103, zs_177_103u, zs_177_104, zs_177_107, zt_177_107, zs_177_110, zs_177_114, zs_177_118, zc_isO, zr_fld_mk, zc_isA, zc_len, zr_elt_mk, zr_kill_i, zr_kill_l, zr_kill_r, zr_kill_u, zr_kill_f, zr_kill_n, zc_cat, zr_cat_i, zr_cat_l, zr_cat_r, zr_cat_f, zr_cat_d, zr_cat_u, beq_self_eq_true, Nat.zero_le, Nat.le_refl, Nat.reduceSub, Nat.reduceAdd, Nat.reduceLeDiff, csl_f, csr_f, cn_f, lg_cmp_eq, lg_cmp_le, lg_cmp_lt, lg_cmp_ge, lg_cmp_gt, nI_1, zr_up_self, zp_O, zr_fup_self, zr_fup_ne, ne_eq, Nat.reduceEqDiff, not_false_eq_true, pk_mul]
            refine ⟨fun _ => ?_, fun y => absurd trivial y⟩
            simp only [zs_177_0, zs_177_0u, zs_177_1, zs_177_4, zs_177_5, zs_177_6, zs_177_9, zs_177_10, zs_177_13, zs_177_14, zs_177_15, zs_177_15u, zs_177_16, zs_177_17, zt_177_17, zs_177_20, zs_177_23, zs_177_24, zs_177_25, zs_177_25u, zs_177_26, zs_177_29, zs_177_31, zs_177_32, zs_177_33, zs_177_34, zs_177_35, zs_177_38, zs_177_38u, zs_177_39, zs_177_42, zs_177_43, zs_177_44, zs_177_45, zs_177_46, zs_177_47, zs_177_50, zs_177_51, zs_177_52, zs_177_52u, zs_177_53, zs_177_54, zs_177_55, zt_177_55, zs_177_58, zs_177_61, zs_177_62, zs_177_63, zs_177_63u, zs_177_64, zs_177_67, zs_177_69, zs_177_70, zs_177_71, zs_177_72, zs_177_75, zs_177_76, zs_177_77, zs_177_80, zs_177_80u, zs_177_81, zs_177_81u, zs_177_82, zs_177_85, zs_177_85u, zs_177_86, zs_177_89, zt_177_89, zs_177_92, zs_177_95, zs_177_98, zs_177_98u, zs_177_99, zs_177_99u, zs_177_100, zs_177_103, zs_177_103u, zs_177_104, zs_177_107, zt_177_107, zs_177_110, zs_177_113, zs_177_114, zs_177_117, zs_177_118, zc_isO, zr_fld_mk, zc_isA, zc_len, zr_elt_mk, zr_kill_i, zr_kill_l, zr_kill_r, zr_kill_u, zr_kill_f, zr_kill_n, zc_cat, zr_cat_i, zr_cat_l, zr_cat_r, zr_cat_f, zr_cat_d, zr_cat_u, beq_self_eq_true, Nat.zero_le, Nat.le_refl, Nat.reduceSub, Nat.reduceAdd, Nat.reduceLeDiff, csl_f, csr_f, cn_f, lg_cmp_eq, lg_cmp_le, lg_cmp_lt, lg_cmp_ge, lg_cmp_gt, nI_1, zr_up_self, zp_O, zr_fup_self, zr_fup_ne, ne_eq, Nat.reduceEqDiff, not_false_eq_true, pk_mul]
            exact hQ
        · rw [if_pos u] at hQ
          simp only [zs_177_0, zs_177_0u, zs_177_1, zs_177_4, zs_177_5, zs_177_6, zs_177_9, zs_177_10, zs_177_13, zs_177_14, zs_177_15, zs_177_15u, zs_177_16, zs_177_17, zt_177_17, zs_177_20, zs_177_23, zs_177_24, zs_177_25, zs_177_25u, zs_177_26, zs_177_29, zs_177_31, zs_177_32, zs_177_33, zs_177_34, zs_177_35, zs_177_38, zs_177_38u, zs_177_39, zs_177_42, zs_177_43, zs_177_44, zs_177_45, zs_177_46, zs_177_47, zs_177_50, zs_177_51, zs_177_52, zs_177_52u, zs_177_53, zs_177_54, zs_177_55, zt_177_55, zs_177_58, zs_177_61, zs_177_62, zs_177_63, zs_177_63u, zs_177_64, zs_177_67, zs_177_69, zs_177_70, zs_177_71, zs_177_72, zs_177_75, zs_177_76, zs_177_77, zs_177_80, zs_177_80u, zs_177_81, zs_177_81u, zs_177_82, zs_177_85, zs_177_85u, zs_177_86, zs_177_89, zt_177_89, zs_177_92, zs_177_95, zs_177_98, zs_177_98u, zs_177_99, zs_177_99u, zs_177_100, zs_177_103, zs_177_103u, zs_177_104, zs_177_107, zt_177_107, zs_177_110, zs_177_114, zs_177_118, zc_isO, zr_fld_mk, zc_isA, zc_len, zr_elt_mk, zr_kill_i, zr_kill_l, zr_kill_r, zr_kill_u, zr_kill_f, zr_kill_n, zc_cat, zr_cat_i, zr_cat_l, zr_cat_r, zr_cat_f, zr_cat_d, zr_cat_u, beq_self_eq_true, Nat.zero_le, Nat.le_refl, Nat.reduceSub, Nat.reduceAdd, Nat.reduceLeDiff, csl_f, csr_f, cn_f, lg_cmp_eq, lg_cmp_le, lg_cmp_lt, lg_cmp_ge, lg_cmp_gt, nI_1, zr_up_self, zp_O, zr_fup_self, zr_fup_ne, ne_eq, Nat.reduceEqDiff, not_false_eq_true, pk_mul, v2.1, zy_I, zy_17, zy_18]
          refine k_was (d := d + 5) v2 (fun s => ?_) (fun s => ?_)
          · rw [if_pos s] at hQ
            simp only [zs_177_0, zs_177_0u, zs_177_1, zs_177_4, zs_177_5, zs_177_6, zs_177_9, zs_177_10, zs_177_13, zs_177_14, zs_177_15, zs_177_15u, zs_177_16, zs_177_17, zt_177_17, zs_177_20, zs_177_23, zs_177_24, zs_177_25, zs_177_25u, zs_177_26, zs_177_29, zs_177_31, zs_177_32, zs_177_33, zs_177_34, zs_177_35, zs_177_38, zs_177_38u, zs_177_39, zs_177_42, zs_177_43, zs_177_44, zs_177_45, zs_177_46, zs_177_47, zs_177_50, zs_177_51, zs_177_52, zs_177_52u, zs_177_53, zs_177_54, zs_177_55, zt_177_55, zs_177_58, zs_177_61, zs_177_62, zs_177_63, zs_177_63u, zs_177_64, zs_177_67, zs_177_69, zs_177_70, zs_177_71, zs_177_72, zs_177_75, zs_177_76, zs_177_77, zs_177_80, zs_177_80u, zs_177_81, zs_177_81u, zs_177_82, zs_177_85, zs_177_85u, zs_177_86, zs_177_89, zt_177_89, zs_177_92, zs_177_95, zs_177_98, zs_177_98u, zs_177_99, zs_177_99u, zs_177_100, zs_177_103, zs_177_103u, zs_177_104, zs_177_107, zt_177_107, zs_177_110, zs_177_114, zs_177_118, zc_isO, zr_fld_mk, zc_isA, zc_len, zr_elt_mk, zr_kill_i, zr_kill_l, zr_kill_r, zr_kill_u, zr_kill_f, zr_kill_n, zc_cat, zr_cat_i, zr_cat_l, zr_cat_r, zr_cat_f, zr_cat_d, zr_cat_u, beq_self_eq_true, Nat.zero_le, Nat.le_refl, Nat.reduceSub, Nat.reduceAdd, Nat.reduceLeDiff, csl_f, csr_f, cn_f, lg_cmp_eq, lg_cmp_le, lg_cmp_lt, lg_cmp_ge, lg_cmp_gt, nI_1, zr_up_self, zp_O, zr_fup_self, zr_fup_ne, ne_eq, Nat.reduceEqDiff, not_false_eq_true, pk_mul]
            refine ⟨fun y => absurd y (by decide), fun _ => ?_⟩
            simp only [zs_177_0, zs_177_0u, zs_177_1, zs_177_4, zs_177_5, zs_177_6, zs_177_9, zs_177_10, zs_177_13, zs_177_14, zs_177_15, zs_177_15u, zs_177_16, zs_177_17, zt_177_17, zs_177_20, zs_177_23, zs_177_24, zs_177_25, zs_177_25u, zs_177_26, zs_177_29, zs_177_31, zs_177_32, zs_177_33, zs_177_34, zs_177_35, zs_177_38, zs_177_38u, zs_177_39, zs_177_42, zs_177_43, zs_177_44, zs_177_45, zs_177_46, zs_177_47, zs_177_50, zs_177_51, zs_177_52, zs_177_52u, zs_177_53, zs_177_54, zs_177_55, zt_177_55, zs_177_58, zs_177_61, zs_177_62, zs_177_63, zs_177_63u, zs_177_64, zs_177_67, zs_177_69, zs_177_70, zs_177_71, zs_177_72, zs_177_75, zs_177_76, zs_177_77, zs_177_80, zs_177_80u, zs_177_81, zs_177_81u, zs_177_82, zs_177_85, zs_177_85u, zs_177_86, zs_177_89, zt_177_89, zs_177_92, zs_177_95, zs_177_98, zs_177_98u, zs_177_99, zs_177_99u, zs_177_100, zs_177_103, zs_177_103u, zs_177_104, zs_177_107, zt_177_107, zs_177_110, zs_177_113, zs_177_114, zs_177_117, zs_177_118, zc_isO, zr_fld_mk, zc_isA, zc_len, zr_elt_mk, zr_kill_i, zr_kill_l, zr_kill_r, zr_kill_u, zr_kill_f, zr_kill_n, zc_cat, zr_cat_i, zr_cat_l, zr_cat_r, zr_cat_f, zr_cat_d, zr_cat_u, beq_self_eq_true, Nat.zero_le, Nat.le_refl, Nat.reduceSub, Nat.reduceAdd, Nat.reduceLeDiff, csl_f, csr_f, cn_f, lg_cmp_eq, lg_cmp_le, lg_cmp_lt, lg_cmp_ge, lg_cmp_gt, nI_1, zr_up_self, zp_O, zr_fup_self, zr_fup_ne, ne_eq, Nat.reduceEqDiff, not_false_eq_true, pk_mul]
            exact hQ
          · rw [if_neg s] at hQ
            simp only [zs_177_0, zs_177_0u, zs_177_1, zs_177_4, zs_177_5, zs_177_6, zs_177_9, zs_177_10, zs_177_13, zs_177_14, zs_177_15, zs_177_15u, zs_177_16, zs_177_17, zt_177_17, zs_177_20, zs_177_23, zs_177_24, zs_177_25, zs_177_25u, zs_177_26, zs_177_29, zs_177_31, zs_177_32, zs_177_33, zs_177_34, zs_177_35, zs_177_38, zs_177_38u, zs_177_39, zs_177_42, zs_177_43, zs_177_44, zs_177_45, zs_177_46, zs_177_47, zs_177_50, zs_177_51, zs_177_52, zs_177_52u, zs_177_53, zs_177_54, zs_177_55, zt_177_55, zs_177_58, zs_177_61, zs_177_62, zs_177_63, zs_177_63u, zs_177_64, zs_177_67, zs_177_69, zs_177_70, zs_177_71, zs_177_72, zs_177_75, zs_177_76, zs_177_77, zs_177_80, zs_177_80u, zs_177_81, zs_177_81u, zs_177_82, zs_177_85, zs_177_85u, zs_177_86, zs_177_89, zt_177_89, zs_177_92, zs_177_95, zs_177_98, zs_177_98u, zs_177_99, zs_177_99u, zs_177_100, zs_177_103, zs_177_103u, zs_177_104, zs_177_107, zt_177_107, zs_177_110, zs_177_114, zs_177_118, zc_isO, zr_fld_mk, zc_isA, zc_len, zr_elt_mk, zr_kill_i, zr_kill_l, zr_kill_r, zr_kill_u, zr_kill_f, zr_kill_n, zc_cat, zr_cat_i, zr_cat_l, zr_cat_r, zr_cat_f, zr_cat_d, zr_cat_u, beq_self_eq_true, Nat.zero_le, Nat.le_refl, Nat.reduceSub, Nat.reduceAdd, Nat.reduceLeDiff, csl_f, csr_f, cn_f, lg_cmp_eq, lg_cmp_le, lg_cmp_lt, lg_cmp_ge, lg_cmp_gt, nI_1, zr_up_self, zp_O, zr_fup_self, zr_fup_ne, ne_eq, Nat.reduceEqDiff, not_false_eq_true, pk_mul]
            refine ⟨fun _ => ?_, fun y => absurd trivial y⟩
            simp only [zs_177_0, zs_177_0u, zs_177_1, zs_177_4, zs_177_5, zs_177_6, zs_177_9, zs_177_10, zs_177_13, zs_177_14, zs_177_15, zs_177_15u, zs_177_16, zs_177_17, zt_177_17, zs_177_20, zs_177_23, zs_177_24, zs_177_25, zs_177_25u, zs_177_26, zs_177_29, zs_177_31, zs_177_32, zs_177_33, zs_177_34, zs_177_35, zs_177_38, zs_177_38u, zs_177_39, zs_177_42, zs_177_43, zs_177_44, zs_177_45, zs_177_46, zs_177_47, zs_177_50, zs_177_51, zs_177_52, zs_177_52u, zs_177_53, zs_177_54, zs_177_55, zt_177_55, zs_177_58, zs_177_61, zs_177_62, zs_177_63, zs_177_63u, zs_177_64, zs_177_67, zs_177_69, zs_177_70, zs_177_71, zs_177_72, zs_177_75, zs_177_76, zs_177_77, zs_177_80, zs_177_80u, zs_177_81, zs_177_81u, zs_177_82, zs_177_85, zs_177_85u, zs_177_86, zs_177_89, zt_177_89, zs_177_92, zs_177_95, zs_177_98, zs_177_98u, zs_177_99, zs_177_99u, zs_177_100, zs_177_103, zs_177_103u, zs_177_104, zs_177_107, zt_177_107, zs_177_110, zs_177_113, zs_177_114, zs_177_117, zs_177_118, zc_isO, zr_fld_mk, zc_isA, zc_len, zr_elt_mk, zr_kill_i, zr_kill_l, zr_kill_r, zr_kill_u, zr_kill_f, zr_kill_n, zc_cat, zr_cat_i, zr_cat_l, zr_cat_r, zr_cat_f, zr_cat_d, zr_cat_u, beq_self_eq_true, Nat.zero_le, Nat.le_refl, Nat.reduceSub, Nat.reduceAdd, Nat.reduceLeDiff, csl_f, csr_f, cn_f, lg_cmp_eq, lg_cmp_le, lg_cmp_lt, lg_cmp_ge, lg_cmp_gt, nI_1, zr_up_self, zp_O, zr_fup_self, zr_fup_ne, ne_eq, Nat.reduceEqDiff, not_false_eq_true, pk_mul]
            exact hQ
  simp only [zs_177_0, zs_177_0u, zs_177_1, zs_177_4, zs_177_5, zs_177_6, zs_177_9, zs_177_10, zs_177_13, zs_177_14, zs_177_15, zs_177_15u, zs_177_16, zs_177_17, zt_177_17, zs_177_20, zs_177_23, zs_177_24, zs_177_25, zs_177_25u, zs_177_26, zs_177_29, zs_177_31, zs_177_32, zs_177_33, zs_177_34, zs_177_35, zs_177_39, zs_177_42, zs_177_43, zs_177_44, zs_177_45, zs_177_46, zs_177_47, zs_177_50, zs_177_51, zs_177_53, zs_177_54, zs_177_55, zt_177_55, zs_177_58, zs_177_61, zs_177_62, zs_177_63, zs_177_63u, zs_177_64, zs_177_67, zs_177_69, zs_177_70, zs_177_71, zs_177_72, zs_177_75, zs_177_76, zs_177_77, zs_177_80, zs_177_80u, zs_177_81, zs_177_81u, zs_177_82, zs_177_85, zs_177_85u, zs_177_86, zs_177_89, zt_177_89, zs_177_92, zs_177_95, zs_177_98, zs_177_98u, zs_177_99, zs_177_99u, zs_177_100, zs_177_103, zs_177_103u, zs_177_104, zs_177_107, zt_177_107, zs_177_110, zs_177_113, zs_177_114, zs_177_117, zs_177_118, zc_isO, zr_fld_mk, zc_isA, zc_len, zr_elt_mk, zr_kill_i, zr_kill_l, zr_kill_r, zr_kill_u, zr_kill_f, zr_kill_n, zc_cat, zr_cat_i, zr_cat_l, zr_cat_r, zr_cat_f, zr_cat_d, zr_cat_u, beq_self_eq_true, Nat.zero_le, Nat.le_refl, Nat.reduceSub, Nat.reduceAdd, Nat.reduceLeDiff, csl_f, csr_f, cn_f, lg_cmp_eq, lg_cmp_le, lg_cmp_lt, lg_cmp_ge, lg_cmp_gt, nI_1, zr_up_self, zp_O, zr_fup_self, zr_fup_ne, ne_eq, Nat.reduceEqDiff, not_false_eq_true, pk_mul, v.1, zy_I, zy_0, a1, q7, e7]
  rw [i64_eq]
  refine ⟨fun y => tail (fun u => y u.1.symm), fun y => ?_⟩
  simp only [zs_177_0, zs_177_0u, zs_177_1, zs_177_4, zs_177_5, zs_177_6, zs_177_9, zs_177_10, zs_177_13, zs_177_14, zs_177_15, zs_177_15u, zs_177_16, zs_177_17, zt_177_17, zs_177_20, zs_177_23, zs_177_24, zs_177_25, zs_177_25u, zs_177_26, zs_177_29, zs_177_31, zs_177_32, zs_177_33, zs_177_34, zs_177_35, zs_177_38, zs_177_38u, zs_177_39, zs_177_42, zs_177_43, zs_177_44, zs_177_45, zs_177_46, zs_177_47, zs_177_51, zs_177_53, zs_177_54, zs_177_55, zt_177_55, zs_177_58, zs_177_61, zs_177_62, zs_177_63, zs_177_63u, zs_177_64, zs_177_67, zs_177_69, zs_177_70, zs_177_71, zs_177_72, zs_177_75, zs_177_76, zs_177_77, zs_177_80, zs_177_80u, zs_177_81, zs_177_81u, zs_177_82, zs_177_85, zs_177_85u, zs_177_86, zs_177_89, zt_177_89, zs_177_92, zs_177_95, zs_177_98, zs_177_98u, zs_177_99, zs_177_99u, zs_177_100, zs_177_103, zs_177_103u, zs_177_104, zs_177_107, zt_177_107, zs_177_110, zs_177_113, zs_177_114, zs_177_117, zs_177_118, zc_isO, zr_fld_mk, zc_isA, zc_len, zr_elt_mk, zr_kill_i, zr_kill_l, zr_kill_r, zr_kill_u, zr_kill_f, zr_kill_n, zc_cat, zr_cat_i, zr_cat_l, zr_cat_r, zr_cat_f, zr_cat_d, zr_cat_u, beq_self_eq_true, Nat.zero_le, Nat.le_refl, Nat.reduceSub, Nat.reduceAdd, Nat.reduceLeDiff, csl_f, csr_f, cn_f, lg_cmp_eq, lg_cmp_le, lg_cmp_lt, lg_cmp_ge, lg_cmp_gt, nI_1, zr_up_self, zp_O, zr_fup_self, zr_fup_ne, ne_eq, Nat.reduceEqDiff, not_false_eq_true, pk_mul, v.1, zy_I, zy_0, a1, q2, e2]
  rw [i64_eq]
  refine ⟨fun y2 => tail (fun u => y2 u.2.symm), fun y2 => ?_⟩
  simp only [zs_177_0, zs_177_0u, zs_177_1, zs_177_4, zs_177_5, zs_177_6, zs_177_9, zs_177_10, zs_177_13, zs_177_14, zs_177_15, zs_177_15u, zs_177_16, zs_177_17, zt_177_17, zs_177_20, zs_177_23, zs_177_24, zs_177_25, zs_177_25u, zs_177_26, zs_177_29, zs_177_31, zs_177_32, zs_177_33, zs_177_34, zs_177_35, zs_177_38, zs_177_38u, zs_177_39, zs_177_42, zs_177_43, zs_177_44, zs_177_45, zs_177_46, zs_177_47, zs_177_50, zs_177_51, zs_177_52, zs_177_52u, zs_177_53, zs_177_54, zs_177_55, zt_177_55, zs_177_58, zs_177_61, zs_177_62, zs_177_63, zs_177_63u, zs_177_64, zs_177_67, zs_177_69, zs_177_70, zs_177_71, zs_177_72, zs_177_75, zs_177_76, zs_177_77, zs_177_80, zs_177_80u, zs_177_81, zs_177_81u, zs_177_82, zs_177_85, zs_177_85u, zs_177_86, zs_177_89, zt_177_89, zs_177_92, zs_177_95, zs_177_98, zs_177_98u, zs_177_99, zs_177_99u, zs_177_100, zs_177_103, zs_177_103u, zs_177_104, zs_177_107, zt_177_107, zs_177_110, zs_177_113, zs_177_114, zs_177_117, zs_177_118, zc_isO, zr_fld_mk, zc_isA, zc_len, zr_elt_mk, zr_kill_i, zr_kill_l, zr_kill_r, zr_kill_u, zr_kill_f, zr_kill_n, zc_cat, zr_cat_i, zr_cat_l, zr_cat_r, zr_cat_f, zr_cat_d, zr_cat_u, beq_self_eq_true, Nat.zero_le, Nat.le_refl, Nat.reduceSub, Nat.reduceAdd, Nat.reduceLeDiff, csl_f, csr_f, cn_f, lg_cmp_eq, lg_cmp_le, lg_cmp_lt, lg_cmp_ge, lg_cmp_gt, nI_1, zr_up_self, zp_O, zr_fup_self, zr_fup_ne, ne_eq, Nat.reduceEqDiff, not_false_eq_true, pk_mul]
  exact fin 3 (by unfold rf; rw [if_neg z, if_neg (by rw [zc]; decide), if_pos ⟨y.symm, y2.symm⟩]) (by omega)
end MODEL
