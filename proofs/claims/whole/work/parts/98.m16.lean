/-! THE MODEL'S STATE AS IT IS MEANT: G = the game, H = earlier ones, T = saved ones -/
def rGm (f : Nat → Int64) (G : gm) : Prop := rG f G.1 G.2.1 G.2.2.1 G.2.2.2.1 G.2.2.2.2.1 G.2.2.2.2.2
def gIm (G : gm) : Prop := gI G.1 G.2.1 G.2.2.1 G.2.2.2.1 G.2.2.2.2.1 G.2.2.2.2.2
def mM (h : zr_H) (m : Nat) (E : Nat → Nat) (K : Nat → Int32) (L : Nat → Int64) (G : gm) (H : List gm) (T : Nat → Option gm) (n : Nat) (e : Int32) (l : Nat) (bf wf : Nat → Int32) : Prop :=
  ∃ f ff fk fs, ms h m E K L f ff fk fs (fun j => .int (bI (T j).isSome)) (fun k => .int (bf k)) (fun k => .int (wf k)) ∧ rGm f G ∧ gIm G ∧
    (∀ j, j < H.length → ∃ G', H[H.length - 1 - j]? = some G' ∧ rGm (fun k => fk (73 * j + k)) G' ∧ gIm G') ∧
    (∀ j, j < 2 → ∀ G', T j = some G' → rGm (fun k => fs (73 * j + k)) G' ∧ gIm G') ∧ H.length ≤ 8 ∧ K 5 = nI H.length ∧ K 8 = nI n ∧ K 16 = e ∧ K 23 = nI l
section MODEL
variable {d : Nat} {h h' : zr_H} {Q : zr_K} {m : Nat} {E : Nat → Nat} {K : Nat → Int32} {L : Nat → Int64} {G : gm} {H : List gm} {T : Nat → Option gm} {n l : Nat} {e : Int32} {bf wf : Nat → Int32} {f : Nat → Int64} {R S : Nat} {b w : Int64} {P : List (Int64 × Int64)} {I : Nat → Int32}
theorem rG_eq (r : rG f R S b w P I) (hl : P.length ≤ 30) {f2 : Nat → Int64} (e : ∀ k, k < 73 → f2 k = f k) : rG f2 R S b w P I := by
  obtain ⟨a0, a1, a2, a3, a4, a5, a6, a7, a8, a9, a10, a11, a12, a13⟩ := r
  unfold rG
  rw [e 0 (by omega), e 1 (by omega), e 2 (by omega), e 3 (by omega), e 4 (by omega), e 5 (by omega), e 6 (by omega), e 7 (by omega), e 8 (by omega), e 9 (by omega), e 10 (by omega), e 11 (by omega), e 12 (by omega)]
  refine ⟨a0, a1, a2, a3, a4, a5, a6, a7, a8, a9, a10, a11, a12, fun k hk => ?_⟩
  rw [e _ (by omega), e _ (by omega)]
  exact a13 k hk
theorem rGm_eq {f2 : Nat → Int64} (r : rGm f G) (g : gIm G) (e : ∀ k, k < 73 → f2 k = f k) : rGm f2 G := rG_eq r g.2.2.2.2.2.2.2.2.2 e
theorem mM_q (v : mM h m E K L G H T n e l bf wf) : ∃ f, mq h m E K L f G.1 G.2.1 G.2.2.1 G.2.2.2.1 G.2.2.2.2.1 G.2.2.2.2.2 := by
  obtain ⟨f, ff, fk, fs, v, r, g, _⟩ := v
  exact ⟨f, v.1, v.2.1, r, g⟩
/-- the object changes, but for what counts -/
theorem mM_up (v : mM h m E K L G H T n e l bf wf) {K2 : Nat → Int32} {L2 : Nat → Int64} (h5 : K2 5 = K 5) (h8 : K2 8 = K 8) (h16 : K2 16 = K 16) (h23 : K2 23 = K 23) : mM (zr_up h m (zym E K2 L2)) m E K2 L2 G H T n e l bf wf ∧ fx (MX m E) h (zr_up h m (zym E K2 L2)) := by
  obtain ⟨f, ff, fk, fs, v, r, g, hk, ht, hl, k5, k8, k16, k23⟩ := v
  obtain ⟨v2, f2⟩ := ms_up v K2 L2
  exact ⟨⟨f, ff, fk, fs, v2, r, g, hk, ht, hl, h5.trans k5, h8.trans k8, h16.trans k16, h23.trans k23⟩, f2⟩
/-- a question's answer -/
def mQM (h : zr_H) (m : Nat) (E : Nat → Nat) (Q : zr_K) (codes : List Nat) (G : gm) (H : List gm) (T : Nat → Option gm) (n : Nat) (e : Int32) (l : Nat) (bf wf : Nat → Int32) (r : Int32 ⊕ Nat) : Prop :=
  ∀ x h' K' L', mR codes r (K' 6) x → mM h' m E K' L' G H T n e l bf wf → fx (MX m E) h h' → Q (.inl (some (.int x))) h'
theorem mQ_of (v : mM h m E K L G H T n e l bf wf) {codes : List Nat} {r : Int32 ⊕ Nat} (hQ : mQM h m E Q codes G H T n e l bf wf r) : mQ h m E K Q codes r := by
  intro x K' L' hr hk
  obtain ⟨v2, f2⟩ := mM_up v (K2 := K') (L2 := L') (hk 5 (by omega)) (hk 8 (by omega)) (hk 16 (by omega)) (hk 23 (by omega))
  exact hQ x _ K' L' hr v2 f2
/-- what was, kept -/
theorem k_mkeepM (v : mM h m E K L G H T n e l bf wf) (hQ : ∀ h' K', (∀ k, k ≠ 5 → K' k = K k) → mM h' m E K' L G ((G :: H).take 8) T n e l bf wf → fx (MX m E) h h' → Q (.inl none) h') : zr_E (d + 1) 125 [.ref m] h Q := by
  obtain ⟨f, ff, fk, fs, v, r, g, hk, ht, hl, k5, k8, k16, k23⟩ := v
  refine k_mkeep v hl k5 (fun h' v' f' => hQ h' (fI K 5 (nI (min (H.length + 1) 8))) (fun k ne => fI_n _ _ ne) ⟨f, ff, _, fs, v', r, g, fun j hj => ?_, ht, ?_, ?_, ?_, ?_, ?_⟩ f')
  · rw [List.length_take, List.length_cons] at hj ⊢
    by_cases z : H.length = 8
    · by_cases j7 : j = 7
      · refine ⟨G, ?_, rGm_eq r g (fun k hk2 => ?_), g⟩
        · rw [j7, z, show min 8 (8 + 1) - 1 - 7 = 0 by omega]; rfl
        · unfold kp2
          rw [j7, z, if_pos (by omega), show 73 * 7 + k - 73 * min 8 7 = k by omega]
      · obtain ⟨G', a, c, i⟩ := hk (j + 1) (by omega)
        refine ⟨G', ?_, rGm_eq c i (fun k hk2 => ?_), i⟩
        · rw [List.getElem?_take, if_pos (by omega), z, show min 8 (8 + 1) - 1 - j = (7 - 1 - j) + 1 by omega, List.getElem?_cons_succ, ← a]
          congr 1
          omega
        · unfold kp2 kp1
          rw [if_neg (by omega), if_pos (by omega)]
          congr 1
          omega
    · by_cases ju : j = H.length
      · refine ⟨G, ?_, rGm_eq r g (fun k hk2 => ?_), g⟩
        · rw [ju, show min 8 (H.length + 1) - 1 - H.length = 0 by omega]; rfl
        · unfold kp2
          rw [ju, if_pos (by omega)]
          congr 1
          omega
      · obtain ⟨G', a, c, i⟩ := hk j (by omega)
        refine ⟨G', ?_, rGm_eq c i (fun k hk2 => ?_), i⟩
        · rw [List.getElem?_take, if_pos (by omega), show min 8 (H.length + 1) - 1 - j = (H.length - 1 - j) + 1 by omega, List.getElem?_cons_succ]
          exact a
        · unfold kp2 kp1
          rw [if_neg (by omega), if_neg (by omega)]
  · rw [List.length_take]; omega
  · rw [fI_s, List.length_take, List.length_cons]
    congr 1
    omega
  · rw [fI_n _ _ (by omega)]; exact k8
  · rw [fI_n _ _ (by omega)]; exact k16
  · rw [fI_n _ _ (by omega)]; exact k23
theorem sn_ct (g : gI R S b w P I) : nb b 60 + nb w 60 = ct (b ||| w) := by
  have h1 : nb b 60 = ct b := nb_ct (wi60 g.1 g.2.1)
  have h2 : nb w 60 = ct w := nb_ct (wi60 g.1 g.2.2.1)
  rw [h1, h2]
  unfold ct
  have key : ∀ k, nb (b ||| w) k = nb b k + nb w k := by
    intro k
    induction k with
    | zero => rfl
    | succ k ih =>
      show nb (b ||| w) k + (if tb (b ||| w) k then 1 else 0) = (nb b k + (if tb b k then 1 else 0)) + (nb w k + (if tb w k then 1 else 0))
      rw [ih, tb_or]
      cases z : tb b k
      · cases tb w k <;> simp <;> omega
      · rw [g.2.2.2.1 k z]; simp; omega
  rw [key]
theorem k_msnM (v : mM h m E K L G H T n e l bf wf) (hQ : Q (.inl (some (.int (nI (ct (G.2.2.1 ||| G.2.2.2.1)))))) h) : zr_E (d + 3) 127 [.ref m] h Q := by
  obtain ⟨f, ff, fk, fs, v, r, g, _⟩ := v
  refine k_msn v ?_
  rw [r.2.2.2.2.2.2.2.2.2.2.2.1, r.2.2.2.2.2.2.2.2.2.2.2.2.1, sn_ct g]
  exact hQ
theorem k_mundo (v : mM h m E K L G H T n e l bf wf) (q0 : H = [] → mQM h m E Q [0] G H T n e l bf wf (.inr 0)) (hQ : ∀ G1 H1, H = G1 :: H1 → mQM h m E Q [0] G1 H1 T n e l bf wf (.inl (nI H1.length))) : zr_E (d + 2) 126 [.ref m] h Q := by
  have v' := v
  obtain ⟨f, ff, fk, fs, v, r, g, hk, ht, hl, k5, k8, k16, k23⟩ := v
  rw [ze_126]
  simp only [zs_126_0, zs_126_0u, zs_126_1, zs_126_1u, zs_126_2, zs_126_5, zs_126_9, zs_126_13, zs_126_16, zs_126_16u, zs_126_17, zs_126_20, zs_126_23, zs_126_24, zs_126_25, zs_126_25u, zs_126_26, zs_126_26i, zs_126_27, zs_126_30, zs_126_31, zs_126_32, zs_126_35, zs_126_35u, zs_126_36, zs_126_36u, zs_126_37, zs_126_40, zs_126_42, zs_126_42u, zs_126_43, zs_126_46, zs_126_47, zt_126_47, zs_126_50, zs_126_50u, zs_126_51, zs_126_54, zc_isO, zr_fld_mk, zc_isA, zc_len, zr_elt_mk, zr_kill_i, zr_kill_l, zr_kill_r, zr_kill_u, zr_kill_f, zr_kill_n, zc_cat, zr_cat_i, zr_cat_l, zr_cat_r, zr_cat_f, zr_cat_d, zr_cat_u, beq_self_eq_true, Nat.zero_le, Nat.le_refl, Nat.reduceSub, Nat.reduceAdd, Nat.reduceLeDiff, csl_f, csr_f, cn_f, lg_cmp_eq, lg_cmp_le, lg_cmp_lt, lg_cmp_ge, lg_cmp_gt, nI_1, zr_up_self, zp_O, zr_fup_self, zr_fup_ne, ne_eq, Nat.reduceEqDiff, not_false_eq_true, pk_mul, v.1, zy_I, zy_5, k5]
  rw [nI_eq0 (by omega)]
  cases H with
  | nil =>
    refine ⟨fun y => absurd rfl y, fun _ => ?_⟩
    have q0 := mQ_of v' (q0 rfl)
    simp only [zs_126_0, zs_126_0u, zs_126_1, zs_126_1u, zs_126_2, zs_126_5, zs_126_8, zs_126_9, zs_126_12, zs_126_13, zs_126_17, zs_126_20, zs_126_23, zs_126_24, zs_126_25, zs_126_25u, zs_126_26, zs_126_26i, zs_126_27, zs_126_30, zs_126_31, zs_126_32, zs_126_35, zs_126_35u, zs_126_36, zs_126_36u, zs_126_37, zs_126_40, zs_126_42, zs_126_42u, zs_126_43, zs_126_46, zs_126_47, zt_126_47, zs_126_50, zs_126_50u, zs_126_51, zs_126_54, zc_isO, zr_fld_mk, zc_isA, zc_len, zr_elt_mk, zr_kill_i, zr_kill_l, zr_kill_r, zr_kill_u, zr_kill_f, zr_kill_n, zc_cat, zr_cat_i, zr_cat_l, zr_cat_r, zr_cat_f, zr_cat_d, zr_cat_u, beq_self_eq_true, Nat.zero_le, Nat.le_refl, Nat.reduceSub, Nat.reduceAdd, Nat.reduceLeDiff, csl_f, csr_f, cn_f, lg_cmp_eq, lg_cmp_le, lg_cmp_lt, lg_cmp_ge, lg_cmp_gt, nI_1, zr_up_self, zp_O, zr_fup_self, zr_fup_ne, ne_eq, Nat.reduceEqDiff, not_false_eq_true, pk_mul, v.1, zy_I]
    rw [putY v.1 (by omega)]
    have e6 : fI K 6 1 6 = 1 := fI_s _ _ _
    simp only [zs_126_0, zs_126_0u, zs_126_1, zs_126_1u, zs_126_2, zs_126_5, zs_126_8, zs_126_9, zs_126_12, zs_126_13, zs_126_16, zs_126_16u, zs_126_17, zs_126_20, zs_126_24, zs_126_26, zs_126_26i, zs_126_27, zs_126_30, zs_126_31, zs_126_32, zs_126_35, zs_126_35u, zs_126_36, zs_126_36u, zs_126_37, zs_126_40, zs_126_42, zs_126_42u, zs_126_43, zs_126_46, zs_126_47, zt_126_47, zs_126_50, zs_126_50u, zs_126_51, zs_126_54, zc_isO, zr_fld_mk, zc_isA, zc_len, zr_elt_mk, zr_kill_i, zr_kill_l, zr_kill_r, zr_kill_u, zr_kill_f, zr_kill_n, zc_cat, zr_cat_i, zr_cat_l, zr_cat_r, zr_cat_f, zr_cat_d, zr_cat_u, beq_self_eq_true, Nat.zero_le, Nat.le_refl, Nat.reduceSub, Nat.reduceAdd, Nat.reduceLeDiff, csl_f, csr_f, cn_f, lg_cmp_eq, lg_cmp_le, lg_cmp_lt, lg_cmp_ge, lg_cmp_gt, nI_1, zr_up_self, zp_O, zr_fup_self, zr_fup_ne, ne_eq, Nat.reduceEqDiff, not_false_eq_true, pk_mul, zy_I, zy_6, e6]
    refine ⟨fun y => absurd y (by decide), fun _ => ?_⟩
    simp only [zs_126_0, zs_126_0u, zs_126_1, zs_126_1u, zs_126_2, zs_126_5, zs_126_8, zs_126_9, zs_126_12, zs_126_13, zs_126_16, zs_126_16u, zs_126_17, zs_126_20, zs_126_23, zs_126_24, zs_126_25, zs_126_25u, zs_126_26, zs_126_26i, zs_126_27, zs_126_30, zs_126_31, zs_126_32, zs_126_35, zs_126_35u, zs_126_36, zs_126_36u, zs_126_37, zs_126_40, zs_126_42, zs_126_42u, zs_126_43, zs_126_46, zs_126_47, zt_126_47, zs_126_50, zs_126_50u, zs_126_51, zs_126_54, zc_isO, zr_fld_mk, zc_isA, zc_len, zr_elt_mk, zr_kill_i, zr_kill_l, zr_kill_r, zr_kill_u, zr_kill_f, zr_kill_n, zc_cat, zr_cat_i, zr_cat_l, zr_cat_r, zr_cat_f, zr_cat_d, zr_cat_u, beq_self_eq_true, Nat.zero_le, Nat.le_refl, Nat.reduceSub, Nat.reduceAdd, Nat.reduceLeDiff, csl_f, csr_f, cn_f, lg_cmp_eq, lg_cmp_le, lg_cmp_lt, lg_cmp_ge, lg_cmp_gt, nI_1, zr_up_self, zp_O, zr_fup_self, zr_fup_ne, ne_eq, Nat.reduceEqDiff, not_false_eq_true, pk_mul]
    exact mQ_e q0 0 L
  | cons G1 H1 =>
    refine ⟨fun _ => ?_, fun y => absurd y (by simp)⟩
    have hQ := hQ G1 H1 rfl
    have hl1 : H1.length ≤ 7 := by simp at hl; omega
    simp only [zs_126_0, zs_126_0u, zs_126_1, zs_126_1u, zs_126_2, zs_126_5, zs_126_8, zs_126_9, zs_126_12, zs_126_13, zs_126_17, zs_126_20, zs_126_23, zs_126_24, zs_126_25, zs_126_25u, zs_126_26, zs_126_26i, zs_126_27, zs_126_30, zs_126_31, zs_126_32, zs_126_35, zs_126_35u, zs_126_36, zs_126_36u, zs_126_37, zs_126_40, zs_126_42, zs_126_42u, zs_126_43, zs_126_46, zs_126_47, zt_126_47, zs_126_50, zs_126_50u, zs_126_51, zs_126_54, zc_isO, zr_fld_mk, zc_isA, zc_len, zr_elt_mk, zr_kill_i, zr_kill_l, zr_kill_r, zr_kill_u, zr_kill_f, zr_kill_n, zc_cat, zr_cat_i, zr_cat_l, zr_cat_r, zr_cat_f, zr_cat_d, zr_cat_u, beq_self_eq_true, Nat.zero_le, Nat.le_refl, Nat.reduceSub, Nat.reduceAdd, Nat.reduceLeDiff, csl_f, csr_f, cn_f, lg_cmp_eq, lg_cmp_le, lg_cmp_lt, lg_cmp_ge, lg_cmp_gt, nI_1, zr_up_self, zp_O, zr_fup_self, zr_fup_ne, ne_eq, Nat.reduceEqDiff, not_false_eq_true, pk_mul, v.1, zy_I]
    rw [putY v.1 (by omega)]
    obtain ⟨v2, f2⟩ := ms_up v (fI K 6 0) L
    have e6 : fI K 6 0 6 = 0 := fI_s _ _ _
    have e5 : fI K 6 0 5 = nI (H1.length + 1) := by rw [fI_n _ _ (by omega)]; exact k5
    have em : nI (H1.length + 1) - 1 = nI H1.length := nI_pred _
    generalize zr_up h m (zym E (fI K 6 0) L) = h2 at *
    simp only [zs_126_0, zs_126_0u, zs_126_1, zs_126_1u, zs_126_2, zs_126_5, zs_126_8, zs_126_9, zs_126_12, zs_126_13, zs_126_16, zs_126_16u, zs_126_17, zs_126_20, zs_126_24, zs_126_26, zs_126_26i, zs_126_27, zs_126_30, zs_126_31, zs_126_32, zs_126_35, zs_126_35u, zs_126_36, zs_126_36u, zs_126_37, zs_126_40, zs_126_42, zs_126_42u, zs_126_43, zs_126_46, zs_126_47, zt_126_47, zs_126_50, zs_126_50u, zs_126_51, zs_126_54, zc_isO, zr_fld_mk, zc_isA, zc_len, zr_elt_mk, zr_kill_i, zr_kill_l, zr_kill_r, zr_kill_u, zr_kill_f, zr_kill_n, zc_cat, zr_cat_i, zr_cat_l, zr_cat_r, zr_cat_f, zr_cat_d, zr_cat_u, beq_self_eq_true, Nat.zero_le, Nat.le_refl, Nat.reduceSub, Nat.reduceAdd, Nat.reduceLeDiff, csl_f, csr_f, cn_f, lg_cmp_eq, lg_cmp_le, lg_cmp_lt, lg_cmp_ge, lg_cmp_gt, nI_1, zr_up_self, zp_O, zr_fup_self, zr_fup_ne, ne_eq, Nat.reduceEqDiff, not_false_eq_true, pk_mul, v2.1, zy_I, zy_6, e6]
    refine ⟨fun _ => ?_, fun y => absurd (by decide) y⟩
    simp only [zs_126_0, zs_126_0u, zs_126_1, zs_126_1u, zs_126_2, zs_126_5, zs_126_8, zs_126_9, zs_126_12, zs_126_13, zs_126_16, zs_126_16u, zs_126_17, zs_126_20, zs_126_23, zs_126_24, zs_126_25, zs_126_25u, zs_126_26, zs_126_26i, zs_126_27, zs_126_30, zs_126_31, zs_126_32, zs_126_36, zs_126_36u, zs_126_37, zs_126_40, zs_126_42, zs_126_42u, zs_126_43, zs_126_46, zs_126_47, zt_126_47, zs_126_50, zs_126_50u, zs_126_51, zs_126_54, zc_isO, zr_fld_mk, zc_isA, zc_len, zr_elt_mk, zr_kill_i, zr_kill_l, zr_kill_r, zr_kill_u, zr_kill_f, zr_kill_n, zc_cat, zr_cat_i, zr_cat_l, zr_cat_r, zr_cat_f, zr_cat_d, zr_cat_u, beq_self_eq_true, Nat.zero_le, Nat.le_refl, Nat.reduceSub, Nat.reduceAdd, Nat.reduceLeDiff, csl_f, csr_f, cn_f, lg_cmp_eq, lg_cmp_le, lg_cmp_lt, lg_cmp_ge, lg_cmp_gt, nI_1, zr_up_self, zp_O, zr_fup_self, zr_fup_ne, ne_eq, Nat.reduceEqDiff, not_false_eq_true, pk_mul, v2.1, zy_I, zy_5, e5, em]
    rw [putY v2.1 (by omega)]
    obtain ⟨v3, f3⟩ := ms_up v2 (fI (fI K 6 0) 5 (nI H1.length)) L
    have f3 := fx_trans f2 f3
    have e5' : fI (fI K 6 0) 5 (nI H1.length) 5 = nI H1.length := fI_s _ _ _
    have i3 := aL_isA v3.2.2.2.1
    have m73 : (73 : Int32) * nI H1.length = nI (73 * H1.length) := pk_mul 73 _
    generalize zr_up h2 m (zym E (fI (fI K 6 0) 5 (nI H1.length)) L) = h3 at *
    simp only [zs_126_0, zs_126_0u, zs_126_1, zs_126_1u, zs_126_2, zs_126_5, zs_126_8, zs_126_9, zs_126_12, zs_126_13, zs_126_16, zs_126_16u, zs_126_17, zs_126_20, zs_126_23, zs_126_24, zs_126_25, zs_126_25u, zs_126_26, zs_126_26i, zs_126_27, zs_126_30, zs_126_31, zs_126_32, zs_126_35, zs_126_35u, zs_126_36, zs_126_36u, zs_126_37, zs_126_40, zs_126_42, zs_126_42u, zs_126_43, zs_126_46, zs_126_47, zt_126_47, zs_126_50, zs_126_50u, zs_126_51, zs_126_54, zc_isO, zr_fld_mk, zc_isA, zc_len, zr_elt_mk, zr_kill_i, zr_kill_l, zr_kill_r, zr_kill_u, zr_kill_f, zr_kill_n, zc_cat, zr_cat_i, zr_cat_l, zr_cat_r, zr_cat_f, zr_cat_d, zr_cat_u, beq_self_eq_true, Nat.zero_le, Nat.le_refl, Nat.reduceSub, Nat.reduceAdd, Nat.reduceLeDiff, csl_f, csr_f, cn_f, lg_cmp_eq, lg_cmp_le, lg_cmp_lt, lg_cmp_ge, lg_cmp_gt, nI_1, zr_up_self, zp_O, zr_fup_self, zr_fup_ne, ne_eq, Nat.reduceEqDiff, not_false_eq_true, pk_mul, v3.1, zy_I, zy_2, zy_5, e5', m73]
    have dd := ms_dd v3
    refine k_mbec (d := d) v3 (Ne.symm dd.2.1.2.1) v3.2.2.2.1 (by omega) (by omega) (fun h4 v4 f4 => ?_)
    have f4 := fx_trans f3 f4
    simp only [zs_126_0, zs_126_0u, zs_126_1, zs_126_1u, zs_126_2, zs_126_5, zs_126_8, zs_126_9, zs_126_12, zs_126_13, zs_126_16, zs_126_16u, zs_126_17, zs_126_20, zs_126_23, zs_126_24, zs_126_25, zs_126_25u, zs_126_26, zs_126_26i, zs_126_27, zs_126_30, zs_126_31, zs_126_32, zs_126_35, zs_126_35u, zs_126_36, zs_126_36u, zs_126_37, zs_126_40, zs_126_42, zs_126_42u, zs_126_43, zs_126_46, zs_126_47, zt_126_47, zs_126_50, zs_126_50u, zs_126_51, zs_126_54, zc_isO, zr_fld_mk, zc_isA, zc_len, zr_elt_mk, zr_kill_i, zr_kill_l, zr_kill_r, zr_kill_u, zr_kill_f, zr_kill_n, zc_cat, zr_cat_i, zr_cat_l, zr_cat_r, zr_cat_f, zr_cat_d, zr_cat_u, beq_self_eq_true, Nat.zero_le, Nat.le_refl, Nat.reduceSub, Nat.reduceAdd, Nat.reduceLeDiff, csl_f, csr_f, cn_f, lg_cmp_eq, lg_cmp_le, lg_cmp_lt, lg_cmp_ge, lg_cmp_gt, nI_1, zr_up_self, zp_O, zr_fup_self, zr_fup_ne, ne_eq, Nat.reduceEqDiff, not_false_eq_true, pk_mul, v4.1, zy_I, zy_5, e5']
    obtain ⟨G', a, c, i⟩ := hk H1.length (by simp)
    have eG : G' = G1 := by
      rw [show (G1 :: H1).length - 1 - H1.length = 0 by simp] at a
      exact (Option.some.inj a).symm
    subst eG
    refine hQ _ h4 _ L ⟨by rw [fI_n _ _ (by omega)]; exact e6, rfl⟩ ⟨_, ff, fk, fs, v4, c, i, fun j hj => ?_, ht, by omega, e5', ?_, ?_, ?_⟩ f4
    · obtain ⟨G2, a2, c2, i2⟩ := hk j (by simp; omega)
      refine ⟨G2, ?_, c2, i2⟩
      rw [show (G' :: H1).length - 1 - j = (H1.length - 1 - j) + 1 by simp; omega, List.getElem?_cons_succ] at a2
      exact a2
    · rw [fI_n _ _ (by omega), fI_n _ _ (by omega)]; exact k8
    · rw [fI_n _ _ (by omega), fI_n _ _ (by omega)]; exact k16
    · rw [fI_n _ _ (by omega), fI_n _ _ (by omega)]; exact k23
end MODEL
