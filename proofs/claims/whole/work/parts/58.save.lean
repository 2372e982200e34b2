theorem vu_vu {α : Type} (V : Nat → α) (i : Nat) (x y : α) : vu (vu V i x) i y = vu V i y := by
  funext k
  unfold vu
  by_cases e : k = i
  · rw [if_pos e, if_pos e]
  · rw [if_neg e, if_neg e, if_neg e]
section STATE
variable {d : Nat} {Q : zr_K} {h h' : zr_H} {O : Nat → Prop} {B : Nat → Nat → Nat} {D : Nat → Nat} {V : Nat → Option gm} {u l : Nat} {J : Nat → Int32} {rb rw : Int64} {tf wf : Nat → Int32} {R S g : Nat} {b w : Int64} {P : List (Int64 × Int64)} {I : Nat → Int32} {A : Nat → Nat} {G : gm}
/-- a game made anew for a slot -/
theorem vC_new (v : vC h O B D V u l J rb rw tf wf) {j : Nat} (hj : j < 2) (hV : V (9 + j) = none) (n : ∀ i, i < 5 → h (A i) = none) (ng : h g = none) (f : fx (g :: xA A) h h') (hv : vMg h' A G g) :
    vC (zr_putA h' (D 2) j (.ref (A 0))) O (vu B (9 + j) A) D (vu V (9 + j) (some G)) u l J rb rw tf wf ∧ ∀ q, O q → zr_putA h' (D 2) j (.ref (A 0)) q = h q := by
  have dd := vC_dd v
  obtain ⟨h0, h1, h2, h3, ⟨R, S, h6, hg⟩, h5, h4, k, hn, ne, hD, ho, hu⟩ := v
  have nX : ∀ q, h q ≠ none → ¬ q ∈ g :: xA A := fun q e m => by
    rcases List.mem_cons.mp m with z | z
    · subst z; exact e ng
    · obtain ⟨l, hl, z⟩ := xA_m.mp z
      subst z
      exact e (n l hl)
  have s : ∀ q, h q ≠ none → h' q = h q := fun q e => f q (nX q e)
  have some_ne : ∀ {q : Nat} {c : zr_C}, h q = some c → h q ≠ none := fun e z => by rw [e] at z; cases z
  have n0 := some_ne h0
  obtain ⟨F1, e1, h1⟩ := h1
  obtain ⟨F2, e2, h2⟩ := h2
  obtain ⟨F5, e5, h5⟩ := h5
  obtain ⟨F4, e4, h4⟩ := h4
  have key := zK_new k (i := 9 + j) (by omega) ho hV n ng f hv
  have pf : fx [D 2] h' (zr_putA h' (D 2) j (.ref (A 0))) := putA_fx List.mem_cons_self
  have st : ∀ i, i < 7 → i ≠ 2 → zr_putA h' (D 2) j (.ref (A 0)) (D i) = h' (D i) := fun i hi e => pf _ (by rw [List.mem_singleton]; exact dd i 2 hi (by omega) e)
  refine ⟨⟨?_, ?_, ?_, ?_, ⟨R, S, ?_, hg⟩, ?_, ?_, ?_, ?_, ne, hD, ?_, hu⟩, ?_⟩
  · rw [st 0 (by omega) (by omega), s _ n0, h0, vu_n _ _ (by omega)]
  · refine ⟨F1, ?_, fun k hk => ?_⟩
    · rw [st 1 (by omega) (by omega), s _ (some_ne e1), e1]
    · rw [h1 k hk]
      show _ = Value.ref (vu B (9 + j) A (k + 1) 0)
      rw [vu_n _ _ (by omega)]
  · have a : aV 5 h' (D 2) 2 (fun j => vo (V (9 + j)) (B (9 + j) 0)) := ⟨F2, by rw [s _ (some_ne e2), e2], h2⟩
    refine aV_put a (fun k hk => ?_)
    by_cases z : k = j
    · subst z
      rw [if_pos rfl]
      show vo (vu V (9 + k) (some G) (9 + k)) (vu B (9 + k) A (9 + k) 0) = _
      rw [vu_s, vu_s]
      rfl
    · rw [if_neg z]
      show vo (vu V (9 + j) (some G) (9 + k)) (vu B (9 + j) A (9 + k) 0) = _
      rw [vu_n _ _ (by omega), vu_n _ _ (by omega)]
  · rw [st 3 (by omega) (by omega), s _ (some_ne h3), h3]
  · rw [st 6 (by omega) (by omega), s _ (some_ne h6), h6]
  · exact ⟨F5, by rw [st 5 (by omega) (by omega), s _ (some_ne e5), e5], h5⟩
  · exact ⟨F4, by rw [st 4 (by omega) (by omega), s _ (some_ne e4), e4], h4⟩
  · refine zK_fx key (fun q _ o => pf q (fun m => ?_))
    rw [List.mem_singleton] at m
    subst m
    obtain ⟨c, ec, gc⟩ := o
    rw [s _ (some_ne e2), e2] at ec
    cases ec
    cases gc
  · intro i hi
    rw [vu_n _ _ (by omega)]
    exact hn i hi
  · intro q o z
    rw [pf q (fun m => by rw [List.mem_singleton] at m; exact hD 2 (by omega) (m ▸ o)), s _ (ho q o)] at z
    exact ho q o z
  · intro q o
    rw [pf q (fun m => by rw [List.mem_singleton] at m; exact hD 2 (by omega) (m ▸ o)), s _ (ho q o)]
theorem vC_slot (v : vC h O B D V u l J rb rw tf wf) {j : Nat} (hj : j < 2) : zr_isA (h (D 2)) 5 = true ∧ vp_in (nI j) (zr_len (h (D 2))) ∧ zr_elt (h (D 2)) (nI j).toNatClampNeg = vo (V (9 + j)) (B (9 + j) 0) :=
  ⟨aV_isA v.2.2.1, aV_in v.2.2.1 hj (by omega), aV_elt v.2.2.1 hj (by omega)⟩
theorem slt_j {y : Int32} (e : y = 0 ∨ y = 1) : ∃ j, j < 2 ∧ y = nI j := by
  rcases e with e | e
  · exact ⟨0, by omega, e⟩
  · exact ⟨1, by omega, e⟩
theorem k_save (v : vC h O B D V u l J rb rw tf wf) (h0 : V 0 = some (R, S, b, w, P, I)) {y : Int32} (q2 : ¬ (y = 0 ∨ y = 1) → Q (.inr 2) h)
    (hQ : ∀ j, j < 2 → y = nI j → ∀ h' B', (∀ q, O q → h' q = h q) → vC h' O B' D (vu V (9 + j) (some (R, S, b, w, P, I))) u l J rb rw tf wf → Q (.inl (some (.int (nI (ct (b ||| w)))))) h') : zr_E (d + 6) 108 [.ref (D 0), .int y] h Q := by
  have hX := v.1
  rw [ze_108]
  simp only [zs_108_0, zs_108_1, zt_108_1, zs_108_5, zs_108_8, zs_108_9, zs_108_10u, zs_108_10, zs_108_13, zs_108_13u, zs_108_14, zs_108_17, zs_108_21, zs_108_21i, zs_108_22, zt_108_22, zs_108_25, zs_108_26, zs_108_26u, zs_108_27, zs_108_30, zs_108_31, zs_108_32, zs_108_32u, zs_108_33, zs_108_36, zt_108_36, zs_108_39, zs_108_39u, zs_108_40, zs_108_43, zs_108_46, zt_108_46, zs_108_49, zc_isO, zr_fld_mk, zc_isA, zc_len, zr_elt_mk, zr_kill_i, zr_kill_l, zr_kill_r, zr_kill_u, zr_kill_f, zr_kill_n, zc_cat, zr_cat_i, zr_cat_l, zr_cat_r, zr_cat_f, zr_cat_d, zr_cat_u, beq_self_eq_true, Nat.zero_le, Nat.le_refl, Nat.reduceSub, Nat.reduceAdd, Nat.reduceLeDiff, csl_f, csr_f, cn_f, lg_cmp_eq, lg_cmp_le, lg_cmp_lt, lg_cmp_ge, lg_cmp_gt, nI_1, zr_up_self, zp_O, zr_fup_self, zr_fup_ne, ne_eq, Nat.reduceEqDiff, not_false_eq_true, pk_mul]
  refine k_slt (fun e => ?_) (fun e => ?_)
  rotate_left
  · rw [zk_thr zf_hh_108]
    exact q2 e
  obtain ⟨j, hj, e⟩ := slt_j e
  have hQ' := hQ j hj e
  clear q2 hQ
  subst e
  have hQ := hQ'
  have tail : ∀ h1 B1 V1 G1 kc ks, (∀ q, O q → h1 q = h q) → vC h1 O B1 D V1 u l J rb rw tf wf → V1 (9 + j) = some G1 → V1 0 = some (R, S, b, w, P, I) → vu V1 (9 + j) (some (R, S, b, w, P, I)) = vu V (9 + j) (some (R, S, b, w, P, I)) → zr_Z (d + 5) 108 Q 26 [some (.ref (D 0)), some (.int (nI j))] [] h1 kc ks := by
    intro h1 B1 V1 G1 kc ks o1 v1 e9 e0 eV
    have hX := v1.1
    obtain ⟨a1, a2, a3⟩ := vC_slot v1 hj
    rw [e9] at a3
    have a3 : zr_elt (h1 (D 2)) (nI j).toNatClampNeg = .ref (B1 (9 + j) 0) := a3
    obtain ⟨⟨g0, w0, n0⟩, -⟩ := v1.2.2.2.2.2.2.2.1.1 0 _ (by omega) e0
    obtain ⟨⟨g9, w9, n9⟩, -⟩ := v1.2.2.2.2.2.2.2.1.1 (9 + j) _ (by omega) e9
    have m0 := w0.1
    have m9 := w9.1
    simp only [zs_108_0, zs_108_1, zt_108_1, zs_108_4, zs_108_4u, zs_108_5, zs_108_8, zs_108_9, zs_108_10u, zs_108_10, zs_108_13, zs_108_13u, zs_108_14, zs_108_17, zs_108_21, zs_108_21i, zs_108_22, zt_108_22, zs_108_25, zs_108_26, zs_108_26u, zs_108_27, zs_108_30, zs_108_31, zs_108_32, zs_108_32u, zs_108_33, zs_108_36, zt_108_36, zs_108_39, zs_108_39u, zs_108_40, zs_108_43, zs_108_46, zt_108_46, zs_108_49, zc_isO, zr_fld_mk, zc_isA, zc_len, zr_elt_mk, zr_kill_i, zr_kill_l, zr_kill_r, zr_kill_u, zr_kill_f, zr_kill_n, zc_cat, zr_cat_i, zr_cat_l, zr_cat_r, zr_cat_f, zr_cat_d, zr_cat_u, beq_self_eq_true, Nat.zero_le, Nat.le_refl, Nat.reduceSub, Nat.reduceAdd, Nat.reduceLeDiff, csl_f, csr_f, cn_f, lg_cmp_eq, lg_cmp_le, lg_cmp_lt, lg_cmp_ge, lg_cmp_gt, nI_1, zr_up_self, zp_O, zr_fup_self, zr_fup_ne, ne_eq, Nat.reduceEqDiff, not_false_eq_true, pk_mul, hX, zx_I, zx_2, zx_0, a1, a2, a3, m0, m9, zm_I]
    refine k_bec (d := d + 3) w9 w0 (fun i hi j' hj' => v1.2.2.2.2.2.2.2.1.2 (9 + j) 0 _ _ (by omega) (by omega) (by omega) e9 e0 i j' hi hj') (fun h2 f2 w2 => ?_)
    obtain ⟨v2, o2⟩ := vC_upd v1 (i := 9 + j) (G := (R, S, b, w, P, I)) (by omega) e9 f2 w2 n0
    rw [eV] at v2
    have hX2 := v2.1
    have e0' : vu V (9 + j) (some (R, S, b, w, P, I)) 0 = some (R, S, b, w, P, I) := by rw [vu_n _ _ (by omega)]; exact h0
    obtain ⟨g2, w3, -⟩ := vC_v0 v2 e0'
    have w3 : vM h2 (B1 0) R S b w P I g2 := w3
    simp only [zs_108_0, zs_108_1, zt_108_1, zs_108_4, zs_108_4u, zs_108_5, zs_108_8, zs_108_9, zs_108_10u, zs_108_10, zs_108_13, zs_108_13u, zs_108_14, zs_108_17, zs_108_21, zs_108_21i, zs_108_22, zt_108_22, zs_108_25, zs_108_26, zs_108_26u, zs_108_27, zs_108_30, zs_108_31, zs_108_32, zs_108_32u, zs_108_33, zs_108_36, zt_108_36, zs_108_39, zs_108_39u, zs_108_40, zs_108_43, zs_108_46, zt_108_46, zs_108_49, zc_isO, zr_fld_mk, zc_isA, zc_len, zr_elt_mk, zr_kill_i, zr_kill_l, zr_kill_r, zr_kill_u, zr_kill_f, zr_kill_n, zc_cat, zr_cat_i, zr_cat_l, zr_cat_r, zr_cat_f, zr_cat_d, zr_cat_u, beq_self_eq_true, Nat.zero_le, Nat.le_refl, Nat.reduceSub, Nat.reduceAdd, Nat.reduceLeDiff, csl_f, csr_f, cn_f, lg_cmp_eq, lg_cmp_le, lg_cmp_lt, lg_cmp_ge, lg_cmp_gt, nI_1, zr_up_self, zp_O, zr_fup_self, zr_fup_ne, ne_eq, Nat.reduceEqDiff, not_false_eq_true, pk_mul, hX2, zx_I, zx_0, w3.1, zm_I, zm_0, w3.2.1, zb_O]
    refine k_sn (d := d + 3) w3.2.1 ?_
    simp only [zs_108_0, zs_108_1, zt_108_1, zs_108_4, zs_108_4u, zs_108_5, zs_108_8, zs_108_9, zs_108_10u, zs_108_10, zs_108_13, zs_108_13u, zs_108_14, zs_108_17, zs_108_21, zs_108_21i, zs_108_22, zt_108_22, zs_108_25, zs_108_26, zs_108_26u, zs_108_27, zs_108_30, zs_108_31, zs_108_32, zs_108_32u, zs_108_33, zs_108_36, zt_108_36, zs_108_39, zs_108_39u, zs_108_40, zs_108_43, zs_108_46, zt_108_46, zs_108_49, zc_isO, zr_fld_mk, zc_isA, zc_len, zr_elt_mk, zr_kill_i, zr_kill_l, zr_kill_r, zr_kill_u, zr_kill_f, zr_kill_n, zc_cat, zr_cat_i, zr_cat_l, zr_cat_r, zr_cat_f, zr_cat_d, zr_cat_u, beq_self_eq_true, Nat.zero_le, Nat.le_refl, Nat.reduceSub, Nat.reduceAdd, Nat.reduceLeDiff, csl_f, csr_f, cn_f, lg_cmp_eq, lg_cmp_le, lg_cmp_lt, lg_cmp_ge, lg_cmp_gt, nI_1, zr_up_self, zp_O, zr_fup_self, zr_fup_ne, ne_eq, Nat.reduceEqDiff, not_false_eq_true, pk_mul]
    exact hQ _ B1 (fun q o => (o2 q o).trans (o1 q o)) v2
  obtain ⟨a1, a2, a3⟩ := vC_slot v hj
  cases e9 : V (9 + j) with
  | some G1 =>
    rw [e9] at a3
    have a3 : zr_elt (h (D 2)) (nI j).toNatClampNeg = .ref (B (9 + j) 0) := a3
    simp only [zs_108_0, zs_108_1, zt_108_1, zs_108_4, zs_108_4u, zs_108_5, zs_108_8, zs_108_9, zs_108_10u, zs_108_10, zs_108_13, zs_108_13u, zs_108_14, zs_108_17, zs_108_21, zs_108_21i, zs_108_22, zt_108_22, zs_108_25, zs_108_27, zs_108_30, zs_108_31, zs_108_32, zs_108_32u, zs_108_33, zs_108_36, zt_108_36, zs_108_39, zs_108_39u, zs_108_40, zs_108_43, zs_108_46, zt_108_46, zs_108_49, zc_isO, zr_fld_mk, zc_isA, zc_len, zr_elt_mk, zr_kill_i, zr_kill_l, zr_kill_r, zr_kill_u, zr_kill_f, zr_kill_n, zc_cat, zr_cat_i, zr_cat_l, zr_cat_r, zr_cat_f, zr_cat_d, zr_cat_u, beq_self_eq_true, Nat.zero_le, Nat.le_refl, Nat.reduceSub, Nat.reduceAdd, Nat.reduceLeDiff, csl_f, csr_f, cn_f, lg_cmp_eq, lg_cmp_le, lg_cmp_lt, lg_cmp_ge, lg_cmp_gt, nI_1, zr_up_self, zp_O, zr_fup_self, zr_fup_ne, ne_eq, Nat.reduceEqDiff, not_false_eq_true, pk_mul, hX, zx_I, zx_2, a1, a2, a3]
    exact tail h B V G1 _ _ (fun _ _ => rfl) v e9 h0 rfl
  | none =>
    rw [e9] at a3
    have a3 : zr_elt (h (D 2)) (nI j).toNatClampNeg = .null := a3
    simp only [zs_108_0, zs_108_1, zt_108_1, zs_108_4, zs_108_4u, zs_108_5, zs_108_8, zs_108_9, zs_108_10u, zs_108_10, zs_108_13, zs_108_13u, zs_108_14, zs_108_17, zs_108_21, zs_108_21i, zs_108_22, zt_108_22, zs_108_25, zs_108_27, zs_108_30, zs_108_31, zs_108_32, zs_108_32u, zs_108_33, zs_108_36, zt_108_36, zs_108_39, zs_108_39u, zs_108_40, zs_108_43, zs_108_46, zt_108_46, zs_108_49, zc_isO, zr_fld_mk, zc_isA, zc_len, zr_elt_mk, zr_kill_i, zr_kill_l, zr_kill_r, zr_kill_u, zr_kill_f, zr_kill_n, zc_cat, zr_cat_i, zr_cat_l, zr_cat_r, zr_cat_f, zr_cat_d, zr_cat_u, beq_self_eq_true, Nat.zero_le, Nat.le_refl, Nat.reduceSub, Nat.reduceAdd, Nat.reduceLeDiff, csl_f, csr_f, cn_f, lg_cmp_eq, lg_cmp_le, lg_cmp_lt, lg_cmp_ge, lg_cmp_gt, nI_1, zr_up_self, zp_O, zr_fup_self, zr_fup_ne, ne_eq, Nat.reduceEqDiff, not_false_eq_true, pk_mul, hX, zx_I, zx_2, a1, a2, a3]
    refine zs_108_18 (by decide) (by decide) (fun q hq => ?_)
    have c1 : 5 ≤ 7 - 1 - 1 := by decide
    have c2 : 72 ≤ 88 - 6 - 10 := by decide
    simp only [zs_108_0, zs_108_1, zt_108_1, zs_108_4, zs_108_4u, zs_108_5, zs_108_8, zs_108_9, zs_108_10u, zs_108_10, zs_108_13, zs_108_13u, zs_108_14, zs_108_17, zs_108_21, zs_108_21i, zs_108_22, zt_108_22, zs_108_26, zs_108_26u, zs_108_27, zs_108_30, zs_108_31, zs_108_32, zs_108_32u, zs_108_33, zs_108_36, zt_108_36, zs_108_39, zs_108_39u, zs_108_40, zs_108_43, zs_108_46, zt_108_46, zs_108_49, zc_isO, zr_fld_mk, zc_isA, zc_len, zr_elt_mk, zr_kill_i, zr_kill_l, zr_kill_r, zr_kill_u, zr_kill_f, zr_kill_n, zc_cat, zr_cat_i, zr_cat_l, zr_cat_r, zr_cat_f, zr_cat_d, zr_cat_u, beq_self_eq_true, Nat.zero_le, Nat.le_refl, Nat.reduceSub, Nat.reduceAdd, Nat.reduceLeDiff, csl_f, csr_f, cn_f, lg_cmp_eq, lg_cmp_le, lg_cmp_lt, lg_cmp_ge, lg_cmp_gt, nI_1, zr_up_self, zp_O, zr_fup_self, zr_fup_ne, ne_eq, Nat.reduceEqDiff, not_false_eq_true, pk_mul, c1, c2]
    refine k_gnew (d := d) (q := q) (zr_up_self _ _ _) (fun A g h1 eq nA ng f1 v1 => ?_)
    have f0 : fx (g :: xA A) h h1 := fx_trans (fx_up (by subst eq; simp [xA])) f1
    have up : ∀ a, zr_up h q (zr_dfl 1) a = none → h a = none := fun a e => by
      by_cases z : a = q
      · rw [z]; exact hq
      · rw [zr_up_ne _ _ z] at e; exact e
    have nA2 : ∀ i, i < 5 → h (A i) = none := fun i hi => by
      rcases Nat.eq_zero_or_pos i with z | z
      · subst z; rw [eq]; exact hq
      · exact up _ (nA i z hi)
    obtain ⟨v2, o2⟩ := vC_new v hj e9 nA2 (up _ ng) f0 (G := (1, 3, 0, 0, [(0, 0)], bgI (fI (fI (fI (fun _ => 0) 2 1) 8 0) 9 0))) v1
    have b1 : zr_isA (h1 (D 2)) 5 = true := by
      have : h1 (D 2) = h (D 2) := f0 _ (fun m => by
        obtain ⟨F, e, -⟩ := v.2.2.1
        rcases List.mem_cons.mp m with z | z
        · rw [z, up _ ng] at e; cases e
        · obtain ⟨l, hl, z⟩ := xA_m.mp z
          rw [z, nA2 l hl] at e; cases e)
      rw [this]
      exact a1
    have b2 : vp_in (nI j) (zr_len (h1 (D 2))) := by
      have : h1 (D 2) = h (D 2) := f0 _ (fun m => by
        obtain ⟨F, e, -⟩ := v.2.2.1
        rcases List.mem_cons.mp m with z | z
        · rw [z, up _ ng] at e; cases e
        · obtain ⟨l, hl, z⟩ := xA_m.mp z
          rw [z, nA2 l hl] at e; cases e)
      rw [this]
      exact a2
    have b3 : zr_isO (h1 q) 1 = true := by rw [← eq, v1.1]; exact zm_I
    have b4 : (nI j).toNatClampNeg = j := nI_clamp (by omega)
    simp only [zs_108_0, zs_108_1, zt_108_1, zs_108_4, zs_108_4u, zs_108_5, zs_108_8, zs_108_9, zs_108_10u, zs_108_10, zs_108_13, zs_108_13u, zs_108_14, zs_108_17, zs_108_21, zs_108_21i, zs_108_22, zt_108_22, zs_108_25, zs_108_27, zs_108_30, zs_108_31, zs_108_32, zs_108_32u, zs_108_33, zs_108_36, zt_108_36, zs_108_39, zs_108_39u, zs_108_40, zs_108_43, zs_108_46, zt_108_46, zs_108_49, zc_isO, zr_fld_mk, zc_isA, zc_len, zr_elt_mk, zr_kill_i, zr_kill_l, zr_kill_r, zr_kill_u, zr_kill_f, zr_kill_n, zc_cat, zr_cat_i, zr_cat_l, zr_cat_r, zr_cat_f, zr_cat_d, zr_cat_u, beq_self_eq_true, Nat.zero_le, Nat.le_refl, Nat.reduceSub, Nat.reduceAdd, Nat.reduceLeDiff, csl_f, csr_f, cn_f, lg_cmp_eq, lg_cmp_le, lg_cmp_lt, lg_cmp_ge, lg_cmp_gt, nI_1, zr_up_self, zp_O, zr_fup_self, zr_fup_ne, ne_eq, Nat.reduceEqDiff, not_false_eq_true, pk_mul, b1, b2, b3, b4]
    rw [← eq]
    exact tail _ _ _ _ _ _ o2 v2 (vu_s _ _ _) (by rw [vu_n _ _ (by omega)]; exact h0) (vu_vu _ _ _ _)
theorem k_restore (v : vC h O B D V u l J rb rw tf wf) (h0 : V 0 = some (R, S, b, w, P, I)) {y : Int32} (q2 : ¬ (y = 0 ∨ y = 1) → Q (.inr 2) h) (q0 : ∀ j, j < 2 → y = nI j → V (9 + j) = none → Q (.inr 0) h)
    (hQ : ∀ j R2 S2 b2 w2 P2 I2, j < 2 → y = nI j → V (9 + j) = some (R2, S2, b2, w2, P2, I2) → ∀ h' B', (∀ q, O q → h' q = h q) → vC h' O B' D (chV V (R, S, b, w, P, I) (R2, S2, b2, w2, P2, I2)) (min (u + 1) 8) l J rb rw tf wf → Q (.inl (some (.int (nI (ct (b2 ||| w2)))))) h') : zr_E (d + 4) 109 [.ref (D 0), .int y] h Q := by
  have hX := v.1
  rw [ze_109]
  simp only [zs_109_0, zs_109_1, zt_109_1, zs_109_5, zs_109_8, zs_109_9, zs_109_10, zs_109_10u, zs_109_11, zs_109_11u, zs_109_12u, zs_109_12, zs_109_26, zs_109_26u, zs_109_27, zt_109_27, zs_109_30, zs_109_30u, zs_109_31, zs_109_34, zs_109_34u, zs_109_35, zt_109_35, zs_109_38, zs_109_38u, zs_109_39, zs_109_42, zs_109_45, zt_109_45, zs_109_48, zc_isO, zr_fld_mk, zc_isA, zc_len, zr_elt_mk, zr_kill_i, zr_kill_l, zr_kill_r, zr_kill_u, zr_kill_f, zr_kill_n, zc_cat, zr_cat_i, zr_cat_l, zr_cat_r, zr_cat_f, zr_cat_d, zr_cat_u, beq_self_eq_true, Nat.zero_le, Nat.le_refl, Nat.reduceSub, Nat.reduceAdd, Nat.reduceLeDiff, csl_f, csr_f, cn_f, lg_cmp_eq, lg_cmp_le, lg_cmp_lt, lg_cmp_ge, lg_cmp_gt, nI_1, zr_up_self, zp_O, zr_fup_self, zr_fup_ne, ne_eq, Nat.reduceEqDiff, not_false_eq_true, pk_mul]
  refine k_slt (d := d + 2) (fun e => ?_) (fun e => ?_)
  rotate_left
  · rw [zk_thr zf_hh_109]
    exact q2 e
  obtain ⟨j, hj, e⟩ := slt_j e
  have q0' := q0 j hj e
  have hQ' := fun R2 S2 b2 w2 P2 I2 => hQ j R2 S2 b2 w2 P2 I2 hj e
  clear q2 q0 hQ
  subst e
  have q0 := q0'
  have hQ := hQ'
  obtain ⟨a1, a2, a3⟩ := vC_slot v hj
  cases e9 : V (9 + j) with
  | none =>
    rw [e9] at a3
    have a3 : zr_elt (h (D 2)) (nI j).toNatClampNeg = .null := a3
    simp only [zs_109_0, zs_109_1, zt_109_1, zs_109_4, zs_109_4u, zs_109_5, zs_109_8, zs_109_9, zs_109_10, zs_109_10u, zs_109_11, zs_109_11u, zs_109_12u, zs_109_12, zs_109_26, zs_109_26u, zs_109_27, zt_109_27, zs_109_30, zs_109_30u, zs_109_31, zs_109_34, zs_109_34u, zs_109_35, zt_109_35, zs_109_38, zs_109_38u, zs_109_39, zs_109_42, zs_109_45, zt_109_45, zs_109_48, zc_isO, zr_fld_mk, zc_isA, zc_len, zr_elt_mk, zr_kill_i, zr_kill_l, zr_kill_r, zr_kill_u, zr_kill_f, zr_kill_n, zc_cat, zr_cat_i, zr_cat_l, zr_cat_r, zr_cat_f, zr_cat_d, zr_cat_u, beq_self_eq_true, Nat.zero_le, Nat.le_refl, Nat.reduceSub, Nat.reduceAdd, Nat.reduceLeDiff, csl_f, csr_f, cn_f, lg_cmp_eq, lg_cmp_le, lg_cmp_lt, lg_cmp_ge, lg_cmp_gt, nI_1, zr_up_self, zp_O, zr_fup_self, zr_fup_ne, ne_eq, Nat.reduceEqDiff, not_false_eq_true, pk_mul, hX, zx_I, zx_2, a1, a2, a3]
    exact zs_109_15 (by decide) (by decide) (by rw [zr_cat_0]; decide) (q0 e9)
  | some G9 =>
    obtain ⟨R2, S2, b2, w2, P2, I2⟩ := G9
    rw [e9] at a3
    have hQ := hQ R2 S2 b2 w2 P2 I2 e9
    have a3 : zr_elt (h (D 2)) (nI j).toNatClampNeg = .ref (B (9 + j) 0) := a3
    simp only [zs_109_0, zs_109_1, zt_109_1, zs_109_4, zs_109_4u, zs_109_5, zs_109_8, zs_109_9, zs_109_10, zs_109_10u, zs_109_11, zs_109_11u, zs_109_12u, zs_109_12, zs_109_26, zs_109_26u, zs_109_27, zt_109_27, zs_109_30, zs_109_30u, zs_109_31, zs_109_34, zs_109_34u, zs_109_35, zt_109_35, zs_109_38, zs_109_38u, zs_109_39, zs_109_42, zs_109_45, zt_109_45, zs_109_48, zc_isO, zr_fld_mk, zc_isA, zc_len, zr_elt_mk, zr_kill_i, zr_kill_l, zr_kill_r, zr_kill_u, zr_kill_f, zr_kill_n, zc_cat, zr_cat_i, zr_cat_l, zr_cat_r, zr_cat_f, zr_cat_d, zr_cat_u, beq_self_eq_true, Nat.zero_le, Nat.le_refl, Nat.reduceSub, Nat.reduceAdd, Nat.reduceLeDiff, csl_f, csr_f, cn_f, lg_cmp_eq, lg_cmp_le, lg_cmp_lt, lg_cmp_ge, lg_cmp_gt, nI_1, zr_up_self, zp_O, zr_fup_self, zr_fup_ne, ne_eq, Nat.reduceEqDiff, not_false_eq_true, pk_mul, hX, zx_I, zx_2, a1, a2, a3]
    refine k_remB v h0 (fun h1 B1 eB _ o1 v1 => ?_)
    have eB9 := eB (9 + j) (by omega)
    have e9' : rmV V (R, S, b, w, P, I) (9 + j) = some (R2, S2, b2, w2, P2, I2) := by
      unfold rmV ro
      rw [if_neg (by omega), if_neg (by omega), vu_n _ _ (by omega)]
      exact e9
    have e0' : rmV V (R, S, b, w, P, I) 0 = some (R, S, b, w, P, I) := h0
    obtain ⟨⟨g0, w0, n0⟩, -⟩ := v1.2.2.2.2.2.2.2.1.1 0 _ (by omega) e0'
    obtain ⟨⟨g9, w9, n9⟩, -⟩ := v1.2.2.2.2.2.2.2.1.1 (9 + j) _ (by omega) e9'
    have w0 : vM h1 (B1 0) R S b w P I g0 := w0
    have w9 : vM h1 (B1 (9 + j)) R2 S2 b2 w2 P2 I2 g9 := w9
    have hX1 := v1.1
    have m9 := w9.1
    rw [← eB9]
    simp only [zs_109_0, zs_109_1, zt_109_1, zs_109_4, zs_109_4u, zs_109_5, zs_109_8, zs_109_9, zs_109_10, zs_109_10u, zs_109_11, zs_109_11u, zs_109_12u, zs_109_12, zs_109_26, zs_109_26u, zs_109_27, zt_109_27, zs_109_30, zs_109_30u, zs_109_31, zs_109_34, zs_109_34u, zs_109_35, zt_109_35, zs_109_38, zs_109_38u, zs_109_39, zs_109_42, zs_109_45, zt_109_45, zs_109_48, zc_isO, zr_fld_mk, zc_isA, zc_len, zr_elt_mk, zr_kill_i, zr_kill_l, zr_kill_r, zr_kill_u, zr_kill_f, zr_kill_n, zc_cat, zr_cat_i, zr_cat_l, zr_cat_r, zr_cat_f, zr_cat_d, zr_cat_u, beq_self_eq_true, Nat.zero_le, Nat.le_refl, Nat.reduceSub, Nat.reduceAdd, Nat.reduceLeDiff, csl_f, csr_f, cn_f, lg_cmp_eq, lg_cmp_le, lg_cmp_lt, lg_cmp_ge, lg_cmp_gt, nI_1, zr_up_self, zp_O, zr_fup_self, zr_fup_ne, ne_eq, Nat.reduceEqDiff, not_false_eq_true, pk_mul, hX1, zx_I, zx_0, w0.1, m9, zm_I]
    refine k_bec (d := d + 1) w0 w9 (fun i hi j' hj' => v1.2.2.2.2.2.2.2.1.2 0 (9 + j) _ _ (by omega) (by omega) (by omega) e0' e9' i j' hi hj') (fun h2 f2 w2' => ?_)
    obtain ⟨v2, o2⟩ := vC_upd v1 (i := 0) (G := (R2, S2, b2, w2, P2, I2)) (by omega) e0' f2 w2' n9
    have hX2 := v2.1
    simp only [zs_109_0, zs_109_1, zt_109_1, zs_109_4, zs_109_4u, zs_109_5, zs_109_8, zs_109_9, zs_109_10, zs_109_10u, zs_109_11, zs_109_11u, zs_109_12u, zs_109_12, zs_109_26, zs_109_26u, zs_109_27, zt_109_27, zs_109_30, zs_109_30u, zs_109_31, zs_109_34, zs_109_34u, zs_109_35, zt_109_35, zs_109_38, zs_109_38u, zs_109_39, zs_109_42, zs_109_45, zt_109_45, zs_109_48, zc_isO, zr_fld_mk, zc_isA, zc_len, zr_elt_mk, zr_kill_i, zr_kill_l, zr_kill_r, zr_kill_u, zr_kill_f, zr_kill_n, zc_cat, zr_cat_i, zr_cat_l, zr_cat_r, zr_cat_f, zr_cat_d, zr_cat_u, beq_self_eq_true, Nat.zero_le, Nat.le_refl, Nat.reduceSub, Nat.reduceAdd, Nat.reduceLeDiff, csl_f, csr_f, cn_f, lg_cmp_eq, lg_cmp_le, lg_cmp_lt, lg_cmp_ge, lg_cmp_gt, nI_1, zr_up_self, zp_O, zr_fup_self, zr_fup_ne, ne_eq, Nat.reduceEqDiff, not_false_eq_true, pk_mul, hX2, zx_I, zx_0, w2'.1, zm_I, zm_0, w2'.2.1, zb_O]
    refine k_sn (d := d + 1) w2'.2.1 ?_
    simp only [zs_109_0, zs_109_1, zt_109_1, zs_109_4, zs_109_4u, zs_109_5, zs_109_8, zs_109_9, zs_109_10, zs_109_10u, zs_109_11, zs_109_11u, zs_109_12u, zs_109_12, zs_109_26, zs_109_26u, zs_109_27, zt_109_27, zs_109_30, zs_109_30u, zs_109_31, zs_109_34, zs_109_34u, zs_109_35, zt_109_35, zs_109_38, zs_109_38u, zs_109_39, zs_109_42, zs_109_45, zt_109_45, zs_109_48, zc_isO, zr_fld_mk, zc_isA, zc_len, zr_elt_mk, zr_kill_i, zr_kill_l, zr_kill_r, zr_kill_u, zr_kill_f, zr_kill_n, zc_cat, zr_cat_i, zr_cat_l, zr_cat_r, zr_cat_f, zr_cat_d, zr_cat_u, beq_self_eq_true, Nat.zero_le, Nat.le_refl, Nat.reduceSub, Nat.reduceAdd, Nat.reduceLeDiff, csl_f, csr_f, cn_f, lg_cmp_eq, lg_cmp_le, lg_cmp_lt, lg_cmp_ge, lg_cmp_gt, nI_1, zr_up_self, zp_O, zr_fup_self, zr_fup_ne, ne_eq, Nat.reduceEqDiff, not_false_eq_true, pk_mul]
    exact hQ _ B1 (fun q o => (o2 q o).trans (o1 q o)) v2
theorem k_differ (v : vC h O B D V u l J rb rw tf wf) (h0 : V 0 = some (R, S, b, w, P, I)) {y : Int32} (q2 : ¬ (y = 0 ∨ y = 1) → Q (.inr 2) h) (q0 : ∀ j, j < 2 → y = nI j → V (9 + j) = none → Q (.inl (some (.int (-1)))) h)
    (q1 : ∀ j R2 S2 b2 w2 P2 I2, j < 2 → y = nI j → V (9 + j) = some (R2, S2, b2, w2, P2, I2) → ¬ (R2 = R ∧ S2 = S) → Q (.inl (some (.int (-1)))) h)
    (hQ : ∀ j R2 S2 b2 w2 P2 I2, j < 2 → y = nI j → V (9 + j) = some (R2, S2, b2, w2, P2, I2) → (R2 = R ∧ S2 = S) → Q (.inl (some (.int (nI (ct ((b2 ^^^ b) ||| (w2 ^^^ w))))))) h) : zr_E (d + 3) 110 [.ref (D 0), .int y] h Q := by
  have hX := v.1
  rw [ze_110]
  simp only [zs_110_0, zs_110_1, zt_110_1, zs_110_5, zs_110_8, zs_110_9, zs_110_10, zs_110_10u, zs_110_11, zs_110_11u, zs_110_12u, zs_110_12, zs_110_15, zs_110_15u, zs_110_16, zs_110_19, zs_110_22, zs_110_22u, zs_110_23, zs_110_26, zs_110_29, zs_110_32, zt_110_32, zs_110_35, zs_110_38, zs_110_39, zs_110_40, zs_110_40u, zs_110_41, zs_110_44, zs_110_47, zs_110_47u, zs_110_48, zs_110_51, zs_110_54, zs_110_57, zs_110_58, zs_110_59, zs_110_59u, zs_110_60, zs_110_63, zs_110_66, zs_110_66u, zs_110_67, zs_110_70, zs_110_73, zs_110_76, zs_110_77, zs_110_79, zs_110_80, zs_110_82, zs_110_83, zt_110_83, zs_110_86, zc_isO, zr_fld_mk, zc_isA, zc_len, zr_elt_mk, zr_kill_i, zr_kill_l, zr_kill_r, zr_kill_u, zr_kill_f, zr_kill_n, zc_cat, zr_cat_i, zr_cat_l, zr_cat_r, zr_cat_f, zr_cat_d, zr_cat_u, beq_self_eq_true, Nat.zero_le, Nat.le_refl, Nat.reduceSub, Nat.reduceAdd, Nat.reduceLeDiff, csl_f, csr_f, cn_f, lg_cmp_eq, lg_cmp_le, lg_cmp_lt, lg_cmp_ge, lg_cmp_gt, nI_1, zr_up_self, zp_O, zr_fup_self, zr_fup_ne, ne_eq, Nat.reduceEqDiff, not_false_eq_true, pk_mul]
  refine k_slt (d := d + 1) (fun e => ?_) (fun e => ?_)
  rotate_left
  · rw [zk_thr zf_hh_110]
    exact q2 e
  obtain ⟨j, hj, e⟩ := slt_j e
  have q0' := q0 j hj e
  have q1' := fun R2 S2 b2 w2 P2 I2 => q1 j R2 S2 b2 w2 P2 I2 hj e
  have hQ' := fun R2 S2 b2 w2 P2 I2 => hQ j R2 S2 b2 w2 P2 I2 hj e
  clear q2 q0 q1 hQ
  subst e
  have q0 := q0'
  have q1 := q1'
  have hQ := hQ'
  obtain ⟨a1, a2, a3⟩ := vC_slot v hj
  cases e9 : V (9 + j) with
  | none =>
    rw [e9] at a3
    have a3 : zr_elt (h (D 2)) (nI j).toNatClampNeg = .null := a3
    simp only [zs_110_0, zs_110_1, zt_110_1, zs_110_4, zs_110_4u, zs_110_5, zs_110_8, zs_110_9, zs_110_10, zs_110_10u, zs_110_11, zs_110_11u, zs_110_12u, zs_110_12, zs_110_15, zs_110_15u, zs_110_16, zs_110_19, zs_110_22, zs_110_22u, zs_110_23, zs_110_26, zs_110_29, zs_110_32, zt_110_32, zs_110_35, zs_110_38, zs_110_39, zs_110_40, zs_110_40u, zs_110_41, zs_110_44, zs_110_47, zs_110_47u, zs_110_48, zs_110_51, zs_110_54, zs_110_57, zs_110_58, zs_110_59, zs_110_59u, zs_110_60, zs_110_63, zs_110_66, zs_110_66u, zs_110_67, zs_110_70, zs_110_73, zs_110_76, zs_110_77, zs_110_79, zs_110_80, zs_110_82, zs_110_83, zt_110_83, zs_110_86, zc_isO, zr_fld_mk, zc_isA, zc_len, zr_elt_mk, zr_kill_i, zr_kill_l, zr_kill_r, zr_kill_u, zr_kill_f, zr_kill_n, zc_cat, zr_cat_i, zr_cat_l, zr_cat_r, zr_cat_f, zr_cat_d, zr_cat_u, beq_self_eq_true, Nat.zero_le, Nat.le_refl, Nat.reduceSub, Nat.reduceAdd, Nat.reduceLeDiff, csl_f, csr_f, cn_f, lg_cmp_eq, lg_cmp_le, lg_cmp_lt, lg_cmp_ge, lg_cmp_gt, nI_1, zr_up_self, zp_O, zr_fup_self, zr_fup_ne, ne_eq, Nat.reduceEqDiff, not_false_eq_true, pk_mul, hX, zx_I, zx_2, a1, a2, a3]
    exact q0 e9
  | some G9 =>
    obtain ⟨R2, S2, b2, w2, P2, I2⟩ := G9
    rw [e9] at a3
    have hQ := hQ R2 S2 b2 w2 P2 I2 e9
    have q1 := q1 R2 S2 b2 w2 P2 I2 e9
    have a3 : zr_elt (h (D 2)) (nI j).toNatClampNeg = .ref (B (9 + j) 0) := a3
    obtain ⟨⟨g0, w0, n0⟩, -⟩ := v.2.2.2.2.2.2.2.1.1 0 _ (by omega) h0
    obtain ⟨⟨g9, w9, n9⟩, -⟩ := v.2.2.2.2.2.2.2.1.1 (9 + j) _ (by omega) e9
    have w0 : vM h (B 0) R S b w P I g0 := w0
    have w9 : vM h (B (9 + j)) R2 S2 b2 w2 P2 I2 g9 := w9
    simp only [zs_110_0, zs_110_1, zt_110_1, zs_110_4, zs_110_4u, zs_110_5, zs_110_8, zs_110_9, zs_110_10, zs_110_10u, zs_110_11, zs_110_11u, zs_110_12u, zs_110_12, zs_110_15, zs_110_15u, zs_110_16, zs_110_19, zs_110_22, zs_110_22u, zs_110_23, zs_110_26, zs_110_29, zs_110_32, zt_110_32, zs_110_35, zs_110_38, zs_110_39, zs_110_40, zs_110_40u, zs_110_41, zs_110_44, zs_110_47, zs_110_47u, zs_110_48, zs_110_51, zs_110_54, zs_110_57, zs_110_58, zs_110_59, zs_110_59u, zs_110_60, zs_110_63, zs_110_66, zs_110_66u, zs_110_67, zs_110_70, zs_110_73, zs_110_76, zs_110_77, zs_110_79, zs_110_80, zs_110_82, zs_110_83, zt_110_83, zs_110_86, zc_isO, zr_fld_mk, zc_isA, zc_len, zr_elt_mk, zr_kill_i, zr_kill_l, zr_kill_r, zr_kill_u, zr_kill_f, zr_kill_n, zc_cat, zr_cat_i, zr_cat_l, zr_cat_r, zr_cat_f, zr_cat_d, zr_cat_u, beq_self_eq_true, Nat.zero_le, Nat.le_refl, Nat.reduceSub, Nat.reduceAdd, Nat.reduceLeDiff, csl_f, csr_f, cn_f, lg_cmp_eq, lg_cmp_le, lg_cmp_lt, lg_cmp_ge, lg_cmp_gt, nI_1, zr_up_self, zp_O, zr_fup_self, zr_fup_ne, ne_eq, Nat.reduceEqDiff, not_false_eq_true, pk_mul, hX, zx_I, zx_2, zx_0, a1, a2, a3, w0.1, w9.1, zm_I, zm_0, w0.2.1, w9.2.1, zb_O, zb_0, w9.2.2.1, zg_O]
    refine k_like (d := d + 1) w9.2.2.2.1 w9.2.2.1 w0.2.2.2.1 w0.2.2.1 (fun z => ?_) (fun z => ?_)
    · simp only [zs_110_0, zs_110_1, zt_110_1, zs_110_4, zs_110_4u, zs_110_5, zs_110_8, zs_110_9, zs_110_10, zs_110_10u, zs_110_11, zs_110_11u, zs_110_12u, zs_110_12, zs_110_15, zs_110_15u, zs_110_16, zs_110_19, zs_110_22, zs_110_22u, zs_110_23, zs_110_26, zs_110_29, zs_110_32, zt_110_32, zs_110_35, zs_110_38, zs_110_39, zs_110_40, zs_110_40u, zs_110_41, zs_110_44, zs_110_47, zs_110_47u, zs_110_48, zs_110_51, zs_110_54, zs_110_57, zs_110_58, zs_110_59, zs_110_59u, zs_110_60, zs_110_63, zs_110_66, zs_110_66u, zs_110_67, zs_110_70, zs_110_73, zs_110_76, zs_110_77, zs_110_79, zs_110_80, zs_110_82, zs_110_83, zt_110_83, zs_110_86, zc_isO, zr_fld_mk, zc_isA, zc_len, zr_elt_mk, zr_kill_i, zr_kill_l, zr_kill_r, zr_kill_u, zr_kill_f, zr_kill_n, zc_cat, zr_cat_i, zr_cat_l, zr_cat_r, zr_cat_f, zr_cat_d, zr_cat_u, beq_self_eq_true, Nat.zero_le, Nat.le_refl, Nat.reduceSub, Nat.reduceAdd, Nat.reduceLeDiff, csl_f, csr_f, cn_f, lg_cmp_eq, lg_cmp_le, lg_cmp_lt, lg_cmp_ge, lg_cmp_gt, nI_1, zr_up_self, zp_O, zr_fup_self, zr_fup_ne, ne_eq, Nat.reduceEqDiff, not_false_eq_true, pk_mul, hX, zx_I, zx_2, zx_0, w0.1, w9.1, zm_I, zm_0, w0.2.1, w9.2.1, zb_O, zb_1, zb_2]
      refine ⟨fun _ => ?_, fun f => absurd f (by decide)⟩
      refine k_bits ?_
      simp only [zs_110_0, zs_110_1, zt_110_1, zs_110_4, zs_110_4u, zs_110_5, zs_110_8, zs_110_9, zs_110_10, zs_110_10u, zs_110_11, zs_110_11u, zs_110_12u, zs_110_12, zs_110_15, zs_110_15u, zs_110_16, zs_110_19, zs_110_22, zs_110_22u, zs_110_23, zs_110_26, zs_110_29, zs_110_32, zt_110_32, zs_110_35, zs_110_38, zs_110_39, zs_110_40, zs_110_40u, zs_110_41, zs_110_44, zs_110_47, zs_110_47u, zs_110_48, zs_110_51, zs_110_54, zs_110_57, zs_110_58, zs_110_59, zs_110_59u, zs_110_60, zs_110_63, zs_110_66, zs_110_66u, zs_110_67, zs_110_70, zs_110_73, zs_110_76, zs_110_77, zs_110_79, zs_110_80, zs_110_82, zs_110_83, zt_110_83, zs_110_86, zc_isO, zr_fld_mk, zc_isA, zc_len, zr_elt_mk, zr_kill_i, zr_kill_l, zr_kill_r, zr_kill_u, zr_kill_f, zr_kill_n, zc_cat, zr_cat_i, zr_cat_l, zr_cat_r, zr_cat_f, zr_cat_d, zr_cat_u, beq_self_eq_true, Nat.zero_le, Nat.le_refl, Nat.reduceSub, Nat.reduceAdd, Nat.reduceLeDiff, csl_f, csr_f, cn_f, lg_cmp_eq, lg_cmp_le, lg_cmp_lt, lg_cmp_ge, lg_cmp_gt, nI_1, zr_up_self, zp_O, zr_fup_self, zr_fup_ne, ne_eq, Nat.reduceEqDiff, not_false_eq_true, pk_mul]
      exact hQ z
    · simp only [zs_110_0, zs_110_1, zt_110_1, zs_110_4, zs_110_4u, zs_110_5, zs_110_8, zs_110_9, zs_110_10, zs_110_10u, zs_110_11, zs_110_11u, zs_110_12u, zs_110_12, zs_110_15, zs_110_15u, zs_110_16, zs_110_19, zs_110_22, zs_110_22u, zs_110_23, zs_110_26, zs_110_29, zs_110_32, zt_110_32, zs_110_35, zs_110_38, zs_110_39, zs_110_40, zs_110_40u, zs_110_41, zs_110_44, zs_110_47, zs_110_47u, zs_110_48, zs_110_51, zs_110_54, zs_110_57, zs_110_58, zs_110_59, zs_110_59u, zs_110_60, zs_110_63, zs_110_66, zs_110_66u, zs_110_67, zs_110_70, zs_110_73, zs_110_76, zs_110_77, zs_110_79, zs_110_80, zs_110_82, zs_110_83, zt_110_83, zs_110_86, zc_isO, zr_fld_mk, zc_isA, zc_len, zr_elt_mk, zr_kill_i, zr_kill_l, zr_kill_r, zr_kill_u, zr_kill_f, zr_kill_n, zc_cat, zr_cat_i, zr_cat_l, zr_cat_r, zr_cat_f, zr_cat_d, zr_cat_u, beq_self_eq_true, Nat.zero_le, Nat.le_refl, Nat.reduceSub, Nat.reduceAdd, Nat.reduceLeDiff, csl_f, csr_f, cn_f, lg_cmp_eq, lg_cmp_le, lg_cmp_lt, lg_cmp_ge, lg_cmp_gt, nI_1, zr_up_self, zp_O, zr_fup_self, zr_fup_ne, ne_eq, Nat.reduceEqDiff, not_false_eq_true, pk_mul, hX, zx_I, zx_2, zx_0, w0.1, w9.1, zm_I, zm_0, w0.2.1, w9.2.1, zb_O, zb_1, zb_2]
      exact ⟨fun f => absurd trivial f, fun _ => q1 z⟩
end STATE
