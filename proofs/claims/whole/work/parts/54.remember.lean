/-! REMEMBER AND UNDO: the earlier games go round -/
def ro (i : Nat) : Nat := if i = 1 then 8 else if 2 ≤ i ∧ i ≤ 8 then i - 1 else i
def rl (i : Nat) : Nat := if i = 8 then 1 else if 1 ≤ i ∧ i ≤ 7 then i + 1 else i
theorem ro_l {i : Nat} (h : i < 11) : ro i < 11 := by unfold ro; split; omega; split <;> omega
theorem rl_l {i : Nat} (h : i < 11) : rl i < 11 := by unfold rl; split; omega; split <;> omega
theorem ro_i {i j : Nat} (hi : i < 11) (hj : j < 11) (e : ro i = ro j) : i = j := by unfold ro at e; split at e <;> split at e <;> (try split at e) <;> (try split at e) <;> omega
theorem rl_i {i j : Nat} (hi : i < 11) (hj : j < 11) (e : rl i = rl j) : i = j := by unfold rl at e; split at e <;> split at e <;> (try split at e) <;> (try split at e) <;> omega
def shV (f : Nat → Value) (i : Nat) : Nat → Value := fun k => if i < k then f (k - 1) else f k
def shW (f : Nat → Value) (i : Nat) : Nat → Value := fun k => if k + 1 < i then f (k + 1) else f k
def rmV (V : Nat → Option gm) (G : gm) : Nat → Option gm := fun i => vu V 8 (some G) (ro i)
def unV (V : Nat → Option gm) (G : gm) : Nat → Option gm := fun i => vu V 0 (some G) (rl i)
section STATE
variable {d : Nat} {Q : zr_K} {h h' : zr_H} {O : Nat → Prop} {B : Nat → Nat → Nat} {D : Nat → Nat} {V : Nat → Option gm} {u l : Nat} {J : Nat → Int32} {rb rw : Int64} {tf wf : Nat → Int32} {G : gm} {g : Nat}
/-- the object, the earlier ones in another order -/
theorem vC_perm (v : vC h O B D V u l J rb rw tf wf) {π : Nat → Nat} (h1 : ∀ i, i < 11 → π i < 11) (h2 : ∀ i j, i < 11 → j < 11 → π i = π j → i = j) (z0 : π 0 = 0) (z9 : ∀ j, j < 2 → π (9 + j) = 9 + j) (z8 : ∀ i, i < 9 → π i < 9) (f : fx [D 1] h h') (a : aV 5 h' (D 1) 8 (fun k => .ref (B (π (k + 1)) 0))) :
    vC h' O (fun i => B (π i)) D (fun i => V (π i)) u l J rb rw tf wf ∧ ∀ q, O q → h' q = h q := by
  obtain ⟨k, fo, fd⟩ := vC_cell v (k := 1) (by omega) f
  obtain ⟨c0, c1, c2, c3, ⟨R, S, c6, hg⟩, c5, c4, -, hn, ne, hD, ho, hu⟩ := v
  refine ⟨⟨?_, a, ?_, (fd 3 (by omega) (by omega)).trans c3, ⟨R, S, (fd 6 (by omega) (by omega)).trans c6, hg⟩, aB_to c5 (fd 5 (by omega) (by omega)), aB_to c4 (fd 4 (by omega) (by omega)), zK_perm k h1 h2, fun i hi => hn _ (z8 i hi), ne, hD, fun q o => by rw [fo q o]; exact ho q o, hu⟩, fo⟩
  · show _ = some (zxs (B (π 0) 0) (D 1) (D 2) (D 3) (D 4) (nI u) (nI l))
    rw [fd 0 (by omega) (by omega), c0, z0]
  · refine aV_eq (aV_to c2 (fd 2 (by omega) (by omega))) (fun j hj => ?_)
    show vo (V (π (9 + j))) (B (π (9 + j)) 0) = _
    rw [z9 j hj]
theorem vC_u (v : vC h O B D V u l J rb rw tf wf) {u2 : Nat} (h2 : u2 ≤ 8) : vC (zr_up h (D 0) (zxs (B 0 0) (D 1) (D 2) (D 3) (D 4) (nI u2) (nI l))) O B D V u2 l J rb rw tf wf ∧ ∀ q, O q → zr_up h (D 0) (zxs (B 0 0) (D 1) (D 2) (D 3) (D 4) (nI u2) (nI l)) q = h q := by
  obtain ⟨k, fo, fd⟩ := vC_cell v (k := 0) (by omega) (fx_up (c := zxs (B 0 0) (D 1) (D 2) (D 3) (D 4) (nI u2) (nI l)) List.mem_cons_self)
  obtain ⟨c0, c1, c2, c3, ⟨R, S, c6, hg⟩, c5, c4, -, hn, ne, hD, ho, hu⟩ := v
  exact ⟨⟨zr_up_self _ _ _, aV_to c1 (fd 1 (by omega) (by omega)), aV_to c2 (fd 2 (by omega) (by omega)), (fd 3 (by omega) (by omega)).trans c3, ⟨R, S, (fd 6 (by omega) (by omega)).trans c6, hg⟩, aB_to c5 (fd 5 (by omega) (by omega)), aB_to c4 (fd 4 (by omega) (by omega)), k, hn, ne, hD, fun q o => by rw [fo q o]; exact ho q o, h2, hu.2⟩, fo⟩
theorem vC_l (v : vC h O B D V u l J rb rw tf wf) {l2 : Nat} (h2 : l2 ≤ 12) : vC (zr_up h (D 0) (zxs (B 0 0) (D 1) (D 2) (D 3) (D 4) (nI u) (nI l2))) O B D V u l2 J rb rw tf wf ∧ ∀ q, O q → zr_up h (D 0) (zxs (B 0 0) (D 1) (D 2) (D 3) (D 4) (nI u) (nI l2)) q = h q := by
  obtain ⟨k, fo, fd⟩ := vC_cell v (k := 0) (by omega) (fx_up (c := zxs (B 0 0) (D 1) (D 2) (D 3) (D 4) (nI u) (nI l2)) List.mem_cons_self)
  obtain ⟨c0, c1, c2, c3, ⟨R, S, c6, hg⟩, c5, c4, -, hn, ne, hD, ho, hu⟩ := v
  exact ⟨⟨zr_up_self _ _ _, aV_to c1 (fd 1 (by omega) (by omega)), aV_to c2 (fd 2 (by omega) (by omega)), (fd 3 (by omega) (by omega)).trans c3, ⟨R, S, (fd 6 (by omega) (by omega)).trans c6, hg⟩, aB_to c5 (fd 5 (by omega) (by omega)), aB_to c4 (fd 4 (by omega) (by omega)), k, hn, ne, hD, fun q o => by rw [fo q o]; exact ho q o, hu.1, h2⟩, fo⟩
theorem vC_gI (v : vC h O B D V u l J rb rw tf wf) {i : Nat} (hi : i < 11) (hV : V i ≠ none) : zr_isO (h (B i 0)) 1 = true := by
  cases e : V i with
  | none => exact (hV e).elim
  | some G =>
    obtain ⟨⟨g, w, -⟩, -⟩ := v.2.2.2.2.2.2.2.1.1 i G hi e
    rw [w.1]
    exact zm_I
theorem k_remB (v : vC h O B D V u l J rb rw tf wf) (h0 : V 0 = some G) (hQ : ∀ h' B', (∀ i, (i = 0 ∨ 9 ≤ i) → B' i = B i) → h' (D 6) = h (D 6) → (∀ q, O q → h' q = h q) → vC h' O B' D (rmV V G) (min (u + 1) 8) l J rb rw tf wf → Q (.inl none) h') : zr_E (d + 3) 111 [.ref (D 0)] h Q := by
  have hX := v.1
  have dd := vC_dd v
  have c1 := v.2.1
  have gI : ∀ i, i < 9 → zr_isO (h (B i 0)) 1 = true := fun i hi => vC_gI v (by omega) (v.2.2.2.2.2.2.2.2.1 i hi)
  have nb : ∀ i, i < 9 → B i 0 ≠ D 1 := fun i hi e => by
    have := gI i hi
    obtain ⟨F, c1, -⟩ := c1
    rw [e, c1] at this
    cases this
  have a1 := aV_isA c1
  have a2 : vp_in 7 (zr_len (h (D 1))) := aV_in c1 (k := 7) (by omega) (by omega)
  have a3 : zr_elt (h (D 1)) (7 : Int32).toNatClampNeg = .ref (B 8 0) := aV_elt c1 (k := 7) (by omega) (by omega)
  rw [ze_111]
  simp only [zs_111_0, zs_111_0u, zs_111_1, zs_111_4, zs_111_6, zs_111_7, zs_111_7u, zs_111_8, zs_111_10, zs_111_12, zs_111_15, zs_111_15u, zs_111_16, zs_111_19, zs_111_20, zs_111_20u, zs_111_21, zs_111_24, zs_111_25, zs_111_26, zs_111_27, zs_111_28, zs_111_29, zs_111_32, zs_111_35, zs_111_35u, zs_111_36, zs_111_39, zs_111_40, zs_111_40u, zs_111_41, zs_111_42, zs_111_42u, zs_111_43, zs_111_43u, zs_111_44, zs_111_47, zt_111_47, zs_111_50, zs_111_50u, zs_111_51, zs_111_51u, zs_111_52, zs_111_55, zs_111_56, zs_111_57, zs_111_59, zs_111_62, zs_111_65, zc_isO, zr_fld_mk, zc_isA, zc_len, zr_elt_mk, zr_kill_i, zr_kill_l, zr_kill_r, zr_kill_u, zr_kill_f, zr_kill_n, zc_cat, zr_cat_i, zr_cat_l, zr_cat_r, zr_cat_f, zr_cat_d, zr_cat_u, beq_self_eq_true, Nat.zero_le, Nat.le_refl, Nat.reduceSub, Nat.reduceAdd, Nat.reduceLeDiff, csl_f, csr_f, cn_f, lg_cmp_eq, lg_cmp_le, lg_cmp_lt, lg_cmp_ge, lg_cmp_gt, nI_1, zr_up_self, zp_O, zr_fup_self, zr_fup_ne, ne_eq, Nat.reduceEqDiff, not_false_eq_true, pk_mul, hX, zx_I, zx_1, a1, a2, a3]
  have loop : ∀ i, i ≤ 7 → ∀ h1, fx [D 1] h h1 → aV 5 h1 (D 1) 8 (shV (fun k => .ref (B (k + 1) 0)) i) → zr_Z (d + 2) 111 Q 11 [some (.ref (D 0)), some (.ref (B 8 0)), some (.int (nI i))] [] h1 0 0 := by
    intro i
    induction i with
    | zero =>
      intro _ h1 f a
      have x1 := fx_get f (by simp; exact dd 0 1 (by omega) (by omega) (by omega)) hX
      have b1 := aV_isA a
      have b2 : vp_in 0 (zr_len (h1 (D 1))) := aV_in a (k := 0) (by omega) (by omega)
      have b3 : zr_isO (h1 (B 8 0)) 1 = true := by rw [f _ (by simp; exact nb 8 (by omega))]; exact gI 8 (by omega)
      simp only [zs_111_0, zs_111_0u, zs_111_1, zs_111_4, zs_111_6, zs_111_7, zs_111_7u, zs_111_8, zs_111_10, zs_111_11, zs_111_12, zs_111_15, zs_111_15u, zs_111_16, zs_111_19, zs_111_20, zs_111_20u, zs_111_21, zs_111_24, zs_111_25, zs_111_26, zs_111_27, zs_111_28, zs_111_29, zs_111_32, zs_111_35, zs_111_35u, zs_111_36, zs_111_39, zs_111_40, zs_111_40u, zs_111_42, zs_111_42u, zs_111_43, zs_111_43u, zs_111_44, zs_111_47, zt_111_47, zs_111_50, zs_111_50u, zs_111_51, zs_111_51u, zs_111_52, zs_111_55, zs_111_56, zs_111_57, zs_111_59, zs_111_62, zs_111_65, zc_isO, zr_fld_mk, zc_isA, zc_len, zr_elt_mk, zr_kill_i, zr_kill_l, zr_kill_r, zr_kill_u, zr_kill_f, zr_kill_n, zc_cat, zr_cat_i, zr_cat_l, zr_cat_r, zr_cat_f, zr_cat_d, zr_cat_u, beq_self_eq_true, Nat.zero_le, Nat.le_refl, Nat.reduceSub, Nat.reduceAdd, Nat.reduceLeDiff, csl_f, csr_f, cn_f, lg_cmp_eq, lg_cmp_le, lg_cmp_lt, lg_cmp_ge, lg_cmp_gt, nI_1, zr_up_self, zp_O, zr_fup_self, zr_fup_ne, ne_eq, Nat.reduceEqDiff, not_false_eq_true, pk_mul, x1, zx_I, zx_1, b1, b2, b3]
      refine ⟨fun _ => ?_, fun z => absurd (by decide) z⟩
      simp only [zs_111_0, zs_111_0u, zs_111_1, zs_111_4, zs_111_6, zs_111_7, zs_111_7u, zs_111_8, zs_111_10, zs_111_11, zs_111_12, zs_111_15, zs_111_15u, zs_111_16, zs_111_19, zs_111_20, zs_111_20u, zs_111_21, zs_111_24, zs_111_25, zs_111_26, zs_111_27, zs_111_28, zs_111_29, zs_111_32, zs_111_35, zs_111_35u, zs_111_36, zs_111_39, zs_111_40, zs_111_40u, zs_111_41, zs_111_42, zs_111_42u, zs_111_43, zs_111_43u, zs_111_44, zs_111_47, zt_111_47, zs_111_50, zs_111_50u, zs_111_51, zs_111_51u, zs_111_52, zs_111_55, zs_111_56, zs_111_57, zs_111_59, zs_111_62, zs_111_65, zc_isO, zr_fld_mk, zc_isA, zc_len, zr_elt_mk, zr_kill_i, zr_kill_l, zr_kill_r, zr_kill_u, zr_kill_f, zr_kill_n, zc_cat, zr_cat_i, zr_cat_l, zr_cat_r, zr_cat_f, zr_cat_d, zr_cat_u, beq_self_eq_true, Nat.zero_le, Nat.le_refl, Nat.reduceSub, Nat.reduceAdd, Nat.reduceLeDiff, csl_f, csr_f, cn_f, lg_cmp_eq, lg_cmp_le, lg_cmp_lt, lg_cmp_ge, lg_cmp_gt, nI_1, zr_up_self, zp_O, zr_fup_self, zr_fup_ne, ne_eq, Nat.reduceEqDiff, not_false_eq_true, pk_mul, x1, zx_I, zx_1, b1, b2, b3]
      have a2 : aV 5 (zr_putA h1 (D 1) (0 : Int32).toNatClampNeg (.ref (B 8 0))) (D 1) 8 (fun k => .ref (B (ro (k + 1)) 0)) := aV_put a (fun k hk => by
        rw [cl_0]
        by_cases e : k = 0
        · subst e; rfl
        · have e1 : ro (k + 1) = k := by unfold ro; rw [if_neg (by omega), if_pos (by omega)]; omega
          rw [if_neg e]
          unfold shV
          rw [if_pos (by omega)]
          show Value.ref (B (ro (k + 1)) 0) = Value.ref (B (k - 1 + 1) 0)
          rw [e1, show k - 1 + 1 = k by omega])
      have f2 := fx_trans f (putA_fx (i := (0 : Int32).toNatClampNeg) (v := .ref (B 8 0)) (h := h1) (q := D 1) List.mem_cons_self)
      have x2 : zr_putA h1 (D 1) (0 : Int32).toNatClampNeg (.ref (B 8 0)) (D 0) = some (zxs (B 0 0) (D 1) (D 2) (D 3) (D 4) (nI u) (nI l)) := putA_ot (dd 0 1 (by omega) (by omega) (by omega)) x1
      generalize zr_putA h1 (D 1) (0 : Int32).toNatClampNeg (.ref (B 8 0)) = h2 at a2 f2 x2 ⊢
      obtain ⟨v2, o2⟩ := vC_perm v (π := ro) (fun i => ro_l) (fun i j => ro_i) rfl (fun j hj => by unfold ro; rw [if_neg (by omega), if_neg (by omega)]) (fun i hi => by unfold ro; split; omega; split <;> omega) f2 a2
      obtain ⟨⟨g0, w0, n0⟩, -⟩ := v2.2.2.2.2.2.2.2.1.1 0 G (by omega) h0
      cases e8 : V 8 with
      | none => exact (v.2.2.2.2.2.2.2.2.1 8 (by omega) e8).elim
      | some G8 =>
        obtain ⟨⟨g8, w8, n8⟩, -⟩ := v2.2.2.2.2.2.2.2.1.1 1 G8 (by omega) e8
        have m8 : h2 (B 8 0) = some (zgm (B 8 1) (B 8 2) G8.2.2.2.2.2) := w8.1
        have m0 : h2 (B 0 0) = some (zgm (B 0 1) (B 0 2) G.2.2.2.2.2) := w0.1
        simp only [zs_111_0, zs_111_0u, zs_111_1, zs_111_4, zs_111_6, zs_111_7, zs_111_7u, zs_111_8, zs_111_10, zs_111_11, zs_111_12, zs_111_15, zs_111_15u, zs_111_16, zs_111_19, zs_111_20, zs_111_20u, zs_111_21, zs_111_24, zs_111_25, zs_111_26, zs_111_27, zs_111_28, zs_111_29, zs_111_32, zs_111_35, zs_111_35u, zs_111_36, zs_111_39, zs_111_40, zs_111_40u, zs_111_41, zs_111_42, zs_111_42u, zs_111_43, zs_111_43u, zs_111_44, zs_111_47, zt_111_47, zs_111_50, zs_111_50u, zs_111_51, zs_111_51u, zs_111_52, zs_111_55, zs_111_56, zs_111_57, zs_111_59, zs_111_62, zs_111_65, zc_isO, zr_fld_mk, zc_isA, zc_len, zr_elt_mk, zr_kill_i, zr_kill_l, zr_kill_r, zr_kill_u, zr_kill_f, zr_kill_n, zc_cat, zr_cat_i, zr_cat_l, zr_cat_r, zr_cat_f, zr_cat_d, zr_cat_u, beq_self_eq_true, Nat.zero_le, Nat.le_refl, Nat.reduceSub, Nat.reduceAdd, Nat.reduceLeDiff, csl_f, csr_f, cn_f, lg_cmp_eq, lg_cmp_le, lg_cmp_lt, lg_cmp_ge, lg_cmp_gt, nI_1, zr_up_self, zp_O, zr_fup_self, zr_fup_ne, ne_eq, Nat.reduceEqDiff, not_false_eq_true, pk_mul, x2, zx_I, zx_0, m8, m0, zm_I]
        refine k_bec (d := d) w8 w0 (fun i hi j hj => v2.2.2.2.2.2.2.2.1.2 1 0 _ _ (by omega) (by omega) (by omega) e8 h0 i j hi hj) (fun h3 f3 w3 => ?_)
        obtain ⟨v3, o3⟩ := vC_upd v2 (i := 1) (G := G) (by omega) e8 f3 w3 n0
        have x3 := v3.1
        change h3 (D 0) = some (zxs (B 0 0) (D 1) (D 2) (D 3) (D 4) (nI u) (nI l)) at x3
        simp only [zs_111_0, zs_111_0u, zs_111_1, zs_111_4, zs_111_6, zs_111_7, zs_111_7u, zs_111_8, zs_111_10, zs_111_11, zs_111_12, zs_111_15, zs_111_15u, zs_111_16, zs_111_19, zs_111_20, zs_111_20u, zs_111_21, zs_111_24, zs_111_25, zs_111_26, zs_111_27, zs_111_28, zs_111_29, zs_111_32, zs_111_35, zs_111_35u, zs_111_36, zs_111_39, zs_111_40, zs_111_40u, zs_111_41, zs_111_42, zs_111_42u, zs_111_43, zs_111_43u, zs_111_44, zs_111_47, zt_111_47, zs_111_50, zs_111_50u, zs_111_51, zs_111_51u, zs_111_52, zs_111_55, zs_111_56, zs_111_57, zs_111_59, zs_111_65, zc_isO, zr_fld_mk, zc_isA, zc_len, zr_elt_mk, zr_kill_i, zr_kill_l, zr_kill_r, zr_kill_u, zr_kill_f, zr_kill_n, zc_cat, zr_cat_i, zr_cat_l, zr_cat_r, zr_cat_f, zr_cat_d, zr_cat_u, beq_self_eq_true, Nat.zero_le, Nat.le_refl, Nat.reduceSub, Nat.reduceAdd, Nat.reduceLeDiff, csl_f, csr_f, cn_f, lg_cmp_eq, lg_cmp_le, lg_cmp_lt, lg_cmp_ge, lg_cmp_gt, nI_1, zr_up_self, zp_O, zr_fup_self, zr_fup_ne, ne_eq, Nat.reduceEqDiff, not_false_eq_true, pk_mul, x3, zx_I, zx_5]
        have e : (if (8 : Int32) < nI (u + 1) then (8 : Int32) else nI (u + 1)) = nI (min (u + 1) 8) := by
          have := v.2.2.2.2.2.2.2.2.2.2.2.2.1
          by_cases g : u = 8
          · subst g; rfl
          · rw [if_neg (show ¬ (8 : Int32) < nI (u + 1) from nI_nlt (a := 8) (by omega) (by omega)), Nat.min_eq_left (by omega)]
        rw [e]
        simp only [zs_111_0, zs_111_0u, zs_111_1, zs_111_4, zs_111_6, zs_111_7, zs_111_7u, zs_111_8, zs_111_10, zs_111_11, zs_111_12, zs_111_15, zs_111_15u, zs_111_16, zs_111_19, zs_111_20, zs_111_20u, zs_111_21, zs_111_24, zs_111_25, zs_111_26, zs_111_27, zs_111_28, zs_111_29, zs_111_32, zs_111_35, zs_111_35u, zs_111_36, zs_111_39, zs_111_40, zs_111_40u, zs_111_41, zs_111_42, zs_111_42u, zs_111_43, zs_111_43u, zs_111_44, zs_111_47, zt_111_47, zs_111_50, zs_111_50u, zs_111_51, zs_111_51u, zs_111_52, zs_111_55, zs_111_56, zs_111_57, zs_111_59, zs_111_62, zc_isO, zr_fld_mk, zc_isA, zc_len, zr_elt_mk, zr_kill_i, zr_kill_l, zr_kill_r, zr_kill_u, zr_kill_f, zr_kill_n, zc_cat, zr_cat_i, zr_cat_l, zr_cat_r, zr_cat_f, zr_cat_d, zr_cat_u, beq_self_eq_true, Nat.zero_le, Nat.le_refl, Nat.reduceSub, Nat.reduceAdd, Nat.reduceLeDiff, csl_f, csr_f, cn_f, lg_cmp_eq, lg_cmp_le, lg_cmp_lt, lg_cmp_ge, lg_cmp_gt, nI_1, zr_up_self, zp_O, zr_fup_self, zr_fup_ne, ne_eq, Nat.reduceEqDiff, not_false_eq_true, pk_mul, x3, zx_I]
        rw [putX5 x3]
        obtain ⟨v4, o4⟩ := vC_u v3 (u2 := min (u + 1) 8) (by omega)
        simp only [zs_111_0, zs_111_0u, zs_111_1, zs_111_4, zs_111_6, zs_111_7, zs_111_7u, zs_111_8, zs_111_10, zs_111_11, zs_111_12, zs_111_15, zs_111_15u, zs_111_16, zs_111_19, zs_111_20, zs_111_20u, zs_111_21, zs_111_24, zs_111_25, zs_111_26, zs_111_27, zs_111_28, zs_111_29, zs_111_32, zs_111_35, zs_111_35u, zs_111_36, zs_111_39, zs_111_40, zs_111_40u, zs_111_41, zs_111_42, zs_111_42u, zs_111_43, zs_111_43u, zs_111_44, zs_111_47, zt_111_47, zs_111_50, zs_111_50u, zs_111_51, zs_111_51u, zs_111_52, zs_111_55, zs_111_56, zs_111_57, zs_111_59, zs_111_62, zs_111_65, zc_isO, zr_fld_mk, zc_isA, zc_len, zr_elt_mk, zr_kill_i, zr_kill_l, zr_kill_r, zr_kill_u, zr_kill_f, zr_kill_n, zc_cat, zr_cat_i, zr_cat_l, zr_cat_r, zr_cat_f, zr_cat_d, zr_cat_u, beq_self_eq_true, Nat.zero_le, Nat.le_refl, Nat.reduceSub, Nat.reduceAdd, Nat.reduceLeDiff, csl_f, csr_f, cn_f, lg_cmp_eq, lg_cmp_le, lg_cmp_lt, lg_cmp_ge, lg_cmp_gt, nI_1, zr_up_self, zp_O, zr_fup_self, zr_fup_ne, ne_eq, Nat.reduceEqDiff, not_false_eq_true, pk_mul]
        refine hQ _ (fun i => B (ro i)) (fun i hi => by show B (ro i) = B i; unfold ro; rw [if_neg (by omega), if_neg (by omega)]) ?_ (fun q o => ((o4 q o).trans (o3 q o)).trans (o2 q o)) ?_
        · rw [zr_up_ne _ _ (dd 6 0 (by omega) (by omega) (by omega)), f3 _ (vC_nx v2 (i := 1) (by omega) e8 6 (by omega)), f2 _ (by simp; exact dd 6 1 (by omega) (by omega) (by omega))]
        have eV : vu (fun i => V (ro i)) 1 (some G) = rmV V G := by
          funext i
          by_cases z : i = 1
          · subst z; rfl
          · rw [vu_n _ _ z]
            have : ro i ≠ 8 := fun f => by unfold ro at f; rw [if_neg z] at f; split at f <;> omega
            unfold rmV
            rw [vu_n _ _ this]
        rw [← eV]
        exact v4
    | succ i ih =>
      intro hi h1 f a
      have x1 := fx_get f (by simp; exact dd 0 1 (by omega) (by omega) (by omega)) hX
      have e1 : nI (i + 1) - 1 = nI i := nI_pred i
      have e2 : (nI (i + 1)).toNatClampNeg = i + 1 := nI_clamp (by omega)
      have b1 := aV_isA a
      have b2 := aV_in a (k := i + 1) (by omega) (by omega)
      have b3 := aV_in a (k := i) (by omega) (by omega)
      have b4 : zr_elt (h1 (D 1)) (nI i).toNatClampNeg = .ref (B (i + 1) 0) := by
        rw [aV_elt a (by omega) (by omega)]
        unfold shV
        rw [if_neg (by omega)]
      have b5 : zr_isO (h1 (B (i + 1) 0)) 1 = true := by rw [f _ (by simp; exact nb (i + 1) (by omega))]; exact gI (i + 1) (by omega)
      simp only [zs_111_0, zs_111_0u, zs_111_1, zs_111_4, zs_111_6, zs_111_7, zs_111_7u, zs_111_8, zs_111_10, zs_111_11, zs_111_12, zs_111_15, zs_111_15u, zs_111_16, zs_111_19, zs_111_20, zs_111_20u, zs_111_21, zs_111_24, zs_111_25, zs_111_26, zs_111_27, zs_111_28, zs_111_32, zs_111_35, zs_111_35u, zs_111_36, zs_111_39, zs_111_40, zs_111_40u, zs_111_41, zs_111_42, zs_111_42u, zs_111_43, zs_111_43u, zs_111_44, zs_111_47, zt_111_47, zs_111_50, zs_111_50u, zs_111_51, zs_111_51u, zs_111_52, zs_111_55, zs_111_56, zs_111_57, zs_111_59, zs_111_62, zs_111_65, zc_isO, zr_fld_mk, zc_isA, zc_len, zr_elt_mk, zr_kill_i, zr_kill_l, zr_kill_r, zr_kill_u, zr_kill_f, zr_kill_n, zc_cat, zr_cat_i, zr_cat_l, zr_cat_r, zr_cat_f, zr_cat_d, zr_cat_u, beq_self_eq_true, Nat.zero_le, Nat.le_refl, Nat.reduceSub, Nat.reduceAdd, Nat.reduceLeDiff, csl_f, csr_f, cn_f, lg_cmp_eq, lg_cmp_le, lg_cmp_lt, lg_cmp_ge, lg_cmp_gt, nI_1, zr_up_self, zp_O, zr_fup_self, zr_fup_ne, ne_eq, Nat.reduceEqDiff, not_false_eq_true, pk_mul, x1, zx_I, zx_1, b1, b2, b3, b4, b5, e1, e2]
      refine ⟨fun z => absurd z (nI_nle (by omega) (by omega)), fun _ => ?_⟩
      have a2 : aV 5 (zr_putA h1 (D 1) (i + 1) (.ref (B (i + 1) 0))) (D 1) 8 (shV (fun k => .ref (B (k + 1) 0)) i) := aV_put a (fun k hk => by
        unfold shV
        by_cases e : k = i + 1
        · subst e
          rw [if_pos (by omega), if_pos rfl]
          rfl
        · rw [if_neg e]
          by_cases g : i + 1 < k
          · rw [if_pos (by omega), if_pos g]
          · rw [if_neg (by omega), if_neg g])
      have := ih (by omega) _ (fx_trans f (putA_fx List.mem_cons_self)) a2
      simp only [zs_111_0, zs_111_0u, zs_111_1, zs_111_4, zs_111_6, zs_111_7, zs_111_7u, zs_111_8, zs_111_10, zs_111_12, zs_111_15, zs_111_15u, zs_111_16, zs_111_19, zs_111_20, zs_111_20u, zs_111_21, zs_111_24, zs_111_25, zs_111_26, zs_111_27, zs_111_28, zs_111_29, zs_111_32, zs_111_35, zs_111_35u, zs_111_36, zs_111_39, zs_111_40, zs_111_40u, zs_111_41, zs_111_42, zs_111_42u, zs_111_43, zs_111_43u, zs_111_44, zs_111_47, zt_111_47, zs_111_50, zs_111_50u, zs_111_51, zs_111_51u, zs_111_52, zs_111_55, zs_111_56, zs_111_57, zs_111_59, zs_111_62, zs_111_65, zc_isO, zr_fld_mk, zc_isA, zc_len, zr_elt_mk, zr_kill_i, zr_kill_l, zr_kill_r, zr_kill_u, zr_kill_f, zr_kill_n, zc_cat, zr_cat_i, zr_cat_l, zr_cat_r, zr_cat_f, zr_cat_d, zr_cat_u, beq_self_eq_true, Nat.zero_le, Nat.le_refl, Nat.reduceSub, Nat.reduceAdd, Nat.reduceLeDiff, csl_f, csr_f, cn_f, lg_cmp_eq, lg_cmp_le, lg_cmp_lt, lg_cmp_ge, lg_cmp_gt, nI_1, zr_up_self, zp_O, zr_fup_self, zr_fup_ne, ne_eq, Nat.reduceEqDiff, not_false_eq_true, pk_mul, pk_m1]
      exact this
  exact loop 7 (by omega) h (fx_refl _ _) (aV_eq c1 (fun k hk => by unfold shV; rw [if_neg (by omega)]))
theorem k_rem (v : vC h O B D V u l J rb rw tf wf) (h0 : V 0 = some G) (hQ : ∀ h' B', (∀ q, O q → h' q = h q) → vC h' O B' D (rmV V G) (min (u + 1) 8) l J rb rw tf wf → Q (.inl none) h') : zr_E (d + 3) 111 [.ref (D 0)] h Q :=
  k_remB v h0 (fun h' B' _ _ o v' => hQ h' B' o v')
end STATE
