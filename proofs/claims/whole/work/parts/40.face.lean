/-! THE FACE: what its methods check -/
section FACE
variable {d : Nat} {h : zr_H} {Q : zr_K}
theorem k_rng {v l m : Int32} (h1 : l ≤ v ∧ v ≤ m → Q (.inl none) h) (h0 : ¬ (l ≤ v ∧ v ≤ m) → Q (.inr 1) h) : zr_E (d + 1) 117 [.int v, .int l, .int m] h Q := by
  rw [ze_117]
  simp only [zs_117_0, zs_117_1, zs_117_2, zs_117_5, zs_117_6, zs_117_7, zs_117_21, zc_isO, zr_fld_mk, zc_isA, zc_len, zr_elt_mk, zr_kill_i, zr_kill_l, zr_kill_r, zr_kill_u, zr_kill_f, zr_kill_n, zc_cat, zr_cat_i, zr_cat_l, zr_cat_r, zr_cat_f, zr_cat_d, zr_cat_u, beq_self_eq_true, Nat.zero_le, Nat.le_refl, Nat.reduceSub, Nat.reduceAdd, Nat.reduceLeDiff, csl_f, csr_f, cn_f, lg_cmp_eq, lg_cmp_le, lg_cmp_lt, lg_cmp_ge, lg_cmp_gt, nI_1, zr_up_self, zp_O, zr_fup_self, zr_fup_ne, ne_eq, Nat.reduceEqDiff, not_false_eq_true, pk_mul]
  have no : ¬ (l ≤ v ∧ v ≤ m) → zr_Z d 117 Q 10 [some (.int v), some (.int l), some (.int m)] [] h 1 6 := fun f => zs_117_10 (by decide) (by decide) (by rw [zr_cat_0]; decide) (h0 f)
  exact ⟨fun z => no (fun f => absurd f.1 (Int32.not_le.mpr z)), fun z => ⟨fun y => h1 ⟨Int32.not_lt.mp z, y⟩, fun y => no (fun f => y f.2)⟩⟩
theorem col_ok (x : Int32) : (1 ≤ x ∧ x ≤ 2) ↔ (x = 1 ∨ x = 2) := by
  rw [Int32.le_iff_toInt_le, Int32.le_iff_toInt_le, ← Int32.toInt_inj, ← Int32.toInt_inj]
  have e1 : (1 : Int32).toInt = 1 := rfl
  have e2 : (2 : Int32).toInt = 2 := rfl
  rw [e1, e2]
  omega
theorem k_col {x : Int32} (h1 : x = 1 ∨ x = 2 → Q (.inl none) h) (h0 : ¬ (x = 1 ∨ x = 2) → Q (.inr 1) h) : zr_E (d + 2) 116 [.int x] h Q := by
  rw [ze_116]
  simp only [zs_116_0, zs_116_1, zs_116_2, zs_116_3, zt_116_3, zs_116_6, zc_isO, zr_fld_mk, zc_isA, zc_len, zr_elt_mk, zr_kill_i, zr_kill_l, zr_kill_r, zr_kill_u, zr_kill_f, zr_kill_n, zc_cat, zr_cat_i, zr_cat_l, zr_cat_r, zr_cat_f, zr_cat_d, zr_cat_u, beq_self_eq_true, Nat.zero_le, Nat.le_refl, Nat.reduceSub, Nat.reduceAdd, Nat.reduceLeDiff, csl_f, csr_f, cn_f, lg_cmp_eq, lg_cmp_le, lg_cmp_lt, lg_cmp_ge, lg_cmp_gt, nI_1, zr_up_self, zp_O, zr_fup_self, zr_fup_ne, ne_eq, Nat.reduceEqDiff, not_false_eq_true, pk_mul]
  refine k_rng (fun z => ?_) (fun z => ?_)
  · simp only [zs_116_0, zs_116_1, zs_116_2, zs_116_3, zt_116_3, zs_116_6, zc_isO, zr_fld_mk, zc_isA, zc_len, zr_elt_mk, zr_kill_i, zr_kill_l, zr_kill_r, zr_kill_u, zr_kill_f, zr_kill_n, zc_cat, zr_cat_i, zr_cat_l, zr_cat_r, zr_cat_f, zr_cat_d, zr_cat_u, beq_self_eq_true, Nat.zero_le, Nat.le_refl, Nat.reduceSub, Nat.reduceAdd, Nat.reduceLeDiff, csl_f, csr_f, cn_f, lg_cmp_eq, lg_cmp_le, lg_cmp_lt, lg_cmp_ge, lg_cmp_gt, nI_1, zr_up_self, zp_O, zr_fup_self, zr_fup_ne, ne_eq, Nat.reduceEqDiff, not_false_eq_true, pk_mul]
    exact h1 ((col_ok x).mp z)
  · rw [zk_thr zf_hh_116]
    exact h0 (fun f => z ((col_ok x).mpr f))
theorem k_mif {x : Int32} {p : Nat} (h1 : ¬ x = 0 → Q (.inl (some (.long (ob p)))) h) (h0 : x = 0 → Q (.inl (some (.long 0))) h) : zr_E (d + 1) 119 [.int x, .int (nI p)] h Q := by
  rw [ze_119]
  simp only [zs_119_0, zs_119_1, zs_119_4, zs_119_5, zs_119_6, zs_119_7, zs_119_10, zs_119_11, zc_isO, zr_fld_mk, zc_isA, zc_len, zr_elt_mk, zr_kill_i, zr_kill_l, zr_kill_r, zr_kill_u, zr_kill_f, zr_kill_n, zc_cat, zr_cat_i, zr_cat_l, zr_cat_r, zr_cat_f, zr_cat_d, zr_cat_u, beq_self_eq_true, Nat.zero_le, Nat.le_refl, Nat.reduceSub, Nat.reduceAdd, Nat.reduceLeDiff, csl_f, csr_f, cn_f, lg_cmp_eq, lg_cmp_le, lg_cmp_lt, lg_cmp_ge, lg_cmp_gt, nI_1, zr_up_self, zp_O, zr_fup_self, zr_fup_ne, ne_eq, Nat.reduceEqDiff, not_false_eq_true, pk_mul, ob_f]
  exact ⟨fun z => h0 z, fun z => h1 z⟩
theorem k_slt {x : Int32} (h1 : x = 0 ∨ x = 1 → Q (.inl none) h) (h0 : ¬ (x = 0 ∨ x = 1) → Q (.inr 2) h) : zr_E (d + 1) 115 [.int x] h Q := by
  have no : ¬ (x = 0 ∨ x = 1) → zr_Z d 115 Q 9 [some (.int x)] [] h 1 6 := fun f => zs_115_9 (by decide) (by decide) (by rw [zr_cat_0]; decide) (h0 f)
  have e0 : (0 : Int32).toInt = 0 := rfl
  have e1 : (1 : Int32).toInt = 1 := rfl
  have e2 : (2 : Int32).toInt = 2 := rfl
  rw [ze_115]
  simp only [zs_115_0, zs_115_1, zs_115_4, zs_115_5, zs_115_6, zs_115_20, zc_isO, zr_fld_mk, zc_isA, zc_len, zr_elt_mk, zr_kill_i, zr_kill_l, zr_kill_r, zr_kill_u, zr_kill_f, zr_kill_n, zc_cat, zr_cat_i, zr_cat_l, zr_cat_r, zr_cat_f, zr_cat_d, zr_cat_u, beq_self_eq_true, Nat.zero_le, Nat.le_refl, Nat.reduceSub, Nat.reduceAdd, Nat.reduceLeDiff, csl_f, csr_f, cn_f, lg_cmp_eq, lg_cmp_le, lg_cmp_lt, lg_cmp_ge, lg_cmp_gt, nI_1, zr_up_self, zp_O, zr_fup_self, zr_fup_ne, ne_eq, Nat.reduceEqDiff, not_false_eq_true, pk_mul]
  refine ⟨fun z => no (fun f => ?_), fun z => ⟨fun y => h1 ?_, fun y => no (fun f => ?_)⟩⟩
  · rcases f with f | f <;> subst f <;> exact absurd z (by decide)
  · rw [← Int32.toInt_inj, ← Int32.toInt_inj, e0, e1]
    rw [Int32.lt_iff_toInt_lt] at z y
    rw [e0] at z
    rw [e2] at y
    omega
  · rcases f with f | f <;> subst f <;> exact absurd (by decide) y
end FACE
def zxV (q ea sl rd wr : Nat) (u l : Int32) : Nat → Value := fun k => match k with
  | 0 => .ref q
  | 1 => .ref ea
  | 2 => .ref sl
  | 3 => .ref rd
  | 4 => .ref wr
  | 5 => .int u
  | 6 => .int l
  | k => dv 6 k
def zxs (q ea sl rd wr : Nat) (u l : Int32) : zr_C := .inl (6, zxV q ea sl rd wr u l)
section FACE
variable {d : Nat} {h : zr_H} {Q : zr_K} {x q ea sl rd wr : Nat} {u l : Int32} {A : Nat → Nat} {R S g : Nat} {b w : Int64} {P : List (Int64 × Int64)} {I : Nat → Int32}
theorem zx_I : zr_isO (some (zxs q ea sl rd wr u l)) 6 = true := id rfl
theorem zx_0 : zr_fld (some (zxs q ea sl rd wr u l)) 0 = .ref q := rfl
theorem zx_1 : zr_fld (some (zxs q ea sl rd wr u l)) 1 = .ref ea := rfl
theorem zx_2 : zr_fld (some (zxs q ea sl rd wr u l)) 2 = .ref sl := rfl
theorem zx_3 : zr_fld (some (zxs q ea sl rd wr u l)) 3 = .ref rd := rfl
theorem zx_4 : zr_fld (some (zxs q ea sl rd wr u l)) 4 = .ref wr := rfl
theorem zx_5 : zr_fld (some (zxs q ea sl rd wr u l)) 5 = .int u := rfl
theorem zx_6 : zr_fld (some (zxs q ea sl rd wr u l)) 6 = .int l := rfl
/-- a place of the board: the only ints that pass -/
theorem k_plc (hX : h x = some (zxs (A 0) ea sl rd wr u l)) (v : vM h A R S b w P I g) {y : Int32} (h1 : ∀ p, p < R * S → y = nI p → Q (.inl none) h) (h0 : (∀ p, p < R * S → y ≠ nI p) → Q (.inr 2) h) : zr_E (d + 1) 112 [.ref x, .int y] h Q := by
  obtain ⟨hM, hB, hG, hg, -⟩ := id v
  have hn := g_n hg
  have no : (∀ p, p < R * S → y ≠ nI p) → zr_Z d 112 Q 21 [some (.ref x), some (.int y)] [] h 1 6 := fun f => zs_112_21 (by decide) (by decide) (by rw [zr_cat_0]; decide) (h0 f)
  rw [ze_112]
  simp only [zs_112_0, zs_112_1, zs_112_4, zs_112_5, zs_112_5u, zs_112_6, zs_112_9, zs_112_12, zs_112_15, zs_112_18, zs_112_32, zc_isO, zr_fld_mk, zc_isA, zc_len, zr_elt_mk, zr_kill_i, zr_kill_l, zr_kill_r, zr_kill_u, zr_kill_f, zr_kill_n, zc_cat, zr_cat_i, zr_cat_l, zr_cat_r, zr_cat_f, zr_cat_d, zr_cat_u, beq_self_eq_true, Nat.zero_le, Nat.le_refl, Nat.reduceSub, Nat.reduceAdd, Nat.reduceLeDiff, csl_f, csr_f, cn_f, lg_cmp_eq, lg_cmp_le, lg_cmp_lt, lg_cmp_ge, lg_cmp_gt, nI_1, zr_up_self, zp_O, zr_fup_self, zr_fup_ne, ne_eq, Nat.reduceEqDiff, not_false_eq_true, pk_mul, hX, zx_I, zx_0, hM, zm_I, zm_0, hB, zb_O, zb_0, hG, zg_O, zg_2]
  refine ⟨fun z => no (fun p hp e => ?_), fun z => ⟨fun y2 => ?_, fun y2 => no (fun p hp e => ?_)⟩⟩
  · subst e
    exact absurd z (nI_pos (by omega))
  · obtain ⟨j, hj, e⟩ := nI_of z
    subst e
    exact h1 j ((nI_ltI hj (by omega)).mp y2) rfl
  · subst e
    exact y2 (nI_lt hp (by omega))
theorem k_rin (hX : h x = some (zxs (A 0) ea sl rd wr u l)) (v : vM h A R S b w P I g) {y : Int32} (h1 : ∀ p, p < R → y = nI p → Q (.inl none) h) (h0 : (∀ p, p < R → y ≠ nI p) → Q (.inr 2) h) : zr_E (d + 1) 113 [.ref x, .int y] h Q := by
  obtain ⟨hM, hB, hG, hg, -⟩ := id v
  have hl := g_lt hg
  have no : (∀ p, p < R → y ≠ nI p) → zr_Z d 113 Q 21 [some (.ref x), some (.int y)] [] h 1 6 := fun f => zs_113_21 (by decide) (by decide) (by rw [zr_cat_0]; decide) (h0 f)
  rw [ze_113]
  simp only [zs_113_0, zs_113_1, zs_113_4, zs_113_5, zs_113_5u, zs_113_6, zs_113_9, zs_113_12, zs_113_15, zs_113_18, zs_113_32, zc_isO, zr_fld_mk, zc_isA, zc_len, zr_elt_mk, zr_kill_i, zr_kill_l, zr_kill_r, zr_kill_u, zr_kill_f, zr_kill_n, zc_cat, zr_cat_i, zr_cat_l, zr_cat_r, zr_cat_f, zr_cat_d, zr_cat_u, beq_self_eq_true, Nat.zero_le, Nat.le_refl, Nat.reduceSub, Nat.reduceAdd, Nat.reduceLeDiff, csl_f, csr_f, cn_f, lg_cmp_eq, lg_cmp_le, lg_cmp_lt, lg_cmp_ge, lg_cmp_gt, nI_1, zr_up_self, zp_O, zr_fup_self, zr_fup_ne, ne_eq, Nat.reduceEqDiff, not_false_eq_true, pk_mul, hX, zx_I, zx_0, hM, zm_I, zm_0, hB, zb_O, zb_0, hG, zg_O, zg_0]
  refine ⟨fun z => no (fun p hp e => ?_), fun z => ⟨fun y2 => ?_, fun y2 => no (fun p hp e => ?_)⟩⟩
  · subst e
    exact absurd z (nI_pos (by omega))
  · obtain ⟨j, hj, e⟩ := nI_of z
    subst e
    exact h1 j ((nI_ltI hj (by omega)).mp y2) rfl
  · subst e
    exact y2 (nI_lt hp (by omega))
theorem k_sat (hX : h x = some (zxs (A 0) ea sl rd wr u l)) (v : vM h A R S b w P I g) {p : Nat} (hp : p < R * S) (h1 : ¬ co b w p = 0 → Q (.inl none) h) (h0 : co b w p = 0 → Q (.inr 3) h) : zr_E (d + 2) 114 [.ref x, .int (nI p)] h Q := by
  obtain ⟨hM, hB, hG, hg, -⟩ := id v
  have hn := g_n hg
  have hc := co_lt b w p
  rw [ze_114]
  simp only [zs_114_0, zs_114_0u, zs_114_1, zs_114_4, zs_114_7, zs_114_8, zt_114_8, zs_114_11, zs_114_25, zc_isO, zr_fld_mk, zc_isA, zc_len, zr_elt_mk, zr_kill_i, zr_kill_l, zr_kill_r, zr_kill_u, zr_kill_f, zr_kill_n, zc_cat, zr_cat_i, zr_cat_l, zr_cat_r, zr_cat_f, zr_cat_d, zr_cat_u, beq_self_eq_true, Nat.zero_le, Nat.le_refl, Nat.reduceSub, Nat.reduceAdd, Nat.reduceLeDiff, csl_f, csr_f, cn_f, lg_cmp_eq, lg_cmp_le, lg_cmp_lt, lg_cmp_ge, lg_cmp_gt, nI_1, zr_up_self, zp_O, zr_fup_self, zr_fup_ne, ne_eq, Nat.reduceEqDiff, not_false_eq_true, pk_mul, hX, zx_I, zx_0, hM, zm_I, zm_0, hB, zb_O]
  refine k_co hB (by omega) ?_
  simp only [zs_114_0, zs_114_0u, zs_114_1, zs_114_4, zs_114_7, zs_114_8, zt_114_8, zs_114_11, zs_114_25, zc_isO, zr_fld_mk, zc_isA, zc_len, zr_elt_mk, zr_kill_i, zr_kill_l, zr_kill_r, zr_kill_u, zr_kill_f, zr_kill_n, zc_cat, zr_cat_i, zr_cat_l, zr_cat_r, zr_cat_f, zr_cat_d, zr_cat_u, beq_self_eq_true, Nat.zero_le, Nat.le_refl, Nat.reduceSub, Nat.reduceAdd, Nat.reduceLeDiff, csl_f, csr_f, cn_f, lg_cmp_eq, lg_cmp_le, lg_cmp_lt, lg_cmp_ge, lg_cmp_gt, nI_1, zr_up_self, zp_O, zr_fup_self, zr_fup_ne, ne_eq, Nat.reduceEqDiff, not_false_eq_true, pk_mul]
  rw [nI_eq0 (by omega)]
  exact ⟨fun z => h1 z, fun z => zs_114_14 (by decide) (by decide) (by rw [zr_cat_0]; decide) (h0 z)⟩
end FACE
