section FACE
variable {d : Nat} {h : zr_H} {Q : zr_K} {x ea sl rd wr : Nat} {u l : Int32} {A : Nat → Nat} {R S g : Nat} {b w : Int64} {P : List (Int64 × Int64)} {I : Nat → Int32}
/-- the floats of a share: none is not a number -/
def shv (a p : Nat) : UInt32 := FP.fdiv (FP.i2f (nI a)) (FP.i2f (nI p))
def sh_k (a p : Nat) : Bool := decide (shv a p &&& 0x7fffffff ≤ 0x7f800000) && decide (FP.f2d (shv a p) &&& 0x7fffffffffffffff ≤ 0x7ff0000000000000)
def sh_a : Bool := (List.range 129).all fun a => (List.range 60).all fun p => sh_k a (p + 1)
theorem sh_ok : sh_a = true := by decide +kernel
theorem sh_n {a p : Nat} (ha : a < 129) (h1 : 1 ≤ p) (h2 : p ≤ 60) : vf_n32 (shv a p) ∧ vf_n64 (FP.f2d (shv a p)) := by
  have := sh_ok
  unfold sh_a at this
  rw [List.all_eq_true] at this
  have := this a (List.mem_range.mpr ha)
  rw [List.all_eq_true] at this
  have := this (p - 1) (List.mem_range.mpr (by omega))
  rw [show p - 1 + 1 = p by omega] at this
  unfold sh_k at this
  rw [Bool.and_eq_true] at this
  have h1 : shv a p &&& 0x7fffffff ≤ 0x7f800000 := of_decide_eq_true this.1
  have h2 : FP.f2d (shv a p) &&& 0x7fffffffffffffff ≤ 0x7ff0000000000000 := of_decide_eq_true this.2
  exact ⟨h1, h2⟩
def oF (r : UInt32 ⊕ Nat) : (Option Value) ⊕ Nat := match r with
  | .inl v => .inl (some (.float v))
  | .inr e => .inr e
def rxShare (R S : Nat) (b w : Int64) (y : Int32) : UInt32 ⊕ Nat := match clq y with
  | none => .inr 1
  | some c => .inl (shv (ct (so c b w) + ct (op R S b w c)) (R * S))
theorem k_share (hX : h x = some (zxs (A 0) ea sl rd wr u l)) (v : vM h A R S b w P I g) {y : Int32} (hQ : Q (oF (rxShare R S b w y)) h) : zr_E (d + 6) 104 [.ref x, .int y] h Q := by
  obtain ⟨hM, hB, hG, hg, -⟩ := id v
  have hn := g_n hg
  have hl := g_lt hg
  unfold rxShare at hQ
  rw [ze_104]
  simp only [zs_104_0, zs_104_1, zt_104_1, zs_104_4, zs_104_4u, zs_104_5, zs_104_8, zs_104_11, zs_104_14, zs_104_17, zs_104_18, zs_104_19, zs_104_20, zs_104_23, zs_104_24, zs_104_28, zs_104_31, zs_104_34, zs_104_35, zt_104_35, zs_104_38, zs_104_39, zs_104_40, zs_104_41, zs_104_42, zc_isO, zr_fld_mk, zc_isA, zc_len, zr_elt_mk, zr_kill_i, zr_kill_l, zr_kill_r, zr_kill_u, zr_kill_f, zr_kill_n, zc_cat, zr_cat_i, zr_cat_l, zr_cat_r, zr_cat_f, zr_cat_d, zr_cat_u, beq_self_eq_true, Nat.zero_le, Nat.le_refl, Nat.reduceSub, Nat.reduceAdd, Nat.reduceLeDiff, csl_f, csr_f, cn_f, lg_cmp_eq, lg_cmp_le, lg_cmp_lt, lg_cmp_ge, lg_cmp_gt, nI_1, zr_up_self, zp_O, zr_fup_self, zr_fup_ne, ne_eq, Nat.reduceEqDiff, not_false_eq_true, pk_mul]
  refine k_col (fun e => ?_) (fun e => ?_)
  · have : ∃ c, (c = 1 ∨ c = 2) ∧ y = nI c := by
      rcases e with e | e
      · exact ⟨1, Or.inl rfl, e⟩
      · exact ⟨2, Or.inr rfl, e⟩
    obtain ⟨c, hc, e⟩ := this
    subst e
    rw [clq_s hc] at hQ
    have hs := ct_le (so c b w)
    have ho := ct_le (op R S b w c)
    have h1 : 1 ≤ R * S := Nat.mul_pos (by omega) (by omega)
    have nn := (sh_n (a := ct (so c b w) + ct (op R S b w c)) (p := R * S) (by omega) h1 hn).1
    have nn2 : vf_n32 (FP.fdiv (FP.i2f (nI (ct (so c b w) + ct (op R S b w c)))) (FP.i2f (nI (R * S)))) := nn
    simp only [zs_104_0, zs_104_1, zt_104_1, zs_104_4, zs_104_4u, zs_104_5, zs_104_8, zs_104_11, zs_104_14, zs_104_17, zs_104_18, zs_104_19, zs_104_20, zs_104_23, zs_104_24, zs_104_28, zs_104_31, zs_104_34, zs_104_35, zt_104_35, zs_104_38, zs_104_39, zs_104_40, zs_104_41, zs_104_42, zc_isO, zr_fld_mk, zc_isA, zc_len, zr_elt_mk, zr_kill_i, zr_kill_l, zr_kill_r, zr_kill_u, zr_kill_f, zr_kill_n, zc_cat, zr_cat_i, zr_cat_l, zr_cat_r, zr_cat_f, zr_cat_d, zr_cat_u, beq_self_eq_true, Nat.zero_le, Nat.le_refl, Nat.reduceSub, Nat.reduceAdd, Nat.reduceLeDiff, csl_f, csr_f, cn_f, lg_cmp_eq, lg_cmp_le, lg_cmp_lt, lg_cmp_ge, lg_cmp_gt, nI_1, zr_up_self, zp_O, zr_fup_self, zr_fup_ne, ne_eq, Nat.reduceEqDiff, not_false_eq_true, pk_mul, hX, zx_I, zx_0, hM, zm_I, zm_0, hB, zb_O, zb_0, hG, zg_O, zg_2]
    refine ⟨fun _ => ?_, fun z => (z (nI_le (a := 1) h1 (by omega))).elim⟩
    simp only [zs_104_0, zs_104_1, zt_104_1, zs_104_4, zs_104_4u, zs_104_5, zs_104_8, zs_104_11, zs_104_14, zs_104_17, zs_104_18, zs_104_19, zs_104_20, zs_104_23, zs_104_24, zs_104_27, zs_104_27u, zs_104_28, zs_104_31, zs_104_34, zs_104_35, zt_104_35, zs_104_38, zs_104_39, zs_104_40, zs_104_41, zs_104_42, zc_isO, zr_fld_mk, zc_isA, zc_len, zr_elt_mk, zr_kill_i, zr_kill_l, zr_kill_r, zr_kill_u, zr_kill_f, zr_kill_n, zc_cat, zr_cat_i, zr_cat_l, zr_cat_r, zr_cat_f, zr_cat_d, zr_cat_u, beq_self_eq_true, Nat.zero_le, Nat.le_refl, Nat.reduceSub, Nat.reduceAdd, Nat.reduceLeDiff, csl_f, csr_f, cn_f, lg_cmp_eq, lg_cmp_le, lg_cmp_lt, lg_cmp_ge, lg_cmp_gt, nI_1, zr_up_self, zp_O, zr_fup_self, zr_fup_ne, ne_eq, Nat.reduceEqDiff, not_false_eq_true, pk_mul, hX, zx_I, zx_0, hM, zm_I, zm_0, hB, zb_O, zb_0, hG, zg_O, zg_2]
    refine k_area hg hB hG (by omega) ?_
    simp only [zs_104_0, zs_104_1, zt_104_1, zs_104_4, zs_104_4u, zs_104_5, zs_104_8, zs_104_11, zs_104_14, zs_104_17, zs_104_18, zs_104_19, zs_104_20, zs_104_23, zs_104_24, zs_104_27, zs_104_27u, zs_104_28, zs_104_31, zs_104_34, zs_104_35, zt_104_35, zs_104_38, zs_104_39, zs_104_40, zs_104_41, zs_104_42, zc_isO, zr_fld_mk, zc_isA, zc_len, zr_elt_mk, zr_kill_i, zr_kill_l, zr_kill_r, zr_kill_u, zr_kill_f, zr_kill_n, zc_cat, zr_cat_i, zr_cat_l, zr_cat_r, zr_cat_f, zr_cat_d, zr_cat_u, beq_self_eq_true, Nat.zero_le, Nat.le_refl, Nat.reduceSub, Nat.reduceAdd, Nat.reduceLeDiff, csl_f, csr_f, cn_f, lg_cmp_eq, lg_cmp_le, lg_cmp_lt, lg_cmp_ge, lg_cmp_gt, nI_1, zr_up_self, zp_O, zr_fup_self, zr_fup_ne, ne_eq, Nat.reduceEqDiff, not_false_eq_true, pk_mul, nn2]
    exact hQ
  · rw [clq_n e] at hQ
    rw [zk_thr zf_hh_104]
    exact hQ
end FACE
