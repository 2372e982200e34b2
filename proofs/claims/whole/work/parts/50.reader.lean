/-! THE READER: its object; J k = int field k (1..10), b w = the stones read, gr its grid -/
def zrV (tx gr : Nat) (J : Nat → Int32) (b w : Int64) : Nat → Value := fun k => match k with
  | 0 => .ref tx
  | 1 => .int (J 1)
  | 2 => .int (J 2)
  | 3 => .int (J 3)
  | 4 => .int (J 4)
  | 5 => .int (J 5)
  | 6 => .int (J 6)
  | 7 => .int (J 7)
  | 8 => .int (J 8)
  | 9 => .int (J 9)
  | 10 => .int (J 10)
  | 11 => .long b
  | 12 => .long w
  | 13 => .ref gr
  | k => dv 5 k
def zrd (tx gr : Nat) (J : Nat → Int32) (b w : Int64) : zr_C := .inl (5, zrV tx gr J b w)
section READER
variable {d : Nat} {h : zr_H} {Q : zr_K} {tx gr : Nat} {J : Nat → Int32} {b w : Int64}
theorem zt_I : zr_isO (some (zrd tx gr J b w)) 5 = true := id rfl
theorem zt_f0 : zr_fld (some (zrd tx gr J b w)) 0 = .ref tx := rfl
theorem zt_f1 : zr_fld (some (zrd tx gr J b w)) 1 = .int (J 1) := rfl
theorem zt_f2 : zr_fld (some (zrd tx gr J b w)) 2 = .int (J 2) := rfl
theorem zt_f3 : zr_fld (some (zrd tx gr J b w)) 3 = .int (J 3) := rfl
theorem zt_f4 : zr_fld (some (zrd tx gr J b w)) 4 = .int (J 4) := rfl
theorem zt_f5 : zr_fld (some (zrd tx gr J b w)) 5 = .int (J 5) := rfl
theorem zt_f6 : zr_fld (some (zrd tx gr J b w)) 6 = .int (J 6) := rfl
theorem zt_f7 : zr_fld (some (zrd tx gr J b w)) 7 = .int (J 7) := rfl
theorem zt_f8 : zr_fld (some (zrd tx gr J b w)) 8 = .int (J 8) := rfl
theorem zt_f9 : zr_fld (some (zrd tx gr J b w)) 9 = .int (J 9) := rfl
theorem zt_f10 : zr_fld (some (zrd tx gr J b w)) 10 = .int (J 10) := rfl
theorem zt_f11 : zr_fld (some (zrd tx gr J b w)) 11 = .long b := rfl
theorem zt_f12 : zr_fld (some (zrd tx gr J b w)) 12 = .long w := rfl
theorem zt_f13 : zr_fld (some (zrd tx gr J b w)) 13 = .ref gr := rfl
theorem k_epos {x q ea sl rd wr : Nat} {u l : Int32} (hX : h x = some (zxs q ea sl rd wr u l)) (hR : h rd = some (zrd tx gr J b w)) (hQ : Q (.inl (some (.int (J 7)))) h) : zr_E (d + 1) 76 [.ref x] h Q := by
  rw [ze_76]
  simp only [zs_76_0, zs_76_0u, zs_76_1, zs_76_4, zs_76_7, zc_isO, zr_fld_mk, zc_isA, zc_len, zr_elt_mk, zr_kill_i, zr_kill_l, zr_kill_r, zr_kill_u, zr_kill_f, zr_kill_n, zc_cat, zr_cat_i, zr_cat_l, zr_cat_r, zr_cat_f, zr_cat_d, zr_cat_u, beq_self_eq_true, Nat.zero_le, Nat.le_refl, Nat.reduceSub, Nat.reduceAdd, Nat.reduceLeDiff, csl_f, csr_f, cn_f, lg_cmp_eq, lg_cmp_le, lg_cmp_lt, lg_cmp_ge, lg_cmp_gt, nI_1, zr_up_self, zp_O, zr_fup_self, zr_fup_ne, ne_eq, Nat.reduceEqDiff, not_false_eq_true, pk_mul, hX, zx_I, zx_3, hR, zt_I, zt_f7]
  exact hQ
end READER
