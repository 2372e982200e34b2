/-! LONG.BITCOUNT: the number of a set's places -/
def zm (u : Nat) : Nat → Nat
  | 0 => 0
  | k + 1 => u + 256 * zm u k
theorem nand_step {d u : Nat} (hd : d < 256) (hu : u < 256) (m v : Nat) : (d + 256 * m) &&& (u + 256 * v) = (d &&& u) + 256 * (m &&& v) := by
  have e : ∀ a b : Nat, a + 256 * b = 2 ^ 8 * b + a := fun a b => by omega
  have hx : (d &&& u) < 2 ^ 8 := Nat.lt_of_le_of_lt Nat.and_le_left hd
  apply Nat.eq_of_testBit_eq
  intro i
  rw [e, e, e, Nat.testBit_and, Nat.testBit_two_pow_mul_add _ hd, Nat.testBit_two_pow_mul_add _ hu, Nat.testBit_two_pow_mul_add _ hx]
  split <;> rw [Nat.testBit_and]
def za (k n : Nat) : Nat := n - ((n / 2) &&& zm 85 k)
def zb2 (k n : Nat) : Nat := (n &&& zm 51 k) + ((n / 4) &&& zm 51 k)
def zc3 (k n : Nat) : Nat := (n + n / 16) &&& zm 15 k
def pn (n : Nat) : Nat → Nat
  | 0 => 0
  | k + 1 => pn n k + if n.testBit k then 1 else 0
def za1 (d : Nat) : Nat := d - ((d / 2) &&& 85)
def zb1 (d : Nat) : Nat := (za1 d &&& 51) + ((za1 d / 4) &&& 51)
theorem zd_1 : ∀ d, d < 256 → ∀ r, r < 2 → (d / 2 + 128 * r) &&& 85 = (d / 2) &&& 85 := by decide +kernel
theorem zd_2 : ∀ d, d < 256 → ∀ r, r < 4 → (d / 4 + 64 * r) &&& 51 = (d / 4) &&& 51 := by decide +kernel
theorem zd_3 : ∀ d, d < 256 → ((d / 2) &&& 85) ≤ d ∧ za1 d < 256 ∧ zb1 d < 256 ∧ zb1 d % 16 ≤ 4 ∧ zb1 d / 16 ≤ 4 ∧ zb1 d % 16 + zb1 d / 16 = pn d 8 ∧ pn d 8 ≤ 8 := by decide +kernel
theorem zd_4 : ∀ e, e < 256 → e % 16 ≤ 4 → e / 16 ≤ 4 → ∀ r, r < 5 → (e + e / 16 + 16 * r) &&& 15 = e % 16 + e / 16 := by decide +kernel
theorem za_s {d : Nat} (hd : d < 256) (k m : Nat) : za (k + 1) (d + 256 * m) = za1 d + 256 * za k m := by
  unfold za
  show _ - (_ &&& (85 + 256 * zm 85 k)) = _
  rw [show (d + 256 * m) / 2 = (d / 2 + 128 * (m % 2)) + 256 * (m / 2) by omega, nand_step (by omega) (by omega), zd_1 d hd _ (Nat.mod_lt _ (by omega))]
  have h1 := (zd_3 d hd).1
  have h2 : (m / 2 &&& zm 85 k) ≤ m := Nat.le_trans Nat.and_le_left (Nat.div_le_self _ _)
  unfold za1
  omega
theorem zb_s {d : Nat} (hd : d < 256) (k m : Nat) : zb2 (k + 1) (za1 d + 256 * m) = zb1 d + 256 * zb2 k m := by
  unfold zb2
  show (_ &&& (51 + 256 * zm 51 k)) + (_ &&& (51 + 256 * zm 51 k)) = _
  have h1 := (zd_3 d hd).2.1
  rw [show (za1 d + 256 * m) / 4 = (za1 d / 4 + 64 * (m % 4)) + 256 * (m / 4) by omega, nand_step h1 (by omega), nand_step (by omega) (by omega), zd_2 _ h1 _ (Nat.mod_lt _ (by omega))]
  unfold zb1
  omega
theorem zc_s {e : Nat} (he : e < 256) (h1 : e % 16 ≤ 4) (h2 : e / 16 ≤ 4) (k m : Nat) (hm : m % 16 ≤ 4) : zc3 (k + 1) (e + 256 * m) = (e % 16 + e / 16) + 256 * zc3 k m := by
  unfold zc3
  show (_ &&& (15 + 256 * zm 15 k)) = _
  rw [show e + 256 * m + (e + 256 * m) / 16 = (e + e / 16 + 16 * (m % 16)) + 256 * (m + m / 16) by omega, nand_step (by omega) (by omega), zd_4 e he h1 h2 _ (by omega)]
theorem zn_s (k n : Nat) : zb2 k (za k n) % 16 ≤ 4 := by
  cases k with
  | zero => simp [zb2, zm]
  | succ k =>
    have e : n = n % 256 + 256 * (n / 256) := by omega
    have hd : n % 256 < 256 := Nat.mod_lt _ (by omega)
    rw [e, za_s hd, zb_s hd]
    have := (zd_3 _ hd).2.2.2.1
    omega
theorem zD_s (k n : Nat) : zc3 (k + 1) (zb2 (k + 1) (za (k + 1) n)) = pn (n % 256) 8 + 256 * zc3 k (zb2 k (za k (n / 256))) := by
  have e : n = n % 256 + 256 * (n / 256) := by omega
  have hd : n % 256 < 256 := Nat.mod_lt _ (by omega)
  conv => lhs; rw [e]
  have h := zd_3 _ hd
  rw [za_s hd, zb_s hd, zc_s h.2.2.1 h.2.2.2.1 h.2.2.2.2.1 _ _ (zn_s k _), h.2.2.2.2.2.1]
theorem pn_s (n : Nat) (k : Nat) : pn n (8 + k) = pn (n % 256) 8 + pn (n / 256) k := by
  induction k with
  | zero =>
    have : ∀ j, j ≤ 8 → pn n j = pn (n % 256) j := by
      intro j
      induction j with
      | zero => intro _; rfl
      | succ j ih =>
        intro hj
        show pn n j + _ = pn (n % 256) j + _
        rw [ih (by omega), show (256 : Nat) = 2 ^ 8 from rfl, Nat.testBit_mod_two_pow, decide_eq_true (by omega : j < 8), Bool.true_and]
    exact this 8 (Nat.le_refl _)
  | succ k ih =>
    have t : (n / 256).testBit k = n.testBit (8 + k) := by rw [show (256 : Nat) = 2 ^ 8 from rfl, Nat.testBit_div_two_pow, Nat.add_comm]
    show pn n (8 + k) + (if n.testBit (8 + k) then 1 else 0) = pn (n % 256) 8 + (pn (n / 256) k + if (n / 256).testBit k then 1 else 0)
    rw [ih, t]
    omega
theorem pn_8 (n : Nat) : ∀ j, j < 9 → pn (n % 256) 8 ≤ 8 := fun _ _ => (zd_3 _ (Nat.mod_lt _ (by omega))).2.2.2.2.2.2
def zsum (y : Nat) : Nat := y + y / 256 + (y + y / 256) / 65536 + (y + y / 256 + (y + y / 256) / 65536) / 4294967296
theorem dv_1 {c m : Nat} (h : c < 256) : (c + 256 * m) / 256 = m := by omega
theorem dv_2 {a b m : Nat} (h : a < 256) (h2 : b < 256) : (a + 256 * (b + 256 * m)) / 65536 = m := by omega
theorem dv_4 {a b c e m : Nat} (h : a < 256) (h2 : b < 256) (h3 : c < 256) (h4 : e < 256) : (a + 256 * (b + 256 * (c + 256 * (e + 256 * m)))) / 4294967296 = m := by omega
theorem dv_a {a b m k : Nat} : (a + 256 * m) + (b + 256 * k) = (a + b) + 256 * (m + k) := by omega
theorem dv_z {a b m : Nat} : (a + 256 * m) + b = (a + b) + 256 * m := by omega
theorem dv_m {a m : Nat} (h : a < 128) : (a + 256 * m) % 128 = a := by omega
theorem dv_b {a m t : Nat} (h : a < 256) (h2 : m < t) : a + 256 * m < 256 * t := by omega
theorem zsum_s {c0 c1 c2 c3 c4 c5 c6 c7 : Nat} (h0 : c0 ≤ 8) (h1 : c1 ≤ 8) (h2 : c2 ≤ 8) (h3 : c3 ≤ 8) (h4 : c4 ≤ 8) (h5 : c5 ≤ 8) (h6 : c6 ≤ 8) (h7 : c7 ≤ 8) : zsum (c0 + 256 * (c1 + 256 * (c2 + 256 * (c3 + 256 * (c4 + 256 * (c5 + 256 * (c6 + 256 * (c7 + 256 * 0)))))))) % 128 = c0 + (c1 + (c2 + (c3 + (c4 + (c5 + (c6 + c7)))))) ∧ (c0 + 256 * (c1 + 256 * (c2 + 256 * (c3 + 256 * (c4 + 256 * (c5 + 256 * (c6 + 256 * (c7 + 256 * 0)))))))) < 2 ^ 60 := by
  refine ⟨?_, ?_⟩
  · unfold zsum
    rw [Nat.mul_zero, Nat.add_zero, dv_1 (by omega)]
    simp only [dv_a]
    rw [dv_2 (by omega) (by omega)]
    simp only [dv_a]
    rw [dv_4 (by omega) (by omega) (by omega) (by omega)]
    omega
  · exact Nat.lt_of_lt_of_le (dv_b (by omega) (dv_b (by omega) (dv_b (by omega) (dv_b (by omega) (dv_b (by omega) (dv_b (by omega) (dv_b (by omega) (by omega : c7 + 256 * 0 < 16)))))))) (by decide)
theorem zsum_d (n : Nat) : zsum (zc3 8 (zb2 8 (za 8 n))) % 128 = pn n 64 ∧ zc3 8 (zb2 8 (za 8 n)) < 2 ^ 60 := by
  have hp := fun m => pn_8 m 0 (by omega)
  have h0 := hp n
  have h1 := hp (n / 256)
  have h2 := hp (n / 256 / 256)
  have h3 := hp (n / 256 / 256 / 256)
  have h4 := hp (n / 256 / 256 / 256 / 256)
  have h5 := hp (n / 256 / 256 / 256 / 256 / 256)
  have h6 := hp (n / 256 / 256 / 256 / 256 / 256 / 256)
  have h7 := hp (n / 256 / 256 / 256 / 256 / 256 / 256 / 256)
  have e : zc3 0 (zb2 0 (za 0 (n / 256 / 256 / 256 / 256 / 256 / 256 / 256 / 256))) = 0 := by unfold zc3; exact Nat.and_zero _
  rw [zD_s, zD_s, zD_s, zD_s, zD_s, zD_s, zD_s, zD_s, e]
  have q56 : pn (n) 64 = pn (n % 256) 8 + pn (n / 256) 56 := pn_s (n) 56
  have q48 : pn (n / 256) 56 = pn (n / 256 % 256) 8 + pn (n / 256 / 256) 48 := pn_s (n / 256) 48
  have q40 : pn (n / 256 / 256) 48 = pn (n / 256 / 256 % 256) 8 + pn (n / 256 / 256 / 256) 40 := pn_s (n / 256 / 256) 40
  have q32 : pn (n / 256 / 256 / 256) 40 = pn (n / 256 / 256 / 256 % 256) 8 + pn (n / 256 / 256 / 256 / 256) 32 := pn_s (n / 256 / 256 / 256) 32
  have q24 : pn (n / 256 / 256 / 256 / 256) 32 = pn (n / 256 / 256 / 256 / 256 % 256) 8 + pn (n / 256 / 256 / 256 / 256 / 256) 24 := pn_s (n / 256 / 256 / 256 / 256) 24
  have q16 : pn (n / 256 / 256 / 256 / 256 / 256) 24 = pn (n / 256 / 256 / 256 / 256 / 256 % 256) 8 + pn (n / 256 / 256 / 256 / 256 / 256 / 256) 16 := pn_s (n / 256 / 256 / 256 / 256 / 256) 16
  have q8 : pn (n / 256 / 256 / 256 / 256 / 256 / 256) 16 = pn (n / 256 / 256 / 256 / 256 / 256 / 256 % 256) 8 + pn (n / 256 / 256 / 256 / 256 / 256 / 256 / 256) 8 := pn_s (n / 256 / 256 / 256 / 256 / 256 / 256) 8
  have q0 : pn (n / 256 / 256 / 256 / 256 / 256 / 256 / 256) 8 = pn (n / 256 / 256 / 256 / 256 / 256 / 256 / 256 % 256) 8 + pn (n / 256 / 256 / 256 / 256 / 256 / 256 / 256 / 256) 0 := pn_s (n / 256 / 256 / 256 / 256 / 256 / 256 / 256) 0
  have q9 : pn (n / 256 / 256 / 256 / 256 / 256 / 256 / 256 / 256) 0 = 0 := rfl
  rw [q9, Nat.add_zero] at q0
  rw [q0] at q8
  rw [q8] at q16
  rw [q16] at q24
  rw [q24] at q32
  rw [q32] at q40
  rw [q40] at q48
  rw [q48] at q56
  rw [q56]
  exact zsum_s h0 h1 h2 h3 h4 h5 h6 h7
def un (x : Int64) : Nat := x.toBitVec.toNat
theorem un_lt (x : Int64) : un x < 2 ^ 64 := x.toBitVec.isLt
theorem un_and (x y : Int64) : un (x &&& y) = un x &&& un y := by unfold un; rw [Int64.toBitVec_and, BitVec.toNat_and]
theorem un_add {x y : Int64} (h : un x + un y < 2 ^ 64) : un (x + y) = un x + un y := by
  unfold un at h ⊢
  rw [Int64.toBitVec_add, BitVec.toNat_add, Nat.mod_eq_of_lt h]
theorem un_sub {x y : Int64} (h : un y ≤ un x) : un (x - y) = un x - un y := by
  have h1 := un_lt x
  unfold un at h h1 ⊢
  rw [Int64.toBitVec_sub, BitVec.toNat_sub]
  omega
theorem un_csr (x : Int64) {k : Nat} (hk : k < 64) : un (csr x (nI k)) = un x / 2 ^ k := by
  show (x.toUInt64 >>> ((nI k).toInt64.toUInt64 &&& Int64.toUInt64 63)).toBitVec.toNat = x.toUInt64.toBitVec.toNat / 2 ^ k
  rw [UInt64.toBitVec_shiftRight]
  show (x.toUInt64.toBitVec >>> (((nI k).toInt64.toUInt64 &&& Int64.toUInt64 63).toBitVec % 64).toNat).toNat = _
  rw [tb_su k hk, BitVec.toNat_ushiftRight, Nat.shiftRight_eq_div_pow]
theorem un_i (x : Int64) {n : Nat} (h : un x % 128 = n) : x.toInt32 &&& 127 = nI n := by
  subst h
  apply Int32.toBitVec_inj.mp
  apply BitVec.eq_of_toNat_eq
  show ((x.toInt32 &&& 127).toBitVec).toNat = (BitVec.ofNat 32 (un x % 128)).toNat
  rw [Int32.toBitVec_and, BitVec.toNat_and]
  have e : (x.toInt32).toBitVec.toNat = un x % 2 ^ 32 := by
    show (x.toBitVec.signExtend 32).toNat = _
    rw [BitVec.signExtend_eq_setWidth_of_le _ (by omega), BitVec.toNat_setWidth]
    rfl
  rw [e, show ((127 : Int32).toBitVec).toNat = 2 ^ 7 - 1 from rfl, Nat.and_two_pow_sub_one_eq_mod, BitVec.toNat_ofNat]
  omega
theorem pn_ct (x : Int64) : pn (un x) 64 = ct x := by
  have : ∀ k, pn (un x) k = nb x k := by
    intro k
    induction k with
    | zero => rfl
    | succ k ih =>
      show pn (un x) k + _ = nb x k + _
      rw [ih]
      rfl
  exact this 64
theorem k_bits {d : Nat} {h : zr_H} {Q : zr_K} {x : Int64} (hQ : Q (.inl (some (.int (nI (ct x))))) h) : zr_E (d + 1) 210 [.long x] h Q := by
  have l1 : zm 85 8 = 6148914691236517205 := by decide +kernel
  have l2 : zm 51 8 = 3689348814741910323 := by decide +kernel
  have l3 : zm 15 8 = 1085102592571150095 := by decide +kernel
  have m1 : un 6148914691236517205 = 6148914691236517205 := by decide +kernel
  have m2 : un 3689348814741910323 = 3689348814741910323 := by decide +kernel
  have m3 : un 1085102592571150095 = 1085102592571150095 := by decide +kernel
  rw [ze_210]
  simp only [zs_210_0, zs_210_1, zs_210_2, zs_210_3, zs_210_4, zs_210_7, zs_210_8, zs_210_9, zs_210_11, zs_210_14, zs_210_15, zs_210_16, zs_210_17, zs_210_18, zs_210_21, zs_210_22, zs_210_23, zs_210_24, zs_210_25, zs_210_26, zs_210_27, zs_210_28, zs_210_29, zs_210_32, zs_210_33, zs_210_34, zs_210_35, zs_210_36, zs_210_38, zs_210_39, zs_210_40, zs_210_41, zs_210_42, zs_210_43, zs_210_45, zs_210_46, zs_210_47, zs_210_48, zs_210_49, zs_210_50, zs_210_52, zs_210_53, zs_210_54, zs_210_55, zs_210_56, zs_210_57, zs_210_59, zs_210_60, zc_isO, zr_fld_mk, zc_isA, zc_len, zr_elt_mk, zr_kill_i, zr_kill_l, zr_kill_r, zr_kill_u, zr_kill_f, zr_kill_n, zc_cat, zr_cat_i, zr_cat_l, zr_cat_r, zr_cat_f, zr_cat_d, zr_cat_u, beq_self_eq_true, Nat.zero_le, Nat.le_refl, Nat.reduceSub, Nat.reduceAdd, Nat.reduceLeDiff, csl_f, csr_f, cn_f, lg_cmp_eq, lg_cmp_le, lg_cmp_lt, lg_cmp_ge, lg_cmp_gt, nI_1, zr_up_self, zp_O, zr_fup_self, zr_fup_ne, ne_eq, Nat.reduceEqDiff, not_false_eq_true, pk_mul]
  generalize e1 : x - (csr x 1 &&& 6148914691236517205) = i1
  have f1 : un i1 = za 8 (un x) := by
    rw [← e1]
    have a : un (csr x 1 &&& 6148914691236517205) = (un x / 2) &&& 6148914691236517205 := by rw [un_and, m1]; rw [show un (csr x 1) = un x / 2 from un_csr x (k := 1) (by omega)]
    rw [un_sub (by rw [a]; exact Nat.le_trans Nat.and_le_left (Nat.div_le_self _ _)), a]
    unfold za
    rw [l1]
  simp only [zs_210_0, zs_210_1, zs_210_2, zs_210_3, zs_210_4, zs_210_7, zs_210_8, zs_210_9, zs_210_10, zs_210_11, zs_210_14, zs_210_15, zs_210_16, zs_210_17, zs_210_18, zs_210_21, zs_210_22, zs_210_23, zs_210_25, zs_210_26, zs_210_27, zs_210_28, zs_210_29, zs_210_32, zs_210_33, zs_210_34, zs_210_35, zs_210_36, zs_210_38, zs_210_39, zs_210_40, zs_210_41, zs_210_42, zs_210_43, zs_210_45, zs_210_46, zs_210_47, zs_210_48, zs_210_49, zs_210_50, zs_210_52, zs_210_53, zs_210_54, zs_210_55, zs_210_56, zs_210_57, zs_210_59, zs_210_60, zc_isO, zr_fld_mk, zc_isA, zc_len, zr_elt_mk, zr_kill_i, zr_kill_l, zr_kill_r, zr_kill_u, zr_kill_f, zr_kill_n, zc_cat, zr_cat_i, zr_cat_l, zr_cat_r, zr_cat_f, zr_cat_d, zr_cat_u, beq_self_eq_true, Nat.zero_le, Nat.le_refl, Nat.reduceSub, Nat.reduceAdd, Nat.reduceLeDiff, csl_f, csr_f, cn_f, lg_cmp_eq, lg_cmp_le, lg_cmp_lt, lg_cmp_ge, lg_cmp_gt, nI_1, zr_up_self, zp_O, zr_fup_self, zr_fup_ne, ne_eq, Nat.reduceEqDiff, not_false_eq_true, pk_mul]
  generalize e2 : (i1 &&& 3689348814741910323) + (csr i1 2 &&& 3689348814741910323) = i2
  have g2 : un i2 = zb2 8 (za 8 (un x)) ∧ un i2 ≤ 7378697629483820646 := by
    rw [← e2]
    have a : un (csr i1 2 &&& 3689348814741910323) = (un i1 / 4) &&& 3689348814741910323 := by rw [un_and, m2]; rw [show un (csr i1 2) = un i1 / 4 from un_csr i1 (k := 2) (by omega)]
    have b : un (i1 &&& 3689348814741910323) = un i1 &&& 3689348814741910323 := by rw [un_and, m2]
    have c1 : (un i1 &&& 3689348814741910323) ≤ 3689348814741910323 := Nat.and_le_right
    have c2 : (un i1 / 4 &&& 3689348814741910323) ≤ 3689348814741910323 := Nat.and_le_right
    rw [un_add (by rw [a, b]; omega), a, b]
    refine ⟨?_, by omega⟩
    rw [f1]
    unfold zb2
    rw [l2]
  simp only [zs_210_0, zs_210_1, zs_210_2, zs_210_3, zs_210_4, zs_210_7, zs_210_8, zs_210_9, zs_210_10, zs_210_11, zs_210_14, zs_210_15, zs_210_16, zs_210_17, zs_210_18, zs_210_21, zs_210_22, zs_210_23, zs_210_24, zs_210_25, zs_210_26, zs_210_27, zs_210_28, zs_210_29, zs_210_32, zs_210_33, zs_210_35, zs_210_36, zs_210_38, zs_210_39, zs_210_40, zs_210_41, zs_210_42, zs_210_43, zs_210_45, zs_210_46, zs_210_47, zs_210_48, zs_210_49, zs_210_50, zs_210_52, zs_210_53, zs_210_54, zs_210_55, zs_210_56, zs_210_57, zs_210_59, zs_210_60, zc_isO, zr_fld_mk, zc_isA, zc_len, zr_elt_mk, zr_kill_i, zr_kill_l, zr_kill_r, zr_kill_u, zr_kill_f, zr_kill_n, zc_cat, zr_cat_i, zr_cat_l, zr_cat_r, zr_cat_f, zr_cat_d, zr_cat_u, beq_self_eq_true, Nat.zero_le, Nat.le_refl, Nat.reduceSub, Nat.reduceAdd, Nat.reduceLeDiff, csl_f, csr_f, cn_f, lg_cmp_eq, lg_cmp_le, lg_cmp_lt, lg_cmp_ge, lg_cmp_gt, nI_1, zr_up_self, zp_O, zr_fup_self, zr_fup_ne, ne_eq, Nat.reduceEqDiff, not_false_eq_true, pk_mul]
  generalize e3 : i2 + csr i2 4 &&& 1085102592571150095 = i3
  have f3 : un i3 = zc3 8 (zb2 8 (za 8 (un x))) := by
    rw [← e3]
    have a : un (csr i2 4) = un i2 / 16 := un_csr i2 (k := 4) (by omega)
    rw [un_and, m3, un_add (by rw [a]; omega), a, g2.1]
    unfold zc3
    rw [l3]
  have z := zsum_d (un x)
  rw [← f3] at z
  simp only [zs_210_0, zs_210_1, zs_210_2, zs_210_3, zs_210_4, zs_210_7, zs_210_8, zs_210_9, zs_210_10, zs_210_11, zs_210_14, zs_210_15, zs_210_16, zs_210_17, zs_210_18, zs_210_21, zs_210_22, zs_210_23, zs_210_24, zs_210_25, zs_210_26, zs_210_27, zs_210_28, zs_210_29, zs_210_32, zs_210_33, zs_210_34, zs_210_35, zs_210_36, zs_210_38, zs_210_39, zs_210_40, zs_210_42, zs_210_43, zs_210_45, zs_210_46, zs_210_47, zs_210_48, zs_210_49, zs_210_50, zs_210_52, zs_210_53, zs_210_54, zs_210_55, zs_210_56, zs_210_57, zs_210_59, zs_210_60, zc_isO, zr_fld_mk, zc_isA, zc_len, zr_elt_mk, zr_kill_i, zr_kill_l, zr_kill_r, zr_kill_u, zr_kill_f, zr_kill_n, zc_cat, zr_cat_i, zr_cat_l, zr_cat_r, zr_cat_f, zr_cat_d, zr_cat_u, beq_self_eq_true, Nat.zero_le, Nat.le_refl, Nat.reduceSub, Nat.reduceAdd, Nat.reduceLeDiff, csl_f, csr_f, cn_f, lg_cmp_eq, lg_cmp_le, lg_cmp_lt, lg_cmp_ge, lg_cmp_gt, nI_1, zr_up_self, zp_O, zr_fup_self, zr_fup_ne, ne_eq, Nat.reduceEqDiff, not_false_eq_true, pk_mul]
  generalize e4 : i3 + csr i3 8 = i4
  have f4 : un i4 = un i3 + un i3 / 256 := by
    rw [← e4]
    have a : un (csr i3 8) = un i3 / 256 := un_csr i3 (k := 8) (by omega)
    rw [un_add (by rw [a]; omega), a]
  simp only [zs_210_0, zs_210_1, zs_210_2, zs_210_3, zs_210_4, zs_210_7, zs_210_8, zs_210_9, zs_210_10, zs_210_11, zs_210_14, zs_210_15, zs_210_16, zs_210_17, zs_210_18, zs_210_21, zs_210_22, zs_210_23, zs_210_24, zs_210_25, zs_210_26, zs_210_27, zs_210_28, zs_210_29, zs_210_32, zs_210_33, zs_210_34, zs_210_35, zs_210_36, zs_210_38, zs_210_39, zs_210_40, zs_210_41, zs_210_42, zs_210_43, zs_210_45, zs_210_46, zs_210_47, zs_210_49, zs_210_50, zs_210_52, zs_210_53, zs_210_54, zs_210_55, zs_210_56, zs_210_57, zs_210_59, zs_210_60, zc_isO, zr_fld_mk, zc_isA, zc_len, zr_elt_mk, zr_kill_i, zr_kill_l, zr_kill_r, zr_kill_u, zr_kill_f, zr_kill_n, zc_cat, zr_cat_i, zr_cat_l, zr_cat_r, zr_cat_f, zr_cat_d, zr_cat_u, beq_self_eq_true, Nat.zero_le, Nat.le_refl, Nat.reduceSub, Nat.reduceAdd, Nat.reduceLeDiff, csl_f, csr_f, cn_f, lg_cmp_eq, lg_cmp_le, lg_cmp_lt, lg_cmp_ge, lg_cmp_gt, nI_1, zr_up_self, zp_O, zr_fup_self, zr_fup_ne, ne_eq, Nat.reduceEqDiff, not_false_eq_true, pk_mul]
  generalize e5 : i4 + csr i4 16 = i5
  have f5 : un i5 = un i4 + un i4 / 65536 := by
    rw [← e5]
    have a : un (csr i4 16) = un i4 / 65536 := un_csr i4 (k := 16) (by omega)
    rw [un_add (by rw [a]; omega), a]
  simp only [zs_210_0, zs_210_1, zs_210_2, zs_210_3, zs_210_4, zs_210_7, zs_210_8, zs_210_9, zs_210_10, zs_210_11, zs_210_14, zs_210_15, zs_210_16, zs_210_17, zs_210_18, zs_210_21, zs_210_22, zs_210_23, zs_210_24, zs_210_25, zs_210_26, zs_210_27, zs_210_28, zs_210_29, zs_210_32, zs_210_33, zs_210_34, zs_210_35, zs_210_36, zs_210_38, zs_210_39, zs_210_40, zs_210_41, zs_210_42, zs_210_43, zs_210_45, zs_210_46, zs_210_47, zs_210_48, zs_210_49, zs_210_50, zs_210_52, zs_210_53, zs_210_54, zs_210_55, zs_210_56, zs_210_57, zs_210_59, zs_210_60, zc_isO, zr_fld_mk, zc_isA, zc_len, zr_elt_mk, zr_kill_i, zr_kill_l, zr_kill_r, zr_kill_u, zr_kill_f, zr_kill_n, zc_cat, zr_cat_i, zr_cat_l, zr_cat_r, zr_cat_f, zr_cat_d, zr_cat_u, beq_self_eq_true, Nat.zero_le, Nat.le_refl, Nat.reduceSub, Nat.reduceAdd, Nat.reduceLeDiff, csl_f, csr_f, cn_f, lg_cmp_eq, lg_cmp_le, lg_cmp_lt, lg_cmp_ge, lg_cmp_gt, nI_1, zr_up_self, zp_O, zr_fup_self, zr_fup_ne, ne_eq, Nat.reduceEqDiff, not_false_eq_true, pk_mul]
  have f6 : un (i5 + csr i5 32) = zsum (un i3) := by
    have a : un (csr i5 32) = un i5 / 4294967296 := un_csr i5 (k := 32) (by omega)
    rw [un_add (by rw [a]; omega), a, f5, f4]
    rfl
  rw [un_i _ (n := ct x) (by rw [f6, z.1, pn_ct])]
  exact hQ
