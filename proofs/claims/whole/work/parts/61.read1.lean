/-! THE READER: its small methods; a byte as a number, what spans a run of bytes -/
theorem zt_put {tx gr k : Nat} {J : Nat → Int32} {b w : Int64} (h1 : 1 ≤ k) (h9 : k ≤ 10) {v : Int32} : (Sum.inl (5, zr_fup (zrV tx gr J b w) k (.int v)) : zr_C) = zrd tx gr (fI J k v) b w := by
  unfold zrd
  congr 2
  funext j
  have : k = 1 ∨ k = 2 ∨ k = 3 ∨ k = 4 ∨ k = 5 ∨ k = 6 ∨ k = 7 ∨ k = 8 ∨ k = 9 ∨ k = 10 := by omega
  match j with
  | 0 => simp only [zr_fup]; rw [if_neg (by omega)]; rfl
  | 1 => simp only [zr_fup, zrV, fI]; split <;> rfl
  | 2 => simp only [zr_fup, zrV, fI]; split <;> rfl
  | 3 => simp only [zr_fup, zrV, fI]; split <;> rfl
  | 4 => simp only [zr_fup, zrV, fI]; split <;> rfl
  | 5 => simp only [zr_fup, zrV, fI]; split <;> rfl
  | 6 => simp only [zr_fup, zrV, fI]; split <;> rfl
  | 7 => simp only [zr_fup, zrV, fI]; split <;> rfl
  | 8 => simp only [zr_fup, zrV, fI]; split <;> rfl
  | 9 => simp only [zr_fup, zrV, fI]; split <;> rfl
  | 10 => simp only [zr_fup, zrV, fI]; split <;> rfl
  | 11 => simp only [zr_fup]; rw [if_neg (by omega)]; rfl
  | 12 => simp only [zr_fup]; rw [if_neg (by omega)]; rfl
  | 13 => simp only [zr_fup]; rw [if_neg (by omega)]; rfl
  | j + 14 => simp only [zr_fup]; rw [if_neg (by omega)]; rfl
theorem zt_putl {tx gr k : Nat} {J : Nat → Int32} {b w v : Int64} (hk : k = 11 ∨ k = 12) : (Sum.inl (5, zr_fup (zrV tx gr J b w) k (.long v)) : zr_C) = zrd tx gr J (if k = 11 then v else b) (if k = 12 then v else w) := by
  unfold zrd
  congr 2
  funext j
  match j with
  | 0 | 1 | 2 | 3 | 4 | 5 | 6 | 7 | 8 | 9 | 10 => simp only [zr_fup]; rw [if_neg (by omega)]; rfl
  | 11 => rcases hk with e | e <;> subst e <;> rfl
  | 12 => rcases hk with e | e <;> subst e <;> rfl
  | 13 => simp only [zr_fup]; rw [if_neg (by omega)]; rfl
  | j + 14 => simp only [zr_fup]; rw [if_neg (by omega)]; rfl
theorem zt_putg {tx gr g2 : Nat} {J : Nat → Int32} {b w : Int64} : (Sum.inl (5, zr_fup (zrV tx gr J b w) 13 (.ref g2)) : zr_C) = zrd tx g2 J b w := by
  unfold zrd
  congr 2
  funext j
  match j with
  | 0 | 1 | 2 | 3 | 4 | 5 | 6 | 7 | 8 | 9 | 10 | 11 | 12 => simp only [zr_fup]; rw [if_neg (by omega)]; rfl
  | 13 => rfl
  | j + 14 => simp only [zr_fup]; rw [if_neg (by omega)]; rfl
/-- a byte as it is read: -1 behind the text's end -/
def by_ (f : Nat → Int32) (n k : Nat) : Int32 := if k < n then f k &&& 255 else -1
def iLe (c : Int32) : Bool := decide (97 ≤ c) && decide (c ≤ 122)
def iDi (c : Int32) : Bool := decide (48 ≤ c) && decide (c ≤ 57)
def iSp (c : Int32) : Bool := decide (c = 32)
/-- the end of a run -/
def spn (p : Int32 → Bool) (f : Nat → Int32) (n : Nat) : Nat → Nat → Nat
  | 0, a => a
  | t + 1, a => if a < n ∧ p (f a &&& 255) = true then spn p f n t (a + 1) else a
def sp (p : Int32 → Bool) (f : Nat → Int32) (n a : Nat) : Nat := spn p f n (n - a) a
theorem spn_end {p : Int32 → Bool} {f : Nat → Int32} {n : Nat} (t a : Nat) (h : n ≤ a) : spn p f n t a = a := by
  cases t with
  | zero => rfl
  | succ t => unfold spn; rw [if_neg (fun z => by omega)]
theorem spn_add {p : Int32 → Bool} {f : Nat → Int32} {n : Nat} (t : Nat) : ∀ a, n ≤ a + t → spn p f n (t + 1) a = spn p f n t a := by
  induction t with
  | zero => intro a h; rw [spn_end _ _ (by omega), spn_end _ _ (by omega)]
  | succ t ih =>
    intro a h
    show (if a < n ∧ p (f a &&& 255) = true then spn p f n (t + 1) (a + 1) else a) = (if a < n ∧ p (f a &&& 255) = true then spn p f n t (a + 1) else a)
    rw [ih (a + 1) (by omega)]
theorem sp_y {p : Int32 → Bool} {f : Nat → Int32} {n a : Nat} (h : a < n) (e : p (f a &&& 255) = true) : sp p f n a = sp p f n (a + 1) := by
  unfold sp
  rw [show n - a = (n - (a + 1)) + 1 by omega]
  show (if a < n ∧ p (f a &&& 255) = true then spn p f n (n - (a + 1)) (a + 1) else a) = _
  rw [if_pos ⟨h, e⟩]
theorem sp_n {p : Int32 → Bool} {f : Nat → Int32} {n a : Nat} (e : ¬ (a < n ∧ p (f a &&& 255) = true)) : sp p f n a = a := by
  unfold sp
  cases h : n - a with
  | zero => rfl
  | succ t => unfold spn; rw [if_neg e]
theorem spn_le {p : Int32 → Bool} {f : Nat → Int32} {n : Nat} (t : Nat) : ∀ a, a ≤ spn p f n t a ∧ (a ≤ n → spn p f n t a ≤ n) := by
  induction t with
  | zero => intro a; exact ⟨Nat.le_refl _, fun h => h⟩
  | succ t ih =>
    intro a
    unfold spn
    by_cases e : a < n ∧ p (f a &&& 255) = true
    · rw [if_pos e]
      have := ih (a + 1)
      exact ⟨by omega, fun _ => this.2 (by omega)⟩
    · rw [if_neg e]
      exact ⟨Nat.le_refl _, fun h => h⟩
theorem sp_ge {p : Int32 → Bool} {f : Nat → Int32} {n : Nat} (a : Nat) : a ≤ sp p f n a := (spn_le _ a).1
theorem sp_le {p : Int32 → Bool} {f : Nat → Int32} {n a : Nat} (h : a ≤ n) : sp p f n a ≤ n := (spn_le _ a).2 h
section READER
variable {d : Nat} {h : zr_H} {Q : zr_K} {rd tx gr n a : Nat} {J : Nat → Int32} {b w : Int64} {f : Nat → Int32}
theorem putR {k : Nat} {v : Int32} (e : h rd = some (zrd tx gr J b w)) (h1 : 1 ≤ k) (h9 : k ≤ 10) : zr_putO h rd k (.int v) = zr_up h rd (zrd tx gr (fI J k v) b w) := by rw [zr_putO_mk e, zt_put h1 h9]
theorem putRb {v : Int64} (e : h rd = some (zrd tx gr J b w)) : zr_putO h rd 11 (.long v) = zr_up h rd (zrd tx gr J v w) := by rw [zr_putO_mk e, zt_putl (Or.inl rfl)]; rfl
theorem putRw {v : Int64} (e : h rd = some (zrd tx gr J b w)) : zr_putO h rd 12 (.long v) = zr_up h rd (zrd tx gr J b v) := by rw [zr_putO_mk e, zt_putl (Or.inr rfl)]; rfl
theorem putRg {g2 : Nat} (e : h rd = some (zrd tx gr J b w)) : zr_putO h rd 13 (.ref g2) = zr_up h rd (zrd tx g2 J b w) := by rw [zr_putO_mk e, zt_putg]
theorem k_let {c : Int32} (hQ : Q (.inl (some (.int (if iLe c then 1 else 0)))) h) : zr_E (d + 1) 70 [.int c] h Q := by
  unfold iLe at hQ
  rw [ze_70]
  simp only [zs_70_0, zs_70_1, zs_70_3, zs_70_6, zs_70_7, zs_70_9, zs_70_12, zs_70_13, zs_70_16, zs_70_17_0, zs_70_17_1, zs_70_17, zc_isO, zr_fld_mk, zc_isA, zc_len, zr_elt_mk, zr_kill_i, zr_kill_l, zr_kill_r, zr_kill_u, zr_kill_f, zr_kill_n, zc_cat, zr_cat_i, zr_cat_l, zr_cat_r, zr_cat_f, zr_cat_d, zr_cat_u, beq_self_eq_true, Nat.zero_le, Nat.le_refl, Nat.reduceSub, Nat.reduceAdd, Nat.reduceLeDiff, csl_f, csr_f, cn_f, lg_cmp_eq, lg_cmp_le, lg_cmp_lt, lg_cmp_ge, lg_cmp_gt, nI_1, zr_up_self, zp_O, zr_fup_self, zr_fup_ne, ne_eq, Nat.reduceEqDiff, not_false_eq_true, pk_mul]
  refine ⟨fun z => ?_, fun z => ⟨fun y => ?_, fun y => ?_⟩⟩
  · rw [decide_eq_false (Int32.not_le.mpr z)] at hQ; exact hQ
  · rw [decide_eq_false (p := c ≤ 122) (Int32.not_le.mpr y), Bool.and_false] at hQ; exact hQ
  · rw [decide_eq_true (Int32.not_lt.mp z), decide_eq_true (Int32.not_lt.mp y)] at hQ; exact hQ
theorem k_dig {c : Int32} (hQ : Q (.inl (some (.int (if iDi c then 1 else 0)))) h) : zr_E (d + 1) 71 [.int c] h Q := by
  unfold iDi at hQ
  rw [ze_71]
  simp only [zs_71_0, zs_71_1, zs_71_3, zs_71_6, zs_71_7, zs_71_9, zs_71_12, zs_71_13, zs_71_16, zs_71_17_0, zs_71_17_1, zs_71_17, zc_isO, zr_fld_mk, zc_isA, zc_len, zr_elt_mk, zr_kill_i, zr_kill_l, zr_kill_r, zr_kill_u, zr_kill_f, zr_kill_n, zc_cat, zr_cat_i, zr_cat_l, zr_cat_r, zr_cat_f, zr_cat_d, zr_cat_u, beq_self_eq_true, Nat.zero_le, Nat.le_refl, Nat.reduceSub, Nat.reduceAdd, Nat.reduceLeDiff, csl_f, csr_f, cn_f, lg_cmp_eq, lg_cmp_le, lg_cmp_lt, lg_cmp_ge, lg_cmp_gt, nI_1, zr_up_self, zp_O, zr_fup_self, zr_fup_ne, ne_eq, Nat.reduceEqDiff, not_false_eq_true, pk_mul]
  refine ⟨fun z => ?_, fun z => ⟨fun y => ?_, fun y => ?_⟩⟩
  · rw [decide_eq_false (Int32.not_le.mpr z)] at hQ; exact hQ
  · rw [decide_eq_false (p := c ≤ 57) (Int32.not_le.mpr y), Bool.and_false] at hQ; exact hQ
  · rw [decide_eq_true (Int32.not_lt.mp z), decide_eq_true (Int32.not_lt.mp y)] at hQ; exact hQ
/-- an error: no -/
theorem k_fail {c y : Int32} (hR : h rd = some (zrd tx gr J b w)) (hQ : Q (.inl (some (.int 0))) (zr_up h rd (zrd tx gr (fI (fI J 3 c) 7 y) b w))) : zr_E (d + 1) 72 [.ref rd, .int c, .int y] h Q := by
  rw [ze_72]
  simp only [zs_72_0, zs_72_0u, zs_72_1, zs_72_2, zs_72_6, zs_72_7, zs_72_10, zs_72_11_0, zs_72_11_1, zs_72_11, zc_isO, zr_fld_mk, zc_isA, zc_len, zr_elt_mk, zr_kill_i, zr_kill_l, zr_kill_r, zr_kill_u, zr_kill_f, zr_kill_n, zc_cat, zr_cat_i, zr_cat_l, zr_cat_r, zr_cat_f, zr_cat_d, zr_cat_u, beq_self_eq_true, Nat.zero_le, Nat.le_refl, Nat.reduceSub, Nat.reduceAdd, Nat.reduceLeDiff, csl_f, csr_f, cn_f, lg_cmp_eq, lg_cmp_le, lg_cmp_lt, lg_cmp_ge, lg_cmp_gt, nI_1, zr_up_self, zp_O, zr_fup_self, zr_fup_ne, ne_eq, Nat.reduceEqDiff, not_false_eq_true, pk_mul, hR, zt_I]
  rw [putR hR (by omega) (by omega)]
  simp only [zs_72_0, zs_72_0u, zs_72_1, zs_72_2, zs_72_5, zs_72_5u, zs_72_6, zs_72_7, zs_72_11_0, zs_72_11_1, zs_72_11, zc_isO, zr_fld_mk, zc_isA, zc_len, zr_elt_mk, zr_kill_i, zr_kill_l, zr_kill_r, zr_kill_u, zr_kill_f, zr_kill_n, zc_cat, zr_cat_i, zr_cat_l, zr_cat_r, zr_cat_f, zr_cat_d, zr_cat_u, beq_self_eq_true, Nat.zero_le, Nat.le_refl, Nat.reduceSub, Nat.reduceAdd, Nat.reduceLeDiff, csl_f, csr_f, cn_f, lg_cmp_eq, lg_cmp_le, lg_cmp_lt, lg_cmp_ge, lg_cmp_gt, nI_1, zr_up_self, zp_O, zr_fup_self, zr_fup_ne, ne_eq, Nat.reduceEqDiff, not_false_eq_true, pk_mul, zt_I]
  rw [putR (zr_up_self _ _ _) (by omega) (by omega), zr_up_up]
  simp only [zs_72_0, zs_72_0u, zs_72_1, zs_72_2, zs_72_5, zs_72_5u, zs_72_6, zs_72_7, zs_72_10, zs_72_11_0, zs_72_11_1, zs_72_11, zc_isO, zr_fld_mk, zc_isA, zc_len, zr_elt_mk, zr_kill_i, zr_kill_l, zr_kill_r, zr_kill_u, zr_kill_f, zr_kill_n, zc_cat, zr_cat_i, zr_cat_l, zr_cat_r, zr_cat_f, zr_cat_d, zr_cat_u, beq_self_eq_true, Nat.zero_le, Nat.le_refl, Nat.reduceSub, Nat.reduceAdd, Nat.reduceLeDiff, csl_f, csr_f, cn_f, lg_cmp_eq, lg_cmp_le, lg_cmp_lt, lg_cmp_ge, lg_cmp_gt, nI_1, zr_up_self, zp_O, zr_fup_self, zr_fup_ne, ne_eq, Nat.reduceEqDiff, not_false_eq_true, pk_mul]
  exact hQ
theorem k_by (hR : h rd = some (zrd tx gr J b w)) (hT : aB h tx 300 f) (hn : n ≤ 300) (hJ : J 1 = nI n) {k : Nat} (hk : k < 1000) (hQ : Q (.inl (some (.int (by_ f n k)))) h) : zr_E (d + 1) 69 [.ref rd, .int (nI k)] h Q := by
  unfold by_ at hQ
  rw [ze_69]
  simp only [zs_69_0, zs_69_1, zs_69_4, zs_69_5, zs_69_5u, zs_69_6, zs_69_9, zs_69_12, zs_69_13, zs_69_16, zs_69_20, zs_69_23, zs_69_24, zs_69_24_3, zs_69_24_22, zs_69_25, zs_69_28, zs_69_29, zs_69_32, zs_69_33, zc_isO, zr_fld_mk, zc_isA, zc_len, zr_elt_mk, zr_kill_i, zr_kill_l, zr_kill_r, zr_kill_u, zr_kill_f, zr_kill_n, zc_cat, zr_cat_i, zr_cat_l, zr_cat_r, zr_cat_f, zr_cat_d, zr_cat_u, beq_self_eq_true, Nat.zero_le, Nat.le_refl, Nat.reduceSub, Nat.reduceAdd, Nat.reduceLeDiff, csl_f, csr_f, cn_f, lg_cmp_eq, lg_cmp_le, lg_cmp_lt, lg_cmp_ge, lg_cmp_gt, nI_1, zr_up_self, zp_O, zr_fup_self, zr_fup_ne, ne_eq, Nat.reduceEqDiff, not_false_eq_true, pk_mul, hR, zt_I, zt_f1, hJ]
  refine ⟨fun z => absurd z (nI_pos (by omega)), fun _ => ⟨fun z => ?_, fun z => ?_⟩⟩
  · have : ¬ k < n := fun g => (nI_ge g (by omega)) z
    rw [if_neg this] at hQ
    exact hQ
  · have g : k < n := by
      rcases Nat.lt_or_ge k n with g | g
      · exact g
      · exact (z (nI_le g (by omega))).elim
    rw [if_pos g] at hQ
    have a1 := aB_isA hT
    have a2 := aB_in hT (k := k) (by omega) (by omega)
    have a3 := aB_elt hT (k := k) (by omega) (by omega)
    refine ⟨fun z => absurd z (nI_ge (b := 300) (by omega) (by omega)), fun _ => ?_⟩
    simp only [zs_69_0, zs_69_1, zs_69_4, zs_69_5, zs_69_5u, zs_69_6, zs_69_9, zs_69_12, zs_69_13, zs_69_16, zs_69_19, zs_69_19u, zs_69_20, zs_69_23, zs_69_24, zs_69_24_3, zs_69_24_22, zs_69_25, zs_69_28, zs_69_29, zs_69_32, zs_69_33, zc_isO, zr_fld_mk, zc_isA, zc_len, zr_elt_mk, zr_kill_i, zr_kill_l, zr_kill_r, zr_kill_u, zr_kill_f, zr_kill_n, zc_cat, zr_cat_i, zr_cat_l, zr_cat_r, zr_cat_f, zr_cat_d, zr_cat_u, beq_self_eq_true, Nat.zero_le, Nat.le_refl, Nat.reduceSub, Nat.reduceAdd, Nat.reduceLeDiff, csl_f, csr_f, cn_f, lg_cmp_eq, lg_cmp_le, lg_cmp_lt, lg_cmp_ge, lg_cmp_gt, nI_1, zr_up_self, zp_O, zr_fup_self, zr_fup_ne, ne_eq, Nat.reduceEqDiff, not_false_eq_true, pk_mul, hR, zt_I, zt_f0, a1, a2, a3]
    exact hQ
end READER
