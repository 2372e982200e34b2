/-! THE MODEL'S OBJECT: E = its arrays, K = its ints, L = its longs -/
def zyV (E : Nat → Nat) (K : Nat → Int32) (L : Nat → Int64) : Nat → Value := fun k => match k with
  | 0 => .ref (E 0)
  | 1 => .ref (E 1)
  | 2 => .ref (E 2)
  | 3 => .ref (E 3)
  | 4 => .ref (E 4)
  | 5 => .int (K 5)
  | 6 => .int (K 6)
  | 7 => .ref (E 7)
  | 8 => .int (K 8)
  | 9 => .int (K 9)
  | 10 => .int (K 10)
  | 11 => .int (K 11)
  | 12 => .int (K 12)
  | 13 => .int (K 13)
  | 14 => .int (K 14)
  | 15 => .int (K 15)
  | 16 => .int (K 16)
  | 17 => .long (L 17)
  | 18 => .long (L 18)
  | 19 => .long (L 19)
  | 20 => .long (L 20)
  | 21 => .long (L 21)
  | 22 => .ref (E 22)
  | 23 => .int (K 23)
  | k => dv 7 k
def zym (E : Nat → Nat) (K : Nat → Int32) (L : Nat → Int64) : zr_C := .inl (7, zyV E K L)
def fL (L : Nat → Int64) (k : Nat) (v : Int64) : Nat → Int64 := fun j => if j = k then v else L j
theorem fL_s (L : Nat → Int64) (k : Nat) (v : Int64) : fL L k v k = v := by simp [fL]
theorem fL_n (L : Nat → Int64) {k j : Nat} (v : Int64) (h : j ≠ k) : fL L k v j = L j := by simp [fL, h]
section MODEL
variable {h : zr_H} {m : Nat} {E : Nat → Nat} {K : Nat → Int32} {L : Nat → Int64}
theorem zy_I : zr_isO (some (zym E K L)) 7 = true := id rfl
theorem zy_0 : zr_fld (some (zym E K L)) 0 = .ref (E 0) := rfl
theorem zy_1 : zr_fld (some (zym E K L)) 1 = .ref (E 1) := rfl
theorem zy_2 : zr_fld (some (zym E K L)) 2 = .ref (E 2) := rfl
theorem zy_3 : zr_fld (some (zym E K L)) 3 = .ref (E 3) := rfl
theorem zy_4 : zr_fld (some (zym E K L)) 4 = .ref (E 4) := rfl
theorem zy_5 : zr_fld (some (zym E K L)) 5 = .int (K 5) := rfl
theorem zy_6 : zr_fld (some (zym E K L)) 6 = .int (K 6) := rfl
theorem zy_7 : zr_fld (some (zym E K L)) 7 = .ref (E 7) := rfl
theorem zy_8 : zr_fld (some (zym E K L)) 8 = .int (K 8) := rfl
theorem zy_9 : zr_fld (some (zym E K L)) 9 = .int (K 9) := rfl
theorem zy_10 : zr_fld (some (zym E K L)) 10 = .int (K 10) := rfl
theorem zy_11 : zr_fld (some (zym E K L)) 11 = .int (K 11) := rfl
theorem zy_12 : zr_fld (some (zym E K L)) 12 = .int (K 12) := rfl
theorem zy_13 : zr_fld (some (zym E K L)) 13 = .int (K 13) := rfl
theorem zy_14 : zr_fld (some (zym E K L)) 14 = .int (K 14) := rfl
theorem zy_15 : zr_fld (some (zym E K L)) 15 = .int (K 15) := rfl
theorem zy_16 : zr_fld (some (zym E K L)) 16 = .int (K 16) := rfl
theorem zy_17 : zr_fld (some (zym E K L)) 17 = .long (L 17) := rfl
theorem zy_18 : zr_fld (some (zym E K L)) 18 = .long (L 18) := rfl
theorem zy_19 : zr_fld (some (zym E K L)) 19 = .long (L 19) := rfl
theorem zy_20 : zr_fld (some (zym E K L)) 20 = .long (L 20) := rfl
theorem zy_21 : zr_fld (some (zym E K L)) 21 = .long (L 21) := rfl
theorem zy_22 : zr_fld (some (zym E K L)) 22 = .ref (E 22) := rfl
theorem zy_23 : zr_fld (some (zym E K L)) 23 = .int (K 23) := rfl
theorem zy_put {k : Nat} (hk : k = 5 ∨ k = 6 ∨ k = 8 ∨ k = 9 ∨ k = 10 ∨ k = 11 ∨ k = 12 ∨ k = 13 ∨ k = 14 ∨ k = 15 ∨ k = 16 ∨ k = 23) {v : Int32} : (Sum.inl (7, zr_fup (zyV E K L) k (.int v)) : zr_C) = zym E (fI K k v) L := by
  unfold zym
  congr 2
  funext j
  match j with
  | 0 => simp only [zr_fup]; rw [if_neg (by omega)]; rfl
  | 1 => simp only [zr_fup]; rw [if_neg (by omega)]; rfl
  | 2 => simp only [zr_fup]; rw [if_neg (by omega)]; rfl
  | 3 => simp only [zr_fup]; rw [if_neg (by omega)]; rfl
  | 4 => simp only [zr_fup]; rw [if_neg (by omega)]; rfl
  | 5 => simp only [zr_fup, zyV, fI]; split <;> rfl
  | 6 => simp only [zr_fup, zyV, fI]; split <;> rfl
  | 7 => simp only [zr_fup]; rw [if_neg (by omega)]; rfl
  | 8 => simp only [zr_fup, zyV, fI]; split <;> rfl
  | 9 => simp only [zr_fup, zyV, fI]; split <;> rfl
  | 10 => simp only [zr_fup, zyV, fI]; split <;> rfl
  | 11 => simp only [zr_fup, zyV, fI]; split <;> rfl
  | 12 => simp only [zr_fup, zyV, fI]; split <;> rfl
  | 13 => simp only [zr_fup, zyV, fI]; split <;> rfl
  | 14 => simp only [zr_fup, zyV, fI]; split <;> rfl
  | 15 => simp only [zr_fup, zyV, fI]; split <;> rfl
  | 16 => simp only [zr_fup, zyV, fI]; split <;> rfl
  | 17 => simp only [zr_fup]; rw [if_neg (by omega)]; rfl
  | 18 => simp only [zr_fup]; rw [if_neg (by omega)]; rfl
  | 19 => simp only [zr_fup]; rw [if_neg (by omega)]; rfl
  | 20 => simp only [zr_fup]; rw [if_neg (by omega)]; rfl
  | 21 => simp only [zr_fup]; rw [if_neg (by omega)]; rfl
  | 22 => simp only [zr_fup]; rw [if_neg (by omega)]; rfl
  | 23 => simp only [zr_fup, zyV, fI]; split <;> rfl
  | j + 24 => simp only [zr_fup]; rw [if_neg (by omega)]; rfl
theorem zy_putl {k : Nat} (h1 : 17 ≤ k) (h2 : k ≤ 21) {v : Int64} : (Sum.inl (7, zr_fup (zyV E K L) k (.long v)) : zr_C) = zym E K (fL L k v) := by
  unfold zym
  congr 2
  funext j
  match j with
  | 0 => simp only [zr_fup]; rw [if_neg (by omega)]; rfl
  | 1 => simp only [zr_fup]; rw [if_neg (by omega)]; rfl
  | 2 => simp only [zr_fup]; rw [if_neg (by omega)]; rfl
  | 3 => simp only [zr_fup]; rw [if_neg (by omega)]; rfl
  | 4 => simp only [zr_fup]; rw [if_neg (by omega)]; rfl
  | 5 => simp only [zr_fup]; rw [if_neg (by omega)]; rfl
  | 6 => simp only [zr_fup]; rw [if_neg (by omega)]; rfl
  | 7 => simp only [zr_fup]; rw [if_neg (by omega)]; rfl
  | 8 => simp only [zr_fup]; rw [if_neg (by omega)]; rfl
  | 9 => simp only [zr_fup]; rw [if_neg (by omega)]; rfl
  | 10 => simp only [zr_fup]; rw [if_neg (by omega)]; rfl
  | 11 => simp only [zr_fup]; rw [if_neg (by omega)]; rfl
  | 12 => simp only [zr_fup]; rw [if_neg (by omega)]; rfl
  | 13 => simp only [zr_fup]; rw [if_neg (by omega)]; rfl
  | 14 => simp only [zr_fup]; rw [if_neg (by omega)]; rfl
  | 15 => simp only [zr_fup]; rw [if_neg (by omega)]; rfl
  | 16 => simp only [zr_fup]; rw [if_neg (by omega)]; rfl
  | 17 => simp only [zr_fup, zyV, fL]; split <;> rfl
  | 18 => simp only [zr_fup, zyV, fL]; split <;> rfl
  | 19 => simp only [zr_fup, zyV, fL]; split <;> rfl
  | 20 => simp only [zr_fup, zyV, fL]; split <;> rfl
  | 21 => simp only [zr_fup, zyV, fL]; split <;> rfl
  | 22 => simp only [zr_fup]; rw [if_neg (by omega)]; rfl
  | 23 => simp only [zr_fup]; rw [if_neg (by omega)]; rfl
  | j + 24 => simp only [zr_fup]; rw [if_neg (by omega)]; rfl
theorem putY {k : Nat} {v : Int32} (e : h m = some (zym E K L)) (hk : k = 5 ∨ k = 6 ∨ k = 8 ∨ k = 9 ∨ k = 10 ∨ k = 11 ∨ k = 12 ∨ k = 13 ∨ k = 14 ∨ k = 15 ∨ k = 16 ∨ k = 23) : zr_putO h m k (.int v) = zr_up h m (zym E (fI K k v) L) := by rw [zr_putO_mk e, zy_put hk]
theorem putYl {k : Nat} {v : Int64} (e : h m = some (zym E K L)) (h1 : 17 ≤ k) (h2 : k ≤ 21) : zr_putO h m k (.long v) = zr_up h m (zym E K (fL L k v)) := by rw [zr_putO_mk e, zy_putl h1 h2]
end MODEL
/-- a row that is a game -/
def rG (f : Nat → Int64) (R S : Nat) (b w : Int64) (P : List (Int64 × Int64)) (I : Nat → Int32) : Prop :=
  f 0 = lN R ∧ f 1 = lN S ∧ f 2 = (I 2).toInt64 ∧ (f 3).toInt32 = I 3 ∧ f 4 = (I 4).toInt64 ∧ (f 5).toInt32 = I 5 ∧ (f 6).toInt32 = I 6 ∧ f 7 = (I 7).toInt64 ∧ f 8 = (I 8).toInt64 ∧ f 9 = (I 9).toInt64 ∧ f 10 = lN P.length ∧ f 11 = b ∧ f 12 = w ∧ ∀ k, k < P.length → P[P.length - 1 - k]? = some (f (13 + 2 * k), f (14 + 2 * k))
/-- what holds of every game -/
def gI (R S : Nat) (b w : Int64) (P : List (Int64 × Int64)) (I : Nat → Int32) : Prop :=
  vG R S ∧ wi (R * S) b ∧ wi (R * S) w ∧ (∀ i, tb b i = true → tb w i = false) ∧ ¬ hs R S b w ∧ (I 2 = 1 ∨ I 2 = 2) ∧ (I 4 = 0 ∨ I 4 = 1 ∨ I 4 = 2) ∧ (I 7 = -1 ∨ ∃ p, p < R * S ∧ I 7 = nI p ∧ co b w p = 0) ∧ (I 8 = 0 ∨ I 8 = 1) ∧ P.length ≤ 30
def mq (h : zr_H) (m : Nat) (E : Nat → Nat) (K : Nat → Int32) (L : Nat → Int64) (f : Nat → Int64) (R S : Nat) (b w : Int64) (P : List (Int64 × Int64)) (I : Nat → Int32) : Prop :=
  h m = some (zym E K L) ∧ aL h (E 0) 73 f ∧ rG f R S b w P I ∧ gI R S b w P I
theorem i_l {x : Int32} {a b : Int32} : (a.toInt64 ≤ x.toInt64 ∧ x.toInt64 ≤ b.toInt64) ↔ (a ≤ x ∧ x ≤ b) := by
  rw [Int64.le_iff_toInt_le, Int64.le_iff_toInt_le, Int32.le_iff_toInt_le, Int32.le_iff_toInt_le, Int32.toInt_toInt64, Int32.toInt_toInt64, Int32.toInt_toInt64]
section MODEL
variable {d : Nat} {h : zr_H} {Q : zr_K} {m : Nat} {E : Nat → Nat} {K : Nat → Int32} {L : Nat → Int64} {f : Nat → Int64} {R S : Nat} {b w : Int64} {P : List (Int64 × Int64)} {I : Nat → Int32}
theorem mq_rw (v : mq h m E K L f R S b w P I) : rwA h (E 0) f R S := ⟨v.2.1, v.2.2.1.1, v.2.2.1.2.1, v.2.2.2.1⟩
theorem mq_ne (v : mq h m E K L f R S b w P I) : E 0 ≠ m := fun e => by
  obtain ⟨F, a, -⟩ := v.2.1
  rw [e, v.1] at a
  exact absurd (Option.some.inj a) (fun z => by simp [zym] at z)
/-- the object alone changes -/
theorem mq_up (v : mq h m E K L f R S b w P I) (K2 : Nat → Int32) (L2 : Nat → Int64) : mq (zr_up h m (zym E K2 L2)) m E K2 L2 f R S b w P I :=
  ⟨zr_up_self _ _ _, aL_to v.2.1 (zr_up_ne _ _ (mq_ne v)), v.2.2⟩
theorem mq_e (v : mq h m E K L f R S b w P I) {k : Nat} (hk : k < 73) : zr_isA (h (E 0)) 1 = true ∧ vp_in (nI k) (zr_len (h (E 0))) ∧ zr_elt (h (E 0)) (nI k).toNatClampNeg = .long (f k) := ⟨aL_isA v.2.1, aL_in v.2.1 hk (by omega), aL_elt v.2.1 hk (by omega)⟩
theorem k_mpl (v : mq h m E K L f R S b w P I) (hQ : Q (.inl (some (.int (nI (R * S))))) h) : zr_E (d + 1) 148 [.ref m] h Q := by
  obtain ⟨a1, a2, a3, a4, a5⟩ := rw_facts (mq_rw v)
  have c : (lN (R * S)).toInt32 = nI (R * S) := lN_i _
  rw [ze_148]
  simp only [zs_148_0, zs_148_0u, zs_148_1, zs_148_4, zs_148_5, zs_148_6, zs_148_6u, zs_148_7, zs_148_10, zs_148_11, zs_148_12, zs_148_13, zs_148_14, zc_isO, zr_fld_mk, zc_isA, zc_len, zr_elt_mk, zr_kill_i, zr_kill_l, zr_kill_r, zr_kill_u, zr_kill_f, zr_kill_n, zc_cat, zr_cat_i, zr_cat_l, zr_cat_r, zr_cat_f, zr_cat_d, zr_cat_u, beq_self_eq_true, Nat.zero_le, Nat.le_refl, Nat.reduceSub, Nat.reduceAdd, Nat.reduceLeDiff, csl_f, csr_f, cn_f, lg_cmp_eq, lg_cmp_le, lg_cmp_lt, lg_cmp_ge, lg_cmp_gt, nI_1, zr_up_self, zp_O, zr_fup_self, zr_fup_ne, ne_eq, Nat.reduceEqDiff, not_false_eq_true, pk_mul, v.1, zy_I, zy_0, a1, a2, a3, a4, a5, lN_mul, c]
  exact hQ
theorem k_isp (v : mq h m E K L f R S b w P I) {y : Int32} (h1 : ∀ p, p < R * S → y = nI p → Q (.inl (some (.int 1))) h) (h0 : (∀ p, p < R * S → y ≠ nI p) → Q (.inl (some (.int 0))) h) : zr_E (d + 2) 149 [.ref m, .int y] h Q := by
  have hg := v.2.2.2.1
  have hl := g_lt hg
  have hn := g_n hg
  have hp : 1 ≤ R * S := Nat.mul_pos (by omega) (by omega)
  have e1 : nI (R * S) - 1 = nI (R * S - 1) := nI_p hp
  have z0 : (0 : Int64) = (nI 0).toInt64 := rfl
  rw [ze_149]
  simp only [zs_149_0, zs_149_1, zs_149_2, zs_149_3, zs_149_3u, zs_149_4, zt_149_4, zs_149_7, zs_149_8, zs_149_9, zs_149_10, zt_149_10, zs_149_13_0, zs_149_13_1, zs_149_13, zc_isO, zr_fld_mk, zc_isA, zc_len, zr_elt_mk, zr_kill_i, zr_kill_l, zr_kill_r, zr_kill_u, zr_kill_f, zr_kill_n, zc_cat, zr_cat_i, zr_cat_l, zr_cat_r, zr_cat_f, zr_cat_d, zr_cat_u, beq_self_eq_true, Nat.zero_le, Nat.le_refl, Nat.reduceSub, Nat.reduceAdd, Nat.reduceLeDiff, csl_f, csr_f, cn_f, lg_cmp_eq, lg_cmp_le, lg_cmp_lt, lg_cmp_ge, lg_cmp_gt, nI_1, zr_up_self, zp_O, zr_fup_self, zr_fup_ne, ne_eq, Nat.reduceEqDiff, not_false_eq_true, pk_mul, v.1, zy_I]
  refine k_mpl (d := d) v ?_
  simp only [zs_149_0, zs_149_1, zs_149_2, zs_149_3, zs_149_3u, zs_149_4, zt_149_4, zs_149_7, zs_149_8, zs_149_9, zs_149_10, zt_149_10, zs_149_13_0, zs_149_13_1, zs_149_13, zc_isO, zr_fld_mk, zc_isA, zc_len, zr_elt_mk, zr_kill_i, zr_kill_l, zr_kill_r, zr_kill_u, zr_kill_f, zr_kill_n, zc_cat, zr_cat_i, zr_cat_l, zr_cat_r, zr_cat_f, zr_cat_d, zr_cat_u, beq_self_eq_true, Nat.zero_le, Nat.le_refl, Nat.reduceSub, Nat.reduceAdd, Nat.reduceLeDiff, csl_f, csr_f, cn_f, lg_cmp_eq, lg_cmp_le, lg_cmp_lt, lg_cmp_ge, lg_cmp_gt, nI_1, zr_up_self, zp_O, zr_fup_self, zr_fup_ne, ne_eq, Nat.reduceEqDiff, not_false_eq_true, pk_mul, e1]
  rw [z0]
  refine k_isin (d := d) (fun z => ?_) (fun z => ?_)
  · rw [i_l] at z
    simp only [zs_149_0, zs_149_1, zs_149_2, zs_149_3, zs_149_3u, zs_149_4, zt_149_4, zs_149_7, zs_149_8, zs_149_9, zs_149_10, zt_149_10, zs_149_13_0, zs_149_13_1, zs_149_13, zc_isO, zr_fld_mk, zc_isA, zc_len, zr_elt_mk, zr_kill_i, zr_kill_l, zr_kill_r, zr_kill_u, zr_kill_f, zr_kill_n, zc_cat, zr_cat_i, zr_cat_l, zr_cat_r, zr_cat_f, zr_cat_d, zr_cat_u, beq_self_eq_true, Nat.zero_le, Nat.le_refl, Nat.reduceSub, Nat.reduceAdd, Nat.reduceLeDiff, csl_f, csr_f, cn_f, lg_cmp_eq, lg_cmp_le, lg_cmp_lt, lg_cmp_ge, lg_cmp_gt, nI_1, zr_up_self, zp_O, zr_fup_self, zr_fup_ne, ne_eq, Nat.reduceEqDiff, not_false_eq_true, pk_mul]
    obtain ⟨p, hp2, ep⟩ := nI_of (x := y) (fun g => absurd z.1 (Int32.not_le.mpr g))
    subst ep
    refine h1 p ?_ rfl
    rcases Nat.lt_or_ge p (R * S) with g | g
    · exact g
    · exact absurd z.2 (nI_ge (by omega) (by omega))
  · rw [i_l] at z
    simp only [zs_149_0, zs_149_1, zs_149_2, zs_149_3, zs_149_3u, zs_149_4, zt_149_4, zs_149_7, zs_149_8, zs_149_9, zs_149_10, zt_149_10, zs_149_13_0, zs_149_13_1, zs_149_13, zc_isO, zr_fld_mk, zc_isA, zc_len, zr_elt_mk, zr_kill_i, zr_kill_l, zr_kill_r, zr_kill_u, zr_kill_f, zr_kill_n, zc_cat, zr_cat_i, zr_cat_l, zr_cat_r, zr_cat_f, zr_cat_d, zr_cat_u, beq_self_eq_true, Nat.zero_le, Nat.le_refl, Nat.reduceSub, Nat.reduceAdd, Nat.reduceLeDiff, csl_f, csr_f, cn_f, lg_cmp_eq, lg_cmp_le, lg_cmp_lt, lg_cmp_ge, lg_cmp_gt, nI_1, zr_up_self, zp_O, zr_fup_self, zr_fup_ne, ne_eq, Nat.reduceEqDiff, not_false_eq_true, pk_mul]
    refine h0 (fun p hp2 ep => z ?_)
    subst ep
    exact ⟨nI_le (a := 0) (by omega) (by omega), nI_le (by omega) (by omega)⟩
theorem k_isc {y : Int32} (h1 : (y = 1 ∨ y = 2) → Q (.inl (some (.int 1))) h) (h0 : ¬ (y = 1 ∨ y = 2) → Q (.inl (some (.int 0))) h) : zr_E (d + 2) 150 [.int y] h Q := by
  have z1 : (1 : Int64) = (1 : Int32).toInt64 := rfl
  have z2 : (2 : Int64) = (2 : Int32).toInt64 := rfl
  rw [ze_150]
  simp only [zs_150_0, zs_150_1, zs_150_2, zs_150_3, zs_150_6, zt_150_6, zs_150_9_0, zs_150_9_1, zs_150_9, zc_isO, zr_fld_mk, zc_isA, zc_len, zr_elt_mk, zr_kill_i, zr_kill_l, zr_kill_r, zr_kill_u, zr_kill_f, zr_kill_n, zc_cat, zr_cat_i, zr_cat_l, zr_cat_r, zr_cat_f, zr_cat_d, zr_cat_u, beq_self_eq_true, Nat.zero_le, Nat.le_refl, Nat.reduceSub, Nat.reduceAdd, Nat.reduceLeDiff, csl_f, csr_f, cn_f, lg_cmp_eq, lg_cmp_le, lg_cmp_lt, lg_cmp_ge, lg_cmp_gt, nI_1, zr_up_self, zp_O, zr_fup_self, zr_fup_ne, ne_eq, Nat.reduceEqDiff, not_false_eq_true, pk_mul]
  rw [z1, z2]
  refine k_isin (d := d) (fun z => ?_) (fun z => ?_)
  · rw [i_l, col_ok] at z
    simp only [zs_150_0, zs_150_1, zs_150_2, zs_150_3, zs_150_6, zt_150_6, zs_150_9_0, zs_150_9_1, zs_150_9, zc_isO, zr_fld_mk, zc_isA, zc_len, zr_elt_mk, zr_kill_i, zr_kill_l, zr_kill_r, zr_kill_u, zr_kill_f, zr_kill_n, zc_cat, zr_cat_i, zr_cat_l, zr_cat_r, zr_cat_f, zr_cat_d, zr_cat_u, beq_self_eq_true, Nat.zero_le, Nat.le_refl, Nat.reduceSub, Nat.reduceAdd, Nat.reduceLeDiff, csl_f, csr_f, cn_f, lg_cmp_eq, lg_cmp_le, lg_cmp_lt, lg_cmp_ge, lg_cmp_gt, nI_1, zr_up_self, zp_O, zr_fup_self, zr_fup_ne, ne_eq, Nat.reduceEqDiff, not_false_eq_true, pk_mul]
    exact h1 z
  · rw [i_l, col_ok] at z
    simp only [zs_150_0, zs_150_1, zs_150_2, zs_150_3, zs_150_6, zt_150_6, zs_150_9_0, zs_150_9_1, zs_150_9, zc_isO, zr_fld_mk, zc_isA, zc_len, zr_elt_mk, zr_kill_i, zr_kill_l, zr_kill_r, zr_kill_u, zr_kill_f, zr_kill_n, zc_cat, zr_cat_i, zr_cat_l, zr_cat_r, zr_cat_f, zr_cat_d, zr_cat_u, beq_self_eq_true, Nat.zero_le, Nat.le_refl, Nat.reduceSub, Nat.reduceAdd, Nat.reduceLeDiff, csl_f, csr_f, cn_f, lg_cmp_eq, lg_cmp_le, lg_cmp_lt, lg_cmp_ge, lg_cmp_gt, nI_1, zr_up_self, zp_O, zr_fup_self, zr_fup_ne, ne_eq, Nat.reduceEqDiff, not_false_eq_true, pk_mul]
    exact h0 z
theorem k_mwh (v : mq h m E K L f R S b w P I) (hQ : Q (.inl (some (.long (fa (R * S))))) h) : zr_E (d + 2) 160 [.ref m] h Q := by
  rw [ze_160]
  simp only [zs_160_0, zs_160_1, zs_160_1u, zs_160_2, zt_160_2, zs_160_5, zs_160_6, zs_160_7, zs_160_8, zc_isO, zr_fld_mk, zc_isA, zc_len, zr_elt_mk, zr_kill_i, zr_kill_l, zr_kill_r, zr_kill_u, zr_kill_f, zr_kill_n, zc_cat, zr_cat_i, zr_cat_l, zr_cat_r, zr_cat_f, zr_cat_d, zr_cat_u, beq_self_eq_true, Nat.zero_le, Nat.le_refl, Nat.reduceSub, Nat.reduceAdd, Nat.reduceLeDiff, csl_f, csr_f, cn_f, lg_cmp_eq, lg_cmp_le, lg_cmp_lt, lg_cmp_ge, lg_cmp_gt, nI_1, zr_up_self, zp_O, zr_fup_self, zr_fup_ne, ne_eq, Nat.reduceEqDiff, not_false_eq_true, pk_mul, v.1, zy_I]
  refine k_mpl (d := d) v ?_
  simp only [zs_160_0, zs_160_1, zs_160_1u, zs_160_2, zt_160_2, zs_160_5, zs_160_6, zs_160_7, zs_160_8, zc_isO, zr_fld_mk, zc_isA, zc_len, zr_elt_mk, zr_kill_i, zr_kill_l, zr_kill_r, zr_kill_u, zr_kill_f, zr_kill_n, zc_cat, zr_cat_i, zr_cat_l, zr_cat_r, zr_cat_f, zr_cat_d, zr_cat_u, beq_self_eq_true, Nat.zero_le, Nat.le_refl, Nat.reduceSub, Nat.reduceAdd, Nat.reduceLeDiff, csl_f, csr_f, cn_f, lg_cmp_eq, lg_cmp_le, lg_cmp_lt, lg_cmp_ge, lg_cmp_gt, nI_1, zr_up_self, zp_O, zr_fup_self, zr_fup_ne, ne_eq, Nat.reduceEqDiff, not_false_eq_true, pk_mul, ob_f, fa_f]
  exact hQ
theorem k_mso (v : mq h m E K L f R S b w P I) {c : Nat} (hc : c = 1 ∨ c = 2) (hQ : Q (.inl (some (.long (so c b w)))) h) : zr_E (d + 1) 161 [.ref m, .int (nI c)] h Q := by
  obtain ⟨a1, a2, a3⟩ := mq_e v (k := 11) (by omega)
  obtain ⟨-, b2, b3⟩ := mq_e v (k := 12) (by omega)
  rw [v.2.2.1.2.2.2.2.2.2.2.2.2.2.2.1] at a3
  rw [v.2.2.1.2.2.2.2.2.2.2.2.2.2.2.2.1] at b3
  rw [ze_161]
  rcases hc with e | e <;> subst e
  · have e1 : (11 : Int32) + nI 1 - 1 = nI 11 := by decide
    simp only [zs_161_0, zs_161_0u, zs_161_1, zs_161_4, zs_161_6, zs_161_7, zs_161_8, zs_161_9, zs_161_10, zs_161_11, zc_isO, zr_fld_mk, zc_isA, zc_len, zr_elt_mk, zr_kill_i, zr_kill_l, zr_kill_r, zr_kill_u, zr_kill_f, zr_kill_n, zc_cat, zr_cat_i, zr_cat_l, zr_cat_r, zr_cat_f, zr_cat_d, zr_cat_u, beq_self_eq_true, Nat.zero_le, Nat.le_refl, Nat.reduceSub, Nat.reduceAdd, Nat.reduceLeDiff, csl_f, csr_f, cn_f, lg_cmp_eq, lg_cmp_le, lg_cmp_lt, lg_cmp_ge, lg_cmp_gt, nI_1, zr_up_self, zp_O, zr_fup_self, zr_fup_ne, ne_eq, Nat.reduceEqDiff, not_false_eq_true, pk_mul, v.1, zy_I, zy_0, e1, a1, a2, a3]
    exact hQ
  · have e1 : (11 : Int32) + nI 2 - 1 = nI 12 := by decide
    simp only [zs_161_0, zs_161_0u, zs_161_1, zs_161_4, zs_161_6, zs_161_7, zs_161_8, zs_161_9, zs_161_10, zs_161_11, zc_isO, zr_fld_mk, zc_isA, zc_len, zr_elt_mk, zr_kill_i, zr_kill_l, zr_kill_r, zr_kill_u, zr_kill_f, zr_kill_n, zc_cat, zr_cat_i, zr_cat_l, zr_cat_r, zr_cat_f, zr_cat_d, zr_cat_u, beq_self_eq_true, Nat.zero_le, Nat.le_refl, Nat.reduceSub, Nat.reduceAdd, Nat.reduceLeDiff, csl_f, csr_f, cn_f, lg_cmp_eq, lg_cmp_le, lg_cmp_lt, lg_cmp_ge, lg_cmp_gt, nI_1, zr_up_self, zp_O, zr_fup_self, zr_fup_ne, ne_eq, Nat.reduceEqDiff, not_false_eq_true, pk_mul, v.1, zy_I, zy_0, e1, a1, b2, b3]
    exact hQ
theorem k_mbw (v : mq h m E K L f R S b w P I) : zr_isA (h (E 0)) 1 = true ∧ vp_in 11 (zr_len (h (E 0))) ∧ zr_elt (h (E 0)) (11 : Int32).toNatClampNeg = .long b ∧ vp_in 12 (zr_len (h (E 0))) ∧ zr_elt (h (E 0)) (12 : Int32).toNatClampNeg = .long w := by
  obtain ⟨a1, a2, a3⟩ := mq_e v (k := 11) (by omega)
  obtain ⟨-, b2, b3⟩ := mq_e v (k := 12) (by omega)
  rw [v.2.2.1.2.2.2.2.2.2.2.2.2.2.2.1] at a3
  rw [v.2.2.1.2.2.2.2.2.2.2.2.2.2.2.2.1] at b3
  exact ⟨a1, a2, a3, b2, b3⟩
theorem k_mem (v : mq h m E K L f R S b w P I) (hQ : Q (.inl (some (.long (em R S b w)))) h) : zr_E (d + 3) 162 [.ref m] h Q := by
  obtain ⟨a1, a2, a3, b2, b3⟩ := k_mbw v
  have e12 : (11 : Int32) + 1 = 12 := by decide
  rw [ze_162]
  simp only [zs_162_0, zs_162_0u, zs_162_1, zt_162_1, zs_162_4, zs_162_4u, zs_162_5, zs_162_8, zs_162_10, zs_162_11, zs_162_11u, zs_162_12, zs_162_15, zs_162_17, zs_162_18, zs_162_19, zs_162_22, zs_162_23, zs_162_24, zc_isO, zr_fld_mk, zc_isA, zc_len, zr_elt_mk, zr_kill_i, zr_kill_l, zr_kill_r, zr_kill_u, zr_kill_f, zr_kill_n, zc_cat, zr_cat_i, zr_cat_l, zr_cat_r, zr_cat_f, zr_cat_d, zr_cat_u, beq_self_eq_true, Nat.zero_le, Nat.le_refl, Nat.reduceSub, Nat.reduceAdd, Nat.reduceLeDiff, csl_f, csr_f, cn_f, lg_cmp_eq, lg_cmp_le, lg_cmp_lt, lg_cmp_ge, lg_cmp_gt, nI_1, zr_up_self, zp_O, zr_fup_self, zr_fup_ne, ne_eq, Nat.reduceEqDiff, not_false_eq_true, pk_mul, v.1, zy_I]
  refine k_mwh (d := d) v ?_
  simp only [zs_162_0, zs_162_0u, zs_162_1, zt_162_1, zs_162_4, zs_162_4u, zs_162_5, zs_162_8, zs_162_10, zs_162_11, zs_162_11u, zs_162_12, zs_162_15, zs_162_17, zs_162_18, zs_162_19, zs_162_22, zs_162_23, zs_162_24, zc_isO, zr_fld_mk, zc_isA, zc_len, zr_elt_mk, zr_kill_i, zr_kill_l, zr_kill_r, zr_kill_u, zr_kill_f, zr_kill_n, zc_cat, zr_cat_i, zr_cat_l, zr_cat_r, zr_cat_f, zr_cat_d, zr_cat_u, beq_self_eq_true, Nat.zero_le, Nat.le_refl, Nat.reduceSub, Nat.reduceAdd, Nat.reduceLeDiff, csl_f, csr_f, cn_f, lg_cmp_eq, lg_cmp_le, lg_cmp_lt, lg_cmp_ge, lg_cmp_gt, nI_1, zr_up_self, zp_O, zr_fup_self, zr_fup_ne, ne_eq, Nat.reduceEqDiff, not_false_eq_true, pk_mul, v.1, zy_I, zy_0, a1, a2, a3, b2, b3, e12]
  exact hQ
theorem k_mco (v : mq h m E K L f R S b w P I) {p : Nat} (hp : p < 64) (hQ : Q (.inl (some (.int (nI (co b w p))))) h) : zr_E (d + 2) 163 [.ref m, .int (nI p)] h Q := by
  obtain ⟨a1, a2, a3, b2, b3⟩ := k_mbw v
  have e12 : (11 : Int32) + 1 = 12 := by decide
  unfold co at hQ
  rw [ze_163]
  simp only [zs_163_0, zs_163_0u, zs_163_1, zs_163_4, zs_163_6, zs_163_7, zs_163_8, zt_163_8, zs_163_11, zs_163_14, zs_163_15, zs_163_18, zs_163_18u, zs_163_19, zs_163_22, zs_163_24, zs_163_25, zs_163_26, zt_163_26, zs_163_29, zs_163_32, zs_163_33, zs_163_36, zs_163_37, zc_isO, zr_fld_mk, zc_isA, zc_len, zr_elt_mk, zr_kill_i, zr_kill_l, zr_kill_r, zr_kill_u, zr_kill_f, zr_kill_n, zc_cat, zr_cat_i, zr_cat_l, zr_cat_r, zr_cat_f, zr_cat_d, zr_cat_u, beq_self_eq_true, Nat.zero_le, Nat.le_refl, Nat.reduceSub, Nat.reduceAdd, Nat.reduceLeDiff, csl_f, csr_f, cn_f, lg_cmp_eq, lg_cmp_le, lg_cmp_lt, lg_cmp_ge, lg_cmp_gt, nI_1, zr_up_self, zp_O, zr_fup_self, zr_fup_ne, ne_eq, Nat.reduceEqDiff, not_false_eq_true, pk_mul, v.1, zy_I, zy_0, a1, a2, a3]
  refine k_hasb (d := d) hp ?_
  cases z : tb b p
  · rw [z, if_neg (by decide)] at hQ
    simp only [zs_163_0, zs_163_0u, zs_163_1, zs_163_4, zs_163_6, zs_163_7, zs_163_8, zt_163_8, zs_163_11, zs_163_15, zs_163_18, zs_163_18u, zs_163_19, zs_163_22, zs_163_24, zs_163_25, zs_163_26, zt_163_26, zs_163_29, zs_163_32, zs_163_33, zs_163_36, zs_163_37, zc_isO, zr_fld_mk, zc_isA, zc_len, zr_elt_mk, zr_kill_i, zr_kill_l, zr_kill_r, zr_kill_u, zr_kill_f, zr_kill_n, zc_cat, zr_cat_i, zr_cat_l, zr_cat_r, zr_cat_f, zr_cat_d, zr_cat_u, beq_self_eq_true, Nat.zero_le, Nat.le_refl, Nat.reduceSub, Nat.reduceAdd, Nat.reduceLeDiff, csl_f, csr_f, cn_f, lg_cmp_eq, lg_cmp_le, lg_cmp_lt, lg_cmp_ge, lg_cmp_gt, nI_1, zr_up_self, zp_O, zr_fup_self, zr_fup_ne, ne_eq, Nat.reduceEqDiff, not_false_eq_true, pk_mul, bI_f, v.1, zy_I, zy_0, a1, b2, b3, e12]
    refine ⟨fun _ => ?_, fun y => absurd trivial y⟩
    refine k_hasb (d := d) hp ?_
    cases z2 : tb w p
    · rw [z2, if_neg (by decide)] at hQ
      simp only [zs_163_0, zs_163_0u, zs_163_1, zs_163_4, zs_163_6, zs_163_7, zs_163_8, zt_163_8, zs_163_11, zs_163_14, zs_163_15, zs_163_18, zs_163_18u, zs_163_19, zs_163_22, zs_163_24, zs_163_25, zs_163_26, zt_163_26, zs_163_29, zs_163_32, zs_163_33, zs_163_36, zs_163_37, zc_isO, zr_fld_mk, zc_isA, zc_len, zr_elt_mk, zr_kill_i, zr_kill_l, zr_kill_r, zr_kill_u, zr_kill_f, zr_kill_n, zc_cat, zr_cat_i, zr_cat_l, zr_cat_r, zr_cat_f, zr_cat_d, zr_cat_u, beq_self_eq_true, Nat.zero_le, Nat.le_refl, Nat.reduceSub, Nat.reduceAdd, Nat.reduceLeDiff, csl_f, csr_f, cn_f, lg_cmp_eq, lg_cmp_le, lg_cmp_lt, lg_cmp_ge, lg_cmp_gt, nI_1, zr_up_self, zp_O, zr_fup_self, zr_fup_ne, ne_eq, Nat.reduceEqDiff, not_false_eq_true, pk_mul, bI_f]
      exact ⟨fun _ => hQ, fun y => absurd trivial y⟩
    · rw [z2, if_pos rfl] at hQ
      simp only [zs_163_0, zs_163_0u, zs_163_1, zs_163_4, zs_163_6, zs_163_7, zs_163_8, zt_163_8, zs_163_11, zs_163_14, zs_163_15, zs_163_18, zs_163_18u, zs_163_19, zs_163_22, zs_163_24, zs_163_25, zs_163_26, zt_163_26, zs_163_29, zs_163_32, zs_163_33, zs_163_36, zs_163_37, zc_isO, zr_fld_mk, zc_isA, zc_len, zr_elt_mk, zr_kill_i, zr_kill_l, zr_kill_r, zr_kill_u, zr_kill_f, zr_kill_n, zc_cat, zr_cat_i, zr_cat_l, zr_cat_r, zr_cat_f, zr_cat_d, zr_cat_u, beq_self_eq_true, Nat.zero_le, Nat.le_refl, Nat.reduceSub, Nat.reduceAdd, Nat.reduceLeDiff, csl_f, csr_f, cn_f, lg_cmp_eq, lg_cmp_le, lg_cmp_lt, lg_cmp_ge, lg_cmp_gt, nI_1, zr_up_self, zp_O, zr_fup_self, zr_fup_ne, ne_eq, Nat.reduceEqDiff, not_false_eq_true, pk_mul, bI_t]
      exact ⟨fun y => absurd y (by decide), fun _ => hQ⟩
  · rw [z, if_pos rfl] at hQ
    simp only [zs_163_0, zs_163_0u, zs_163_1, zs_163_4, zs_163_6, zs_163_7, zs_163_8, zt_163_8, zs_163_11, zs_163_14, zs_163_15, zs_163_19, zs_163_22, zs_163_24, zs_163_25, zs_163_26, zt_163_26, zs_163_29, zs_163_32, zs_163_33, zs_163_36, zs_163_37, zc_isO, zr_fld_mk, zc_isA, zc_len, zr_elt_mk, zr_kill_i, zr_kill_l, zr_kill_r, zr_kill_u, zr_kill_f, zr_kill_n, zc_cat, zr_cat_i, zr_cat_l, zr_cat_r, zr_cat_f, zr_cat_d, zr_cat_u, beq_self_eq_true, Nat.zero_le, Nat.le_refl, Nat.reduceSub, Nat.reduceAdd, Nat.reduceLeDiff, csl_f, csr_f, cn_f, lg_cmp_eq, lg_cmp_le, lg_cmp_lt, lg_cmp_ge, lg_cmp_gt, nI_1, zr_up_self, zp_O, zr_fup_self, zr_fup_ne, ne_eq, Nat.reduceEqDiff, not_false_eq_true, pk_mul, bI_t]
    exact ⟨fun y => absurd y (by decide), fun _ => hQ⟩
theorem k_mabt (v : mq h m E K L f R S b w P I) {x : Int64} (hx : wi (R * S) x) (hQ : Q (.inl (some (.long (cAround R S x)))) h) : zr_E (d + 3) 156 [.ref m, .long x] h Q := by
  rw [ze_156]
  simp only [zs_156_0, zs_156_0u, zs_156_1, zs_156_4, zs_156_5, zt_156_5, zs_156_8, zc_isO, zr_fld_mk, zc_isA, zc_len, zr_elt_mk, zr_kill_i, zr_kill_l, zr_kill_r, zr_kill_u, zr_kill_f, zr_kill_n, zc_cat, zr_cat_i, zr_cat_l, zr_cat_r, zr_cat_f, zr_cat_d, zr_cat_u, beq_self_eq_true, Nat.zero_le, Nat.le_refl, Nat.reduceSub, Nat.reduceAdd, Nat.reduceLeDiff, csl_f, csr_f, cn_f, lg_cmp_eq, lg_cmp_le, lg_cmp_lt, lg_cmp_ge, lg_cmp_gt, nI_1, zr_up_self, zp_O, zr_fup_self, zr_fup_ne, ne_eq, Nat.reduceEqDiff, not_false_eq_true, pk_mul, v.1, zy_I, zy_0]
  refine k_mabo (d := d) (mq_rw v) hx ?_
  simp only [zs_156_0, zs_156_0u, zs_156_1, zs_156_4, zs_156_5, zt_156_5, zs_156_8, zc_isO, zr_fld_mk, zc_isA, zc_len, zr_elt_mk, zr_kill_i, zr_kill_l, zr_kill_r, zr_kill_u, zr_kill_f, zr_kill_n, zc_cat, zr_cat_i, zr_cat_l, zr_cat_r, zr_cat_f, zr_cat_d, zr_cat_u, beq_self_eq_true, Nat.zero_le, Nat.le_refl, Nat.reduceSub, Nat.reduceAdd, Nat.reduceLeDiff, csl_f, csr_f, cn_f, lg_cmp_eq, lg_cmp_le, lg_cmp_lt, lg_cmp_ge, lg_cmp_gt, nI_1, zr_up_self, zp_O, zr_fup_self, zr_fup_ne, ne_eq, Nat.reduceEqDiff, not_false_eq_true, pk_mul]
  exact hQ
theorem k_mspd (v : mq h m E K L f R S b w P I) {x : Int64} {p : Nat} (hx : wi (R * S) x) (hp : tb x p = true) (hQ : Q (.inl (some (.long (rc R S x (ob p))))) h) : zr_E (d + 4) 158 [.ref m, .long x, .int (nI p)] h Q := by
  rw [ze_158]
  simp only [zs_158_0, zs_158_0u, zs_158_1, zs_158_4, zs_158_5, zs_158_6, zt_158_6, zs_158_9, zc_isO, zr_fld_mk, zc_isA, zc_len, zr_elt_mk, zr_kill_i, zr_kill_l, zr_kill_r, zr_kill_u, zr_kill_f, zr_kill_n, zc_cat, zr_cat_i, zr_cat_l, zr_cat_r, zr_cat_f, zr_cat_d, zr_cat_u, beq_self_eq_true, Nat.zero_le, Nat.le_refl, Nat.reduceSub, Nat.reduceAdd, Nat.reduceLeDiff, csl_f, csr_f, cn_f, lg_cmp_eq, lg_cmp_le, lg_cmp_lt, lg_cmp_ge, lg_cmp_gt, nI_1, zr_up_self, zp_O, zr_fup_self, zr_fup_ne, ne_eq, Nat.reduceEqDiff, not_false_eq_true, pk_mul, v.1, zy_I, zy_0]
  refine k_mspr (d := d) (mq_rw v) hx hp ?_
  simp only [zs_158_0, zs_158_0u, zs_158_1, zs_158_4, zs_158_5, zs_158_6, zt_158_6, zs_158_9, zc_isO, zr_fld_mk, zc_isA, zc_len, zr_elt_mk, zr_kill_i, zr_kill_l, zr_kill_r, zr_kill_u, zr_kill_f, zr_kill_n, zc_cat, zr_cat_i, zr_cat_l, zr_cat_r, zr_cat_f, zr_cat_d, zr_cat_u, beq_self_eq_true, Nat.zero_le, Nat.le_refl, Nat.reduceSub, Nat.reduceAdd, Nat.reduceLeDiff, csl_f, csr_f, cn_f, lg_cmp_eq, lg_cmp_le, lg_cmp_lt, lg_cmp_ge, lg_cmp_gt, nI_1, zr_up_self, zp_O, zr_fup_self, zr_fup_ne, ne_eq, Nat.reduceEqDiff, not_false_eq_true, pk_mul]
  exact hQ
theorem so_co {p : Nat} (h : ¬ co b w p = 0) : tb (so (co b w p) b w) p = true ∧ (co b w p = 1 ∨ co b w p = 2) := by
  unfold co at h ⊢
  by_cases z : tb b p = true
  · rw [if_pos z]; exact ⟨z, Or.inl rfl⟩
  · rw [if_neg z] at h ⊢
    by_cases z2 : tb w p = true
    · rw [if_pos z2]; exact ⟨z2, Or.inr rfl⟩
    · rw [if_neg z2] at h; exact (h rfl).elim
theorem so_wi (hg : gI R S b w P I) (c : Nat) : wi (R * S) (so c b w) := by
  unfold so
  split
  · exact hg.2.1
  · exact hg.2.2.1
theorem k_mch (v : mq h m E K L f R S b w P I) {p : Nat} (hp : p < R * S) (hc : ¬ co b w p = 0) (hQ : Q (.inl (some (.long (ch R S b w p)))) h) : zr_E (d + 5) 164 [.ref m, .int (nI p)] h Q := by
  have hn := g_n v.2.2.2.1
  unfold ch at hQ
  rw [if_neg hc] at hQ
  rw [ze_164]
  simp only [zs_164_0, zs_164_0u, zs_164_1, zs_164_1u, zs_164_2, zs_164_2u, zs_164_3, zs_164_4, zt_164_4, zs_164_7, zt_164_7, zs_164_10, zs_164_11, zt_164_11, zs_164_14, zc_isO, zr_fld_mk, zc_isA, zc_len, zr_elt_mk, zr_kill_i, zr_kill_l, zr_kill_r, zr_kill_u, zr_kill_f, zr_kill_n, zc_cat, zr_cat_i, zr_cat_l, zr_cat_r, zr_cat_f, zr_cat_d, zr_cat_u, beq_self_eq_true, Nat.zero_le, Nat.le_refl, Nat.reduceSub, Nat.reduceAdd, Nat.reduceLeDiff, csl_f, csr_f, cn_f, lg_cmp_eq, lg_cmp_le, lg_cmp_lt, lg_cmp_ge, lg_cmp_gt, nI_1, zr_up_self, zp_O, zr_fup_self, zr_fup_ne, ne_eq, Nat.reduceEqDiff, not_false_eq_true, pk_mul, v.1, zy_I]
  refine k_mco (d := d + 2) v (by omega) ?_
  simp only [zs_164_0, zs_164_0u, zs_164_1, zs_164_1u, zs_164_2, zs_164_2u, zs_164_3, zs_164_4, zt_164_4, zs_164_7, zt_164_7, zs_164_10, zs_164_11, zt_164_11, zs_164_14, zc_isO, zr_fld_mk, zc_isA, zc_len, zr_elt_mk, zr_kill_i, zr_kill_l, zr_kill_r, zr_kill_u, zr_kill_f, zr_kill_n, zc_cat, zr_cat_i, zr_cat_l, zr_cat_r, zr_cat_f, zr_cat_d, zr_cat_u, beq_self_eq_true, Nat.zero_le, Nat.le_refl, Nat.reduceSub, Nat.reduceAdd, Nat.reduceLeDiff, csl_f, csr_f, cn_f, lg_cmp_eq, lg_cmp_le, lg_cmp_lt, lg_cmp_ge, lg_cmp_gt, nI_1, zr_up_self, zp_O, zr_fup_self, zr_fup_ne, ne_eq, Nat.reduceEqDiff, not_false_eq_true, pk_mul, v.1, zy_I]
  refine k_mso (d := d + 3) v (so_co hc).2 ?_
  simp only [zs_164_0, zs_164_0u, zs_164_1, zs_164_1u, zs_164_2, zs_164_2u, zs_164_3, zs_164_4, zt_164_4, zs_164_7, zt_164_7, zs_164_10, zs_164_11, zt_164_11, zs_164_14, zc_isO, zr_fld_mk, zc_isA, zc_len, zr_elt_mk, zr_kill_i, zr_kill_l, zr_kill_r, zr_kill_u, zr_kill_f, zr_kill_n, zc_cat, zr_cat_i, zr_cat_l, zr_cat_r, zr_cat_f, zr_cat_d, zr_cat_u, beq_self_eq_true, Nat.zero_le, Nat.le_refl, Nat.reduceSub, Nat.reduceAdd, Nat.reduceLeDiff, csl_f, csr_f, cn_f, lg_cmp_eq, lg_cmp_le, lg_cmp_lt, lg_cmp_ge, lg_cmp_gt, nI_1, zr_up_self, zp_O, zr_fup_self, zr_fup_ne, ne_eq, Nat.reduceEqDiff, not_false_eq_true, pk_mul, v.1, zy_I]
  refine k_mspd (d := d) v (so_wi v.2.2.2 _) (so_co hc).1 ?_
  simp only [zs_164_0, zs_164_0u, zs_164_1, zs_164_1u, zs_164_2, zs_164_2u, zs_164_3, zs_164_4, zt_164_4, zs_164_7, zt_164_7, zs_164_10, zs_164_11, zt_164_11, zs_164_14, zc_isO, zr_fld_mk, zc_isA, zc_len, zr_elt_mk, zr_kill_i, zr_kill_l, zr_kill_r, zr_kill_u, zr_kill_f, zr_kill_n, zc_cat, zr_cat_i, zr_cat_l, zr_cat_r, zr_cat_f, zr_cat_d, zr_cat_u, beq_self_eq_true, Nat.zero_le, Nat.le_refl, Nat.reduceSub, Nat.reduceAdd, Nat.reduceLeDiff, csl_f, csr_f, cn_f, lg_cmp_eq, lg_cmp_le, lg_cmp_lt, lg_cmp_ge, lg_cmp_gt, nI_1, zr_up_self, zp_O, zr_fup_self, zr_fup_ne, ne_eq, Nat.reduceEqDiff, not_false_eq_true, pk_mul]
  exact hQ
theorem ar_em (hg : vG R S) {x : Int64} (hx : wi (R * S) x) : cAround R S x &&& em R S b w = ff R S b w x := by
  have hn := g_n hg
  refine tb_ext (fun i hi => ?_)
  show tb (_ &&& (fa (R * S) &&& cn (b ||| w))) i = tb (cAround R S x &&& cn (b ||| w)) i
  rw [tb_and, tb_and, tb_and, tb_fa (by omega)]
  cases z : tb (cAround R S x) i
  · rw [Bool.false_and, Bool.false_and]
  · rw [decide_eq_true (vn_N (ar_vn hg) hx i z), Bool.true_and]
theorem k_mff (v : mq h m E K L f R S b w P I) {x : Int64} (hx : wi (R * S) x) (hQ : Q (.inl (some (.long (ff R S b w x)))) h) : zr_E (d + 4) 165 [.ref m, .long x] h Q := by
  rw [← ar_em v.2.2.2.1 hx] at hQ
  rw [ze_165]
  simp only [zs_165_0, zs_165_0u, zs_165_1, zs_165_2, zt_165_2, zs_165_5, zs_165_5u, zs_165_6, zt_165_6, zs_165_9, zs_165_10, zc_isO, zr_fld_mk, zc_isA, zc_len, zr_elt_mk, zr_kill_i, zr_kill_l, zr_kill_r, zr_kill_u, zr_kill_f, zr_kill_n, zc_cat, zr_cat_i, zr_cat_l, zr_cat_r, zr_cat_f, zr_cat_d, zr_cat_u, beq_self_eq_true, Nat.zero_le, Nat.le_refl, Nat.reduceSub, Nat.reduceAdd, Nat.reduceLeDiff, csl_f, csr_f, cn_f, lg_cmp_eq, lg_cmp_le, lg_cmp_lt, lg_cmp_ge, lg_cmp_gt, nI_1, zr_up_self, zp_O, zr_fup_self, zr_fup_ne, ne_eq, Nat.reduceEqDiff, not_false_eq_true, pk_mul, v.1, zy_I]
  refine k_mabt (d := d) v hx ?_
  simp only [zs_165_0, zs_165_0u, zs_165_1, zs_165_2, zt_165_2, zs_165_5, zs_165_5u, zs_165_6, zt_165_6, zs_165_9, zs_165_10, zc_isO, zr_fld_mk, zc_isA, zc_len, zr_elt_mk, zr_kill_i, zr_kill_l, zr_kill_r, zr_kill_u, zr_kill_f, zr_kill_n, zc_cat, zr_cat_i, zr_cat_l, zr_cat_r, zr_cat_f, zr_cat_d, zr_cat_u, beq_self_eq_true, Nat.zero_le, Nat.le_refl, Nat.reduceSub, Nat.reduceAdd, Nat.reduceLeDiff, csl_f, csr_f, cn_f, lg_cmp_eq, lg_cmp_le, lg_cmp_lt, lg_cmp_ge, lg_cmp_gt, nI_1, zr_up_self, zp_O, zr_fup_self, zr_fup_ne, ne_eq, Nat.reduceEqDiff, not_false_eq_true, pk_mul, v.1, zy_I]
  refine k_mem (d := d) v ?_
  simp only [zs_165_0, zs_165_0u, zs_165_1, zs_165_2, zt_165_2, zs_165_5, zs_165_5u, zs_165_6, zt_165_6, zs_165_9, zs_165_10, zc_isO, zr_fld_mk, zc_isA, zc_len, zr_elt_mk, zr_kill_i, zr_kill_l, zr_kill_r, zr_kill_u, zr_kill_f, zr_kill_n, zc_cat, zr_cat_i, zr_cat_l, zr_cat_r, zr_cat_f, zr_cat_d, zr_cat_u, beq_self_eq_true, Nat.zero_le, Nat.le_refl, Nat.reduceSub, Nat.reduceAdd, Nat.reduceLeDiff, csl_f, csr_f, cn_f, lg_cmp_eq, lg_cmp_le, lg_cmp_lt, lg_cmp_ge, lg_cmp_gt, nI_1, zr_up_self, zp_O, zr_fup_self, zr_fup_ne, ne_eq, Nat.reduceEqDiff, not_false_eq_true, pk_mul]
  exact hQ
theorem k_mth (v : mq h m E K L f R S b w P I) (hQ : Q (.inl (some (.int (K 6)))) h) : zr_E (d + 1) 123 [.ref m] h Q := by
  rw [ze_123]
  simp only [zs_123_0, zs_123_0u, zs_123_1, zs_123_4, zc_isO, zr_fld_mk, zc_isA, zc_len, zr_elt_mk, zr_kill_i, zr_kill_l, zr_kill_r, zr_kill_u, zr_kill_f, zr_kill_n, zc_cat, zr_cat_i, zr_cat_l, zr_cat_r, zr_cat_f, zr_cat_d, zr_cat_u, beq_self_eq_true, Nat.zero_le, Nat.le_refl, Nat.reduceSub, Nat.reduceAdd, Nat.reduceLeDiff, csl_f, csr_f, cn_f, lg_cmp_eq, lg_cmp_le, lg_cmp_lt, lg_cmp_ge, lg_cmp_gt, nI_1, zr_up_self, zp_O, zr_fup_self, zr_fup_ne, ne_eq, Nat.reduceEqDiff, not_false_eq_true, pk_mul, v.1, zy_I, zy_6]
  exact hQ
end MODEL
