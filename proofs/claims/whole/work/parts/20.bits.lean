/-! SETS OF PLACES AS LONGS: their bits -/
theorem zc_cat : zr_cat [] = 0 := id rfl
theorem zc_isO (k : Nat) (V : Nat → Value) (ci : Nat) : zr_isO (some (.inl (k, V))) ci = (k == ci) := id rfl
theorem zc_isA (k n : Nat) (f : Nat → Value) (t : Nat) : zr_isA (some (.inr (k, n, f))) t = (k == t) := id rfl
theorem zc_len (k n : Nat) (f : Nat → Value) : zr_len (some (.inr (k, n, f))) = n := id rfl
theorem zp_O {h : zr_H} {q ci k : Nat} {V : Nat → Value} {v : Value} : zr_putO (zr_up h q (.inl (ci, V))) q k v = zr_up h q (.inl (ci, zr_fup V k v)) := by
  rw [zr_putO_mk (zr_up_self h q _), zr_up_up]
theorem zp_A {h : zr_H} {q t n i : Nat} {f : Nat → Value} {v : Value} : zr_putA (zr_up h q (.inr (t, n, f))) q i v = zr_up h q (.inr (t, n, zr_fup f i v)) := by
  rw [zr_putA_mk (zr_up_self h q _), zr_up_up]
def dv (ci k : Nat) : Value := defaultValue (zr_ft ci k)
def cn (x : Int64) : Int64 := x ^^^ (-1)
def csl (x : Int64) (k : Int32) : Int64 := x <<< (k.toInt64 &&& 63)
def csr (x : Int64) (k : Int32) : Int64 := (x.toUInt64 >>> (k.toInt64.toUInt64 &&& Int64.toUInt64 63)).toInt64
theorem cn_f (x : Int64) : x ^^^ (-1) = cn x := rfl
theorem csl_f (x : Int64) (k : Int32) : x <<< (k.toInt64 &&& 63) = csl x k := rfl
theorem csr_f (x : Int64) (k : Int32) : (x.toUInt64 >>> (k.toInt64.toUInt64 &&& Int64.toUInt64 63)).toInt64 = csr x k := rfl
def tb (x : Int64) (i : Nat) : Bool := x.toBitVec.getLsbD i
theorem tb_ext {x y : Int64} (h : ∀ i, i < 64 → tb x i = tb y i) : x = y := Int64.toBitVec_inj.mp (BitVec.eq_of_getLsbD_eq (fun i hi => h i hi))
theorem tb_big {x : Int64} {i : Nat} (h : 64 ≤ i) : tb x i = false := BitVec.getLsbD_of_ge _ _ h
theorem tb_lt {x : Int64} {i : Nat} (h : tb x i = true) : i < 64 := by
  rcases Nat.lt_or_ge i 64 with g | g
  · exact g
  · rw [tb_big g] at h; cases h
theorem tb_or (x y : Int64) (i : Nat) : tb (x ||| y) i = (tb x i || tb y i) := by unfold tb; rw [Int64.toBitVec_or, BitVec.getLsbD_or]
theorem tb_and (x y : Int64) (i : Nat) : tb (x &&& y) i = (tb x i && tb y i) := by unfold tb; rw [Int64.toBitVec_and, BitVec.getLsbD_and]
theorem tb_xor (x y : Int64) (i : Nat) : tb (x ^^^ y) i = (tb x i ^^ tb y i) := by unfold tb; rw [Int64.toBitVec_xor, BitVec.getLsbD_xor]
theorem tb_0 (i : Nat) : tb 0 i = false := BitVec.getLsbD_zero
theorem tb_m1 : ∀ i, i < 64 → tb (-1) i = true := by decide +kernel
theorem tb_cn (x : Int64) {i : Nat} (h : i < 64) : tb (cn x) i = !tb x i := by
  unfold cn
  rw [tb_xor, tb_m1 i h, Bool.xor_true]
theorem tb_sl : ∀ k, k < 64 → (((nI k).toInt64 &&& 63).toBitVec.smod 64).toNat = k := by decide +kernel
theorem tb_su : ∀ k, k < 64 → (((nI k).toInt64.toUInt64 &&& Int64.toUInt64 63).toBitVec % 64).toNat = k := by decide +kernel
theorem tb_csl (x : Int64) {k i : Nat} (hk : k < 64) (hi : i < 64) : tb (csl x (nI k)) i = (decide (k ≤ i) && tb x (i - k)) := by
  unfold tb csl
  rw [Int64.toBitVec_shiftLeft]
  show (x.toBitVec <<< (((nI k).toInt64 &&& 63).toBitVec.smod 64).toNat).getLsbD i = _
  rw [tb_sl k hk, BitVec.getLsbD_shiftLeft]
  rcases Nat.lt_or_ge i k with h | h
  · simp [h, Nat.not_le.mpr h]
  · simp [hi, h, Nat.not_lt.mpr h]
theorem tb_csr (x : Int64) {k : Nat} (hk : k < 64) (i : Nat) : tb (csr x (nI k)) i = tb x (k + i) := by
  show (x.toUInt64 >>> ((nI k).toInt64.toUInt64 &&& Int64.toUInt64 63)).toBitVec.getLsbD i = x.toUInt64.toBitVec.getLsbD (k + i)
  rw [UInt64.toBitVec_shiftRight]
  show (x.toUInt64.toBitVec >>> (((nI k).toInt64.toUInt64 &&& Int64.toUInt64 63).toBitVec % 64).toNat).getLsbD i = _
  rw [tb_su k hk, BitVec.getLsbD_ushiftRight]
def ob (p : Nat) : Int64 := csl 1 (nI p)
theorem tb_1 : ∀ i, i < 64 → tb 1 i = decide (i = 0) := by decide +kernel
theorem tb_ob {p i : Nat} (hp : p < 64) (hi : i < 64) : tb (ob p) i = decide (i = p) := by
  unfold ob
  rw [tb_csl 1 hp hi]
  rcases Nat.lt_or_ge i p with h | h
  · rw [decide_eq_false (by omega : ¬ p ≤ i), decide_eq_false (by omega : ¬ i = p), Bool.false_and]
  · rw [decide_eq_true h, tb_1 _ (by omega), Bool.true_and]
    by_cases e : i = p
    · rw [decide_eq_true e, decide_eq_true (by omega)]
    · rw [decide_eq_false e, decide_eq_false (by omega)]
def fa (n : Nat) : Int64 := ob n - 1
theorem tb_fa_ : ∀ n, n < 64 → ∀ i, i < 64 → tb (fa n) i = decide (i < n) := by decide +kernel
theorem tb_fa {n i : Nat} (hn : n < 64) : tb (fa n) i = decide (i < n) := by
  rcases Nat.lt_or_ge i 64 with g | g
  · exact tb_fa_ n hn i g
  · rw [tb_big g, decide_eq_false (by omega)]
theorem tb_eq0 {x : Int64} : x = 0 ↔ ∀ i, i < 64 → tb x i = false := ⟨fun h i _ => by rw [h, tb_0], fun h => tb_ext (fun i hi => by rw [h i hi, tb_0])⟩
theorem tb_ne0 {x : Int64} (h : ¬ x = 0) : ∃ i, i < 64 ∧ tb x i = true := by
  apply Classical.byContradiction
  intro g
  apply h
  rw [tb_eq0]
  intro i hi
  cases e : tb x i
  · rfl
  · exact (g ⟨i, hi, e⟩).elim
/-- a place in a set: the test that class and model make -/
theorem tb_in {x : Int64} {p : Nat} (hp : p < 64) : (x &&& ob p = 0) ↔ tb x p = false := by
  rw [tb_eq0]
  refine ⟨fun h => ?_, fun h i hi => ?_⟩
  · have := h p hp
    rw [tb_and, tb_ob hp hp, decide_eq_true rfl, Bool.and_true] at this
    exact this
  · rw [tb_and, tb_ob hp hi]
    by_cases e : i = p
    · rw [e, h, Bool.false_and]
    · rw [decide_eq_false e, Bool.and_false]
theorem tb_has {x : Int64} {p : Nat} (hp : p < 64) : (csr x (nI p) &&& 1 = 1) ↔ tb x p = true := by
  have e : csr x (nI p) &&& 1 = if tb x p then 1 else 0 := by
    apply tb_ext
    intro i hi
    rw [tb_and, tb_csr x hp, tb_1 i hi]
    by_cases e : i = 0
    · rw [e, decide_eq_true rfl, Bool.and_true, Nat.add_zero]
      cases tb x p
      · exact (tb_0 0).symm
      · exact ((tb_1 0 (by omega)).trans (decide_eq_true rfl)).symm
    · rw [decide_eq_false e, Bool.and_false]
      cases tb x p
      · exact (tb_0 i).symm
      · exact ((tb_1 i hi).trans (decide_eq_false e)).symm
  rw [e]
  cases tb x p
  · exact ⟨fun h => absurd h (by decide), fun h => by cases h⟩
  · exact ⟨fun _ => rfl, fun _ => rfl⟩
/-- the number of a set's places -/
def nb (x : Int64) : Nat → Nat
  | 0 => 0
  | k + 1 => nb x k + if tb x k then 1 else 0
def ct (x : Int64) : Nat := nb x 64
theorem nb_le (x : Int64) (k : Nat) : nb x k ≤ k := by
  induction k with
  | zero => exact Nat.le_refl _
  | succ k ih => unfold nb; split <;> omega
theorem nb_mono {x y : Int64} (h : ∀ i, tb x i = true → tb y i = true) (k : Nat) : nb x k ≤ nb y k := by
  induction k with
  | zero => exact Nat.le_refl _
  | succ k ih =>
    unfold nb
    cases e : tb x k
    · simp only [Bool.false_eq_true, if_false]; split <;> omega
    · rw [h k e]; simp only [if_true]; omega
theorem nb_lt {x y : Int64} (h : ∀ i, tb x i = true → tb y i = true) {j : Nat} (hx : tb x j = false) (hy : tb y j = true) {k : Nat} (hk : j < k) : nb x k < nb y k := by
  induction k with
  | zero => omega
  | succ k ih =>
    unfold nb
    rcases Nat.lt_or_ge j k with g | g
    · have := ih g
      cases e : tb x k
      · simp only [Bool.false_eq_true, if_false]; split <;> omega
      · rw [h k e]; simp only [if_true]; omega
    · have e : j = k := by omega
      subst e
      rw [hx, hy]
      have := nb_mono h j
      simp only [Bool.false_eq_true, if_false, if_true]
      omega
theorem nb_eq {x y : Int64} {k : Nat} (h : ∀ i, i < k → tb x i = tb y i) : nb x k = nb y k := by
  induction k with
  | zero => rfl
  | succ k ih => unfold nb; rw [ih (fun i hi => h i (by omega)), h k (by omega)]
theorem nb_hi {x : Int64} {n k : Nat} (h : ∀ i, tb x i = true → i < n) (hk : n ≤ k) : nb x k = nb x n := by
  induction k with
  | zero => rw [Nat.le_zero.mp hk]
  | succ k ih =>
    rcases Nat.lt_or_ge n (k + 1) with g | g
    · unfold nb
      rw [ih (by omega)]
      cases e : tb x k
      · rw [if_neg (by simp)]
        cases n <;> rfl
      · have := h k e; omega
    · rw [show n = k + 1 by omega]
theorem nb_zero {x : Int64} {k : Nat} (h : nb x k = 0) : ∀ i, i < k → tb x i = false := by
  induction k with
  | zero => intro i hi; omega
  | succ k ih =>
    unfold nb at h
    intro i hi
    have h0 : nb x k = 0 := by omega
    rcases Nat.lt_or_ge i k with g | g
    · exact ih h0 i g
    · rw [show i = k by omega]
      cases e : tb x k
      · rfl
      · rw [e] at h; simp at h
theorem ct_0 {x : Int64} : ct x = 0 ↔ x = 0 := by
  refine ⟨fun h => tb_eq0.mpr (nb_zero h), fun h => ?_⟩
  subst h
  decide +kernel
theorem ct_le (x : Int64) : ct x ≤ 64 := nb_le x 64
