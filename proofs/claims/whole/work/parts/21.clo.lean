/-! WHAT CAN BE REACHED: the least set that holds x and is closed within W -/
def cs (N : Int64 → Int64) (W x : Int64) : Int64 := x ||| (N x &&& W)
def it (N : Int64 → Int64) (W : Int64) : Nat → Int64 → Int64
  | 0, x => x
  | k + 1, x => cs N W (it N W k x)
def clo (N : Int64 → Int64) (W x : Int64) : Int64 := it N W 64 x
/-- a set within the first n places -/
def wi (n : Nat) (x : Int64) : Prop := ∀ i, tb x i = true → i < n
/-- N tells the neighbours by A on the first n places -/
def vn (n : Nat) (A : Nat → Nat → Bool) (N : Int64 → Int64) : Prop := n < 64 ∧ (∀ x, wi n x → ∀ j, tb (N x) j = true ↔ ∃ i, tb x i = true ∧ A i j = true) ∧ (∀ i j, A i j = true → A j i = true) ∧ (∀ i j, A i j = true → i < n)
section CLO
variable {n : Nat} {A : Nat → Nat → Bool} {N : Int64 → Int64} {W x y : Int64}
theorem wi_or (hx : wi n x) (hy : wi n y) : wi n (x ||| y) := fun i h => by
  rw [tb_or, Bool.or_eq_true] at h
  exact h.elim (hx i) (hy i)
theorem wi_l (hx : wi n x) : wi n (x &&& y) := fun i h => by
  rw [tb_and, Bool.and_eq_true] at h
  exact hx i h.1
theorem wi_r (hy : wi n y) : wi n (x &&& y) := fun i h => by
  rw [tb_and, Bool.and_eq_true] at h
  exact hy i h.2
theorem wi_0 : wi n 0 := fun i h => by rw [tb_0] at h; cases h
theorem wi_ob {p : Nat} (h : p < n) (hn : n < 64) : wi n (ob p) := fun i g => by
  rw [tb_ob (by omega) (tb_lt g), decide_eq_true_eq] at g
  omega
theorem vn_N (hv : vn n A N) : wi n x → wi n (N x) := fun hx j h => by
  obtain ⟨i, -, a⟩ := (hv.2.1 x hx j).mp h
  exact hv.2.2.2 j i (hv.2.2.1 i j a)
theorem cs_tb (i : Nat) : tb (cs N W x) i = (tb x i || (tb (N x) i && tb W i)) := by unfold cs; rw [tb_or, tb_and]
theorem cs_wi (hv : vn n A N) (hx : wi n x) : wi n (cs N W x) := wi_or hx (wi_l (vn_N hv hx))
theorem it_wi (hv : vn n A N) (hx : wi n x) (k : Nat) : wi n (it N W k x) := by
  induction k with
  | zero => exact hx
  | succ k ih => exact cs_wi hv ih
theorem it_fix {k : Nat} (h : cs N W (it N W k x) = it N W k x) {m : Nat} (hm : k ≤ m) : it N W m x = it N W k x := by
  induction m with
  | zero => rw [Nat.le_zero.mp hm]
  | succ m ih =>
    rcases Nat.lt_or_ge k (m + 1) with g | g
    · show cs N W (it N W m x) = _
      rw [ih (by omega), h]
    · rw [show k = m + 1 by omega]
theorem cs_ge {i : Nat} (h : tb x i = true) : tb (cs N W x) i = true := by rw [cs_tb, h, Bool.true_or]
theorem cs_grow (h : ¬ cs N W x = x) : ct x < ct (cs N W x) := by
  apply Classical.byContradiction
  intro g
  apply h
  apply tb_ext
  intro i hi
  cases e : tb x i
  · cases e2 : tb (cs N W x) i
    · rfl
    · exact (g (nb_lt (fun j => cs_ge) e e2 hi)).elim
  · exact cs_ge e
theorem it_grow (k : Nat) : cs N W (it N W k x) = it N W k x ∨ k + ct x ≤ ct (it N W k x) := by
  induction k with
  | zero => exact Or.inr (by rw [Nat.zero_add]; exact Nat.le_refl _)
  | succ k ih =>
    by_cases h : cs N W (it N W k x) = it N W k x
    · left
      show cs N W (cs N W (it N W k x)) = cs N W (it N W k x)
      rw [h, h]
    · right
      have := cs_grow h
      have := ih.resolve_left h
      show _ ≤ ct (cs N W (it N W k x))
      omega
theorem ct_wi (hn : n < 64) (hx : wi n x) : ct x ≤ n := by
  unfold ct
  rw [nb_hi hx (by omega)]
  exact nb_le x n
theorem vn_0 (hv : vn n A N) : N 0 = 0 := by
  rw [tb_eq0]
  intro j hj
  cases e : tb (N 0) j
  · rfl
  · obtain ⟨i, h, -⟩ := (hv.2.1 0 wi_0 j).mp e
    rw [tb_0] at h; cases h
theorem cs_0 (hv : vn n A N) : cs N W 0 = 0 := by
  unfold cs
  rw [vn_0 hv, tb_eq0]
  intro i hi
  rw [tb_or, tb_and, tb_0, Bool.false_and, Bool.or_self]
theorem it_n (hv : vn n A N) (hx : wi n x) : cs N W (it N W n x) = it N W n x := by
  rcases it_grow (N := N) (W := W) (x := x) n with h | h
  · exact h
  · have := ct_wi hv.1 (it_wi (W := W) hv hx n)
    have : x = 0 := ct_0.mp (by omega)
    subst this
    have : ∀ k, it N W k 0 = 0 := by
      intro k
      induction k with
      | zero => rfl
      | succ k ih => show cs N W (it N W k 0) = 0; rw [ih, cs_0 hv]
    rw [this, cs_0 hv]
theorem clo_n (hv : vn n A N) (hx : wi n x) : it N W n x = clo N W x := (it_fix (it_n hv hx) (by have := hv.1; omega)).symm
theorem clo_k {k : Nat} (hk : k ≤ 64) (h : cs N W (it N W k x) = it N W k x) : it N W k x = clo N W x := (it_fix h hk).symm
theorem clo_fix (hv : vn n A N) (hx : wi n x) : cs N W (clo N W x) = clo N W x := by
  rw [← clo_n hv hx]
  exact it_n hv hx
theorem clo_wi (hv : vn n A N) (hx : wi n x) : wi n (clo N W x) := it_wi hv hx 64
theorem clo_1 {i : Nat} (h : tb x i = true) : tb (clo N W x) i = true := by
  have : ∀ k, tb (it N W k x) i = true := by
    intro k
    induction k with
    | zero => exact h
    | succ k ih => exact cs_ge ih
  exact this 64
theorem clo_2 (hv : vn n A N) (hx : wi n x) {i j : Nat} (hi : tb (clo N W x) i = true) (ha : A i j = true) (hw : tb W j = true) : tb (clo N W x) j = true := by
  rw [← clo_fix hv hx, cs_tb, hw, (hv.2.1 _ (clo_wi hv hx) j).mpr ⟨i, hi, ha⟩, Bool.and_self, Bool.or_true]
theorem clo_3 (hv : vn n A N) (hx : wi n x) {T : Nat → Prop} (h0 : ∀ i, tb x i = true → T i) (hT : ∀ i j, T i → A i j = true → tb W j = true → T j) {j : Nat} (hj : tb (clo N W x) j = true) : T j := by
  have : ∀ k j, tb (it N W k x) j = true → T j := by
    intro k
    induction k with
    | zero => exact h0
    | succ k ih =>
      intro j hj
      have hj : tb (cs N W (it N W k x)) j = true := hj
      rw [cs_tb, Bool.or_eq_true, Bool.and_eq_true] at hj
      rcases hj with h | ⟨h, hw⟩
      · exact ih j h
      · obtain ⟨i, hi, ha⟩ := (hv.2.1 _ (it_wi hv hx k) j).mp h
        exact hT i j (ih i hi) ha hw
  exact this 64 j hj
theorem clo_in (hv : vn n A N) (hx : wi n x) (hw : ∀ i, tb x i = true → tb W i = true) {j : Nat} (h : tb (clo N W x) j = true) : tb W j = true :=
  clo_3 hv hx (T := fun j => tb W j = true) hw (fun _ _ _ _ h => h) h
/-- one seed is enough -/
theorem clo_one (hv : vn n A N) (hx : wi n x) {j : Nat} : tb (clo N W x) j = true ↔ ∃ i, tb x i = true ∧ tb (clo N W (ob i)) j = true := by
  refine ⟨fun h => ?_, fun ⟨i, hi, h⟩ => ?_⟩
  · refine clo_3 hv hx (T := fun j => ∃ i, tb x i = true ∧ tb (clo N W (ob i)) j = true) (fun i hi => ⟨i, hi, clo_1 ?_⟩) (fun i j h ha hw => ?_) h
    · rw [tb_ob (tb_lt hi) (tb_lt hi), decide_eq_true rfl]
    · obtain ⟨k, hk, h⟩ := h
      exact ⟨k, hk, clo_2 hv (wi_ob (hx k hk) hv.1) h ha hw⟩
  · refine clo_3 hv (wi_ob (hx i hi) hv.1) (T := fun j => tb (clo N W x) j = true) (fun k hk => ?_) (fun _ _ h ha hw => clo_2 hv hx h ha hw) h
    rw [tb_ob (tb_lt hi) (tb_lt hk), decide_eq_true_eq] at hk
    rw [hk]
    exact clo_1 hi
theorem clo_self {p : Nat} (hp : p < 64) : tb (clo N W (ob p)) p = true := clo_1 (by rw [tb_ob hp hp, decide_eq_true rfl])
theorem clo_ob_in (hv : vn n A N) {p j : Nat} (hp : p < n) (hw : tb W p = true) (h : tb (clo N W (ob p)) j = true) : tb W j = true := by
  refine clo_in hv (wi_ob hp hv.1) (fun i hi => ?_) h
  have := hv.1
  rw [tb_ob (by omega) (tb_lt hi), decide_eq_true_eq] at hi
  rw [hi]
  exact hw
theorem clo_sub (hv : vn n A N) {p q j : Nat} (hp : p < n) (h : tb (clo N W (ob p)) q = true) (hj : tb (clo N W (ob q)) j = true) : tb (clo N W (ob p)) j = true := by
  have hq : q < n := clo_wi hv (wi_ob hp hv.1) q h
  refine clo_3 hv (wi_ob hq hv.1) (T := fun j => tb (clo N W (ob p)) j = true) (fun k hk => ?_) (fun _ _ h ha hw => clo_2 hv (wi_ob hp hv.1) h ha hw) hj
  rw [tb_ob (tb_lt h) (tb_lt hk), decide_eq_true_eq] at hk
  rw [hk]
  exact h
theorem clo_sym (hv : vn n A N) {p q : Nat} (hp : p < n) (hw : tb W p = true) (h : tb (clo N W (ob p)) q = true) : tb (clo N W (ob q)) p = true := by
  have := hv.1
  refine (clo_3 hv (wi_ob hp hv.1) (T := fun j => (j < n ∧ tb W j = true) ∧ tb (clo N W (ob j)) p = true) (fun k hk => ?_) (fun i j h ha hj => ?_) h).2
  · rw [tb_ob (by omega) (tb_lt hk), decide_eq_true_eq] at hk
    rw [hk]
    exact ⟨⟨hp, hw⟩, clo_self (by omega)⟩
  · obtain ⟨⟨hi, hwi⟩, h⟩ := h
    have hjn : j < n := hv.2.2.2 j i (hv.2.2.1 i j ha)
    exact ⟨⟨hjn, hj⟩, clo_sub hv hjn (clo_2 hv (wi_ob hjn hv.1) (clo_self (by omega)) (hv.2.2.1 i j ha) hwi) h⟩
theorem clo_eq (hv : vn n A N) {p q : Nat} (hp : p < n) (hw : tb W p = true) (h : tb (clo N W (ob p)) q = true) : clo N W (ob q) = clo N W (ob p) := by
  have hq : q < n := clo_wi hv (wi_ob hp hv.1) q h
  apply tb_ext
  intro j hj
  rw [Bool.eq_iff_iff]
  exact ⟨clo_sub hv hp h, clo_sub hv hq (clo_sym hv hp hw h)⟩
/-- what is left of s when the groups of its first places are taken out; and which place is the first of its group -/
def rs (N : Int64 → Int64) (W s : Int64) : Nat → Int64
  | 0 => s
  | k + 1 => if tb (rs N W s k) k then rs N W s k &&& cn (clo N W (ob k)) else rs N W s k
def ld (N : Int64 → Int64) (W s : Int64) (k : Nat) : Bool := tb (rs N W s k) k
def cnt (P : Nat → Bool) : Nat → Nat
  | 0 => 0
  | k + 1 => cnt P k + if P k then 1 else 0
theorem cnt_s (P : Nat → Bool) (k : Nat) : cnt P (k + 1) = cnt P k + if P k then 1 else 0 := rfl
theorem nb_cnt (x : Int64) (k : Nat) : nb x k = cnt (tb x) k := by
  induction k with
  | zero => rfl
  | succ k ih => unfold nb cnt; rw [ih]
theorem cnt_le (P : Nat → Bool) (k : Nat) : cnt P k ≤ k := by
  induction k with
  | zero => exact Nat.le_refl _
  | succ k ih => unfold cnt; split <;> omega
theorem cnt_eq {P Q : Nat → Bool} {k : Nat} (h : ∀ i, i < k → P i = Q i) : cnt P k = cnt Q k := by
  induction k with
  | zero => rfl
  | succ k ih => unfold cnt; rw [ih (fun i hi => h i (by omega)), h k (by omega)]
/-- one taken out -/
theorem cnt_out {Q : Nat → Bool} {m j : Nat} (hj : j < m) (hq : Q j = true) : cnt (fun i => Q i && !(i == j)) m + 1 = cnt Q m := by
  induction m with
  | zero => omega
  | succ m ih =>
    unfold cnt
    rcases Nat.lt_or_ge j m with g | g
    · have := ih g
      have e : (m == j) = false := by rw [beq_eq_false_iff_ne]; omega
      simp only [e, Bool.not_false, Bool.and_true]
      omega
    · have e : m = j := by omega
      subst e
      rw [hq, cnt_eq (Q := Q) (fun i hi => by rw [show (i == m) = false by rw [beq_eq_false_iff_ne]; omega]; simp)]
      simp
theorem cnt_inj {P : Nat → Bool} {n : Nat} : ∀ {Q : Nat → Bool} {m : Nat} (f : Nat → Nat), (∀ i, i < n → P i = true → f i < m ∧ Q (f i) = true) → (∀ i j, i < n → j < n → P i = true → P j = true → f i = f j → i = j) → cnt P n ≤ cnt Q m := by
  induction n with
  | zero => intro Q m f h1 h2; exact Nat.zero_le _
  | succ n ih =>
    intro Q m f h1 h2
    rw [cnt_s]
    cases e : P n
    · have := ih (Q := Q) (m := m) f (fun i hi => h1 i (by omega)) (fun i j hi hj => h2 i j (by omega) (by omega))
      simp only [Bool.false_eq_true, if_false]
      omega
    · obtain ⟨a, b⟩ := h1 n (by omega) e
      have := cnt_out a b
      have := ih (Q := fun i => Q i && !(i == f n)) (m := m) f (fun i hi hp => by
        obtain ⟨c, d⟩ := h1 i (by omega) hp
        refine ⟨c, ?_⟩
        show (Q (f i) && !(f i == f n)) = true
        rw [d, Bool.true_and, Bool.not_eq_true', beq_eq_false_iff_ne]
        intro z
        have := h2 i n (by omega) (by omega) hp e z
        omega) (fun i j hi hj => h2 i j (by omega) (by omega))
      simp only [if_true]
      omega
theorem rs_tb (hv : vn n A N) {s : Int64} (hs : ∀ i, tb s i = true → tb W i = true) (hn : wi n s) (k : Nat) (j : Nat) : tb (rs N W s k) j = true ↔ tb s j = true ∧ ∀ q, q < k → tb s q = true → tb (clo N W (ob q)) j = false := by
  induction k generalizing j with
  | zero => exact ⟨fun h => ⟨h, fun q hq => by omega⟩, fun h => h.1⟩
  | succ k ih =>
    unfold rs
    by_cases e : tb (rs N W s k) k = true
    · rw [if_pos e]
      have ek := (ih k).mp e
      refine ⟨fun h => ?_, fun ⟨h1, h2⟩ => ?_⟩
      · have hj := tb_lt h
        rw [tb_and, Bool.and_eq_true, tb_cn _ hj, Bool.not_eq_true'] at h
        have h3 := (ih j).mp h.1
        refine ⟨h3.1, fun q hq hqs => ?_⟩
        rcases Nat.lt_or_ge q k with g | g
        · exact h3.2 q g hqs
        · rw [show q = k by omega]; exact h.2
      · have hj := tb_lt h1
        rw [tb_and, Bool.and_eq_true, tb_cn _ hj, Bool.not_eq_true']
        exact ⟨(ih j).mpr ⟨h1, fun q hq => h2 q (by omega)⟩, h2 k (by omega) ek.1⟩
    · rw [if_neg e]
      refine ⟨fun h => ?_, fun ⟨h1, h2⟩ => (ih j).mpr ⟨h1, fun q hq => h2 q (by omega)⟩⟩
      obtain ⟨h1, h2⟩ := (ih j).mp h
      refine ⟨h1, fun q hq hqs => ?_⟩
      rcases Nat.lt_or_ge q k with g | g
      · exact h2 q g hqs
      · have eq : q = k := by omega
        subst eq
        apply Classical.byContradiction
        intro z
        have z : tb (clo N W (ob q)) j = true := by cases e2 : tb (clo N W (ob q)) j; exact (z e2).elim; rfl
        apply e
        refine (ih q).mpr ⟨hqs, fun r hr hrs => ?_⟩
        cases e3 : tb (clo N W (ob r)) q
        · rfl
        · have := clo_eq hv (hn r hrs) (hs r hrs) e3
          rw [this] at z
          rw [h2 r hr hrs] at z
          cases z
theorem ld_tb (hv : vn n A N) {s : Int64} (hs : ∀ i, tb s i = true → tb W i = true) (hn : wi n s) (k : Nat) : ld N W s k = true ↔ tb s k = true ∧ ∀ q, q < k → tb s q = true → tb (clo N W (ob q)) k = false := rs_tb hv hs hn k k
end CLO
