/-! THE GRID: neighbours by numbers and by bits -/
def cFirst (S : Nat) : Nat → Int64
  | 0 => 0
  | k + 1 => cFirst S k ||| ob (S * k)
def cLast (R S : Nat) : Int64 := csl (cFirst S R) (nI (S - 1))
def cAround (R S : Nat) (x : Int64) : Int64 :=
  ((csl (x &&& cn (cLast R S)) 1 ||| csr (x &&& cLast R S) (nI (S - 1))) ||| (csr (x &&& cn (cFirst S R)) 1 ||| csl (x &&& cFirst S R) (nI (S - 1)))) ||| (csl x (nI S) &&& fa (R * S)) ||| csr x (nI S)
def vG (R S : Nat) : Prop := (1 ≤ R ∧ R ≤ 5) ∧ (3 ≤ S ∧ S ≤ 12)
/-- the place beside i in direction d -/
def bs (R S i : Nat) : Nat → Option Nat
  | 0 => some (if i % S + 1 = S then i + 1 - S else i + 1)
  | 1 => some (if i % S = 0 then i + S - 1 else i - 1)
  | 2 => if i + S < R * S then some (i + S) else none
  | _ => if S ≤ i then some (i - S) else none
theorem bs0 {R S i : Nat} : bs R S i 0 = some (if i % S + 1 = S then i + 1 - S else i + 1) := rfl
theorem bs1 {R S i : Nat} : bs R S i 1 = some (if i % S = 0 then i + S - 1 else i - 1) := rfl
theorem bs2 {R S i : Nat} : bs R S i 2 = if i + S < R * S then some (i + S) else none := rfl
theorem bs3 {R S i : Nat} : bs R S i 3 = if S ≤ i then some (i - S) else none := rfl
def ad (R S i j : Nat) : Bool := decide (i < R * S) && (bs R S i 0 == some j || bs R S i 1 == some j || bs R S i 2 == some j || bs R S i 3 == some j)
theorem g_F : ∀ R, R < 6 → ∀ S, S < 13 → 1 ≤ R → 3 ≤ S → ∀ i, i < 64 → tb (cFirst S R) i = decide (i < R * S ∧ i % S = 0) := by decide +kernel
theorem g_L : ∀ R, R < 6 → ∀ S, S < 13 → 1 ≤ R → 3 ≤ S → ∀ i, i < 64 → tb (cLast R S) i = decide (i < R * S ∧ i % S + 1 = S) := by decide +kernel
theorem g_in : ∀ R, R < 6 → ∀ S, S < 13 → 1 ≤ R → 3 ≤ S → ∀ i, i < R * S → ∀ d, d < 4 → ∀ j, bs R S i d = some j → j < R * S := by
  have h : ∀ R, R < 6 → ∀ S, S < 13 → 1 ≤ R → 3 ≤ S → ∀ i, i < R * S → (List.range 4).all (fun d => decide ((bs R S i d).getD 0 < R * S)) = true := by decide +kernel
  intro R hR S hS h1 h2 i hi d hd j hj
  have := of_decide_eq_true (List.all_eq_true.mp (h R hR S hS h1 h2 i hi) d (List.mem_range.mpr hd))
  rw [hj] at this
  exact this
theorem g_n {R S : Nat} (hg : vG R S) : R * S ≤ 60 := Nat.mul_le_mul hg.1.2 hg.2.2
theorem g_sy : ∀ R, R < 6 → ∀ S, S < 13 → 1 ≤ R → 3 ≤ S → ∀ i, i < R * S → (List.range 4).all (fun d => (bs R S i d).all (fun j => ad R S j i)) = true := by decide +kernel
theorem ad_bs {R S i j : Nat} : ad R S i j = true ↔ i < R * S ∧ ∃ d, d < 4 ∧ bs R S i d = some j := by
  unfold ad
  simp only [Bool.and_eq_true, Bool.or_eq_true, decide_eq_true_eq, beq_iff_eq]
  refine and_congr_right fun _ => ⟨?_, ?_⟩
  · rintro (((h | h) | h) | h)
    · exact ⟨0, by omega, h⟩
    · exact ⟨1, by omega, h⟩
    · exact ⟨2, by omega, h⟩
    · exact ⟨3, by omega, h⟩
  · rintro ⟨d, hd, h⟩
    match d, hd with
    | 0, _ => exact Or.inl (Or.inl (Or.inl h))
    | 1, _ => exact Or.inl (Or.inl (Or.inr h))
    | 2, _ => exact Or.inl (Or.inr h)
    | 3, _ => exact Or.inr h
theorem g_lt {R S : Nat} (hg : vG R S) : R < 6 ∧ S < 13 ∧ 1 ≤ R ∧ 3 ≤ S := ⟨by have := hg.1.2; omega, by have := hg.2.2; omega, hg.1.1, hg.2.1⟩
theorem ad_sy {R S : Nat} (hg : vG R S) (i j : Nat) (h : ad R S i j = true) : ad R S j i = true := by
  obtain ⟨a, b, c, e⟩ := g_lt hg
  obtain ⟨hi, d, hd, hj⟩ := ad_bs.mp h
  have := List.all_eq_true.mp (g_sy R a S b c e i hi) d (List.mem_range.mpr hd)
  rw [hj] at this
  exact this
theorem ad_lt {R S : Nat} (hg : vG R S) (i j : Nat) (h : ad R S i j = true) : i < R * S ∧ j < R * S := by
  obtain ⟨a, b, c, e⟩ := g_lt hg
  obtain ⟨hi, d, hd, hj⟩ := ad_bs.mp h
  exact ⟨hi, g_in R a S b c e i hi d hd j hj⟩
theorem nI_one : (1 : Int32) = nI 1 := rfl
theorem ar_tb {R S : Nat} (hg : vG R S) (x : Int64) (j : Nat) (hj : j < 64) : tb (cAround R S x) j =
    ((((decide (1 ≤ j) && (tb x (j - 1) && !tb (cLast R S) (j - 1))) || (tb x (S - 1 + j) && tb (cLast R S) (S - 1 + j))) ||
    ((tb x (1 + j) && tb (cn (cFirst S R)) (1 + j)) || (decide (S - 1 ≤ j) && (tb x (j - (S - 1)) && tb (cFirst S R) (j - (S - 1)))))) ||
    ((decide (S ≤ j) && tb x (j - S)) && decide (j < R * S)) || tb x (S + j)) := by
  obtain ⟨a, b, c, e⟩ := g_lt hg
  have := g_n hg
  unfold cAround
  rw [nI_one]
  simp only [tb_or, tb_and]
  rw [tb_csl _ (by omega : 1 < 64) hj, tb_csr _ (by omega : S - 1 < 64), tb_csr _ (by omega : 1 < 64), tb_csl _ (by omega : S - 1 < 64) hj, tb_csl _ (by omega : S < 64) hj, tb_csr _ (by omega : S < 64), tb_fa (by omega)]
  simp only [tb_and]
  rw [tb_cn _ (by omega : j - 1 < 64)]
theorem ar_vn {R S : Nat} (hg : vG R S) : vn (R * S) (ad R S) (cAround R S) := by
  obtain ⟨a, b, c, e⟩ := g_lt hg
  have hn := g_n hg
  refine ⟨by omega, fun x hx j => ?_, ad_sy hg, fun i j h => (ad_lt hg i j h).1⟩
  have hL : ∀ i, i < 64 → tb (cLast R S) i = decide (i < R * S ∧ i % S + 1 = S) := g_L R a S b c e
  have hF : ∀ i, i < 64 → tb (cFirst S R) i = decide (i < R * S ∧ i % S = 0) := g_F R a S b c e
  have hmod : ∀ i, i % S < S := fun i => Nat.mod_lt _ (by omega)
  refine ⟨fun h => ?_, fun ⟨i, hi, h⟩ => ?_⟩
  · have hj := tb_lt h
    rw [ar_tb hg x j hj] at h
    simp only [Bool.or_eq_true, Bool.and_eq_true, decide_eq_true_eq] at h
    rcases h with (((⟨h1, h2, h3⟩ | ⟨h2, h3⟩) | (⟨h2, h3⟩ | ⟨h1, h2, h3⟩)) | ⟨⟨h1, h2⟩, h3⟩) | h2
    · refine ⟨j - 1, h2, ad_bs.mpr ⟨hx _ h2, 0, by omega, ?_⟩⟩
      rw [hL _ (by omega), Bool.not_eq_true', decide_eq_false_iff_not] at h3
      have := hx _ h2
      rw [bs0]
      rw [if_neg (fun g => h3 ⟨this, g⟩)]
      congr 1
      omega
    · refine ⟨S - 1 + j, h2, ad_bs.mpr ⟨hx _ h2, 0, by omega, ?_⟩⟩
      rw [hL _ (tb_lt h2), decide_eq_true_eq] at h3
      rw [bs0]
      rw [if_pos h3.2]
      congr 1
      omega
    · refine ⟨1 + j, h2, ad_bs.mpr ⟨hx _ h2, 1, by omega, ?_⟩⟩
      rw [tb_cn _ (tb_lt h2), hF _ (tb_lt h2), Bool.not_eq_true', decide_eq_false_iff_not] at h3
      have := hx _ h2
      rw [bs1]
      rw [if_neg (fun g => h3 ⟨this, g⟩)]
      congr 1
      omega
    · refine ⟨j - (S - 1), h2, ad_bs.mpr ⟨hx _ h2, 1, by omega, ?_⟩⟩
      rw [hF _ (tb_lt h2), decide_eq_true_eq] at h3
      rw [bs1]
      rw [if_pos h3.2]
      congr 1
      omega
    · refine ⟨j - S, h2, ad_bs.mpr ⟨hx _ h2, 2, by omega, ?_⟩⟩
      rw [bs2]
      rw [if_pos (by omega)]
      congr 1
      omega
    · refine ⟨S + j, h2, ad_bs.mpr ⟨hx _ h2, 3, by omega, ?_⟩⟩
      rw [bs3]
      rw [if_pos (by omega)]
      congr 1
      omega
  · have hi64 := tb_lt hi
    have hjn := (ad_lt hg i j h).2
    obtain ⟨hin, d, hd, hb⟩ := ad_bs.mp h
    rw [ar_tb hg x j (by omega)]
    simp only [Bool.or_eq_true, Bool.and_eq_true, decide_eq_true_eq]
    match d, hd, hb with
    | 0, _, hb =>
      rw [bs0] at hb
      by_cases g : i % S + 1 = S
      · rw [if_pos g] at hb
        have hb := Option.some.inj hb
        have : S ≤ i + 1 := by have := Nat.mod_le i S; omega
        refine Or.inl (Or.inl (Or.inl (Or.inr ?_)))
        rw [show S - 1 + j = i by omega, hL i hi64]
        exact ⟨hi, decide_eq_true ⟨hin, g⟩⟩
      · rw [if_neg g] at hb
        have hb := Option.some.inj hb
        refine Or.inl (Or.inl (Or.inl (Or.inl ⟨by omega, ?_⟩)))
        rw [show j - 1 = i by omega, hL i hi64, Bool.not_eq_true', decide_eq_false_iff_not]
        exact ⟨hi, fun z => g z.2⟩
    | 1, _, hb =>
      rw [bs1] at hb
      by_cases g : i % S = 0
      · rw [if_pos g] at hb
        have hb := Option.some.inj hb
        refine Or.inl (Or.inl (Or.inr (Or.inr ⟨by omega, ?_⟩)))
        rw [show j - (S - 1) = i by omega, hF i hi64]
        exact ⟨hi, decide_eq_true ⟨hin, g⟩⟩
      · rw [if_neg g] at hb
        have hb := Option.some.inj hb
        have : 1 ≤ i := by rcases Nat.eq_zero_or_pos i with z | z
                           · subst z; exact (g (Nat.zero_mod S)).elim
                           · exact z
        refine Or.inl (Or.inl (Or.inr (Or.inl ?_)))
        rw [show 1 + j = i by omega, tb_cn _ hi64, hF i hi64, Bool.not_eq_true', decide_eq_false_iff_not]
        exact ⟨hi, fun z => g z.2⟩
    | 2, _, hb =>
      rw [bs2] at hb
      by_cases g : i + S < R * S
      · rw [if_pos g] at hb
        have hb := Option.some.inj hb
        refine Or.inl (Or.inr ⟨⟨by omega, ?_⟩, hjn⟩)
        rw [show j - S = i by omega]
        exact hi
      · rw [if_neg g] at hb; cases hb
    | 3, _, hb =>
      rw [bs3] at hb
      by_cases g : S ≤ i
      · rw [if_pos g] at hb
        have hb := Option.some.inj hb
        refine Or.inr ?_
        rw [show S + j = i by omega]
        exact hi
      · rw [if_neg g] at hb; cases hb
