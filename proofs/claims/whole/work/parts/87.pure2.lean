/-! GROUPS: counted by their first places, or by the first of some seeds -/
section PURE
variable {R S : Nat} {W X x t s b w : Int64} {i : Nat} {P : List (Int64 × Int64)} {I : Nat → Int32}
theorem ne0_of {x : Int64} {i : Nat} (h : tb x i = true) : ¬ x = 0 := fun e => by rw [e, tb_0] at h; cases h
theorem and_n0 {x y : Int64} : ¬ x &&& y = 0 ↔ ∃ i, tb x i = true ∧ tb y i = true := by
  constructor
  · intro h
    obtain ⟨i, _, hi⟩ := tb_ne0 h
    rw [tb_and, Bool.and_eq_true] at hi
    exact ⟨i, hi⟩
  · intro ⟨i, h1, h2⟩
    exact ne0_of (i := i) (by rw [tb_and, h1, h2]; rfl)
theorem lo_le {x : Int64} {i : Nat} (h : tb x i = true) : lo x ≤ i := by
  have := (lo_tb (ne0_of h)).2.1
  rcases Nat.lt_or_ge i (lo x) with g | g
  · rw [this i g] at h; cases h
  · exact g
theorem lo_in (hg : vG R S) (hin : i < R * S) (hi : tb W i = true) : tb (rc R S W (ob i)) (lo (rc R S W (ob i))) = true ∧ lo (rc R S W (ob i)) ≤ i ∧ tb W (lo (rc R S W (ob i))) = true ∧ rc R S W (ob (lo (rc R S W (ob i)))) = rc R S W (ob i) := by
  have h0 := rc_self (W := W) hg hin
  have h1 := (lo_tb (ne0_of h0)).1
  exact ⟨h1, lo_le h0, rc_in hg hin hi h1, rc_same hg hin hi h1⟩
theorem ld_lo (hg : vG R S) (hW : wi (R * S) W) {k : Nat} : ld (cAround R S) W W k = true ↔ tb W k = true ∧ lo (rc R S W (ob k)) = k := by
  rw [ld_tb (ar_vn hg) (fun i h => h) hW]
  constructor
  · intro ⟨h1, h2⟩
    refine ⟨h1, ?_⟩
    have hk := hW k h1
    obtain ⟨a1, a2, a3, a4⟩ := lo_in hg hk h1
    rcases Nat.lt_or_ge (lo (rc R S W (ob k))) k with g | g
    · have := h2 _ g a3
      change tb (rc R S W (ob (lo (rc R S W (ob k))))) k = false at this
      rw [a4, rc_self hg hk] at this
      cases this
    · omega
  · intro ⟨h1, h2⟩
    refine ⟨h1, fun q hq hqW => ?_⟩
    cases z : tb (clo (cAround R S) W (ob q)) k
    · rfl
    · have e := rc_same hg (hW q hqW) hqW z
      have := lo_le (rc_self (W := W) hg (hW q hqW))
      rw [← e, h2] at this
      omega
def grp (R S : Nat) (W s : Int64) (p : Nat) : Bool := tb W p && (decide (lo (rc R S W (ob p)) = p) && decide (¬ rc R S W (ob p) &&& s = 0))
theorem grp_iff {p : Nat} : grp R S W s p = true ↔ tb W p = true ∧ lo (rc R S W (ob p)) = p ∧ ¬ rc R S W (ob p) &&& s = 0 := by
  unfold grp
  rw [Bool.and_eq_true, Bool.and_eq_true, decide_eq_true_eq, decide_eq_true_eq]
theorem cnt_grp (hg : vG R S) (hW : wi (R * S) W) (hs : ∀ i, tb s i = true → tb W i = true) : cnt (ld (cAround R S) W s) (R * S) = cnt (grp R S W s) (R * S) := by
  have hsn : wi (R * S) s := fun i h => hW i (hs i h)
  have hl := fun k => ld_tb (ar_vn hg) hs hsn k
  refine Nat.le_antisymm ?_ ?_
  · refine cnt_inj (fun k => lo (rc R S W (ob k))) (fun k hk h => ?_) (fun k j hk hj h1 h2 e => ?_)
    · have h := (hl k).mp h
      obtain ⟨a1, a2, a3, a4⟩ := lo_in hg hk (hs k h.1)
      refine ⟨by omega, grp_iff.mpr ⟨a3, by rw [a4], ?_⟩⟩
      rw [a4]
      exact and_n0.mpr ⟨k, rc_self hg hk, h.1⟩
    · have h1 := (hl k).mp h1
      have h2 := (hl j).mp h2
      obtain ⟨a1, a2, a3, a4⟩ := lo_in hg hk (hs k h1.1)
      obtain ⟨b1, b2, b3, b4⟩ := lo_in hg hj (hs j h2.1)
      have e : lo (rc R S W (ob k)) = lo (rc R S W (ob j)) := e
      have same : rc R S W (ob k) = rc R S W (ob j) := by rw [← a4, ← b4, e]
      rcases Nat.lt_or_ge k j with g | g
      · have := h2.2 k g h1.1
        change tb (rc R S W (ob k)) j = false at this
        rw [same, rc_self hg hj] at this
        cases this
      · rcases Nat.lt_or_ge j k with g2 | g2
        · have := h1.2 j g2 h2.1
          change tb (rc R S W (ob j)) k = false at this
          rw [← same, rc_self hg hk] at this
          cases this
        · omega
  · refine cnt_inj (fun p => lo (rc R S W (ob p) &&& s)) (fun p hp h => ?_) (fun p j hp hj h1 h2 e => ?_)
    · obtain ⟨h1, h2, h3⟩ := grp_iff.mp h
      have c1 := (lo_tb h3).1
      have c2 := (lo_tb h3).2.1
      rw [tb_and, Bool.and_eq_true] at c1
      have same := rc_same hg hp h1 c1.1
      refine ⟨hsn _ c1.2, (hl _).mpr ⟨c1.2, fun q hq hqs => ?_⟩⟩
      cases z : tb (clo (cAround R S) W (ob q)) (lo (rc R S W (ob p) &&& s))
      · rfl
      · have e2 := rc_same hg (hsn q hqs) (hs q hqs) z
        have : tb (rc R S W (ob p) &&& s) q = true := by
          rw [tb_and, hqs, ← same, e2, rc_self hg (hsn q hqs)]; rfl
        rw [c2 q hq] at this
        cases this
    · obtain ⟨g1, g2, g3⟩ := grp_iff.mp h2
      obtain ⟨h1, h2, h3⟩ := grp_iff.mp h1
      have e : lo (rc R S W (ob p) &&& s) = lo (rc R S W (ob j) &&& s) := e
      have c1 := (lo_tb h3).1
      have c2 := (lo_tb g3).1
      rw [tb_and, Bool.and_eq_true] at c1 c2
      have s1 := rc_same hg hp h1 c1.1
      have s2 := rc_same hg hj g1 c2.1
      rw [← e, s1] at s2
      have := congrArg lo s2
      omega
/-- chains have freedoms -/
theorem ff_n0 (hg : gI R S b w P I) {p : Nat} (hp : p < R * S) (hc : ¬ co b w p = 0) : ¬ ff R S b w (ch R S b w p) = 0 := by
  have hg1 := hg.1
  obtain ⟨h1, h2⟩ := so_co hc
  have hk := hs_sk hg
  have hw := so_wi hg (co b w p)
  intro e
  unfold ch at e
  rw [if_neg hc, ← ar_em hg1 (rc_wi hg1 (wi_ob hp (by have := g_n hg1; omega)))] at e
  have := (sk_tb hg1 hw h1 (t := b ||| w)).mpr e
  have h0 : sk R S (so (co b w p) b w) (b ||| w) = 0 := by
    rcases h2 with z | z <;> rw [z]
    · exact hk.1
    · exact hk.2
  rw [h0, tb_0] at this
  cases this
/-- the colour of a place, told by the sets -/
theorem co_so (hg : gI R S b w P I) {p c : Nat} (hc : c = 1 ∨ c = 2) : co b w p = c ↔ tb (so c b w) p = true := by
  unfold co
  rcases hc with e | e <;> subst e
  · by_cases z : tb b p = true
    · rw [if_pos z]; exact ⟨fun _ => z, fun _ => rfl⟩
    · rw [if_neg z]
      refine ⟨fun h => ?_, fun h => absurd h z⟩
      split at h <;> omega
  · by_cases z : tb b p = true
    · rw [if_pos z]
      refine ⟨fun h => by omega, fun h => ?_⟩
      have := hg.2.2.2.1 p z
      have h : tb w p = true := h
      rw [this] at h; cases h
    · rw [if_neg z]
      by_cases z2 : tb w p = true
      · rw [if_pos z2]; exact ⟨fun _ => z2, fun _ => rfl⟩
      · rw [if_neg z2]; exact ⟨fun h => by omega, fun h => absurd h z2⟩
theorem co_em (hg : gI R S b w P I) {p : Nat} (hp : p < R * S) : co b w p = 0 ↔ tb (em R S b w) p = true := by
  unfold em
  rw [ab_tb hg.1, tb_or]
  unfold co
  cases tb b p <;> cases tb w p <;> simp [hp]
theorem em_wi' (hg : gI R S b w P I) : wi (R * S) (em R S b w) := ab_wi hg.1
/-- whose pool -/
theorem en_tb (hg : gI R S b w P I) {p : Nat} (hp : tb (em R S b w) p = true) : tb (en R S b w x) p = true ↔ ∃ j, tb (rc R S (em R S b w) (ob p)) j = true ∧ tb (cAround R S x) j = true := by
  have hn := em_wi' hg p hp
  unfold en
  rw [rc_meet hg.1 (wi_l (em_wi' hg)) (fun j h => by rw [tb_and, Bool.and_eq_true] at h; exact h.1) hp hn]
  constructor
  · intro ⟨j, h1, h2⟩
    rw [tb_and, Bool.and_eq_true] at h1
    exact ⟨j, h2, h1.2⟩
  · intro ⟨j, h1, h2⟩
    exact ⟨j, by rw [tb_and, rc_in hg.1 hn hp h1, h2]; rfl, h1⟩
theorem ar_meet (hg : vG R S) {x y : Int64} (hx : wi (R * S) x) (hy : wi (R * S) y) : (cAround R S x &&& y = 0) ↔ (cAround R S y &&& x = 0) := by
  have key : ∀ {x y : Int64}, wi (R * S) x → wi (R * S) y → ¬ (cAround R S x &&& y = 0) → ¬ (cAround R S y &&& x = 0) := by
    intro x y hx hy h
    obtain ⟨e, h1, h2⟩ := and_n0.mp h
    obtain ⟨j, h3, h4⟩ := (ar_iff hg hx e).mp h1
    exact and_n0.mpr ⟨j, (ar_iff hg hy j).mpr ⟨e, h2, ad_sy hg j e h4⟩, h3⟩
  constructor
  · intro h; exact Classical.byContradiction (fun g => key hy hx g h)
  · intro h; exact Classical.byContradiction (fun g => key hx hy g h)
theorem op_tb (hg : gI R S b w P I) {p o : Nat} (ho : o < 4) (hp : tb (em R S b w) p = true) : tb (op R S b w o) p = true ↔ ow R S b w (rc R S (em R S b w) (ob p)) = o := by
  have hn := em_wi' hg p hp
  have h60 := g_n hg.1
  have hr : wi (R * S) (rc R S (em R S b w) (ob p)) := rc_wi hg.1 (wi_ob hn (by omega))
  have key : ∀ y, wi (R * S) y → (tb (en R S b w y) p = true ↔ ¬ cAround R S (rc R S (em R S b w) (ob p)) &&& y = 0) := fun y hy => by
    rw [en_tb hg hp, ar_meet hg.1 hr hy, and_n0]
    exact ⟨fun ⟨j, a, c⟩ => ⟨j, c, a⟩, fun ⟨j, a, c⟩ => ⟨j, c, a⟩⟩
  have kb := key b hg.2.1
  have kw := key w hg.2.2.1
  unfold op ow
  rw [tb_and, tb_and, hp, Bool.true_and]
  have oo : o = 0 ∨ o = 1 ∨ o = 2 ∨ o = 3 := by omega
  have e1 : ∀ y, tb (if o % 2 = 0 then cn y else y) p = if o % 2 = 0 then !tb y p else tb y p := fun y => by
    split
    · exact tb_cn y (by omega)
    · rfl
  have e2 : ∀ y, tb (if o / 2 % 2 = 0 then cn y else y) p = if o / 2 % 2 = 0 then !tb y p else tb y p := fun y => by
    split
    · exact tb_cn y (by omega)
    · rfl
  rw [e1, e2]
  by_cases zb : cAround R S (rc R S (em R S b w) (ob p)) &&& b = 0
  · have tbf : tb (en R S b w b) p = false := by cases z : tb (en R S b w b) p; rfl; exact absurd zb (kb.mp z)
    by_cases zw : cAround R S (rc R S (em R S b w) (ob p)) &&& w = 0
    · have twf : tb (en R S b w w) p = false := by cases z : tb (en R S b w w) p; rfl; exact absurd zw (kw.mp z)
      rw [if_pos zb, if_pos zw, tbf, twf]
      rcases oo with e | e | e | e <;> subst e <;> decide
    · rw [if_pos zb, if_neg zw, tbf, kw.mpr zw]
      rcases oo with e | e | e | e <;> subst e <;> decide
  · by_cases zw : cAround R S (rc R S (em R S b w) (ob p)) &&& w = 0
    · have twf : tb (en R S b w w) p = false := by cases z : tb (en R S b w w) p; rfl; exact absurd zw (kw.mp z)
      rw [if_neg zb, if_pos zw, kb.mpr zb, twf]
      rcases oo with e | e | e | e <;> subst e <;> decide
    · rw [if_neg zb, if_neg zw, kb.mpr zb, kw.mpr zw]
      rcases oo with e | e | e | e <;> subst e <;> decide
theorem op_em {o : Nat} {p : Nat} (h : tb (op R S b w o) p = true) : tb (em R S b w) p = true := by
  unfold op at h
  rw [tb_and, tb_and, Bool.and_eq_true, Bool.and_eq_true] at h
  exact h.1.1
theorem po_rc (hg : gI R S b w P I) {p : Nat} (hp : tb (em R S b w) p = true) : po R S b w p = rc R S (em R S b w) (ob p) := by
  unfold po
  rw [if_pos ((co_em hg (em_wi' hg p hp)).mpr hp)]
end PURE
