section FACE
variable {d : Nat} {h : zr_H} {Q : zr_K} {x ea sl rd wr : Nat} {u l : Int32} {q : Nat}
/-- bytes written -/
def aB (h : zr_H) (q n : Nat) (f : Nat → Int32) : Prop := ∃ F, h q = some (.inr (2, n, F)) ∧ ∀ k, k < n → F k = .int (f k)
theorem aB_isA {h : zr_H} {q n : Nat} {f : Nat → Int32} (a : aB h q n f) : zr_isA (h q) 2 = true := by obtain ⟨F, h1, -⟩ := a; rw [h1]; rfl
theorem aB_in {h : zr_H} {q n k : Nat} {f : Nat → Int32} (a : aB h q n f) (hk : k < n) (hn : n < 2 ^ 31) : vp_in (nI k) (zr_len (h q)) := by obtain ⟨F, h1, -⟩ := a; rw [h1]; exact vp_in_nI hk hn
theorem aB_elt {h : zr_H} {q n k : Nat} {f : Nat → Int32} (a : aB h q n f) (hk : k < n) (hn : n < 2 ^ 31) : zr_elt (h q) (nI k).toNatClampNeg = .int (f k) := by
  obtain ⟨F, h1, h2⟩ := a
  rw [h1, nI_clamp (by omega)]
  exact h2 k hk
def rxByte (f : Nat → Int32) (n : Nat) (y : Int32) : Int32 ⊕ Nat := match plq n y with
  | none => .inr 2
  | some k => .inl (f k)
theorem k_byte {f : Nat → Int32} {n : Nat} (hn : n ≤ 12) (hX : h x = some (zxs q ea sl rd wr u (nI n))) (a : aB h wr 12 f) {y : Int32} (hQ : Q (oc (rxByte f n y)) h) : zr_E (d + 1) 106 [.ref x, .int y] h Q := by
  unfold rxByte at hQ
  rw [ze_106]
  by_cases e : ∃ k, k < n ∧ y = nI k
  · obtain ⟨k, hk, e⟩ := e
    subst e
    rw [plq_s hk (by omega)] at hQ
    have a1 := aB_isA a
    have a2 := aB_in a (k := k) (by omega) (by omega)
    have a3 := aB_elt a (k := k) (by omega) (by omega)
    simp only [zs_106_0, zs_106_1, zs_106_4, zs_106_5, zs_106_5u, zs_106_6, zs_106_9, zs_106_12, zs_106_13, zs_106_15, zs_106_29, zs_106_29u, zs_106_30, zs_106_33, zs_106_34, zs_106_34_3, zs_106_34_22, zs_106_35, zc_isO, zr_fld_mk, zc_isA, zc_len, zr_elt_mk, zr_kill_i, zr_kill_l, zr_kill_r, zr_kill_u, zr_kill_f, zr_kill_n, zc_cat, zr_cat_i, zr_cat_l, zr_cat_r, zr_cat_f, zr_cat_d, zr_cat_u, beq_self_eq_true, Nat.zero_le, Nat.le_refl, Nat.reduceSub, Nat.reduceAdd, Nat.reduceLeDiff, csl_f, csr_f, cn_f, lg_cmp_eq, lg_cmp_le, lg_cmp_lt, lg_cmp_ge, lg_cmp_gt, nI_1, zr_up_self, zp_O, zr_fup_self, zr_fup_ne, ne_eq, Nat.reduceEqDiff, not_false_eq_true, pk_mul, hX, zx_I, zx_4, zx_6, a1, a2, a3]
    refine ⟨fun z => absurd z (nI_pos (by omega)), fun _ => ⟨fun z => absurd z (nI_ge hk (by omega)), fun _ => ⟨fun _ => hQ, fun z => absurd (nI_lt (b := 12) (by omega) (by omega)) z⟩⟩⟩
  · rw [plq_n (by omega) (fun k hk f => e ⟨k, hk, f⟩)] at hQ
    have no : zr_Z d 106 Q 18 [some (.ref x), some (.int y)] [] h 1 6 := zs_106_18 (by decide) (by decide) (by rw [zr_cat_0]; decide) hQ
    by_cases z : y < 0
    · rw [zs_106_0, zs_106_1]
      exact ⟨fun _ => no, fun f => absurd z f⟩
    · obtain ⟨j, hj, ej⟩ := nI_of z
      subst ej
      have : n ≤ j := by
        rcases Nat.lt_or_ge j n with q | q
        · exact (e ⟨j, q, rfl⟩).elim
        · exact q
      have z2 : nI n ≤ nI j := nI_le this hj
      rw [zs_106_0, zs_106_1]
      refine ⟨fun f => absurd f z, fun _ => ?_⟩
      simp only [zs_106_0, zs_106_1, zs_106_4, zs_106_5, zs_106_5u, zs_106_6, zs_106_9, zs_106_13, zs_106_15, zs_106_29, zs_106_29u, zs_106_30, zs_106_33, zs_106_34, zs_106_34_3, zs_106_34_22, zs_106_35, zc_isO, zr_fld_mk, zc_isA, zc_len, zr_elt_mk, zr_kill_i, zr_kill_l, zr_kill_r, zr_kill_u, zr_kill_f, zr_kill_n, zc_cat, zr_cat_i, zr_cat_l, zr_cat_r, zr_cat_f, zr_cat_d, zr_cat_u, beq_self_eq_true, Nat.zero_le, Nat.le_refl, Nat.reduceSub, Nat.reduceAdd, Nat.reduceLeDiff, csl_f, csr_f, cn_f, lg_cmp_eq, lg_cmp_le, lg_cmp_lt, lg_cmp_ge, lg_cmp_gt, nI_1, zr_up_self, zp_O, zr_fup_self, zr_fup_ne, ne_eq, Nat.reduceEqDiff, not_false_eq_true, pk_mul, hX, zx_I, zx_4, zx_6]
      exact ⟨fun _ => no, fun f => absurd z2 f⟩
end FACE
