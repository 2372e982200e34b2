/-! THE LAW: its loop (printed by wip/gen/loop.py) -/
section LAW
variable {d : Nat} {Q : zr_K} {O : Nat → Prop} {x m sc o o2 N : Nat} {E : Nat → Nat} {s : Nat → Int32}
theorem lw_nI (n : Nat) (h : n < 2 ^ 31) : (nI n).toInt = n := by
  have c : (nI n).toInt.toNat = n := nI_clamp h
  have p := Int32.le_iff_toInt_le.mp (Int32.not_lt.mp (nI_pos (n := n) h))
  have z : (0 : Int32).toInt = 0 := rfl
  rw [z] at p
  omega
theorem k_loop (ok : OK O m sc o o2 E) (hN : N ≤ 3072) (hQ : ∀ h, Q (.inl (some (.int 1))) h) : ∀ t i kc ks (h : zr_H) (a : ast) (x6 x7 : Option Value), N ≤ i + t → i ≤ N → 7 * t ≤ kc → 88 * t ≤ ks → RX O x m sc o o2 N E s h a → zr_Z (d + 41) 257 Q 28 [some (.ref sc), some (.ref x), some (.ref m), some (.ref o), some (.ref o2), some (.int (nI i)), x6, x7] [] h kc ks := by
  intro t
  induction t using Nat.strongRecOn with
  | ind t ih =>
    intro i kc ks h a x6 x7 ht hi h1 h2 v
    obtain ⟨F, hs, hF⟩ := v.2.2.1
    have hA : zr_isA (h sc) 20 = true := by rw [hs]; rfl
    have hl : zr_len (h sc) = N := by rw [hs]; rfl
    have e6 : nI i + 6 = nI (i + 6) := nI_add i 6
    have c0 : (nI (zr_len (h sc)) - 6 < nI i) ↔ N < i + 6 := by
      rw [hl, Int32.lt_iff_toInt_lt]
      have t1 : (nI N).toInt = N := lw_nI N (by omega)
      have t2 : (nI i).toInt = i := lw_nI i (by omega)
      have t3 : (nI N - 6).toInt = (N : Int) - 6 := by
        rw [Int32.toInt_sub, t1, show (6 : Int32).toInt = 6 from rfl, Int.bmod_eq_of_le (by omega) (by omega)]
      rw [t3, t2]
      omega
    simp only [zs_257_28, zs_257_30, zs_257_30u, zc_isO, zr_fld_mk, zc_isA, zc_len, zr_elt_mk, zr_kill_i, zr_kill_l, zr_kill_r, zr_kill_u, zr_kill_f, zr_kill_n, zc_cat, zr_cat_i, zr_cat_l, zr_cat_r, zr_cat_f, zr_cat_d, zr_cat_u, beq_self_eq_true, Nat.zero_le, Nat.le_refl, Nat.reduceSub, Nat.reduceAdd, Nat.reduceLeDiff, csl_f, csr_f, cn_f, lg_cmp_eq, lg_cmp_le, lg_cmp_lt, lg_cmp_ge, lg_cmp_gt, nI_1, zr_up_self, zp_O, zr_fup_self, zr_fup_ne, ne_eq, Nat.reduceEqDiff, not_false_eq_true, pk_mul]
    rw [zs_257_31 hA]
    simp only [zs_257_32, zs_257_34, zs_257_35, zc_isO, zr_fld_mk, zc_isA, zc_len, zr_elt_mk, zr_kill_i, zr_kill_l, zr_kill_r, zr_kill_u, zr_kill_f, zr_kill_n, zc_cat, zr_cat_i, zr_cat_l, zr_cat_r, zr_cat_f, zr_cat_d, zr_cat_u, beq_self_eq_true, Nat.zero_le, Nat.le_refl, Nat.reduceSub, Nat.reduceAdd, Nat.reduceLeDiff, csl_f, csr_f, cn_f, lg_cmp_eq, lg_cmp_le, lg_cmp_lt, lg_cmp_ge, lg_cmp_gt, nI_1, zr_up_self, zp_O, zr_fup_self, zr_fup_ne, ne_eq, Nat.reduceEqDiff, not_false_eq_true, pk_mul]
    rw [c0]
    refine ⟨fun _ => ?_, fun g => ?_⟩
    · simp only [zs_257_2387, zs_257_2388_0, zs_257_2388_1, zs_257_2388, zc_isO, zr_fld_mk, zc_isA, zc_len, zr_elt_mk, zr_kill_i, zr_kill_l, zr_kill_r, zr_kill_u, zr_kill_f, zr_kill_n, zc_cat, zr_cat_i, zr_cat_l, zr_cat_r, zr_cat_f, zr_cat_d, zr_cat_u, beq_self_eq_true, Nat.zero_le, Nat.le_refl, Nat.reduceSub, Nat.reduceAdd, Nat.reduceLeDiff, csl_f, csr_f, cn_f, lg_cmp_eq, lg_cmp_le, lg_cmp_lt, lg_cmp_ge, lg_cmp_gt, nI_1, zr_up_self, zp_O, zr_fup_self, zr_fup_ne, ne_eq, Nat.reduceEqDiff, not_false_eq_true, pk_mul]
      exact hQ h
    have hi6 : i + 6 ≤ N := by omega
    have S : SCR h sc i (fun j => s (i + j)) := ⟨hA, fun j hj => ⟨by rw [hl]; exact vp_in_nI (by omega) (by omega), by rw [nI_clamp (by omega), hs]; exact hF (i + j) (by omega)⟩⟩
    obtain ⟨v0, u0⟩ := S.2 0 (by omega)
    rw [Nat.add_zero] at v0 u0
    -- on to the next one
    have cont : ∀ mc ms, mc ≤ 7 → ms ≤ 88 → ∀ h2, (∃ a', RX O x m sc o o2 N E s h2 a') → ∀ x6 x7 : Option Value, zr_Z (d + 41) 257 Q 2381 [some (.ref sc), some (.ref x), some (.ref m), some (.ref o), some (.ref o2), some (.int (nI i)), x6, x7] [] h2 (kc - mc) (ks - ms) := by
      intro mc ms hmc hms h2' ⟨a', v'⟩ x6 x7
      have := ih (t - 6) (by omega) (i + 6) (kc - mc) (ks - ms) h2' a' x6 x7 (by omega) hi6 (by omega) (by omega) v'
      simp only [zs_257_2381, zs_257_2384, zc_isO, zr_fld_mk, zc_isA, zc_len, zr_elt_mk, zr_kill_i, zr_kill_l, zr_kill_r, zr_kill_u, zr_kill_f, zr_kill_n, zc_cat, zr_cat_i, zr_cat_l, zr_cat_r, zr_cat_f, zr_cat_d, zr_cat_u, beq_self_eq_true, Nat.zero_le, Nat.le_refl, Nat.reduceSub, Nat.reduceAdd, Nat.reduceLeDiff, csl_f, csr_f, cn_f, lg_cmp_eq, lg_cmp_le, lg_cmp_lt, lg_cmp_ge, lg_cmp_gt, nI_1, zr_up_self, zp_O, zr_fup_self, zr_fup_ne, ne_eq, Nat.reduceEqDiff, not_false_eq_true, pk_mul, e6]
      exact this
    have cont0 := cont 0 0 (by omega) (by omega)
    have key : ∀ v : Int32, zr_Z (d + 41) 257 Q 45 [some (.ref sc), some (.ref x), some (.ref m), some (.ref o), some (.ref o2), some (.int (nI i)), x6, x7] [.int v] h kc ks := by
      intro vv
      by_cases hv : vv.toInt < 0 ∨ 36 < vv.toInt
      · rw [zs_257_45 hv]
        exact cont0 h ⟨a, v⟩ x6 x7
      obtain ⟨⟨R, S', b, w, P, I⟩, H, T, n, e, l, tf, wf⟩ := a
      have b1 : 0 ≤ vv.toInt ∧ vv.toInt ≤ 36 := by omega
      have this : vv.toInt = 0 ∨ vv.toInt = 1 ∨ vv.toInt = 2 ∨ vv.toInt = 3 ∨ vv.toInt = 4 ∨ vv.toInt = 5 ∨ vv.toInt = 6 ∨ vv.toInt = 7 ∨ vv.toInt = 8 ∨ vv.toInt = 9 ∨ vv.toInt = 10 ∨ vv.toInt = 11 ∨ vv.toInt = 12 ∨ vv.toInt = 13 ∨ vv.toInt = 14 ∨ vv.toInt = 15 ∨ vv.toInt = 16 ∨ vv.toInt = 17 ∨ vv.toInt = 18 ∨ vv.toInt = 19 ∨ vv.toInt = 20 ∨ vv.toInt = 21 ∨ vv.toInt = 22 ∨ vv.toInt = 23 ∨ vv.toInt = 24 ∨ vv.toInt = 25 ∨ vv.toInt = 26 ∨ vv.toInt = 27 ∨ vv.toInt = 28 ∨ vv.toInt = 29 ∨ vv.toInt = 30 ∨ vv.toInt = 31 ∨ vv.toInt = 32 ∨ vv.toInt = 33 ∨ vv.toInt = 34 ∨ vv.toInt = 35 ∨ vv.toInt = 36 := by omega
      rcases this with z | z | z | z | z | z | z | z | z | z | z | z | z | z | z | z | z | z | z | z | z | z | z | z | z | z | z | z | z | z | z | z | z | z | z | z | z
      · have z : vv = 0 := Int32.toInt_inj.mp (z.trans (by rfl))
        subst z
        rw [zs_257_45_0]
        exact k_case0 (d := d + 40) S (pr_append (d := d) ok v) (by omega) (by omega) (cont 1 6 (by omega) (by omega)) x6 x7
      · have z : vv = 1 := Int32.toInt_inj.mp (z.trans (by rfl))
        subst z
        rw [zs_257_45_1]
        exact k_case1 (d := d + 40) S (pr_load (d := d) ok v) (by omega) (by omega) (cont 2 12 (by omega) (by omega)) x6 x7
      · have z : vv = 2 := Int32.toInt_inj.mp (z.trans (by rfl))
        subst z
        rw [zs_257_45_2]
        exact k_case2 (d := d + 40) (pr_epos (d := d) ok v) cont0 x6 x7
      · have z : vv = 3 := Int32.toInt_inj.mp (z.trans (by rfl))
        subst z
        rw [zs_257_45_3]
        exact k_case3 (d := d + 40) S (pr_count (d := d) ok v) (by omega) (by omega) (cont 1 6 (by omega) (by omega)) x6 x7
      · have z : vv = 4 := Int32.toInt_inj.mp (z.trans (by rfl))
        subst z
        rw [zs_257_45_4]
        exact k_case4 (d := d + 40) S (pr_place (d := d) ok v) (by omega) (by omega) (cont 2 12 (by omega) (by omega)) x6 x7
      · have z : vv = 5 := Int32.toInt_inj.mp (z.trans (by rfl))
        subst z
        rw [zs_257_45_5]
        exact k_case5 (d := d + 40) S (pr_neigh (d := d) ok v) (by omega) (by omega) (cont 2 12 (by omega) (by omega)) x6 x7
      · have z : vv = 6 := Int32.toInt_inj.mp (z.trans (by rfl))
        subst z
        rw [zs_257_45_6]
        exact k_case6 (d := d + 40) S (pr_stone (d := d) ok v) (by omega) (by omega) (cont 1 6 (by omega) (by omega)) x6 x7
      · have z : vv = 7 := Int32.toInt_inj.mp (z.trans (by rfl))
        subst z
        rw [zs_257_45_7]
        exact k_case7 (d := d + 40) S (pr_chain (d := d) ok v) (by omega) (by omega) (cont 3 18 (by omega) (by omega)) x6 x7
      · have z : vv = 8 := Int32.toInt_inj.mp (z.trans (by rfl))
        subst z
        rw [zs_257_45_8]
        exact k_case8 (d := d + 40) S (pr_freed (d := d) ok v) (by omega) (by omega) (cont 2 12 (by omega) (by omega)) x6 x7
      · have z : vv = 9 := Int32.toInt_inj.mp (z.trans (by rfl))
        subst z
        rw [zs_257_45_9]
        exact k_case9 (d := d + 40) S (pr_chains (d := d) ok v) (by omega) (by omega) (cont 1 6 (by omega) (by omega)) x6 x7
      · have z : vv = 10 := Int32.toInt_inj.mp (z.trans (by rfl))
        subst z
        rw [zs_257_45_10]
        exact k_case10 (d := d + 40) S (pr_weak (d := d) ok v) (by omega) (by omega) (cont 2 12 (by omega) (by omega)) x6 x7
      · have z : vv = 11 := Int32.toInt_inj.mp (z.trans (by rfl))
        subst z
        rw [zs_257_45_11]
        exact k_case11 (d := d + 40) S (pr_reason (d := d) ok v) (by omega) (by omega) (cont 2 12 (by omega) (by omega)) x6 x7
      · have z : vv = 12 := Int32.toInt_inj.mp (z.trans (by rfl))
        subst z
        rw [zs_257_45_12]
        exact k_case12 (d := d + 40) S (pr_play (d := d) ok v) (by omega) (by omega) (cont 2 12 (by omega) (by omega)) x6 x7
      · have z : vv = 13 := Int32.toInt_inj.mp (z.trans (by rfl))
        subst z
        rw [zs_257_45_13]
        exact k_case13 (d := d + 40) S (pr_pass (d := d) ok v) (by omega) (by omega) (cont 1 6 (by omega) (by omega)) x6 x7
      · have z : vv = 14 := Int32.toInt_inj.mp (z.trans (by rfl))
        subst z
        rw [zs_257_45_14]
        exact k_case14 (d := d + 40) S (pr_move (d := d) ok v) (by omega) (by omega) (cont 4 24 (by omega) (by omega)) x6 x7
      · have z : vv = 15 := Int32.toInt_inj.mp (z.trans (by rfl))
        subst z
        rw [zs_257_45_15]
        exact k_case15 (d := d + 40) S (pr_moves (d := d) ok v) (by omega) (by omega) (cont 1 6 (by omega) (by omega)) x6 x7
      · have z : vv = 16 := Int32.toInt_inj.mp (z.trans (by rfl))
        subst z
        rw [zs_257_45_16]
        exact k_case16 (d := d + 40) S (pr_greed (d := d) ok v) (by omega) (by omega) (cont 2 12 (by omega) (by omega)) x6 x7
      · have z : vv = 17 := Int32.toInt_inj.mp (z.trans (by rfl))
        subst z
        rw [zs_257_45_17]
        exact k_case17 (d := d + 40) S (pr_sstone (d := d) ok v) (by omega) (by omega) (cont 3 18 (by omega) (by omega)) x6 x7
      · have z : vv = 18 := Int32.toInt_inj.mp (z.trans (by rfl))
        subst z
        rw [zs_257_45_18]
        exact k_case18 (d := d + 40) S (pr_sturn (d := d) ok v) (by omega) (by omega) (cont 1 6 (by omega) (by omega)) x6 x7
      · have z : vv = 19 := Int32.toInt_inj.mp (z.trans (by rfl))
        subst z
        rw [zs_257_45_19]
        exact k_case19 (d := d + 40) S (pr_srule (d := d) ok v) (by omega) (by omega) (cont 1 6 (by omega) (by omega)) x6 x7
      · have z : vv = 20 := Int32.toInt_inj.mp (z.trans (by rfl))
        subst z
        rw [zs_257_45_20]
        exact k_case20 (d := d + 40) S (pr_sbonus (d := d) ok v) (by omega) (by omega) (cont 1 6 (by omega) (by omega)) x6 x7
      · have z : vv = 21 := Int32.toInt_inj.mp (z.trans (by rfl))
        subst z
        rw [zs_257_45_21]
        exact k_case21 (d := d + 40) S (pr_pools (d := d) ok v) (by omega) (by omega) (cont 1 6 (by omega) (by omega)) x6 x7
      · have z : vv = 22 := Int32.toInt_inj.mp (z.trans (by rfl))
        subst z
        rw [zs_257_45_22]
        exact k_case22 (d := d + 40) S (pr_pool (d := d) ok v) (by omega) (by omega) (cont 3 18 (by omega) (by omega)) x6 x7
      · have z : vv = 23 := Int32.toInt_inj.mp (z.trans (by rfl))
        subst z
        rw [zs_257_45_23]
        exact k_case23 (d := d + 40) S (pr_eye (d := d) ok v) (by omega) (by omega) (cont 1 6 (by omega) (by omega)) x6 x7
      · have z : vv = 24 := Int32.toInt_inj.mp (z.trans (by rfl))
        subst z
        rw [zs_257_45_24]
        exact k_case24 (d := d + 40) S (pr_off (d := d) ok v) (by omega) (by omega) (cont 1 6 (by omega) (by omega)) x6 x7
      · have z : vv = 25 := Int32.toInt_inj.mp (z.trans (by rfl))
        subst z
        rw [zs_257_45_25]
        exact k_case25 (d := d + 40) S (pr_isal (d := d) ok v) (by omega) (by omega) (cont 1 6 (by omega) (by omega)) x6 x7
      · have z : vv = 26 := Int32.toInt_inj.mp (z.trans (by rfl))
        subst z
        rw [zs_257_45_26]
        exact k_case26 (d := d + 40) S (pr_alive (d := d) ok v) (by omega) (by omega) (cont 1 6 (by omega) (by omega)) x6 x7
      · have z : vv = 27 := Int32.toInt_inj.mp (z.trans (by rfl))
        subst z
        rw [zs_257_45_27]
        exact k_case27 (d := d + 40) S (pr_caught (d := d) ok v) (by omega) (by omega) (cont 2 12 (by omega) (by omega)) x6 x7
      · have z : vv = 28 := Int32.toInt_inj.mp (z.trans (by rfl))
        subst z
        rw [zs_257_45_28]
        exact k_case28 (d := d + 40) S (pr_area (d := d) ok v) (by omega) (by omega) (cont 1 6 (by omega) (by omega)) x6 x7
      · have z : vv = 29 := Int32.toInt_inj.mp (z.trans (by rfl))
        subst z
        rw [zs_257_45_29]
        exact k_case29 (d := d + 40) (pr_score (d := d) ok v) cont0 x6 x7
      · have z : vv = 30 := Int32.toInt_inj.mp (z.trans (by rfl))
        subst z
        rw [zs_257_45_30]
        exact k_case30 (d := d + 40) S (pr_share (d := d) ok v) (by omega) (by omega) (cont 1 6 (by omega) (by omega)) x6 x7
      · have z : vv = 31 := Int32.toInt_inj.mp (z.trans (by rfl))
        subst z
        rw [zs_257_45_31]
        exact k_case31 (d := d + 40) S (pr_wring (d := d) ok v) (by omega) (by omega) (cont 1 6 (by omega) (by omega)) x6 x7
      · have z : vv = 32 := Int32.toInt_inj.mp (z.trans (by rfl))
        subst z
        rw [zs_257_45_32]
        exact k_case32 (d := d + 40) S (pr_byte (d := d) ok v) (by omega) (by omega) (cont 1 6 (by omega) (by omega)) x6 x7
      · have z : vv = 33 := Int32.toInt_inj.mp (z.trans (by rfl))
        subst z
        rw [zs_257_45_33]
        exact k_case33 (d := d + 40) S (pr_undo (d := d) ok v) (by omega) (by omega) (cont 1 6 (by omega) (by omega)) x6 x7
      · have z : vv = 34 := Int32.toInt_inj.mp (z.trans (by rfl))
        subst z
        rw [zs_257_45_34]
        exact k_case34 (d := d + 40) S (pr_save (d := d) ok v) (by omega) (by omega) (cont 7 88 (by omega) (by omega)) x6 x7
      · have z : vv = 35 := Int32.toInt_inj.mp (z.trans (by rfl))
        subst z
        rw [zs_257_45_35]
        exact k_case35 (d := d + 40) S (pr_rest (d := d) ok v) (by omega) (by omega) (cont 2 12 (by omega) (by omega)) x6 x7
      · have z : vv = 36 := Int32.toInt_inj.mp (z.trans (by rfl))
        subst z
        rw [zs_257_45_36]
        exact k_case36 (d := d + 40) S (pr_diff (d := d) ok v) (by omega) (by omega) (cont 1 6 (by omega) (by omega)) x6 x7
    simp only [zs_257_38, zs_257_38u, zs_257_39, zs_257_41, zs_257_41_20, zs_257_42, zs_257_44, zc_isO, zr_fld_mk, zc_isA, zc_len, zr_elt_mk, zr_kill_i, zr_kill_l, zr_kill_r, zr_kill_u, zr_kill_f, zr_kill_n, zc_cat, zr_cat_i, zr_cat_l, zr_cat_r, zr_cat_f, zr_cat_d, zr_cat_u, beq_self_eq_true, Nat.zero_le, Nat.le_refl, Nat.reduceSub, Nat.reduceAdd, Nat.reduceLeDiff, csl_f, csr_f, cn_f, lg_cmp_eq, lg_cmp_le, lg_cmp_lt, lg_cmp_ge, lg_cmp_gt, nI_1, zr_up_self, zp_O, zr_fup_self, zr_fup_ne, ne_eq, Nat.reduceEqDiff, not_false_eq_true, pk_mul, hA, v0, u0]
    exact key _
end LAW
