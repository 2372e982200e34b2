/-! THE LAW: from its start -/
section LAW
variable {d : Nat} {h h' : zr_H} {Q : zr_K} {O O' : Nat → Prop} {x m sc o o2 N : Nat} {E : Nat → Nat} {s : Nat → Int32} {a : ast}
theorem vC_grow {B : Nat → Nat → Nat} {D : Nat → Nat} {V : Nat → Option gm} {u l : Nat} {J : Nat → Int32} {rb rw : Int64} {tf wf : Nat → Int32} (v : vC h O B D V u l J rb rw tf wf) (n : ∀ q, O' q → O q ∨ h q = none) (i : ∀ q, O q → O' q) (e : ∀ q, ¬ O' q → h' q = h q) (hn : ∀ q, O' q → h' q ≠ none) : vC h' O' B D V u l J rb rw tf wf := by
  obtain ⟨c0, c1, c2, c3, ⟨R, S, c6, hg⟩, c5, c4, k, n0, ne, hD, ho, hu⟩ := id v
  have some_D : ∀ i, i < 7 → h (D i) ≠ none := by
    intro i hi
    obtain ⟨F1, a1, -⟩ := c1
    obtain ⟨F2, a2, -⟩ := c2
    obtain ⟨F5, a5, -⟩ := c5
    obtain ⟨F4, a4, -⟩ := c4
    have : i = 0 ∨ i = 1 ∨ i = 2 ∨ i = 3 ∨ i = 4 ∨ i = 5 ∨ i = 6 := by omega
    rcases this with z | z | z | z | z | z | z <;> subst z <;> simp [*]
  have nD : ∀ i, i < 7 → ¬ O' (D i) := fun i hi z => by
    rcases n _ z with u | u
    · exact hD i hi u
    · exact some_D i hi u
  have f := fun i (hi : i < 7) => e (D i) (nD i hi)
  have k2 : zK h O' B V := by
    refine ⟨fun i G hi hV => ?_, k.2⟩
    obtain ⟨⟨g, vg, ng⟩, na⟩ := k.1 i G hi hV
    have og := vM_gO vg
    have so : ∀ q, gO h q → h q ≠ none := fun q ⟨c, e, _⟩ => by rw [e]; simp
    refine ⟨⟨g, vg, fun z => ?_⟩, fun j hj z => ?_⟩
    · rcases n g z with u | u
      · exact ng u
      · exact so g og.1 u
    · rcases n _ z with u | u
      · exact na j hj u
      · exact so _ (og.2 j hj) u
  exact ⟨(f 0 (by omega)).trans c0, aV_to c1 (f 1 (by omega)), aV_to c2 (f 2 (by omega)), (f 3 (by omega)).trans c3, ⟨R, S, (f 6 (by omega)).trans c6, hg⟩, aB_to c5 (f 5 (by omega)), aB_to c4 (f 4 (by omega)), zK_fx k2 (fun q n _ => e q n), n0, ne, nD, hn, hu⟩
theorem k_law {F : Nat → Value} (hs : h sc = some (.inr (20, N, F))) (hF : ∀ k, k < N → F k = .int (s k)) (hN : N ≤ 3072) {kc ks : Nat} (hkc : 22000 ≤ kc) (hks : 400000 ≤ ks) (hQ : ∀ h, Q (.inl (some (.int 1))) h) : zr_Z (d + 41) 257 Q 0 [some (.ref sc), none, none, none, none, none, none, none] [] h kc ks := by
  refine zs_257_0 (by omega) (by omega) (fun x hx => ?_)
  have nx : sc ≠ x := fun e => by rw [← e, hs] at hx; cases hx
  have c1 : 83 ≤ kc - 1 := by omega
  have c2 : 3312 ≤ ks - 7 := by omega
  have hs1 : zr_up h x (zr_dfl 6) sc = some (.inr (20, N, F)) := by rw [zr_up_ne _ _ nx]; exact hs
  simp only [zs_257_3, zs_257_3i, zs_257_4, zt_257_4, zc_isO, zr_fld_mk, zc_isA, zc_len, zr_elt_mk, zr_kill_i, zr_kill_l, zr_kill_r, zr_kill_u, zr_kill_f, zr_kill_n, zc_cat, zr_cat_i, zr_cat_l, zr_cat_r, zr_cat_f, zr_cat_d, zr_cat_u, beq_self_eq_true, Nat.zero_le, Nat.le_refl, Nat.reduceSub, Nat.reduceAdd, Nat.reduceLeDiff, csl_f, csr_f, cn_f, lg_cmp_eq, lg_cmp_le, lg_cmp_lt, lg_cmp_ge, lg_cmp_gt, nI_1, zr_up_self, zp_O, zr_fup_self, zr_fup_ne, ne_eq, Nat.reduceEqDiff, not_false_eq_true, pk_mul, c1, c2]
  refine k_xnew (d := d + 35) (O := fun q => q = sc) (zr_up_self _ _ _) (fun q hq => ⟨by rw [hq, hs1]; simp, by rw [hq]; exact nx⟩) (fun h1 B D eD o1 v1 => ?_)
  have hs2 : h1 sc = some (.inr (20, N, F)) := (o1 sc rfl).trans hs1
  generalize zr_up h x (zr_dfl 6) = h0 at *
  simp only [zs_257_4, zt_257_4, zs_257_7, zs_257_7u, zc_isO, zr_fld_mk, zc_isA, zc_len, zr_elt_mk, zr_kill_i, zr_kill_l, zr_kill_r, zr_kill_u, zr_kill_f, zr_kill_n, zc_cat, zr_cat_i, zr_cat_l, zr_cat_r, zr_cat_f, zr_cat_d, zr_cat_u, beq_self_eq_true, Nat.zero_le, Nat.le_refl, Nat.reduceSub, Nat.reduceAdd, Nat.reduceLeDiff, csl_f, csr_f, cn_f, lg_cmp_eq, lg_cmp_le, lg_cmp_lt, lg_cmp_ge, lg_cmp_gt, nI_1, zr_up_self, zp_O, zr_fup_self, zr_fup_ne, ne_eq, Nat.reduceEqDiff, not_false_eq_true, pk_mul]
  refine zs_257_8 (by omega) (by omega) (fun m hm => ?_)
  have nm : sc ≠ m := fun e => by rw [← e, hs2] at hm; cases hm
  have c3 : 7 ≤ kc - 1 - 83 - 1 := by omega
  have c4 : 1190 ≤ ks - 7 - 3312 - 24 := by omega
  simp only [zs_257_11, zs_257_11i, zs_257_12, zt_257_12, zc_isO, zr_fld_mk, zc_isA, zc_len, zr_elt_mk, zr_kill_i, zr_kill_l, zr_kill_r, zr_kill_u, zr_kill_f, zr_kill_n, zc_cat, zr_cat_i, zr_cat_l, zr_cat_r, zr_cat_f, zr_cat_d, zr_cat_u, beq_self_eq_true, Nat.zero_le, Nat.le_refl, Nat.reduceSub, Nat.reduceAdd, Nat.reduceLeDiff, csl_f, csr_f, cn_f, lg_cmp_eq, lg_cmp_le, lg_cmp_lt, lg_cmp_ge, lg_cmp_gt, nI_1, zr_up_self, zp_O, zr_fup_self, zr_fup_ne, ne_eq, Nat.reduceEqDiff, not_false_eq_true, pk_mul, c3, c4]
  refine k_mnew (d := d + 38) (zr_up_self _ _ _) (fun E K L h3 v3 n3 f3 => ?_)
  have n3' : ∀ q, q ∈ MX m E → h1 q = none := fun q hq => by
    by_cases z : q = m
    · rw [z]; exact hm
    · have := n3 q hq z
      rw [zr_up_ne _ _ z] at this
      exact this
  have s3 : ∀ q, q ∈ MX m E → h3 q ≠ none := fun q hq => MS_n (a := (nwG, [], fun _ => none, 0, -1, 0, fun _ => 0, fun _ => 0)) ⟨K, L, _, v3, fun k hk => absurd hk (by simp)⟩ hq
  have f3' : ∀ q, ¬ q ∈ MX m E → h3 q = h1 q := fun q hq => by
    rw [f3 q hq, zr_up_ne _ _ (fun z => hq (by rw [z]; simp [MX]))]
  have nS : ¬ sc ∈ MX m E := fun z => by have := n3' sc z; rw [hs2] at this; cases this
  have hs3 : h3 sc = some (.inr (20, N, F)) := (f3' sc nS).trans hs2
  simp only [zs_257_12, zt_257_12, zs_257_15, zs_257_15u, zs_257_16, zc_isO, zr_fld_mk, zc_isA, zc_len, zr_elt_mk, zr_kill_i, zr_kill_l, zr_kill_r, zr_kill_u, zr_kill_f, zr_kill_n, zc_cat, zr_cat_i, zr_cat_l, zr_cat_r, zr_cat_f, zr_cat_d, zr_cat_u, beq_self_eq_true, Nat.zero_le, Nat.le_refl, Nat.reduceSub, Nat.reduceAdd, Nat.reduceLeDiff, csl_f, csr_f, cn_f, lg_cmp_eq, lg_cmp_le, lg_cmp_lt, lg_cmp_ge, lg_cmp_gt, nI_1, zr_up_self, zp_O, zr_fup_self, zr_fup_ne, ne_eq, Nat.reduceEqDiff, not_false_eq_true, pk_mul]
  refine zs_257_17 (by omega) (by omega) (fun o ho => ?_)
  have no1 : ¬ o ∈ MX m E := fun z => s3 o z ho
  have ho1 : h1 o = none := by rw [← f3' o no1]; exact ho
  have dso : sc ≠ o := fun e => by rw [← e, hs3] at ho; cases ho
  have a4 : zr_up h3 o (.inr (1, 1, fun _ => defaultValue (zr_at 1))) o = some (.inr (1, 1, fun _ => defaultValue (zr_at 1))) := zr_up_self _ _ _
  have f4 : ∀ q, q ≠ o → zr_up h3 o (.inr (1, 1, fun _ => defaultValue (zr_at 1))) q = h3 q := fun q hq => zr_up_ne _ _ hq
  generalize zr_up h3 o (.inr (1, 1, fun _ => defaultValue (zr_at 1))) = h4 at *
  simp only [zs_257_19, zs_257_19u, zs_257_20, zc_isO, zr_fld_mk, zc_isA, zc_len, zr_elt_mk, zr_kill_i, zr_kill_l, zr_kill_r, zr_kill_u, zr_kill_f, zr_kill_n, zc_cat, zr_cat_i, zr_cat_l, zr_cat_r, zr_cat_f, zr_cat_d, zr_cat_u, beq_self_eq_true, Nat.zero_le, Nat.le_refl, Nat.reduceSub, Nat.reduceAdd, Nat.reduceLeDiff, csl_f, csr_f, cn_f, lg_cmp_eq, lg_cmp_le, lg_cmp_lt, lg_cmp_ge, lg_cmp_gt, nI_1, zr_up_self, zp_O, zr_fup_self, zr_fup_ne, ne_eq, Nat.reduceEqDiff, not_false_eq_true, pk_mul]
  refine zs_257_21 (by omega) (by omega) (fun o2 ho2 => ?_)
  have doo : o ≠ o2 := fun e => by rw [← e, a4] at ho2; cases ho2
  have hs4 : h4 sc = some (.inr (20, N, F)) := (f4 sc dso).trans hs3
  have ds2 : sc ≠ o2 := fun e => by rw [← e, hs4] at ho2; cases ho2
  have h3o2 : h3 o2 = none := by rw [← f4 o2 (Ne.symm doo)]; exact ho2
  have no2 : ¬ o2 ∈ MX m E := fun z => s3 o2 z h3o2
  have ho12 : h1 o2 = none := by rw [← f3' o2 no2]; exact h3o2
  have a5 : zr_up h4 o2 (.inr (4, 1, fun _ => defaultValue (zr_at 4))) o2 = some (.inr (4, 1, fun _ => defaultValue (zr_at 4))) := zr_up_self _ _ _
  have f5 : ∀ q, q ≠ o2 → zr_up h4 o2 (.inr (4, 1, fun _ => defaultValue (zr_at 4))) q = h4 q := fun q hq => zr_up_ne _ _ hq
  generalize zr_up h4 o2 (.inr (4, 1, fun _ => defaultValue (zr_at 4))) = h5 at *
  have ok : OK (fun q => q ∈ MX m E ∨ q = sc ∨ q = o ∨ q = o2) m sc o o2 E := ⟨fun q hq => Or.inl hq, Or.inr (Or.inl rfl), Or.inr (Or.inr (Or.inl rfl)), Or.inr (Or.inr (Or.inr rfl)), fun q hq => hq, nS, no1, no2, dso, ds2, doo⟩
  have t5 : ∀ q, q ∈ MX m E → h5 q = h3 q := fun q hq => (f5 q (fun z => no2 (z ▸ hq))).trans (f4 q (fun z => no1 (z ▸ hq)))
  have hs5 : h5 sc = some (.inr (20, N, F)) := (f5 sc ds2).trans hs4
  have ho5 : h5 o = some (.inr (1, 1, fun _ => defaultValue (zr_at 1))) := (f5 o doo).trans a4
  have vc : vC h5 (fun q => q ∈ MX m E ∨ q = sc ∨ q = o ∨ q = o2) B D (nwV 9) 0 0 nwJ 0 0 (fun _ => 0) (fun _ => 0) := by
    refine vC_grow v1 (fun q hq => ?_) (fun q hq => Or.inr (Or.inl hq)) (fun q hq => ?_) (fun q hq => ?_)
    · rcases hq with z | z | z | z
      · exact Or.inr (n3' q z)
      · exact Or.inl z
      · rw [z]; exact Or.inr ho1
      · rw [z]; exact Or.inr ho12
    · rw [f5 q (fun z => hq (Or.inr (Or.inr (Or.inr z)))), f4 q (fun z => hq (Or.inr (Or.inr (Or.inl z)))), f3' q (fun z => hq (Or.inl z))]
    · rcases hq with z | z | z | z
      · rw [t5 q z]; exact s3 q z
      · rw [z, hs5]; simp
      · rw [z, ho5]; simp
      · rw [z, a5]; simp
  have rx : RX (fun q => q ∈ MX m E ∨ q = sc ∨ q = o ∨ q = o2) x m sc o o2 N E s h5 (nwG, [], fun _ => none, 0, -1, 0, fun _ => 0, fun _ => 0) := by
    refine ⟨⟨B, D, nwV 9, 0, nwJ, 0, 0, vc, eD, rfl, rfl, fun k hk => absurd hk (by simp), fun j hj => ?_, rfl, rfl, by simp⟩, ⟨K, L, _, mM_to v3 t5, fun k hk => absurd hk (by simp)⟩, ⟨F, hs5, hF⟩, ⟨_, ho5⟩, ⟨_, a5⟩⟩
    show nwV 9 (9 + j) = none
    unfold nwV
    rw [if_neg (by omega)]
  have z0 : (0 : Int32) = nI 0 := rfl
  have go := k_loop (d := d) (Q := Q) ok hN hQ N 0 (kc - 1 - 83 - 1 - 7 - 1 - 1) (ks - 7 - 3312 - 24 - 1190 - 1 - 1) h5 _ none none (by omega) (by omega) (by omega) (by omega) rx
  simp only [zs_257_23, zs_257_23u, zs_257_25, zs_257_26, zc_isO, zr_fld_mk, zc_isA, zc_len, zr_elt_mk, zr_kill_i, zr_kill_l, zr_kill_r, zr_kill_u, zr_kill_f, zr_kill_n, zc_cat, zr_cat_i, zr_cat_l, zr_cat_r, zr_cat_f, zr_cat_d, zr_cat_u, beq_self_eq_true, Nat.zero_le, Nat.le_refl, Nat.reduceSub, Nat.reduceAdd, Nat.reduceLeDiff, csl_f, csr_f, cn_f, lg_cmp_eq, lg_cmp_le, lg_cmp_lt, lg_cmp_ge, lg_cmp_gt, nI_1, zr_up_self, zp_O, zr_fup_self, zr_fup_ne, ne_eq, Nat.reduceEqDiff, not_false_eq_true, pk_mul]
  exact go
end LAW
