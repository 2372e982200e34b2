/-! THE READER: turn, size, options -/
def wBoard : List Int32 := [98, 111, 97, 114, 100]
def wRule : List Int32 := [114, 117, 108, 101]
def wBonus : List Int32 := [98, 111, 110, 117, 115]
def wTurn : List Int32 := [116, 117, 114, 110]
def wBlack : List Int32 := [98, 108, 97, 99, 107]
def wWhite : List Int32 := [119, 104, 105, 116, 101]
def wRow : List Int32 := [114, 111, 119]
theorem ok_board : wok wBoard := ⟨by decide, by decide⟩
theorem ok_rule : wok wRule := ⟨by decide, by decide⟩
theorem ok_bonus : wok wBonus := ⟨by decide, by decide⟩
theorem ok_turn : wok wTurn := ⟨by decide, by decide⟩
theorem ok_black : wok wBlack := ⟨by decide, by decide⟩
theorem ok_white : wok wWhite := ⟨by decide, by decide⟩
theorem ok_row : wok wRow := ⟨by decide, by decide⟩
section READER
variable {h : zr_H} {q : Nat}
theorem ws_board (s : zr_str h q "board") : wS h q wBoard := wS_of s rfl (fun j hj => match j, hj with
  | 0, _ => rfl
  | 1, _ => rfl
  | 2, _ => rfl
  | 3, _ => rfl
  | 4, _ => rfl
  | j + 5, hj => absurd hj (by show ¬ j + 5 < 5; omega))
theorem ws_bonus (s : zr_str h q "bonus") : wS h q wBonus := wS_of s rfl (fun j hj => match j, hj with
  | 0, _ => rfl
  | 1, _ => rfl
  | 2, _ => rfl
  | 3, _ => rfl
  | 4, _ => rfl
  | j + 5, hj => absurd hj (by show ¬ j + 5 < 5; omega))
theorem ws_black (s : zr_str h q "black") : wS h q wBlack := wS_of s rfl (fun j hj => match j, hj with
  | 0, _ => rfl
  | 1, _ => rfl
  | 2, _ => rfl
  | 3, _ => rfl
  | 4, _ => rfl
  | j + 5, hj => absurd hj (by show ¬ j + 5 < 5; omega))
theorem ws_white (s : zr_str h q "white") : wS h q wWhite := wS_of s rfl (fun j hj => match j, hj with
  | 0, _ => rfl
  | 1, _ => rfl
  | 2, _ => rfl
  | 3, _ => rfl
  | 4, _ => rfl
  | j + 5, hj => absurd hj (by show ¬ j + 5 < 5; omega))
theorem ws_rule (s : zr_str h q "rule") : wS h q wRule := wS_of s rfl (fun j hj => match j, hj with
  | 0, _ => rfl
  | 1, _ => rfl
  | 2, _ => rfl
  | 3, _ => rfl
  | j + 4, hj => absurd hj (by show ¬ j + 4 < 4; omega))
theorem ws_turn (s : zr_str h q "turn") : wS h q wTurn := wS_of s rfl (fun j hj => match j, hj with
  | 0, _ => rfl
  | 1, _ => rfl
  | 2, _ => rfl
  | 3, _ => rfl
  | j + 4, hj => absurd hj (by show ¬ j + 4 < 4; omega))
theorem ws_row (s : zr_str h q "row") : wS h q wRow := wS_of s rfl (fun j hj => match j, hj with
  | 0, _ => rfl
  | 1, _ => rfl
  | 2, _ => rfl
  | j + 3, hj => absurd hj (by show ¬ j + 3 < 3; omega))
end READER
def orE (r : Bool × rst) : Bool × rst := if r.1 then r else (false, sEr r.2 (-2) r.2.1)
def orV (r : Bool × rst) (m : Nat) : Bool × rst := if r.1 then r else (false, sEr r.2 (-3) m)
def andT (r : Bool × rst) (g : rst → Bool × rst) : Bool × rst := if r.1 then g r.2 else r
def numS (f : Nat → Int32) (n k : Nat) (lo hi : Int32) (s : rst) : Bool × rst := (decide (¬ (fNum f n lo hi s).1 = -1), sSet (fNum f n lo hi s).2 k (fNum f n lo hi s).1)
def fTurn (f : Nat → Int32) (n : Nat) (s : rst) : Bool × rst :=
  if (fWord f n wBlack s).1 then (true, sSet (fWord f n wBlack s).2 10 1) else orE (fWord f n wWhite (sSet (fWord f n wBlack s).2 10 2))
def fSize (f : Nat → Int32) (n : Nat) (s : rst) : Bool × rst :=
  andT (orE (fWord f n wBoard s)) fun s => andT (numS f n 4 1 5 s) fun s => andT (numS f n 5 3 12 s) (fSemi f n)
def fOpts (f : Nat → Int32) (n : Nat) : Nat → rst → Bool × rst
  | 0, s => (true, s)
  | t + 1, s =>
    if (fWord f n wRule s).1 then andT (andT (numS f n 8 0 1 (fWord f n wRule s).2) (fSemi f n)) (fOpts f n t)
    else if (fWord f n wBonus (fWord f n wRule s).2).1 then andT (andT (numS f n 9 0 99 (fWord f n wBonus (fWord f n wRule s).2).2) (fSemi f n)) (fOpts f n t)
    else if (fWord f n wTurn (fWord f n wBonus (fWord f n wRule s).2).2).1 then andT (andT (fTurn f n (fWord f n wTurn (fWord f n wBonus (fWord f n wRule s).2).2).2) (fSemi f n)) (fOpts f n t)
    else (true, (fWord f n wTurn (fWord f n wBonus (fWord f n wRule s).2).2).2)
def rQ (h : zr_H) (rd tx gr : Nat) (f : Nat → Int32) (n : Nat) (Q : zr_K) (r : Bool × rst) : Prop :=
  rT (zr_up h rd (zrs tx gr r.2)) rd tx gr f n r.2 → Q (.inl (some (.int (bI r.1)))) (zr_up h rd (zrs tx gr r.2))
theorem orE_t {r : Bool × rst} (z : r.1 = true) : orE r = r := by unfold orE; rw [if_pos z]
theorem orE_f {r : Bool × rst} (z : r.1 = false) : orE r = (false, sEr r.2 (-2) r.2.1) := by unfold orE; rw [if_neg (by rw [z]; decide)]
theorem orV_t {r : Bool × rst} {m : Nat} (z : r.1 = true) : orV r m = r := by unfold orV; rw [if_pos z]
theorem orV_f {r : Bool × rst} {m : Nat} (z : r.1 = false) : orV r m = (false, sEr r.2 (-3) m) := by unfold orV; rw [if_neg (by rw [z]; decide)]
theorem andT_t {r : Bool × rst} {g : rst → Bool × rst} (z : r.1 = true) : andT r g = g r.2 := by unfold andT; rw [if_pos z]
theorem andT_f {r : Bool × rst} {g : rst → Bool × rst} (z : r.1 = false) : andT r g = r := by unfold andT; rw [if_neg (by rw [z]; decide)]
theorem tf_c (x : Bool) : x = true ∨ x = false := by cases x; exact Or.inr rfl; exact Or.inl rfl
section READER
variable {d : Nat} {h : zr_H} {Q : zr_K} {rd tx gr n a : Nat} {f : Nat → Int32} {W : List Int32} {q : Nat} {s : rst}
theorem k_wq (v : rT h rd tx gr f n s) (ws : wS h q W) (o : wok W) (hQ : rQ h rd tx gr f n Q (fWord f n W s)) : zr_E (d + 5) 65 [.ref rd, .ref q] h Q := k_wrd v ws o hQ
theorem k_sq (v : rT h rd tx gr f n s) (hQ : rQ h rd tx gr f n Q (fSemi f n s)) : zr_E (d + 3) 66 [.ref rd] h Q := k_semi v hQ
/-- a heap one step on -/
theorem rQ_on {c : zr_C} {r : Bool × rst} (hQ : rQ h rd tx gr f n Q r) : rQ (zr_up h rd c) rd tx gr f n Q r := by
  intro v
  rw [zr_uu] at v ⊢
  exact hQ v
theorem k_turn (v : rT h rd tx gr f n s) (hQ : rQ h rd tx gr f n Q (fTurn f n s)) : zr_E (d + 6) 59 [.ref rd] h Q := by
  rw [ze_59]
  simp only [zs_59_0, zs_59_0u, zs_59_1, zs_59_3, zt_59_3, zs_59_6, zs_59_9, zs_59_9u, zs_59_10, zs_59_11, zs_59_14, zs_59_15_0, zs_59_15_1, zs_59_15, zs_59_16, zs_59_16u, zs_59_17, zs_59_18, zs_59_21, zs_59_21u, zs_59_22, zs_59_24, zt_59_24, zs_59_27, zs_59_30, zs_59_30u, zs_59_31, zs_59_33, zs_59_33u, zs_59_34, zs_59_37, zt_59_37, zs_59_40, zs_59_43, zs_59_44, zs_59_47, zs_59_48_0, zs_59_48_1, zs_59_48, zc_isO, zr_fld_mk, zc_isA, zc_len, zr_elt_mk, zr_kill_i, zr_kill_l, zr_kill_r, zr_kill_u, zr_kill_f, zr_kill_n, zc_cat, zr_cat_i, zr_cat_l, zr_cat_r, zr_cat_f, zr_cat_d, zr_cat_u, beq_self_eq_true, Nat.zero_le, Nat.le_refl, Nat.reduceSub, Nat.reduceAdd, Nat.reduceLeDiff, csl_f, csr_f, cn_f, lg_cmp_eq, lg_cmp_le, lg_cmp_lt, lg_cmp_ge, lg_cmp_gt, nI_1, zr_up_self, zp_O, zr_fup_self, zr_fup_ne, ne_eq, Nat.reduceEqDiff, not_false_eq_true, pk_mul, v.1, zt_I]
  intro q hs
  refine k_wq (d := d) v (ws_black hs) ok_black (fun v1 => ?_)
  unfold fTurn at hQ
  generalize fWord f n wBlack s = r1 at *
  have hQ := rQ_on (c := zrs tx gr r1.2) hQ
  generalize zr_up h rd (zrs tx gr r1.2) = h1 at *
  simp only [zs_59_0, zs_59_0u, zs_59_1, zs_59_3, zt_59_3, zs_59_6, zs_59_10, zs_59_11, zs_59_14, zs_59_15_0, zs_59_15_1, zs_59_15, zs_59_17, zs_59_18, zs_59_21, zs_59_21u, zs_59_22, zs_59_24, zt_59_24, zs_59_27, zs_59_30, zs_59_30u, zs_59_31, zs_59_33, zs_59_33u, zs_59_34, zs_59_37, zt_59_37, zs_59_40, zs_59_43, zs_59_44, zs_59_47, zs_59_48_0, zs_59_48_1, zs_59_48, zc_isO, zr_fld_mk, zc_isA, zc_len, zr_elt_mk, zr_kill_i, zr_kill_l, zr_kill_r, zr_kill_u, zr_kill_f, zr_kill_n, zc_cat, zr_cat_i, zr_cat_l, zr_cat_r, zr_cat_f, zr_cat_d, zr_cat_u, beq_self_eq_true, Nat.zero_le, Nat.le_refl, Nat.reduceSub, Nat.reduceAdd, Nat.reduceLeDiff, csl_f, csr_f, cn_f, lg_cmp_eq, lg_cmp_le, lg_cmp_lt, lg_cmp_ge, lg_cmp_gt, nI_1, zr_up_self, zp_O, zr_fup_self, zr_fup_ne, ne_eq, Nat.reduceEqDiff, not_false_eq_true, pk_mul]
  rcases tf_c r1.1 with z | z
  · rw [if_pos z] at hQ
    rw [z]
    refine ⟨fun y => absurd y (by decide), fun _ => ?_⟩
    simp only [zs_59_0, zs_59_0u, zs_59_1, zs_59_3, zt_59_3, zs_59_6, zs_59_9, zs_59_9u, zs_59_10, zs_59_11, zs_59_15_0, zs_59_15_1, zs_59_15, zs_59_16, zs_59_16u, zs_59_17, zs_59_18, zs_59_21, zs_59_21u, zs_59_22, zs_59_24, zt_59_24, zs_59_27, zs_59_30, zs_59_30u, zs_59_31, zs_59_33, zs_59_33u, zs_59_34, zs_59_37, zt_59_37, zs_59_40, zs_59_43, zs_59_44, zs_59_47, zs_59_48_0, zs_59_48_1, zs_59_48, zc_isO, zr_fld_mk, zc_isA, zc_len, zr_elt_mk, zr_kill_i, zr_kill_l, zr_kill_r, zr_kill_u, zr_kill_f, zr_kill_n, zc_cat, zr_cat_i, zr_cat_l, zr_cat_r, zr_cat_f, zr_cat_d, zr_cat_u, beq_self_eq_true, Nat.zero_le, Nat.le_refl, Nat.reduceSub, Nat.reduceAdd, Nat.reduceLeDiff, csl_f, csr_f, cn_f, lg_cmp_eq, lg_cmp_le, lg_cmp_lt, lg_cmp_ge, lg_cmp_gt, nI_1, zr_up_self, zp_O, zr_fup_self, zr_fup_ne, ne_eq, Nat.reduceEqDiff, not_false_eq_true, pk_mul, v1.1, zt_I]
    rw [putR v1.1 (by omega) (by omega)]
    simp only [zs_59_0, zs_59_0u, zs_59_1, zs_59_3, zt_59_3, zs_59_6, zs_59_9, zs_59_9u, zs_59_10, zs_59_11, zs_59_14, zs_59_15_0, zs_59_15_1, zs_59_15, zs_59_16, zs_59_16u, zs_59_17, zs_59_18, zs_59_21, zs_59_21u, zs_59_22, zs_59_24, zt_59_24, zs_59_27, zs_59_30, zs_59_30u, zs_59_31, zs_59_33, zs_59_33u, zs_59_34, zs_59_37, zt_59_37, zs_59_40, zs_59_43, zs_59_44, zs_59_47, zs_59_48_0, zs_59_48_1, zs_59_48, zc_isO, zr_fld_mk, zc_isA, zc_len, zr_elt_mk, zr_kill_i, zr_kill_l, zr_kill_r, zr_kill_u, zr_kill_f, zr_kill_n, zc_cat, zr_cat_i, zr_cat_l, zr_cat_r, zr_cat_f, zr_cat_d, zr_cat_u, beq_self_eq_true, Nat.zero_le, Nat.le_refl, Nat.reduceSub, Nat.reduceAdd, Nat.reduceLeDiff, csl_f, csr_f, cn_f, lg_cmp_eq, lg_cmp_le, lg_cmp_lt, lg_cmp_ge, lg_cmp_gt, nI_1, zr_up_self, zp_O, zr_fup_self, zr_fup_ne, ne_eq, Nat.reduceEqDiff, not_false_eq_true, pk_mul]
    exact hQ (rT_S v1 (k := 10) (c := 1) (by omega) (by omega))
  · rw [if_neg (by rw [z]; decide)] at hQ
    rw [z]
    refine ⟨fun _ => ?_, fun y => absurd rfl y⟩
    simp only [zs_59_0, zs_59_0u, zs_59_1, zs_59_3, zt_59_3, zs_59_6, zs_59_9, zs_59_9u, zs_59_10, zs_59_11, zs_59_14, zs_59_15_0, zs_59_15_1, zs_59_15, zs_59_16, zs_59_16u, zs_59_17, zs_59_18, zs_59_22, zs_59_24, zt_59_24, zs_59_27, zs_59_30, zs_59_30u, zs_59_31, zs_59_33, zs_59_33u, zs_59_34, zs_59_37, zt_59_37, zs_59_40, zs_59_43, zs_59_44, zs_59_47, zs_59_48_0, zs_59_48_1, zs_59_48, zc_isO, zr_fld_mk, zc_isA, zc_len, zr_elt_mk, zr_kill_i, zr_kill_l, zr_kill_r, zr_kill_u, zr_kill_f, zr_kill_n, zc_cat, zr_cat_i, zr_cat_l, zr_cat_r, zr_cat_f, zr_cat_d, zr_cat_u, beq_self_eq_true, Nat.zero_le, Nat.le_refl, Nat.reduceSub, Nat.reduceAdd, Nat.reduceLeDiff, csl_f, csr_f, cn_f, lg_cmp_eq, lg_cmp_le, lg_cmp_lt, lg_cmp_ge, lg_cmp_gt, nI_1, zr_up_self, zp_O, zr_fup_self, zr_fup_ne, ne_eq, Nat.reduceEqDiff, not_false_eq_true, pk_mul, v1.1, zt_I]
    rw [putR v1.1 (by omega) (by omega)]
    have v2 := rT_S v1 (k := 10) (c := 2) (by omega) (by omega)
    change zr_Z _ _ _ _ _ _ (zr_up h1 rd (zrs tx gr (sSet r1.2 10 2))) _ _
    generalize sSet r1.2 10 2 = s2 at *
    have hQ := rQ_on (c := zrs tx gr s2) hQ
    generalize zr_up h1 rd (zrs tx gr s2) = h2 at *
    simp only [zs_59_0, zs_59_0u, zs_59_1, zs_59_3, zt_59_3, zs_59_6, zs_59_9, zs_59_9u, zs_59_10, zs_59_11, zs_59_14, zs_59_15_0, zs_59_15_1, zs_59_15, zs_59_16, zs_59_16u, zs_59_17, zs_59_18, zs_59_21, zs_59_21u, zs_59_22, zs_59_24, zt_59_24, zs_59_27, zs_59_30, zs_59_30u, zs_59_31, zs_59_33, zs_59_33u, zs_59_34, zs_59_37, zt_59_37, zs_59_40, zs_59_43, zs_59_44, zs_59_47, zs_59_48_0, zs_59_48_1, zs_59_48, zc_isO, zr_fld_mk, zc_isA, zc_len, zr_elt_mk, zr_kill_i, zr_kill_l, zr_kill_r, zr_kill_u, zr_kill_f, zr_kill_n, zc_cat, zr_cat_i, zr_cat_l, zr_cat_r, zr_cat_f, zr_cat_d, zr_cat_u, beq_self_eq_true, Nat.zero_le, Nat.le_refl, Nat.reduceSub, Nat.reduceAdd, Nat.reduceLeDiff, csl_f, csr_f, cn_f, lg_cmp_eq, lg_cmp_le, lg_cmp_lt, lg_cmp_ge, lg_cmp_gt, nI_1, zr_up_self, zp_O, zr_fup_self, zr_fup_ne, ne_eq, Nat.reduceEqDiff, not_false_eq_true, pk_mul, v2.1, zt_I]
    intro q hs
    refine k_wq (d := d) v2 (ws_white hs) ok_white (fun v3 => ?_)
    generalize fWord f n wWhite s2 = r3 at *
    have hQ := rQ_on (c := zrs tx gr r3.2) hQ
    generalize hh : zr_up h2 rd (zrs tx gr r3.2) = h4 at *
    simp only [zs_59_0, zs_59_0u, zs_59_1, zs_59_3, zt_59_3, zs_59_6, zs_59_9, zs_59_9u, zs_59_10, zs_59_11, zs_59_14, zs_59_15_0, zs_59_15_1, zs_59_15, zs_59_16, zs_59_16u, zs_59_17, zs_59_18, zs_59_21, zs_59_21u, zs_59_22, zs_59_24, zt_59_24, zs_59_27, zs_59_31, zs_59_33, zs_59_33u, zs_59_34, zs_59_37, zt_59_37, zs_59_40, zs_59_44, zs_59_47, zs_59_48_0, zs_59_48_1, zs_59_48, zc_isO, zr_fld_mk, zc_isA, zc_len, zr_elt_mk, zr_kill_i, zr_kill_l, zr_kill_r, zr_kill_u, zr_kill_f, zr_kill_n, zc_cat, zr_cat_i, zr_cat_l, zr_cat_r, zr_cat_f, zr_cat_d, zr_cat_u, beq_self_eq_true, Nat.zero_le, Nat.le_refl, Nat.reduceSub, Nat.reduceAdd, Nat.reduceLeDiff, csl_f, csr_f, cn_f, lg_cmp_eq, lg_cmp_le, lg_cmp_lt, lg_cmp_ge, lg_cmp_gt, nI_1, zr_up_self, zp_O, zr_fup_self, zr_fup_ne, ne_eq, Nat.reduceEqDiff, not_false_eq_true, pk_mul]
    rcases tf_c r3.1 with z | z
    · rw [orE_t z] at hQ
      rw [z]
      refine ⟨fun y => ?_, fun y => absurd y (by decide)⟩
      simp only [zs_59_0, zs_59_0u, zs_59_1, zs_59_3, zt_59_3, zs_59_6, zs_59_9, zs_59_9u, zs_59_10, zs_59_11, zs_59_14, zs_59_15_0, zs_59_15_1, zs_59_15, zs_59_16, zs_59_16u, zs_59_17, zs_59_18, zs_59_21, zs_59_21u, zs_59_22, zs_59_24, zt_59_24, zs_59_27, zs_59_30, zs_59_30u, zs_59_31, zs_59_33, zs_59_33u, zs_59_34, zs_59_37, zt_59_37, zs_59_40, zs_59_43, zs_59_44, zs_59_47, zs_59_48_0, zs_59_48_1, zs_59_48, zc_isO, zr_fld_mk, zc_isA, zc_len, zr_elt_mk, zr_kill_i, zr_kill_l, zr_kill_r, zr_kill_u, zr_kill_f, zr_kill_n, zc_cat, zr_cat_i, zr_cat_l, zr_cat_r, zr_cat_f, zr_cat_d, zr_cat_u, beq_self_eq_true, Nat.zero_le, Nat.le_refl, Nat.reduceSub, Nat.reduceAdd, Nat.reduceLeDiff, csl_f, csr_f, cn_f, lg_cmp_eq, lg_cmp_le, lg_cmp_lt, lg_cmp_ge, lg_cmp_gt, nI_1, zr_up_self, zp_O, zr_fup_self, zr_fup_ne, ne_eq, Nat.reduceEqDiff, not_false_eq_true, pk_mul]
      have := hQ (by rw [← hh, zr_uu]; rw [← hh] at v3; exact v3)
      rw [z, ← hh, zr_uu] at this
      rw [← hh]
      exact this
    · rw [orE_f z] at hQ
      rw [z]
      refine ⟨fun y => absurd rfl y, fun _ => ?_⟩
      simp only [zs_59_0, zs_59_0u, zs_59_1, zs_59_3, zt_59_3, zs_59_6, zs_59_9, zs_59_9u, zs_59_10, zs_59_11, zs_59_14, zs_59_15_0, zs_59_15_1, zs_59_15, zs_59_16, zs_59_16u, zs_59_17, zs_59_18, zs_59_21, zs_59_21u, zs_59_22, zs_59_24, zt_59_24, zs_59_27, zs_59_30, zs_59_30u, zs_59_31, zs_59_33, zs_59_33u, zs_59_34, zs_59_37, zt_59_37, zs_59_40, zs_59_43, zs_59_44, zs_59_47, zs_59_48_0, zs_59_48_1, zs_59_48, zc_isO, zr_fld_mk, zc_isA, zc_len, zr_elt_mk, zr_kill_i, zr_kill_l, zr_kill_r, zr_kill_u, zr_kill_f, zr_kill_n, zc_cat, zr_cat_i, zr_cat_l, zr_cat_r, zr_cat_f, zr_cat_d, zr_cat_u, beq_self_eq_true, Nat.zero_le, Nat.le_refl, Nat.reduceSub, Nat.reduceAdd, Nat.reduceLeDiff, csl_f, csr_f, cn_f, lg_cmp_eq, lg_cmp_le, lg_cmp_lt, lg_cmp_ge, lg_cmp_gt, nI_1, zr_up_self, zp_O, zr_fup_self, zr_fup_ne, ne_eq, Nat.reduceEqDiff, not_false_eq_true, pk_mul, v3.1, zt_I, zt_f2, v3.2.2.2.2.1]
      refine k_fail (d := d + 4) v3.1 ?_
      simp only [zs_59_0, zs_59_0u, zs_59_1, zs_59_3, zt_59_3, zs_59_6, zs_59_9, zs_59_9u, zs_59_10, zs_59_11, zs_59_14, zs_59_15_0, zs_59_15_1, zs_59_15, zs_59_16, zs_59_16u, zs_59_17, zs_59_18, zs_59_21, zs_59_21u, zs_59_22, zs_59_24, zt_59_24, zs_59_27, zs_59_30, zs_59_30u, zs_59_31, zs_59_33, zs_59_33u, zs_59_34, zs_59_37, zt_59_37, zs_59_40, zs_59_43, zs_59_44, zs_59_47, zs_59_48_0, zs_59_48_1, zs_59_48, zc_isO, zr_fld_mk, zc_isA, zc_len, zr_elt_mk, zr_kill_i, zr_kill_l, zr_kill_r, zr_kill_u, zr_kill_f, zr_kill_n, zc_cat, zr_cat_i, zr_cat_l, zr_cat_r, zr_cat_f, zr_cat_d, zr_cat_u, beq_self_eq_true, Nat.zero_le, Nat.le_refl, Nat.reduceSub, Nat.reduceAdd, Nat.reduceLeDiff, csl_f, csr_f, cn_f, lg_cmp_eq, lg_cmp_le, lg_cmp_lt, lg_cmp_ge, lg_cmp_gt, nI_1, zr_up_self, zp_O, zr_fup_self, zr_fup_ne, ne_eq, Nat.reduceEqDiff, not_false_eq_true, pk_mul]
      exact ⟨fun _ => hQ (rT_E v3), fun y => absurd trivial y⟩
theorem k_size (v : rT h rd tx gr f n s) (hQ : rQ h rd tx gr f n Q (fSize f n s)) : zr_E (d + 6) 57 [.ref rd] h Q := by
  rw [ze_57]
  simp only [zs_57_0, zs_57_0u, zs_57_1, zs_57_3, zt_57_3, zs_57_6, zs_57_9, zs_57_9u, zs_57_10, zs_57_12, zs_57_12u, zs_57_13, zs_57_16, zt_57_16, zs_57_19_0, zs_57_19_1, zs_57_19, zs_57_20, zs_57_20u, zs_57_21, zs_57_21u, zs_57_22, zs_57_23, zs_57_24, zt_57_24, zs_57_27, zs_57_30, zs_57_30u, zs_57_31, zs_57_34, zs_57_35, zs_57_38, zs_57_39_0, zs_57_39_1, zs_57_39, zs_57_40, zs_57_40u, zs_57_41, zs_57_41u, zs_57_42, zs_57_43, zs_57_45, zt_57_45, zs_57_48, zs_57_51, zs_57_51u, zs_57_52, zs_57_55, zs_57_56, zs_57_59, zs_57_59u, zs_57_60, zt_57_60, zs_57_63, zs_57_66, zs_57_67, zs_57_70, zs_57_71_0, zs_57_71_1, zs_57_71, zc_isO, zr_fld_mk, zc_isA, zc_len, zr_elt_mk, zr_kill_i, zr_kill_l, zr_kill_r, zr_kill_u, zr_kill_f, zr_kill_n, zc_cat, zr_cat_i, zr_cat_l, zr_cat_r, zr_cat_f, zr_cat_d, zr_cat_u, beq_self_eq_true, Nat.zero_le, Nat.le_refl, Nat.reduceSub, Nat.reduceAdd, Nat.reduceLeDiff, csl_f, csr_f, cn_f, lg_cmp_eq, lg_cmp_le, lg_cmp_lt, lg_cmp_ge, lg_cmp_gt, nI_1, zr_up_self, zp_O, zr_fup_self, zr_fup_ne, ne_eq, Nat.reduceEqDiff, not_false_eq_true, pk_mul, v.1, zt_I]
  intro q hs
  refine k_wq (d := d) v (ws_board hs) ok_board (fun v1 => ?_)
  unfold fSize at hQ
  generalize fWord f n wBoard s = r1 at *
  have hQ := rQ_on (c := zrs tx gr r1.2) hQ
  generalize zr_up h rd (zrs tx gr r1.2) = h1 at *
  simp only [zs_57_0, zs_57_0u, zs_57_1, zs_57_3, zt_57_3, zs_57_6, zs_57_10, zs_57_12, zs_57_12u, zs_57_13, zs_57_16, zt_57_16, zs_57_19_0, zs_57_19_1, zs_57_19, zs_57_21, zs_57_21u, zs_57_22, zs_57_23, zs_57_24, zt_57_24, zs_57_27, zs_57_30, zs_57_30u, zs_57_31, zs_57_34, zs_57_35, zs_57_38, zs_57_39_0, zs_57_39_1, zs_57_39, zs_57_40, zs_57_40u, zs_57_41, zs_57_41u, zs_57_42, zs_57_43, zs_57_45, zt_57_45, zs_57_48, zs_57_51, zs_57_51u, zs_57_52, zs_57_55, zs_57_56, zs_57_59, zs_57_59u, zs_57_60, zt_57_60, zs_57_63, zs_57_66, zs_57_67, zs_57_70, zs_57_71_0, zs_57_71_1, zs_57_71, zc_isO, zr_fld_mk, zc_isA, zc_len, zr_elt_mk, zr_kill_i, zr_kill_l, zr_kill_r, zr_kill_u, zr_kill_f, zr_kill_n, zc_cat, zr_cat_i, zr_cat_l, zr_cat_r, zr_cat_f, zr_cat_d, zr_cat_u, beq_self_eq_true, Nat.zero_le, Nat.le_refl, Nat.reduceSub, Nat.reduceAdd, Nat.reduceLeDiff, csl_f, csr_f, cn_f, lg_cmp_eq, lg_cmp_le, lg_cmp_lt, lg_cmp_ge, lg_cmp_gt, nI_1, zr_up_self, zp_O, zr_fup_self, zr_fup_ne, ne_eq, Nat.reduceEqDiff, not_false_eq_true, pk_mul]
  rcases tf_c r1.1 with z | z
  · rw [orE_t z, andT_t z] at hQ
    rw [z]
    refine ⟨fun _ => ?_, fun y => absurd y (by decide)⟩
    simp only [zs_57_0, zs_57_0u, zs_57_1, zs_57_3, zt_57_3, zs_57_6, zs_57_9, zs_57_9u, zs_57_10, zs_57_12, zs_57_12u, zs_57_13, zs_57_16, zt_57_16, zs_57_19_0, zs_57_19_1, zs_57_19, zs_57_20, zs_57_20u, zs_57_21, zs_57_21u, zs_57_22, zs_57_23, zs_57_24, zt_57_24, zs_57_27, zs_57_31, zs_57_34, zs_57_35, zs_57_38, zs_57_39_0, zs_57_39_1, zs_57_39, zs_57_40, zs_57_40u, zs_57_41, zs_57_41u, zs_57_42, zs_57_43, zs_57_45, zt_57_45, zs_57_48, zs_57_51, zs_57_51u, zs_57_52, zs_57_55, zs_57_56, zs_57_59, zs_57_59u, zs_57_60, zt_57_60, zs_57_63, zs_57_66, zs_57_67, zs_57_70, zs_57_71_0, zs_57_71_1, zs_57_71, zc_isO, zr_fld_mk, zc_isA, zc_len, zr_elt_mk, zr_kill_i, zr_kill_l, zr_kill_r, zr_kill_u, zr_kill_f, zr_kill_n, zc_cat, zr_cat_i, zr_cat_l, zr_cat_r, zr_cat_f, zr_cat_d, zr_cat_u, beq_self_eq_true, Nat.zero_le, Nat.le_refl, Nat.reduceSub, Nat.reduceAdd, Nat.reduceLeDiff, csl_f, csr_f, cn_f, lg_cmp_eq, lg_cmp_le, lg_cmp_lt, lg_cmp_ge, lg_cmp_gt, nI_1, zr_up_self, zp_O, zr_fup_self, zr_fup_ne, ne_eq, Nat.reduceEqDiff, not_false_eq_true, pk_mul, v1.1, zt_I]
    refine k_num (d := d + 2) v1 (fun v2 => ?_)
    rw [show numS f n 4 1 5 r1.2 = (decide (¬ (fNum f n 1 5 r1.2).1 = -1), sSet (fNum f n 1 5 r1.2).2 4 (fNum f n 1 5 r1.2).1) from rfl] at hQ
    generalize fNum f n 1 5 r1.2 = r2 at *
    have hQ := rQ_on (c := zrs tx gr r2.2) hQ
    generalize zr_up h1 rd (zrs tx gr r2.2) = h2 at *
    simp only [zs_57_0, zs_57_0u, zs_57_1, zs_57_3, zt_57_3, zs_57_6, zs_57_9, zs_57_9u, zs_57_10, zs_57_12, zs_57_12u, zs_57_13, zs_57_16, zt_57_16, zs_57_19_0, zs_57_19_1, zs_57_19, zs_57_20, zs_57_20u, zs_57_21, zs_57_21u, zs_57_22, zs_57_23, zs_57_24, zt_57_24, zs_57_27, zs_57_31, zs_57_34, zs_57_35, zs_57_38, zs_57_39_0, zs_57_39_1, zs_57_39, zs_57_40, zs_57_40u, zs_57_41, zs_57_41u, zs_57_42, zs_57_43, zs_57_45, zt_57_45, zs_57_48, zs_57_51, zs_57_51u, zs_57_52, zs_57_55, zs_57_56, zs_57_59, zs_57_59u, zs_57_60, zt_57_60, zs_57_63, zs_57_66, zs_57_67, zs_57_70, zs_57_71_0, zs_57_71_1, zs_57_71, zc_isO, zr_fld_mk, zc_isA, zc_len, zr_elt_mk, zr_kill_i, zr_kill_l, zr_kill_r, zr_kill_u, zr_kill_f, zr_kill_n, zc_cat, zr_cat_i, zr_cat_l, zr_cat_r, zr_cat_f, zr_cat_d, zr_cat_u, beq_self_eq_true, Nat.zero_le, Nat.le_refl, Nat.reduceSub, Nat.reduceAdd, Nat.reduceLeDiff, csl_f, csr_f, cn_f, lg_cmp_eq, lg_cmp_le, lg_cmp_lt, lg_cmp_ge, lg_cmp_gt, nI_1, zr_up_self, zp_O, zr_fup_self, zr_fup_ne, ne_eq, Nat.reduceEqDiff, not_false_eq_true, pk_mul, v2.1, zt_I]
    rw [putR v2.1 (by omega) (by omega)]
    have v3 := rT_S v2 (k := 4) (c := r2.1) (by omega) (by omega)
    change zr_Z _ _ _ _ _ _ (zr_up h2 rd (zrs tx gr (sSet r2.2 4 r2.1))) _ _
    have eS : (sSet r2.2 4 r2.1).2.1 4 = r2.1 := rfl
    generalize sSet r2.2 4 r2.1 = s3 at *
    have hQ' := rQ_on (c := zrs tx gr s3) hQ
    generalize hh3 : zr_up h2 rd (zrs tx gr s3) = h3 at *
    simp only [zs_57_0, zs_57_0u, zs_57_1, zs_57_3, zt_57_3, zs_57_6, zs_57_9, zs_57_9u, zs_57_10, zs_57_12, zs_57_12u, zs_57_13, zs_57_16, zt_57_16, zs_57_19_0, zs_57_19_1, zs_57_19, zs_57_20, zs_57_20u, zs_57_21, zs_57_21u, zs_57_22, zs_57_23, zs_57_24, zt_57_24, zs_57_27, zs_57_30, zs_57_30u, zs_57_31, zs_57_34, zs_57_35, zs_57_39_0, zs_57_39_1, zs_57_39, zs_57_41, zs_57_41u, zs_57_42, zs_57_43, zs_57_45, zt_57_45, zs_57_48, zs_57_51, zs_57_51u, zs_57_52, zs_57_55, zs_57_56, zs_57_59, zs_57_59u, zs_57_60, zt_57_60, zs_57_63, zs_57_66, zs_57_67, zs_57_70, zs_57_71_0, zs_57_71_1, zs_57_71, zc_isO, zr_fld_mk, zc_isA, zc_len, zr_elt_mk, zr_kill_i, zr_kill_l, zr_kill_r, zr_kill_u, zr_kill_f, zr_kill_n, zc_cat, zr_cat_i, zr_cat_l, zr_cat_r, zr_cat_f, zr_cat_d, zr_cat_u, beq_self_eq_true, Nat.zero_le, Nat.le_refl, Nat.reduceSub, Nat.reduceAdd, Nat.reduceLeDiff, csl_f, csr_f, cn_f, lg_cmp_eq, lg_cmp_le, lg_cmp_lt, lg_cmp_ge, lg_cmp_gt, nI_1, zr_up_self, zp_O, zr_fup_self, zr_fup_ne, ne_eq, Nat.reduceEqDiff, not_false_eq_true, pk_mul, v3.1, zt_I, zt_f4, eS]
    by_cases z2 : r2.1 = -1
    · have e : decide (¬ r2.1 = -1) = false := decide_eq_false (fun y => y z2)
      rw [andT_f (by exact e)] at hQ
      refine ⟨fun y => absurd z2 y, fun _ => ?_⟩
      simp only [zs_57_0, zs_57_0u, zs_57_1, zs_57_3, zt_57_3, zs_57_6, zs_57_9, zs_57_9u, zs_57_10, zs_57_12, zs_57_12u, zs_57_13, zs_57_16, zt_57_16, zs_57_19_0, zs_57_19_1, zs_57_19, zs_57_20, zs_57_20u, zs_57_21, zs_57_21u, zs_57_22, zs_57_23, zs_57_24, zt_57_24, zs_57_27, zs_57_30, zs_57_30u, zs_57_31, zs_57_34, zs_57_35, zs_57_38, zs_57_39_0, zs_57_39_1, zs_57_39, zs_57_40, zs_57_40u, zs_57_41, zs_57_41u, zs_57_42, zs_57_43, zs_57_45, zt_57_45, zs_57_48, zs_57_51, zs_57_51u, zs_57_52, zs_57_55, zs_57_56, zs_57_59, zs_57_59u, zs_57_60, zt_57_60, zs_57_63, zs_57_66, zs_57_67, zs_57_70, zs_57_71_0, zs_57_71_1, zs_57_71, zc_isO, zr_fld_mk, zc_isA, zc_len, zr_elt_mk, zr_kill_i, zr_kill_l, zr_kill_r, zr_kill_u, zr_kill_f, zr_kill_n, zc_cat, zr_cat_i, zr_cat_l, zr_cat_r, zr_cat_f, zr_cat_d, zr_cat_u, beq_self_eq_true, Nat.zero_le, Nat.le_refl, Nat.reduceSub, Nat.reduceAdd, Nat.reduceLeDiff, csl_f, csr_f, cn_f, lg_cmp_eq, lg_cmp_le, lg_cmp_lt, lg_cmp_ge, lg_cmp_gt, nI_1, zr_up_self, zp_O, zr_fup_self, zr_fup_ne, ne_eq, Nat.reduceEqDiff, not_false_eq_true, pk_mul]
      rw [← hh3] at v3 ⊢
      rw [e] at hQ
      exact hQ v3
    · rw [andT_t (by exact decide_eq_true z2)] at hQ'
      refine ⟨fun _ => ?_, fun y => absurd y z2⟩
      simp only [zs_57_0, zs_57_0u, zs_57_1, zs_57_3, zt_57_3, zs_57_6, zs_57_9, zs_57_9u, zs_57_10, zs_57_12, zs_57_12u, zs_57_13, zs_57_16, zt_57_16, zs_57_19_0, zs_57_19_1, zs_57_19, zs_57_20, zs_57_20u, zs_57_21, zs_57_21u, zs_57_22, zs_57_23, zs_57_24, zt_57_24, zs_57_27, zs_57_30, zs_57_30u, zs_57_31, zs_57_34, zs_57_35, zs_57_38, zs_57_39_0, zs_57_39_1, zs_57_39, zs_57_40, zs_57_40u, zs_57_41, zs_57_41u, zs_57_42, zs_57_43, zs_57_45, zt_57_45, zs_57_48, zs_57_52, zs_57_55, zs_57_56, zs_57_59, zs_57_59u, zs_57_60, zt_57_60, zs_57_63, zs_57_66, zs_57_67, zs_57_70, zs_57_71_0, zs_57_71_1, zs_57_71, zc_isO, zr_fld_mk, zc_isA, zc_len, zr_elt_mk, zr_kill_i, zr_kill_l, zr_kill_r, zr_kill_u, zr_kill_f, zr_kill_n, zc_cat, zr_cat_i, zr_cat_l, zr_cat_r, zr_cat_f, zr_cat_d, zr_cat_u, beq_self_eq_true, Nat.zero_le, Nat.le_refl, Nat.reduceSub, Nat.reduceAdd, Nat.reduceLeDiff, csl_f, csr_f, cn_f, lg_cmp_eq, lg_cmp_le, lg_cmp_lt, lg_cmp_ge, lg_cmp_gt, nI_1, zr_up_self, zp_O, zr_fup_self, zr_fup_ne, ne_eq, Nat.reduceEqDiff, not_false_eq_true, pk_mul, v3.1, zt_I]
      refine k_num (d := d + 2) v3 (fun v4 => ?_)
      have hQ := hQ'
      change rQ h3 rd tx gr f n Q (andT (decide (¬ (fNum f n 3 12 s3).1 = -1), sSet (fNum f n 3 12 s3).2 5 (fNum f n 3 12 s3).1) (fSemi f n)) at hQ
      generalize fNum f n 3 12 s3 = r4 at *
      have hQ := rQ_on (c := zrs tx gr r4.2) hQ
      generalize zr_up h3 rd (zrs tx gr r4.2) = h4 at *
      simp only [zs_57_0, zs_57_0u, zs_57_1, zs_57_3, zt_57_3, zs_57_6, zs_57_9, zs_57_9u, zs_57_10, zs_57_12, zs_57_12u, zs_57_13, zs_57_16, zt_57_16, zs_57_19_0, zs_57_19_1, zs_57_19, zs_57_20, zs_57_20u, zs_57_21, zs_57_21u, zs_57_22, zs_57_23, zs_57_24, zt_57_24, zs_57_27, zs_57_30, zs_57_30u, zs_57_31, zs_57_34, zs_57_35, zs_57_38, zs_57_39_0, zs_57_39_1, zs_57_39, zs_57_40, zs_57_40u, zs_57_41, zs_57_41u, zs_57_42, zs_57_43, zs_57_45, zt_57_45, zs_57_48, zs_57_52, zs_57_55, zs_57_56, zs_57_59, zs_57_59u, zs_57_60, zt_57_60, zs_57_63, zs_57_66, zs_57_67, zs_57_70, zs_57_71_0, zs_57_71_1, zs_57_71, zc_isO, zr_fld_mk, zc_isA, zc_len, zr_elt_mk, zr_kill_i, zr_kill_l, zr_kill_r, zr_kill_u, zr_kill_f, zr_kill_n, zc_cat, zr_cat_i, zr_cat_l, zr_cat_r, zr_cat_f, zr_cat_d, zr_cat_u, beq_self_eq_true, Nat.zero_le, Nat.le_refl, Nat.reduceSub, Nat.reduceAdd, Nat.reduceLeDiff, csl_f, csr_f, cn_f, lg_cmp_eq, lg_cmp_le, lg_cmp_lt, lg_cmp_ge, lg_cmp_gt, nI_1, zr_up_self, zp_O, zr_fup_self, zr_fup_ne, ne_eq, Nat.reduceEqDiff, not_false_eq_true, pk_mul, v4.1, zt_I]
      rw [putR v4.1 (by omega) (by omega)]
      have v5 := rT_S v4 (k := 5) (c := r4.1) (by omega) (by omega)
      change zr_Z _ _ _ _ _ _ (zr_up h4 rd (zrs tx gr (sSet r4.2 5 r4.1))) _ _
      have eS : (sSet r4.2 5 r4.1).2.1 5 = r4.1 := rfl
      generalize sSet r4.2 5 r4.1 = s5 at *
      have hQ' := rQ_on (c := zrs tx gr s5) hQ
      generalize hh5 : zr_up h4 rd (zrs tx gr s5) = h5 at *
      simp only [zs_57_0, zs_57_0u, zs_57_1, zs_57_3, zt_57_3, zs_57_6, zs_57_9, zs_57_9u, zs_57_10, zs_57_12, zs_57_12u, zs_57_13, zs_57_16, zt_57_16, zs_57_19_0, zs_57_19_1, zs_57_19, zs_57_20, zs_57_20u, zs_57_21, zs_57_21u, zs_57_22, zs_57_23, zs_57_24, zt_57_24, zs_57_27, zs_57_30, zs_57_30u, zs_57_31, zs_57_34, zs_57_35, zs_57_38, zs_57_39_0, zs_57_39_1, zs_57_39, zs_57_40, zs_57_40u, zs_57_41, zs_57_41u, zs_57_42, zs_57_43, zs_57_45, zt_57_45, zs_57_48, zs_57_51, zs_57_51u, zs_57_52, zs_57_55, zs_57_56, zs_57_60, zt_57_60, zs_57_63, zs_57_66, zs_57_67, zs_57_71_0, zs_57_71_1, zs_57_71, zc_isO, zr_fld_mk, zc_isA, zc_len, zr_elt_mk, zr_kill_i, zr_kill_l, zr_kill_r, zr_kill_u, zr_kill_f, zr_kill_n, zc_cat, zr_cat_i, zr_cat_l, zr_cat_r, zr_cat_f, zr_cat_d, zr_cat_u, beq_self_eq_true, Nat.zero_le, Nat.le_refl, Nat.reduceSub, Nat.reduceAdd, Nat.reduceLeDiff, csl_f, csr_f, cn_f, lg_cmp_eq, lg_cmp_le, lg_cmp_lt, lg_cmp_ge, lg_cmp_gt, nI_1, zr_up_self, zp_O, zr_fup_self, zr_fup_ne, ne_eq, Nat.reduceEqDiff, not_false_eq_true, pk_mul, v5.1, zt_I, zt_f5, eS]
      by_cases z3 : r4.1 = -1
      · have e : decide (¬ r4.1 = -1) = false := decide_eq_false (fun y => y z3)
        rw [andT_f (by exact e), e] at hQ
        refine ⟨fun _ => ?_, fun y => absurd z3 y⟩
        simp only [zs_57_0, zs_57_0u, zs_57_1, zs_57_3, zt_57_3, zs_57_6, zs_57_9, zs_57_9u, zs_57_10, zs_57_12, zs_57_12u, zs_57_13, zs_57_16, zt_57_16, zs_57_19_0, zs_57_19_1, zs_57_19, zs_57_20, zs_57_20u, zs_57_21, zs_57_21u, zs_57_22, zs_57_23, zs_57_24, zt_57_24, zs_57_27, zs_57_30, zs_57_30u, zs_57_31, zs_57_34, zs_57_35, zs_57_38, zs_57_39_0, zs_57_39_1, zs_57_39, zs_57_40, zs_57_40u, zs_57_41, zs_57_41u, zs_57_42, zs_57_43, zs_57_45, zt_57_45, zs_57_48, zs_57_51, zs_57_51u, zs_57_52, zs_57_55, zs_57_56, zs_57_59, zs_57_59u, zs_57_60, zt_57_60, zs_57_63, zs_57_66, zs_57_67, zs_57_70, zs_57_71_0, zs_57_71_1, zs_57_71, zc_isO, zr_fld_mk, zc_isA, zc_len, zr_elt_mk, zr_kill_i, zr_kill_l, zr_kill_r, zr_kill_u, zr_kill_f, zr_kill_n, zc_cat, zr_cat_i, zr_cat_l, zr_cat_r, zr_cat_f, zr_cat_d, zr_cat_u, beq_self_eq_true, Nat.zero_le, Nat.le_refl, Nat.reduceSub, Nat.reduceAdd, Nat.reduceLeDiff, csl_f, csr_f, cn_f, lg_cmp_eq, lg_cmp_le, lg_cmp_lt, lg_cmp_ge, lg_cmp_gt, nI_1, zr_up_self, zp_O, zr_fup_self, zr_fup_ne, ne_eq, Nat.reduceEqDiff, not_false_eq_true, pk_mul]
        rw [← hh5] at v5 ⊢
        exact hQ v5
      · rw [andT_t (by exact decide_eq_true z3)] at hQ'
        refine ⟨fun y => absurd y z3, fun _ => ?_⟩
        simp only [zs_57_0, zs_57_0u, zs_57_1, zs_57_3, zt_57_3, zs_57_6, zs_57_9, zs_57_9u, zs_57_10, zs_57_12, zs_57_12u, zs_57_13, zs_57_16, zt_57_16, zs_57_19_0, zs_57_19_1, zs_57_19, zs_57_20, zs_57_20u, zs_57_21, zs_57_21u, zs_57_22, zs_57_23, zs_57_24, zt_57_24, zs_57_27, zs_57_30, zs_57_30u, zs_57_31, zs_57_34, zs_57_35, zs_57_38, zs_57_39_0, zs_57_39_1, zs_57_39, zs_57_40, zs_57_40u, zs_57_41, zs_57_41u, zs_57_42, zs_57_43, zs_57_45, zt_57_45, zs_57_48, zs_57_51, zs_57_51u, zs_57_52, zs_57_55, zs_57_56, zs_57_59, zs_57_59u, zs_57_60, zt_57_60, zs_57_63, zs_57_66, zs_57_67, zs_57_70, zs_57_71_0, zs_57_71_1, zs_57_71, zc_isO, zr_fld_mk, zc_isA, zc_len, zr_elt_mk, zr_kill_i, zr_kill_l, zr_kill_r, zr_kill_u, zr_kill_f, zr_kill_n, zc_cat, zr_cat_i, zr_cat_l, zr_cat_r, zr_cat_f, zr_cat_d, zr_cat_u, beq_self_eq_true, Nat.zero_le, Nat.le_refl, Nat.reduceSub, Nat.reduceAdd, Nat.reduceLeDiff, csl_f, csr_f, cn_f, lg_cmp_eq, lg_cmp_le, lg_cmp_lt, lg_cmp_ge, lg_cmp_gt, nI_1, zr_up_self, zp_O, zr_fup_self, zr_fup_ne, ne_eq, Nat.reduceEqDiff, not_false_eq_true, pk_mul, v5.1, zt_I]
        refine k_semi (d := d + 2) v5 (fun v6 => ?_)
        have hQ := hQ' v6
        change Q (.inl (some (.int (bI (fSemi f n s5).1)))) (zr_up h5 rd (zrs tx gr (fSemi f n s5).2)) at hQ
        generalize fSemi f n s5 = r6 at *
        simp only [zs_57_0, zs_57_0u, zs_57_1, zs_57_3, zt_57_3, zs_57_6, zs_57_9, zs_57_9u, zs_57_10, zs_57_12, zs_57_12u, zs_57_13, zs_57_16, zt_57_16, zs_57_19_0, zs_57_19_1, zs_57_19, zs_57_20, zs_57_20u, zs_57_21, zs_57_21u, zs_57_22, zs_57_23, zs_57_24, zt_57_24, zs_57_27, zs_57_30, zs_57_30u, zs_57_31, zs_57_34, zs_57_35, zs_57_38, zs_57_39_0, zs_57_39_1, zs_57_39, zs_57_40, zs_57_40u, zs_57_41, zs_57_41u, zs_57_42, zs_57_43, zs_57_45, zt_57_45, zs_57_48, zs_57_51, zs_57_51u, zs_57_52, zs_57_55, zs_57_56, zs_57_59, zs_57_59u, zs_57_60, zt_57_60, zs_57_63, zs_57_66, zs_57_67, zs_57_70, zs_57_71_0, zs_57_71_1, zs_57_71, zc_isO, zr_fld_mk, zc_isA, zc_len, zr_elt_mk, zr_kill_i, zr_kill_l, zr_kill_r, zr_kill_u, zr_kill_f, zr_kill_n, zc_cat, zr_cat_i, zr_cat_l, zr_cat_r, zr_cat_f, zr_cat_d, zr_cat_u, beq_self_eq_true, Nat.zero_le, Nat.le_refl, Nat.reduceSub, Nat.reduceAdd, Nat.reduceLeDiff, csl_f, csr_f, cn_f, lg_cmp_eq, lg_cmp_le, lg_cmp_lt, lg_cmp_ge, lg_cmp_gt, nI_1, zr_up_self, zp_O, zr_fup_self, zr_fup_ne, ne_eq, Nat.reduceEqDiff, not_false_eq_true, pk_mul]
        rcases tf_c r6.1 with z4 | z4
        · rw [z4] at hQ ⊢
          exact ⟨fun y => absurd y (by decide), fun _ => hQ⟩
        · rw [z4] at hQ ⊢
          exact ⟨fun _ => hQ, fun y => absurd rfl y⟩
  · rw [orE_f z, andT_f (by rfl)] at hQ
    rw [z]
    refine ⟨fun y => absurd rfl y, fun _ => ?_⟩
    simp only [zs_57_0, zs_57_0u, zs_57_1, zs_57_3, zt_57_3, zs_57_6, zs_57_9, zs_57_9u, zs_57_10, zs_57_12, zs_57_12u, zs_57_13, zs_57_16, zt_57_16, zs_57_19_0, zs_57_19_1, zs_57_19, zs_57_20, zs_57_20u, zs_57_21, zs_57_21u, zs_57_22, zs_57_23, zs_57_24, zt_57_24, zs_57_27, zs_57_30, zs_57_30u, zs_57_31, zs_57_34, zs_57_35, zs_57_38, zs_57_39_0, zs_57_39_1, zs_57_39, zs_57_40, zs_57_40u, zs_57_41, zs_57_41u, zs_57_42, zs_57_43, zs_57_45, zt_57_45, zs_57_48, zs_57_51, zs_57_51u, zs_57_52, zs_57_55, zs_57_56, zs_57_59, zs_57_59u, zs_57_60, zt_57_60, zs_57_63, zs_57_66, zs_57_67, zs_57_70, zs_57_71_0, zs_57_71_1, zs_57_71, zc_isO, zr_fld_mk, zc_isA, zc_len, zr_elt_mk, zr_kill_i, zr_kill_l, zr_kill_r, zr_kill_u, zr_kill_f, zr_kill_n, zc_cat, zr_cat_i, zr_cat_l, zr_cat_r, zr_cat_f, zr_cat_d, zr_cat_u, beq_self_eq_true, Nat.zero_le, Nat.le_refl, Nat.reduceSub, Nat.reduceAdd, Nat.reduceLeDiff, csl_f, csr_f, cn_f, lg_cmp_eq, lg_cmp_le, lg_cmp_lt, lg_cmp_ge, lg_cmp_gt, nI_1, zr_up_self, zp_O, zr_fup_self, zr_fup_ne, ne_eq, Nat.reduceEqDiff, not_false_eq_true, pk_mul, v1.1, zt_I, zt_f2, v1.2.2.2.2.1]
    refine k_fail (d := d + 4) v1.1 ?_
    simp only [zs_57_0, zs_57_0u, zs_57_1, zs_57_3, zt_57_3, zs_57_6, zs_57_9, zs_57_9u, zs_57_10, zs_57_12, zs_57_12u, zs_57_13, zs_57_16, zt_57_16, zs_57_19_0, zs_57_19_1, zs_57_19, zs_57_20, zs_57_20u, zs_57_21, zs_57_21u, zs_57_22, zs_57_23, zs_57_24, zt_57_24, zs_57_27, zs_57_30, zs_57_30u, zs_57_31, zs_57_34, zs_57_35, zs_57_38, zs_57_39_0, zs_57_39_1, zs_57_39, zs_57_40, zs_57_40u, zs_57_41, zs_57_41u, zs_57_42, zs_57_43, zs_57_45, zt_57_45, zs_57_48, zs_57_51, zs_57_51u, zs_57_52, zs_57_55, zs_57_56, zs_57_59, zs_57_59u, zs_57_60, zt_57_60, zs_57_63, zs_57_66, zs_57_67, zs_57_70, zs_57_71_0, zs_57_71_1, zs_57_71, zc_isO, zr_fld_mk, zc_isA, zc_len, zr_elt_mk, zr_kill_i, zr_kill_l, zr_kill_r, zr_kill_u, zr_kill_f, zr_kill_n, zc_cat, zr_cat_i, zr_cat_l, zr_cat_r, zr_cat_f, zr_cat_d, zr_cat_u, beq_self_eq_true, Nat.zero_le, Nat.le_refl, Nat.reduceSub, Nat.reduceAdd, Nat.reduceLeDiff, csl_f, csr_f, cn_f, lg_cmp_eq, lg_cmp_le, lg_cmp_lt, lg_cmp_ge, lg_cmp_gt, nI_1, zr_up_self, zp_O, zr_fup_self, zr_fup_ne, ne_eq, Nat.reduceEqDiff, not_false_eq_true, pk_mul]
    exact hQ (rT_E v1)
end READER
