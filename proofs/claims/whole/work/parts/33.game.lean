/-! THE GAME -/
def zmV (ib ip : Nat) (I : Nat → Int32) : Nat → Value := fun k => match k with
  | 0 => .ref ib
  | 1 => .ref ip
  | 2 => .int (I 2)
  | 3 => .int (I 3)
  | 4 => .int (I 4)
  | 5 => .int (I 5)
  | 6 => .int (I 6)
  | 7 => .int (I 7)
  | 8 => .int (I 8)
  | 9 => .int (I 9)
  | k => dv 1 k
def zgm (ib ip : Nat) (I : Nat → Int32) : zr_C := .inl (1, zmV ib ip I)
section GAME
variable {ib ip : Nat} {I : Nat → Int32}
theorem zm_I : zr_isO (some (zgm ib ip I)) 1 = true := id rfl
theorem zm_0 : zr_fld (some (zgm ib ip I)) 0 = .ref ib := rfl
theorem zm_1 : zr_fld (some (zgm ib ip I)) 1 = .ref ip := rfl
theorem zm_2 : zr_fld (some (zgm ib ip I)) 2 = .int (I 2) := rfl
theorem zm_3 : zr_fld (some (zgm ib ip I)) 3 = .int (I 3) := rfl
theorem zm_4 : zr_fld (some (zgm ib ip I)) 4 = .int (I 4) := rfl
theorem zm_5 : zr_fld (some (zgm ib ip I)) 5 = .int (I 5) := rfl
theorem zm_6 : zr_fld (some (zgm ib ip I)) 6 = .int (I 6) := rfl
theorem zm_7 : zr_fld (some (zgm ib ip I)) 7 = .int (I 7) := rfl
theorem zm_8 : zr_fld (some (zgm ib ip I)) 8 = .int (I 8) := rfl
theorem zm_9 : zr_fld (some (zgm ib ip I)) 9 = .int (I 9) := rfl
def fI (I : Nat → Int32) (k : Nat) (v : Int32) : Nat → Int32 := fun j => if j = k then v else I j
theorem fI_s (I : Nat → Int32) (k : Nat) (v : Int32) : fI I k v k = v := by simp [fI]
theorem fI_n (I : Nat → Int32) {k j : Nat} (v : Int32) (h : j ≠ k) : fI I k v j = I j := by simp [fI, h]
theorem zm_put {k : Nat} (h2 : 2 ≤ k) (h9 : k ≤ 9) {v : Int32} : (Sum.inl (1, zr_fup (zmV ib ip I) k (.int v)) : zr_C) = zgm ib ip (fI I k v) := by
  unfold zgm
  congr 2
  funext j
  have : k = 2 ∨ k = 3 ∨ k = 4 ∨ k = 5 ∨ k = 6 ∨ k = 7 ∨ k = 8 ∨ k = 9 := by omega
  match j with
  | 0 => simp only [zr_fup]; rw [if_neg (by omega)]; rfl
  | 1 => simp only [zr_fup]; rw [if_neg (by omega)]; rfl
  | 2 => simp only [zr_fup, zmV, fI]; split <;> rfl
  | 3 => simp only [zr_fup, zmV, fI]; split <;> rfl
  | 4 => simp only [zr_fup, zmV, fI]; split <;> rfl
  | 5 => simp only [zr_fup, zmV, fI]; split <;> rfl
  | 6 => simp only [zr_fup, zmV, fI]; split <;> rfl
  | 7 => simp only [zr_fup, zmV, fI]; split <;> rfl
  | 8 => simp only [zr_fup, zmV, fI]; split <;> rfl
  | 9 => simp only [zr_fup, zmV, fI]; split <;> rfl
  | j + 10 => simp only [zr_fup]; rw [if_neg (by omega)]; rfl
end GAME
/-- a game in the heap: A tells where its parts lie; P is its positions, the latest first -/
def vM (h : zr_H) (A : Nat → Nat) (R S : Nat) (b w : Int64) (P : List (Int64 × Int64)) (I : Nat → Int32) (g : Nat) : Prop :=
  h (A 0) = some (zgm (A 1) (A 2) I) ∧ h (A 1) = some (zbd g b w) ∧ h g = some (zg R S) ∧ vG R S ∧ ∃ fb fw, vP h (A 2) (A 3) (A 4) fb fw P.length ∧ ∀ k, k < P.length → P[k]? = some (fb k, fw k)
theorem hasP_mem {P : List (Int64 × Int64)} {fb fw : Nat → Int64} (hP : ∀ k, k < P.length → P[k]? = some (fb k, fw k)) {b w : Int64} : hasP fb fw P.length b w ↔ (b, w) ∈ P := by
  refine ⟨fun ⟨k, hk, e1, e2⟩ => ?_, fun m => ?_⟩
  · have := hP k hk
    rw [e1, e2] at this
    exact List.mem_of_getElem? this
  · obtain ⟨k, hk⟩ := List.mem_iff_getElem?.mp m
    have hl : k < P.length := by
      rcases Nat.lt_or_ge k P.length with g | g
      · exact g
      · rw [List.getElem?_eq_none g] at hk; cases hk
    have := hP k hl
    rw [hk] at this
    have := Option.some.inj this
    exact ⟨k, hl, (congrArg Prod.fst this).symm, (congrArg Prod.snd this).symm⟩
section GAME
variable {d : Nat} {h : zr_H} {Q : zr_K} {A : Nat → Nat} {R S g : Nat} {b w : Int64} {P : List (Int64 × Int64)} {I : Nat → Int32}
theorem k_over (v : vM h A R S b w P I g) (h1 : 2 ≤ I 4 → Q (.inl (some (.int 1))) h) (h0 : ¬ 2 ≤ I 4 → Q (.inl (some (.int 0))) h) : zr_E (d + 1) 30 [.ref (A 0)] h Q := by
  obtain ⟨hM, -⟩ := v
  rw [ze_30]
  simp only [zs_30_0, zs_30_0u, zs_30_1, zs_30_4, zs_30_5, zs_30_8, zs_30_9, zs_30_12, zs_30_13_0, zs_30_13_1, zs_30_13, zc_isO, zr_fld_mk, zc_isA, zc_len, zr_elt_mk, zr_kill_i, zr_kill_l, zr_kill_r, zr_kill_u, zr_kill_f, zr_kill_n, zc_cat, zr_cat_i, zr_cat_l, zr_cat_r, zr_cat_f, zr_cat_d, zr_cat_u, beq_self_eq_true, Nat.zero_le, Nat.le_refl, Nat.reduceSub, Nat.reduceAdd, Nat.reduceLeDiff, csl_f, csr_f, cn_f, lg_cmp_eq, lg_cmp_le, lg_cmp_lt, lg_cmp_ge, lg_cmp_gt, nI_1, zr_up_self, zp_O, zr_fup_self, zr_fup_ne, ne_eq, Nat.reduceEqDiff, not_false_eq_true, pk_mul, hM, zm_I, zm_4]
  exact ⟨fun z => h0 (Int32.not_le.mpr z), fun z => h1 (Int32.not_lt.mp z)⟩
/-- why a move is refused -/
def rf (R S : Nat) (b w : Int64) (P : List (Int64 × Int64)) (I : Nat → Int32) (p c : Nat) : Nat :=
  if 2 ≤ I 4 then 1 else if ¬ co b w p = 0 then 2 else if nI p = I 7 ∧ nI c = I 2 then 3 else if fm R S b w p c = 0 then 4 else if I 8 = 0 then 0 else
    if (sb R S b w p c 1, sb R S b w p c 2) ∈ P then 5 else 0
theorem k_ref (v : vM h A R S b w P I g) {p c : Nat} (hp : p < R * S) (hc : c < 4) (hQ0 : Q (.inl (some (.int (nI (rf R S b w P I p c))))) h) : zr_E (d + 6) 31 [.ref (A 0), .int (nI p), .int (nI c)] h Q := by
  obtain ⟨hM, hB, hG, hg, fb, fw, vp, hP⟩ := id v
  have hn := g_n hg
  have hc2 := co_lt b w p
  have hQ : ∀ a, a < 6 → rf R S b w P I p c = a → Q (.inl (some (.int (nI a)))) h := fun a _ e => e ▸ hQ0
  unfold rf at hQ
  rw [ze_31]
  simp only [zs_31_0, zs_31_0u, zs_31_1, zt_31_1, zs_31_4, zs_31_7, zs_31_8, zs_31_9, zs_31_9u, zs_31_10, zs_31_13, zs_31_14, zt_31_14, zs_31_17, zs_31_20, zs_31_21, zs_31_22, zs_31_23, zs_31_23u, zs_31_24, zs_31_27, zs_31_30, zs_31_31, zs_31_31u, zs_31_32, zs_31_35, zs_31_38, zs_31_39, zs_31_40, zs_31_40u, zs_31_41, zs_31_44, zs_31_45, zs_31_46, zt_31_46, zs_31_49, zs_31_50, zs_31_51, zs_31_54, zs_31_55, zs_31_56, zs_31_56u, zs_31_57, zs_31_60, zs_31_63, zs_31_64, zs_31_65, zs_31_65u, zs_31_66, zs_31_69, zs_31_70, zs_31_71, zs_31_72, zt_31_72, zs_31_75, zs_31_76, zs_31_76u, zs_31_77, zs_31_80, zs_31_81, zs_31_82, zs_31_83, zt_31_83, zs_31_86, zs_31_88, zs_31_88u, zs_31_89, zs_31_92, zs_31_93, zs_31_95, zt_31_95, zs_31_98, zs_31_101, zs_31_102, zs_31_105, zs_31_106, zc_isO, zr_fld_mk, zc_isA, zc_len, zr_elt_mk, zr_kill_i, zr_kill_l, zr_kill_r, zr_kill_u, zr_kill_f, zr_kill_n, zc_cat, zr_cat_i, zr_cat_l, zr_cat_r, zr_cat_f, zr_cat_d, zr_cat_u, beq_self_eq_true, Nat.zero_le, Nat.le_refl, Nat.reduceSub, Nat.reduceAdd, Nat.reduceLeDiff, csl_f, csr_f, cn_f, lg_cmp_eq, lg_cmp_le, lg_cmp_lt, lg_cmp_ge, lg_cmp_gt, nI_1, zr_up_self, zp_O, zr_fup_self, zr_fup_ne, ne_eq, Nat.reduceEqDiff, not_false_eq_true, pk_mul, hM, zm_I]
  refine k_over v (fun z => ?_) (fun z => ?_)
  · simp only [zs_31_0, zs_31_0u, zs_31_1, zt_31_1, zs_31_4, zs_31_7, zs_31_8, zs_31_10, zs_31_13, zs_31_14, zt_31_14, zs_31_17, zs_31_20, zs_31_21, zs_31_22, zs_31_23, zs_31_23u, zs_31_24, zs_31_27, zs_31_30, zs_31_31, zs_31_31u, zs_31_32, zs_31_35, zs_31_38, zs_31_39, zs_31_40, zs_31_40u, zs_31_41, zs_31_44, zs_31_45, zs_31_46, zt_31_46, zs_31_49, zs_31_50, zs_31_51, zs_31_54, zs_31_55, zs_31_56, zs_31_56u, zs_31_57, zs_31_60, zs_31_63, zs_31_64, zs_31_65, zs_31_65u, zs_31_66, zs_31_69, zs_31_70, zs_31_71, zs_31_72, zt_31_72, zs_31_75, zs_31_76, zs_31_76u, zs_31_77, zs_31_80, zs_31_81, zs_31_82, zs_31_83, zt_31_83, zs_31_86, zs_31_88, zs_31_88u, zs_31_89, zs_31_92, zs_31_93, zs_31_95, zt_31_95, zs_31_98, zs_31_101, zs_31_102, zs_31_105, zs_31_106, zc_isO, zr_fld_mk, zc_isA, zc_len, zr_elt_mk, zr_kill_i, zr_kill_l, zr_kill_r, zr_kill_u, zr_kill_f, zr_kill_n, zc_cat, zr_cat_i, zr_cat_l, zr_cat_r, zr_cat_f, zr_cat_d, zr_cat_u, beq_self_eq_true, Nat.zero_le, Nat.le_refl, Nat.reduceSub, Nat.reduceAdd, Nat.reduceLeDiff, csl_f, csr_f, cn_f, lg_cmp_eq, lg_cmp_le, lg_cmp_lt, lg_cmp_ge, lg_cmp_gt, nI_1, zr_up_self, zp_O, zr_fup_self, zr_fup_ne, ne_eq, Nat.reduceEqDiff, not_false_eq_true, pk_mul]
    refine ⟨fun y => absurd y (by decide), fun _ => ?_⟩
    exact hQ 1 (by omega) (by rw [if_pos z])
  · simp only [zs_31_0, zs_31_0u, zs_31_1, zt_31_1, zs_31_4, zs_31_7, zs_31_8, zs_31_10, zs_31_13, zs_31_14, zt_31_14, zs_31_17, zs_31_20, zs_31_21, zs_31_22, zs_31_23, zs_31_23u, zs_31_24, zs_31_27, zs_31_30, zs_31_31, zs_31_31u, zs_31_32, zs_31_35, zs_31_38, zs_31_39, zs_31_40, zs_31_40u, zs_31_41, zs_31_44, zs_31_45, zs_31_46, zt_31_46, zs_31_49, zs_31_50, zs_31_51, zs_31_54, zs_31_55, zs_31_56, zs_31_56u, zs_31_57, zs_31_60, zs_31_63, zs_31_64, zs_31_65, zs_31_65u, zs_31_66, zs_31_69, zs_31_70, zs_31_71, zs_31_72, zt_31_72, zs_31_75, zs_31_76, zs_31_76u, zs_31_77, zs_31_80, zs_31_81, zs_31_82, zs_31_83, zt_31_83, zs_31_86, zs_31_88, zs_31_88u, zs_31_89, zs_31_92, zs_31_93, zs_31_95, zt_31_95, zs_31_98, zs_31_101, zs_31_102, zs_31_105, zs_31_106, zc_isO, zr_fld_mk, zc_isA, zc_len, zr_elt_mk, zr_kill_i, zr_kill_l, zr_kill_r, zr_kill_u, zr_kill_f, zr_kill_n, zc_cat, zr_cat_i, zr_cat_l, zr_cat_r, zr_cat_f, zr_cat_d, zr_cat_u, beq_self_eq_true, Nat.zero_le, Nat.le_refl, Nat.reduceSub, Nat.reduceAdd, Nat.reduceLeDiff, csl_f, csr_f, cn_f, lg_cmp_eq, lg_cmp_le, lg_cmp_lt, lg_cmp_ge, lg_cmp_gt, nI_1, zr_up_self, zp_O, zr_fup_self, zr_fup_ne, ne_eq, Nat.reduceEqDiff, not_false_eq_true, pk_mul]
    refine ⟨fun _ => ?_, fun y => absurd trivial y⟩
    simp only [zs_31_0, zs_31_0u, zs_31_1, zt_31_1, zs_31_4, zs_31_7, zs_31_8, zs_31_9, zs_31_9u, zs_31_10, zs_31_13, zs_31_14, zt_31_14, zs_31_17, zs_31_20, zs_31_21, zs_31_22, zs_31_23, zs_31_23u, zs_31_24, zs_31_27, zs_31_30, zs_31_31, zs_31_31u, zs_31_32, zs_31_35, zs_31_38, zs_31_39, zs_31_40, zs_31_40u, zs_31_41, zs_31_44, zs_31_45, zs_31_46, zt_31_46, zs_31_49, zs_31_50, zs_31_51, zs_31_54, zs_31_55, zs_31_56, zs_31_56u, zs_31_57, zs_31_60, zs_31_63, zs_31_64, zs_31_65, zs_31_65u, zs_31_66, zs_31_69, zs_31_70, zs_31_71, zs_31_72, zt_31_72, zs_31_75, zs_31_76, zs_31_76u, zs_31_77, zs_31_80, zs_31_81, zs_31_82, zs_31_83, zt_31_83, zs_31_86, zs_31_88, zs_31_88u, zs_31_89, zs_31_92, zs_31_93, zs_31_95, zt_31_95, zs_31_98, zs_31_101, zs_31_102, zs_31_105, zs_31_106, zc_isO, zr_fld_mk, zc_isA, zc_len, zr_elt_mk, zr_kill_i, zr_kill_l, zr_kill_r, zr_kill_u, zr_kill_f, zr_kill_n, zc_cat, zr_cat_i, zr_cat_l, zr_cat_r, zr_cat_f, zr_cat_d, zr_cat_u, beq_self_eq_true, Nat.zero_le, Nat.le_refl, Nat.reduceSub, Nat.reduceAdd, Nat.reduceLeDiff, csl_f, csr_f, cn_f, lg_cmp_eq, lg_cmp_le, lg_cmp_lt, lg_cmp_ge, lg_cmp_gt, nI_1, zr_up_self, zp_O, zr_fup_self, zr_fup_ne, ne_eq, Nat.reduceEqDiff, not_false_eq_true, pk_mul, hM, zm_I, zm_0, hB, zb_O]
    refine k_co hB (by omega) ?_
    simp only [zs_31_0, zs_31_0u, zs_31_1, zt_31_1, zs_31_4, zs_31_7, zs_31_8, zs_31_9, zs_31_9u, zs_31_10, zs_31_13, zs_31_14, zt_31_14, zs_31_17, zs_31_20, zs_31_21, zs_31_22, zs_31_23, zs_31_23u, zs_31_24, zs_31_27, zs_31_30, zs_31_31, zs_31_31u, zs_31_32, zs_31_35, zs_31_38, zs_31_39, zs_31_41, zs_31_44, zs_31_45, zs_31_46, zt_31_46, zs_31_49, zs_31_50, zs_31_51, zs_31_54, zs_31_55, zs_31_56, zs_31_56u, zs_31_57, zs_31_60, zs_31_63, zs_31_64, zs_31_65, zs_31_65u, zs_31_66, zs_31_69, zs_31_70, zs_31_71, zs_31_72, zt_31_72, zs_31_75, zs_31_76, zs_31_76u, zs_31_77, zs_31_80, zs_31_81, zs_31_82, zs_31_83, zt_31_83, zs_31_86, zs_31_88, zs_31_88u, zs_31_89, zs_31_92, zs_31_93, zs_31_95, zt_31_95, zs_31_98, zs_31_101, zs_31_102, zs_31_105, zs_31_106, zc_isO, zr_fld_mk, zc_isA, zc_len, zr_elt_mk, zr_kill_i, zr_kill_l, zr_kill_r, zr_kill_u, zr_kill_f, zr_kill_n, zc_cat, zr_cat_i, zr_cat_l, zr_cat_r, zr_cat_f, zr_cat_d, zr_cat_u, beq_self_eq_true, Nat.zero_le, Nat.le_refl, Nat.reduceSub, Nat.reduceAdd, Nat.reduceLeDiff, csl_f, csr_f, cn_f, lg_cmp_eq, lg_cmp_le, lg_cmp_lt, lg_cmp_ge, lg_cmp_gt, nI_1, zr_up_self, zp_O, zr_fup_self, zr_fup_ne, ne_eq, Nat.reduceEqDiff, not_false_eq_true, pk_mul, hM, zm_I, zm_0, zm_2, zm_7, hB, zb_O]
    rw [nI_eq0 (by omega)]
    refine ⟨fun y => ?_, fun y => ?_⟩
    · have tail : ¬ (nI p = I 7 ∧ nI c = I 2) → zr_Z (d + 5) 31 Q 40 [some (.ref (A 0)), some (.int (nI p)), some (.int (nI c)), none, none, none, none] [] h 0 0 := by
        intro x
        simp only [zs_31_0, zs_31_0u, zs_31_1, zt_31_1, zs_31_4, zs_31_7, zs_31_8, zs_31_9, zs_31_9u, zs_31_10, zs_31_13, zs_31_14, zt_31_14, zs_31_17, zs_31_20, zs_31_21, zs_31_22, zs_31_23, zs_31_23u, zs_31_24, zs_31_27, zs_31_30, zs_31_31, zs_31_31u, zs_31_32, zs_31_35, zs_31_38, zs_31_39, zs_31_40, zs_31_40u, zs_31_41, zs_31_44, zs_31_45, zs_31_46, zt_31_46, zs_31_49, zs_31_50, zs_31_51, zs_31_54, zs_31_55, zs_31_56, zs_31_56u, zs_31_57, zs_31_60, zs_31_63, zs_31_64, zs_31_65, zs_31_65u, zs_31_66, zs_31_69, zs_31_70, zs_31_71, zs_31_72, zt_31_72, zs_31_75, zs_31_76, zs_31_76u, zs_31_77, zs_31_80, zs_31_81, zs_31_82, zs_31_83, zt_31_83, zs_31_86, zs_31_88, zs_31_88u, zs_31_89, zs_31_92, zs_31_93, zs_31_95, zt_31_95, zs_31_98, zs_31_101, zs_31_102, zs_31_105, zs_31_106, zc_isO, zr_fld_mk, zc_isA, zc_len, zr_elt_mk, zr_kill_i, zr_kill_l, zr_kill_r, zr_kill_u, zr_kill_f, zr_kill_n, zc_cat, zr_cat_i, zr_cat_l, zr_cat_r, zr_cat_f, zr_cat_d, zr_cat_u, beq_self_eq_true, Nat.zero_le, Nat.le_refl, Nat.reduceSub, Nat.reduceAdd, Nat.reduceLeDiff, csl_f, csr_f, cn_f, lg_cmp_eq, lg_cmp_le, lg_cmp_lt, lg_cmp_ge, lg_cmp_gt, nI_1, zr_up_self, zp_O, zr_fup_self, zr_fup_ne, ne_eq, Nat.reduceEqDiff, not_false_eq_true, pk_mul, hM, zm_I, zm_0, zm_2, zm_7, hB, zb_O]
        refine k_fm hg hB hG hp hc ?_
        simp only [zs_31_0, zs_31_0u, zs_31_1, zt_31_1, zs_31_4, zs_31_7, zs_31_8, zs_31_9, zs_31_9u, zs_31_10, zs_31_13, zs_31_14, zt_31_14, zs_31_17, zs_31_20, zs_31_21, zs_31_22, zs_31_23, zs_31_23u, zs_31_24, zs_31_27, zs_31_30, zs_31_31, zs_31_31u, zs_31_32, zs_31_35, zs_31_38, zs_31_39, zs_31_40, zs_31_40u, zs_31_41, zs_31_44, zs_31_45, zs_31_46, zt_31_46, zs_31_49, zs_31_50, zs_31_51, zs_31_54, zs_31_55, zs_31_56, zs_31_56u, zs_31_57, zs_31_60, zs_31_63, zs_31_64, zs_31_65, zs_31_65u, zs_31_66, zs_31_69, zs_31_70, zs_31_71, zs_31_72, zt_31_72, zs_31_75, zs_31_76, zs_31_76u, zs_31_77, zs_31_80, zs_31_81, zs_31_82, zs_31_83, zt_31_83, zs_31_86, zs_31_88, zs_31_88u, zs_31_89, zs_31_92, zs_31_93, zs_31_95, zt_31_95, zs_31_98, zs_31_101, zs_31_102, zs_31_105, zs_31_106, zc_isO, zr_fld_mk, zc_isA, zc_len, zr_elt_mk, zr_kill_i, zr_kill_l, zr_kill_r, zr_kill_u, zr_kill_f, zr_kill_n, zc_cat, zr_cat_i, zr_cat_l, zr_cat_r, zr_cat_f, zr_cat_d, zr_cat_u, beq_self_eq_true, Nat.zero_le, Nat.le_refl, Nat.reduceSub, Nat.reduceAdd, Nat.reduceLeDiff, csl_f, csr_f, cn_f, lg_cmp_eq, lg_cmp_le, lg_cmp_lt, lg_cmp_ge, lg_cmp_gt, nI_1, zr_up_self, zp_O, zr_fup_self, zr_fup_ne, ne_eq, Nat.reduceEqDiff, not_false_eq_true, pk_mul, hM, zm_I, zm_0, zm_8, hB, zb_O]
        refine ⟨fun u => ⟨fun t => ?_, fun t => ?_⟩, fun u => ?_⟩
        · refine k_sb hg hB hG (c := 1) hc (by omega) ?_
          simp only [zs_31_0, zs_31_0u, zs_31_1, zt_31_1, zs_31_4, zs_31_7, zs_31_8, zs_31_9, zs_31_9u, zs_31_10, zs_31_13, zs_31_14, zt_31_14, zs_31_17, zs_31_20, zs_31_21, zs_31_22, zs_31_23, zs_31_23u, zs_31_24, zs_31_27, zs_31_30, zs_31_31, zs_31_31u, zs_31_32, zs_31_35, zs_31_38, zs_31_39, zs_31_40, zs_31_40u, zs_31_41, zs_31_44, zs_31_45, zs_31_46, zt_31_46, zs_31_49, zs_31_50, zs_31_51, zs_31_54, zs_31_55, zs_31_56, zs_31_56u, zs_31_57, zs_31_60, zs_31_63, zs_31_64, zs_31_65, zs_31_65u, zs_31_66, zs_31_69, zs_31_70, zs_31_71, zs_31_72, zt_31_72, zs_31_75, zs_31_76, zs_31_76u, zs_31_77, zs_31_80, zs_31_81, zs_31_82, zs_31_83, zt_31_83, zs_31_86, zs_31_88, zs_31_88u, zs_31_89, zs_31_92, zs_31_93, zs_31_95, zt_31_95, zs_31_98, zs_31_101, zs_31_102, zs_31_105, zs_31_106, zc_isO, zr_fld_mk, zc_isA, zc_len, zr_elt_mk, zr_kill_i, zr_kill_l, zr_kill_r, zr_kill_u, zr_kill_f, zr_kill_n, zc_cat, zr_cat_i, zr_cat_l, zr_cat_r, zr_cat_f, zr_cat_d, zr_cat_u, beq_self_eq_true, Nat.zero_le, Nat.le_refl, Nat.reduceSub, Nat.reduceAdd, Nat.reduceLeDiff, csl_f, csr_f, cn_f, lg_cmp_eq, lg_cmp_le, lg_cmp_lt, lg_cmp_ge, lg_cmp_gt, nI_1, zr_up_self, zp_O, zr_fup_self, zr_fup_ne, ne_eq, Nat.reduceEqDiff, not_false_eq_true, pk_mul, hM, zm_I, zm_0, zm_8, hB, zb_O]
          refine k_sb hg hB hG (c := 2) hc (by omega) ?_
          simp only [zs_31_0, zs_31_0u, zs_31_1, zt_31_1, zs_31_4, zs_31_7, zs_31_8, zs_31_9, zs_31_9u, zs_31_10, zs_31_13, zs_31_14, zt_31_14, zs_31_17, zs_31_20, zs_31_21, zs_31_22, zs_31_23, zs_31_23u, zs_31_24, zs_31_27, zs_31_30, zs_31_31, zs_31_31u, zs_31_32, zs_31_35, zs_31_38, zs_31_39, zs_31_40, zs_31_40u, zs_31_41, zs_31_44, zs_31_45, zs_31_46, zt_31_46, zs_31_49, zs_31_50, zs_31_51, zs_31_54, zs_31_55, zs_31_56, zs_31_56u, zs_31_57, zs_31_60, zs_31_63, zs_31_64, zs_31_65, zs_31_65u, zs_31_66, zs_31_69, zs_31_70, zs_31_71, zs_31_72, zt_31_72, zs_31_75, zs_31_76, zs_31_76u, zs_31_77, zs_31_80, zs_31_81, zs_31_82, zs_31_83, zt_31_83, zs_31_86, zs_31_88, zs_31_88u, zs_31_89, zs_31_92, zs_31_93, zs_31_95, zt_31_95, zs_31_101, zs_31_102, zs_31_105, zs_31_106, zc_isO, zr_fld_mk, zc_isA, zc_len, zr_elt_mk, zr_kill_i, zr_kill_l, zr_kill_r, zr_kill_u, zr_kill_f, zr_kill_n, zc_cat, zr_cat_i, zr_cat_l, zr_cat_r, zr_cat_f, zr_cat_d, zr_cat_u, beq_self_eq_true, Nat.zero_le, Nat.le_refl, Nat.reduceSub, Nat.reduceAdd, Nat.reduceLeDiff, csl_f, csr_f, cn_f, lg_cmp_eq, lg_cmp_le, lg_cmp_lt, lg_cmp_ge, lg_cmp_gt, nI_1, zr_up_self, zp_O, zr_fup_self, zr_fup_ne, ne_eq, Nat.reduceEqDiff, not_false_eq_true, pk_mul, hM, zm_I, zm_0, zm_1, zm_8, hB, zb_O, vp.1, zp_I]
          refine k_hasP vp (fun s => ?_) (fun s => ?_)
          · simp only [zs_31_0, zs_31_0u, zs_31_1, zt_31_1, zs_31_4, zs_31_7, zs_31_8, zs_31_9, zs_31_9u, zs_31_10, zs_31_13, zs_31_14, zt_31_14, zs_31_17, zs_31_20, zs_31_21, zs_31_22, zs_31_23, zs_31_23u, zs_31_24, zs_31_27, zs_31_30, zs_31_31, zs_31_31u, zs_31_32, zs_31_35, zs_31_38, zs_31_39, zs_31_40, zs_31_40u, zs_31_41, zs_31_44, zs_31_45, zs_31_46, zt_31_46, zs_31_49, zs_31_50, zs_31_51, zs_31_54, zs_31_55, zs_31_56, zs_31_56u, zs_31_57, zs_31_60, zs_31_63, zs_31_64, zs_31_65, zs_31_65u, zs_31_66, zs_31_69, zs_31_70, zs_31_71, zs_31_72, zt_31_72, zs_31_75, zs_31_76, zs_31_76u, zs_31_77, zs_31_80, zs_31_81, zs_31_82, zs_31_83, zt_31_83, zs_31_86, zs_31_88, zs_31_88u, zs_31_89, zs_31_92, zs_31_93, zs_31_95, zt_31_95, zs_31_98, zs_31_101, zs_31_102, zs_31_105, zs_31_106, zc_isO, zr_fld_mk, zc_isA, zc_len, zr_elt_mk, zr_kill_i, zr_kill_l, zr_kill_r, zr_kill_u, zr_kill_f, zr_kill_n, zc_cat, zr_cat_i, zr_cat_l, zr_cat_r, zr_cat_f, zr_cat_d, zr_cat_u, beq_self_eq_true, Nat.zero_le, Nat.le_refl, Nat.reduceSub, Nat.reduceAdd, Nat.reduceLeDiff, csl_f, csr_f, cn_f, lg_cmp_eq, lg_cmp_le, lg_cmp_lt, lg_cmp_ge, lg_cmp_gt, nI_1, zr_up_self, zp_O, zr_fup_self, zr_fup_ne, ne_eq, Nat.reduceEqDiff, not_false_eq_true, pk_mul]
            refine ⟨fun r => absurd r (by decide), fun _ => ?_⟩
            exact hQ 5 (by omega) (by rw [if_neg z, if_neg (by omega), if_neg x, if_neg u, if_neg t, if_pos ((hasP_mem hP).mp s)])
          · simp only [zs_31_0, zs_31_0u, zs_31_1, zt_31_1, zs_31_4, zs_31_7, zs_31_8, zs_31_9, zs_31_9u, zs_31_10, zs_31_13, zs_31_14, zt_31_14, zs_31_17, zs_31_20, zs_31_21, zs_31_22, zs_31_23, zs_31_23u, zs_31_24, zs_31_27, zs_31_30, zs_31_31, zs_31_31u, zs_31_32, zs_31_35, zs_31_38, zs_31_39, zs_31_40, zs_31_40u, zs_31_41, zs_31_44, zs_31_45, zs_31_46, zt_31_46, zs_31_49, zs_31_50, zs_31_51, zs_31_54, zs_31_55, zs_31_56, zs_31_56u, zs_31_57, zs_31_60, zs_31_63, zs_31_64, zs_31_65, zs_31_65u, zs_31_66, zs_31_69, zs_31_70, zs_31_71, zs_31_72, zt_31_72, zs_31_75, zs_31_76, zs_31_76u, zs_31_77, zs_31_80, zs_31_81, zs_31_82, zs_31_83, zt_31_83, zs_31_86, zs_31_88, zs_31_88u, zs_31_89, zs_31_92, zs_31_93, zs_31_95, zt_31_95, zs_31_98, zs_31_101, zs_31_102, zs_31_105, zs_31_106, zc_isO, zr_fld_mk, zc_isA, zc_len, zr_elt_mk, zr_kill_i, zr_kill_l, zr_kill_r, zr_kill_u, zr_kill_f, zr_kill_n, zc_cat, zr_cat_i, zr_cat_l, zr_cat_r, zr_cat_f, zr_cat_d, zr_cat_u, beq_self_eq_true, Nat.zero_le, Nat.le_refl, Nat.reduceSub, Nat.reduceAdd, Nat.reduceLeDiff, csl_f, csr_f, cn_f, lg_cmp_eq, lg_cmp_le, lg_cmp_lt, lg_cmp_ge, lg_cmp_gt, nI_1, zr_up_self, zp_O, zr_fup_self, zr_fup_ne, ne_eq, Nat.reduceEqDiff, not_false_eq_true, pk_mul]
            refine ⟨fun _ => ?_, fun r => absurd trivial r⟩
            exact hQ 0 (by omega) (by rw [if_neg z, if_neg (by omega), if_neg x, if_neg u, if_neg t, if_neg (fun f => s ((hasP_mem hP).mpr f))])
        · exact hQ 0 (by omega) (by rw [if_neg z, if_neg (by omega), if_neg x, if_neg u, if_pos t])
        · exact hQ 4 (by omega) (by rw [if_neg z, if_neg (by omega), if_neg x, if_pos u])
      refine ⟨fun x => tail (fun f => x f.1), fun x => ⟨fun u => tail (fun f => u f.2), fun u => ?_⟩⟩
      exact hQ 3 (by omega) (by rw [if_neg z, if_neg (by omega), if_pos ⟨x, u⟩])
    · exact hQ 2 (by omega) (by rw [if_neg z, if_pos y])
end GAME
