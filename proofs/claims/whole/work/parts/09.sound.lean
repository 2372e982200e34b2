/-! THE ABSTRACT MACHINE IS THE MACHINE: what a frame's run says holds of the frame -/
theorem zr_cl_spec {o x : Nat} {v : Int64} (h : zr_cl o x = some v) : zr_goodIn (.constantLong (zr_own o) x v) := by
  obtain ⟨ent, he1, he2, he3⟩ := zr_fnd h
  have hck := List.all_eq_true.mp zr_clall ent he1
  simp only [Bool.and_eq_true, beq_iff_eq] at he2
  rw [he2.1, he2.2, he3] at hck
  exact zr_wd_spec hck
theorem zr_nr_spec {o x ci : Nat} (h : zr_nr o x = some ci) : zr_goodIn (.classLink (zr_own o) x (zr_own ci)) ∧ ci < 8 := by
  obtain ⟨ent, he1, he2, he3⟩ := zr_fnd h
  have hck := List.all_eq_true.mp zr_nrall ent he1
  simp only [Bool.and_eq_true, beq_iff_eq] at he2
  unfold zr_nrc at hck
  rw [he3, he2.1, he2.2] at hck
  simp only [Bool.and_eq_true, decide_eq_true_eq] at hck
  exact ⟨zr_wd_spec hck.1.1, hck.1.2⟩
theorem zr_ck_spec {o x E : Nat} (h : zr_ck o x = some E) : zr_goodIn (.classLink (zr_own o) x (zr_exT.getD E "")) ∧ E < 4 := by
  obtain ⟨ent, he1, he2, he3⟩ := zr_fnd h
  have hck := List.all_eq_true.mp zr_ckall2 ent he1
  simp only [Bool.and_eq_true, beq_iff_eq] at he2
  rw [he3, he2.1, he2.2] at hck
  simp only [Bool.and_eq_true, decide_eq_true_eq] at hck
  exact ⟨zr_wd_spec hck.1, hck.2⟩
theorem zr_ir_spec {o x kd mno : Nat} (h : zr_ir o x = some (kd, mno)) (h3 : kd ≠ 3) (h4 : kd ≠ 4) (h5 : kd ≠ 5) : mno < 257 ∧ zr_kd mno = kd ∧ zr_goodIn (.methodLink (zr_own o) x (zr_mm mno).1) := by
  obtain ⟨ent, he1, he2, he3⟩ := zr_fnd h
  have hck := List.all_eq_true.mp zr_irall ent he1
  simp only [Bool.and_eq_true, beq_iff_eq] at he2
  simp only [Prod.mk.injEq] at he3
  unfold zr_irc at hck
  rw [he3.1, he3.2, he2.1, he2.2, if_neg h3, if_neg h4, if_neg h5] at hck
  simp only [Bool.and_eq_true, decide_eq_true_eq] at hck
  exact ⟨hck.1.2, hck.2, zr_wd_spec hck.1.1⟩
theorem zr_ir_obj {o x mno : Nat} (h : zr_ir o x = some (3, mno)) : zr_goodIn (.methodLink (zr_own o) x Lib.objectInit) := by
  obtain ⟨ent, he1, he2, he3⟩ := zr_fnd h
  have hck := List.all_eq_true.mp zr_irall ent he1
  simp only [Bool.and_eq_true, beq_iff_eq] at he2
  simp only [Prod.mk.injEq] at he3
  unfold zr_irc at hck
  rw [he3.1, he2.1, he2.2, if_pos rfl] at hck
  exact zr_wd_spec hck
theorem zr_ir_min {o x mno : Nat} (h : zr_ir o x = some (4, mno)) : zr_goodIn (.methodLink (zr_own o) x Lib.Math.min.name) := by
  obtain ⟨ent, he1, he2, he3⟩ := zr_fnd h
  have hck := List.all_eq_true.mp zr_irall ent he1
  simp only [Bool.and_eq_true, beq_iff_eq] at he2
  simp only [Prod.mk.injEq] at he3
  unfold zr_irc at hck
  rw [he3.1, he2.1, he2.2, if_neg (by decide), if_pos rfl] at hck
  exact zr_wd_spec hck
theorem zr_ir_nest {o x mno : Nat} (h : zr_ir o x = some (5, mno)) : mno < 257 ∧ zr_kd mno = 1 ∧ zr_hh mno = [] ∧ Cond.methodLinkNest (zr_own o) x (zr_mm mno).1 "RingStones" ∈ lw_tbl := by
  obtain ⟨ent, he1, he2, he3⟩ := zr_fnd h
  have hck := List.all_eq_true.mp zr_irall ent he1
  simp only [Bool.and_eq_true, beq_iff_eq] at he2
  simp only [Prod.mk.injEq] at he3
  unfold zr_irc at hck
  rw [he3.1, he3.2, he2.1, he2.2, if_neg (by decide), if_neg (by decide), if_pos rfl] at hck
  simp only [Bool.and_eq_true, decide_eq_true_eq] at hck
  exact ⟨hck.1.1.2, hck.1.2, hck.2, zr_wm_spec hck.1.1.1⟩
theorem zr_wO1 : zr_goodIn (.instanceMethod Lib.objectInit) := zr_gI (by decide +kernel)
theorem zr_wO2 : zr_goodIn (.code Lib.objectInit ⟨#[0xb1]⟩ 1 none) := zr_gI (by decide +kernel)
theorem zr_wM1 : zr_goodIn (.static Lib.Math.min.name) := zr_gI (by decide +kernel)
theorem zr_wM2 : zr_goodIn (.initialized "java/lang/Math") := zr_gI (by decide +kernel)
theorem zr_wM3 : zr_goodIn (.code Lib.Math.min.name Lib.Math.min.code 2 (some .int)) := zr_gI (by decide +kernel)
theorem zr_wAO : Cond.arrayOver (.object "RingStones$Game") ∈ lw_tbl := of_decide_eq_true (by decide +kernel)
theorem zr_wCS : zr_goodIn (.fieldLink "java/lang/String" 38 "java/lang/String" "COMPACT_STRINGS" "Z") := zr_gI (by decide +kernel)
theorem zr_wSF : zr_goodIn (.fieldLink "java/lang/String" 1053 "jdk/internal/util/Preconditions" "SIOOBE_FORMATTER" "Ljava/util/function/BiFunction;") := zr_gI (by decide +kernel)
theorem zr_arrw {a : ArrayType} (h : zr_nt a < 5) : zr_goodIn (.arrayClass (newarray.typeOf a)) := by
  cases a <;> first | exact zr_gI (by decide +kernel) | (exfalso; revert h; decide)
theorem zr_arrt {a : ArrayType} (h : zr_nt a < 5) : zr_at (zr_nt a) = newarray.typeOf a := by
  cases a <;> first | rfl | (exfalso; revert h; decide)
theorem zr_arrb {a : ArrayType} {n : Nat} (h : zr_nt a < 5) (hn : n * 8 ≤ 536870912) : n * componentBytes (newarray.typeOf a) ≤ 536870912 := by
  have : componentBytes (newarray.typeOf a) ≤ 8 := by cases a <;> decide
  exact Nat.le_trans (Nat.mul_le_mul_left n this) hn
theorem zr_keepLo {S0 : State} {B0 : Nat} {H : Heap} (h : zr_low S0 B0 H) : ∀ a : Nat, a < S0.heap.size → ¬ zr_Lo B0 a → H[a]? = S0.heap[a]? := fun a _ hb => h.2.2 a (Nat.lt_of_not_le hb)
theorem zr_low_kept {S0 : State} {B0 : Nat} {H H1 : Heap} (h : zr_low S0 B0 H) (hk : ∀ q, q < H.size → H1[q]? = H[q]?) : zr_low S0 B0 H1 := by
  refine ⟨h.1, ?_, fun q hq => by rw [hk q (zr_low_lt h hq)]; exact h.2.2 q hq⟩
  rcases Nat.lt_or_ge H1.size S0.heap.size with z | z
  · have h1 : H1.size < H.size := Nat.lt_of_lt_of_le z h.2.1
    have h2 := hk _ h1
    rw [Array.getElem?_eq_none (Nat.le_refl _), Array.getElem?_eq_getElem h1] at h2
    cases h2
  · exact z
theorem zr_exfit {E : Nat} (h : E < 4) : Bundle.fit (zr_exT.getD E "") = true := by
  rcases (show E = 0 ∨ E = 1 ∨ E = 2 ∨ E = 3 by omega) with rfl | rfl | rfl | rfl <;> decide +kernel
theorem zr_cb {E : Nat} (h : E < 4) : decode (zr_cby E) 0 = .ok (.aload_n 0, 1) ∧ decode (zr_cby E) 1 = .ok (.aload_n 1, 1) ∧ decode (zr_cby E) 2 = .ok (.invokespecial (zr_cix E), 3) ∧ decode (zr_cby E) 5 = .ok (.return_, 1) := by
  rcases (show E = 0 ∨ E = 1 ∨ E = 2 ∨ E = 3 by omega) with rfl | rfl | rfl | rfl <;> exact ⟨by decide +kernel, by decide +kernel, by decide +kernel, by decide +kernel⟩
/-- a word of the start that a warmer state keeps -/
theorem zr_word2 {S0 s : State} {A0 : Array Value} (hts : ∀ w ∈ lw_tbl, w.before A0 S0 = true) (hW0 : S0.WarmedH s.vm) {w : Cond} (h : w ∈ lw_tbl) (hg : zr_gw w = true) (a : Array Value) : w.before a s = true := by
  unfold zr_gw at hg
  rw [Bool.or_eq_true] at hg
  rcases hg with hg | hg
  · exact zr_word hts hW0 ⟨h, good_of_word hg⟩ a
  · split at hg
    · exact va_Nw.use rfl (va_Nw.warmD hW0 (va_Nw.of rfl (hts _ h)))
    · exact va_Nw.use rfl (va_Nw.warmC hW0 (va_Nw.of rfl (hts _ h)))
    · cases hg
theorem zr_gw_ot {w : Cond} (hg : zr_gw w = true) : vx_ot w = true := by
  unfold zr_gw at hg
  unfold vx_ot
  rw [Bool.or_eq_true] at hg ⊢
  rcases hg with hg | hg
  · exact Or.inr hg
  · split at hg
    · exact Or.inl rfl
    · exact Or.inl rfl
    · cases hg
theorem zr_oA_split {ic ix : Nat} {X : String} {bs : ByteArray} {w : Cond} (h : w ∈ zr_oA "RingStones" ic X ix bs) : w = .methodLink "RingStones" ic (Bundle.initS X) ∨ w ∈ zr_o1 X ix bs ++ zr_o2 X := by
  unfold zr_oA at h
  rcases List.mem_append.mp h with h | h
  · exact Or.inr (List.mem_append_left _ h)
  · rcases List.mem_cons.mp h with h | h
    · exact Or.inl h
    · exact Or.inr (List.mem_append_right _ h)
theorem zr_xr_spec {l : Launch} {S0 s : State} {A0 : Array Value} {D : va_G} {B0 : Nat} (hw : zr_wf l S0 A0 D B0) (hW0 : S0.WarmedH s.vm) (args : Array Value) {o x y z k E : Nat} (h : zr_xr o x y z k = some E) :
    zr_own o = "RingStones" ∧ E < 4 ∧ (Cond.classLink "RingStones" x (zr_exT.getD E "")).before args s = true ∧ (Cond.initialized (zr_exT.getD E "")).before args s = true ∧ (∃ sa, vk_R "RingStones" y (zr_xtf o y) sa s) ∧
    (∀ w ∈ (zr_oA "RingStones" z (zr_exT.getD E "") (zr_cix E) (zr_cby E)).filter vx_no, w.before args s = true) ∧
    (∀ w ∈ Cond.classLink "RingStones" x (zr_exT.getD E "") :: Cond.initialized (zr_exT.getD E "") :: (zr_oA "RingStones" z (zr_exT.getD E "") (zr_cix E) (zr_cby E)).filter vx_no, vx_ot w = true) ∧ True := by
  obtain ⟨ent, he1, he2, he3⟩ := zr_fnd h
  have hck := List.all_eq_true.mp zr_xrall ent he1
  have hcl := List.all_eq_true.mp zr_xrl ent he1
  have hstr := hw.2.2.2.2.2.1 ent he1
  simp only [Bool.and_eq_true, beq_iff_eq] at he2
  unfold zr_xrc at hck
  simp only [Bool.and_eq_true, decide_eq_true_eq] at hck
  obtain ⟨⟨⟨⟨h1, h2⟩, h3⟩, h4⟩, h5⟩ := hck
  have ho : zr_own ent.1 = "RingStones" := by rw [h5]; decide
  rw [ho] at h1 hstr
  have hcl := of_decide_eq_true hcl
  rw [List.any_eq_true] at hcl
  obtain ⟨w0, hw0, e0⟩ := hcl
  rw [decide_eq_true_eq, ho] at e0
  rw [he2.1.1.1.2, he3] at h1
  rw [he3] at h2 h4 e0
  rw [he2.1.2] at e0
  rw [he2.1.1.1.1, he2.1.1.2] at hstr
  have o1 : zr_own o = "RingStones" := by rw [← he2.1.1.1.1]; exact ho
  have key : ∀ w ∈ (zr_oA "RingStones" z (zr_exT.getD E "") (zr_cix E) (zr_cby E)).filter vx_no, w ∈ lw_tbl ∧ zr_gw w = true := by
    intro w hwm
    obtain ⟨q1, q2⟩ := List.mem_filter.mp hwm
    by_cases q3 : w = .methodLink "RingStones" z (Bundle.initS (zr_exT.getD E ""))
    · rw [q3]
      exact ⟨e0 ▸ hw0, rfl⟩
    · rcases zr_oA_split q1 with q | q
      · exact absurd q q3
      · have q5 : w ∈ zr_xw0 E := List.mem_filter.mpr ⟨q, q2⟩
        have r1 := List.all_eq_true.mp zr_xwall0 E (List.mem_range.mpr h4)
        have r2 := List.all_eq_true.mp zr_xwall1 E (List.mem_range.mpr h4)
        exact ⟨of_decide_eq_true (List.all_eq_true.mp r1 w q5), List.all_eq_true.mp r2 w q5⟩
  refine ⟨o1, h4, zr_word hw.1 hW0 (zr_wd_spec h1) args, zr_word hw.1 hW0 (zr_wd_spec h2) args, ?_, fun w hwm => zr_word2 hw.1 hW0 (key w hwm).1 (key w hwm).2 args, ?_, trivial⟩
  · obtain ⟨sa, hsa⟩ := hstr
    exact ⟨sa, vk_R.warm hW0 hsa⟩
  · intro w hwm
    rcases List.mem_cons.mp hwm with rfl | hwm
    · exact zr_gw_ot rfl
    · rcases List.mem_cons.mp hwm with rfl | hwm
      · exact zr_gw_ot rfl
      · exact zr_gw_ot (key w hwm).2
theorem zr_excast {k : Nat} (h : k < 4) : Cond.castable (zr_exT.getD k "") (zr_exT.getD k "") ∈ lw_tbl := by
  rcases (show k = 0 ∨ k = 1 ∨ k = 2 ∨ k = 3 by omega) with rfl | rfl | rfl | rfl <;> exact (of_decide_eq_true (by decide +kernel))
/-! handlers -/
theorem zr_hd_some {o pc E t : Nat} : ∀ hh : List (Nat × Nat × Nat × Nat), (∀ x ∈ hh, (zr_ck o x.2.2.2).isSome = true ∧ x.2.2.2 ≠ 0) → zr_hd o hh pc E = some t →
    ∃ pre x suf, hh = pre ++ x :: suf ∧ (x.1 ≤ pc ∧ pc < x.2.1) ∧ x.2.2.1 = t ∧ zr_ck o x.2.2.2 = some E ∧ x.2.2.2 ≠ 0 ∧ ∀ z ∈ pre, ¬ (z.1 ≤ pc ∧ pc < z.2.1) ∨ (z.2.2.2 ≠ 0 ∧ ∃ E', E' ≠ E ∧ zr_ck o z.2.2.2 = some E')
  | [], _, h => by cases h
  | (a, b, c, d) :: r, hk, h => by
    have hk0 := hk _ List.mem_cons_self
    unfold zr_hd at h
    by_cases h1 : a ≤ pc ∧ pc < b
    · rw [if_pos h1] at h
      by_cases h2 : zr_ck o d = some E
      · rw [if_pos h2] at h
        exact ⟨[], (a, b, c, d), r, rfl, h1, Option.some.inj h, h2, hk0.2, fun z hz => by cases hz⟩
      · rw [if_neg h2] at h
        obtain ⟨pre, x, suf, e1, e2, e3, e4, e5, e6⟩ := zr_hd_some r (fun x hx => hk x (List.mem_cons_of_mem _ hx)) h
        refine ⟨(a, b, c, d) :: pre, x, suf, by rw [e1]; rfl, e2, e3, e4, e5, fun z hz => ?_⟩
        rcases List.mem_cons.mp hz with rfl | hz
        · obtain ⟨E', hE'⟩ := Option.isSome_iff_exists.mp hk0.1
          exact Or.inr ⟨hk0.2, E', fun q => h2 (by rw [← q]; exact hE'), hE'⟩
        · exact e6 z hz
    · rw [if_neg h1] at h
      obtain ⟨pre, x, suf, e1, e2, e3, e4, e5, e6⟩ := zr_hd_some r (fun x hx => hk x (List.mem_cons_of_mem _ hx)) h
      refine ⟨(a, b, c, d) :: pre, x, suf, by rw [e1]; rfl, e2, e3, e4, e5, fun z hz => ?_⟩
      rcases List.mem_cons.mp hz with rfl | hz
      · exact Or.inl h1
      · exact e6 z hz
theorem zr_hd_none {o pc E : Nat} : ∀ hh : List (Nat × Nat × Nat × Nat), (∀ x ∈ hh, (zr_ck o x.2.2.2).isSome = true ∧ x.2.2.2 ≠ 0) → zr_hd o hh pc E = none → ∀ z ∈ hh, ¬ (z.1 ≤ pc ∧ pc < z.2.1) ∨ (z.2.2.2 ≠ 0 ∧ ∃ E', E' ≠ E ∧ zr_ck o z.2.2.2 = some E')
  | [], _, _ => fun z hz => by cases hz
  | (a, b, c, d) :: r, hk, h => by
    have hk0 := hk _ List.mem_cons_self
    unfold zr_hd at h
    intro z hz
    by_cases h1 : a ≤ pc ∧ pc < b
    · rw [if_pos h1] at h
      by_cases h2 : zr_ck o d = some E
      · rw [if_pos h2] at h; cases h
      · rw [if_neg h2] at h
        rcases List.mem_cons.mp hz with rfl | hz
        · obtain ⟨E', hE'⟩ := Option.isSome_iff_exists.mp hk0.1
          exact Or.inr ⟨hk0.2, E', fun q => h2 (by rw [← q]; exact hE'), hE'⟩
        · exact zr_hd_none r (fun x hx => hk x (List.mem_cons_of_mem _ hx)) h z hz
    · rw [if_neg h1] at h
      rcases List.mem_cons.mp hz with rfl | hz
      · exact Or.inl h1
      · exact zr_hd_none r (fun x hx => hk x (List.mem_cons_of_mem _ hx)) h z hz
section ZS
variable {p : Program} {l : Launch} {e : Env} {R : Room} {s : State} {m : MethodId} {args : Array Value} {below : List Frame} {meth : Method} {c : Code} {H : Heap} {locs : List Loc} {cells slots : Nat} {Q : State → Prop}
variable {S0 : State} {A0 : Array Value} {D : va_G} {B0 mn pc : Nat} {ls : Array Slot} {h : zr_H}
theorem zr_sop_sound (hx : p.tables.exec = Jvm.exec) (hb : c.code = zr_mb mn) {i : Instr} {n : Nat} {st st' : List Value} (hd : decode (zr_mb mn) pc = .ok (i, n)) (hs : zr_sop i n st = some st')
    (k : W p l e R s m args below meth c H locs cells slots Q (F0 m (pc + n) ls st')) : W p l e R s m args below meth c H locs cells slots Q (F0 m pc ls st) := by
  unfold zr_sop at hs
  split at hs
  · cases hs; exact lv_iconst hx hb hd rfl k
  · cases hs; exact lv_bipush hx hb hd rfl k
  · cases hs; exact lv_sipush hx hb hd rfl k
  · cases hs; exact lv_lconst hx hb hd rfl k
  · cases hs; exact lv_iadd hx hb hd k
  · cases hs; exact lv_isub hx hb hd k
  · cases hs; exact lv_imul hx hb hd k
  · cases hs; exact lv_iand hx hb hd k
  · cases hs; exact lv_ior hx hb hd k
  · cases hs; exact lv_ishl hx hb hd k
  · cases hs; exact lv_ishr hx hb hd k
  · cases hs; exact lv_iushr hx hb hd rfl k
  · cases hs; exact lv_ladd hx hb hd k
  · cases hs; exact lv_lsub hx hb hd k
  · cases hs; exact lv_lmul hx hb hd k
  · cases hs; exact lv_land hx hb hd k
  · cases hs; exact lv_lor hx hb hd k
  · cases hs; exact lv_lxor hx hb hd k
  · cases hs; exact lv_lneg hx hb hd k
  · cases hs; exact lv_lshl hx hb hd rfl k
  · cases hs; exact lv_lushr hx hb hd rfl k
  · cases hs; exact lv_i2l hx hb hd rfl k
  · cases hs; exact lv_l2i hx hb hd rfl k
  · cases hs; exact lv_i2b hx hb hd rfl k
  · cases hs; exact lv_i2c hx hb hd rfl k
  · cases hs; exact W.lcmp hx hb hd k
  · cases hs; exact lv_i2f hx hb hd k
  · cases hs; exact lv_fcmp hx hb hd k
  · cases hs; exact lv_dcmp hx hb hd k
  · cases hs; exact lv_fconst0 hx hb hd k
  · split at hs
    · cases hs; exact lv_dup hx hb hd (by assumption) k
    · cases hs
  · split at hs
    · cases hs; exact lv_pop hx hb hd (by assumption) k
    · cases hs
  · split at hs
    · cases hs; exact lv_dup2_2 hx hb hd (by assumption) k
    · split at hs
      · rename_i h9; cases hs; exact lv_dup2_11 hx hb hd h9.1 h9.2 k
      · cases hs
  · cases hs
theorem zr_vaS {T : State} (hT : T.heap = H) (X : Stand p l e R s m args below meth c T locs cells slots) (hls : zr_low S0 B0 s.heap) (hlow : zr_low S0 B0 H) (hlocs : ∀ z ∈ locs, B0 ≤ z.base) : va_S (zr_Lo B0) s.heap H locs := by
  refine ⟨?_, fun q hq hb => ?_, hlocs⟩
  · have h1 : s.heap.size ≤ (T.setVm s.vm).heap.size := X.same.2.1
    rw [← hT]; exact h1
  · have hb' : q < B0 := Nat.lt_of_not_le hb
    rw [hlow.2.2 q hb', hls.2.2 q hb']
/-- the facts of a method in the table -/
theorem zr_mfacts {i : Nat} (hi : i < 257) : plainName (zr_mm i).1.cls = true ∧ ((zr_mm i).1.cls ≠ "java/lang/invoke/MethodHandle" ∧ (zr_mm i).1.cls ≠ "java/lang/invoke/VarHandle") ∧ (parseMethodDescriptor (zr_mm i).1.desc).map (fun d => d.parameters.length) = some (zr_na i) ∧ (zr_mm i).1.cls = zr_own (zr_mo i) ∧
    zr_goodIn (if zr_kd i = 1 then .static (zr_mm i).1 else .instanceMethod (zr_mm i).1) ∧ (zr_kd i = 0 → zr_goodIn (.selects (zr_mm i).1.cls (zr_mm i).1 (zr_mm i).1)) ∧ (zr_kd i = 2 → (zr_mm i).1.name = "<init>" ∧ zr_mr i = none) ∧ zr_kd i < 3 ∧ zr_ml i ≤ 21 ∧
    (∀ x ∈ zr_hh i, (zr_ck (zr_mo i) x.2.2.2).isSome = true ∧ x.2.2.2 ≠ 0) ∧ (zr_kd i ≠ 1 → zr_hh i = [] ∧ zr_mo i < 9) ∧ zr_goodIn (.initialized (zr_mm i).1.cls) ∧ zr_goodIn (zr_cwd (zr_mm i)) := by
  have h1 := zr_ckall _ (zr_mm_in hi)
  have h2 := zr_cwall _ (zr_mm_in hi)
  unfold zr_ckm at h1
  simp only [Bool.and_eq_true, decide_eq_true_eq, List.all_eq_true] at h1
  obtain ⟨⟨⟨⟨⟨⟨⟨⟨⟨⟨⟨⟨a1, a2⟩, a3⟩, a4⟩, a5⟩, a6⟩, a7⟩, a8⟩, a9⟩, a10⟩, a11⟩, a12⟩, a13⟩ := h1
  refine ⟨a1, ⟨a2, a3⟩, a4, a5, zr_wd_spec a6, fun z => ?_, fun z => ?_, a9, a10, a11, fun z => ?_, zr_wd_spec a13, ?_⟩
  · rw [if_pos (c := (zr_mm i).2.2.2.2.2.2.2.2.getD 0 9 = 0) z] at a7
    exact zr_wd_spec a7
  · rw [if_pos (c := (zr_mm i).2.2.2.2.2.2.2.2.getD 0 9 = 2) z] at a8
    simp only [Bool.and_eq_true, decide_eq_true_eq] at a8
    exact a8
  · rw [if_neg (c := (zr_mm i).2.2.2.2.2.2.2.2.getD 0 9 = 1) z] at a12
    simp only [Bool.and_eq_true, decide_eq_true_eq] at a12
    exact a12
  · refine ⟨List.mem_of_getElem? h2, ?_⟩
    unfold zr_cwd
    split <;> exact good_of_word rfl
theorem zr_nsig {i : Nat} (hi : i < 257) {As : List Value} (hn : As.length = zr_na i) : ∀ sig, parseMethodDescriptor (zr_mm i).1.desc = some sig → As.length = sig.parameters.length := by
  intro sig hs
  have h := (zr_mfacts hi).2.2.1
  rw [hs] at h
  rw [hn]
  exact (Option.some.inj h).symm
theorem zr_wsw (hw : zr_wf l S0 A0 D B0) (hW0 : S0.WarmedH s.vm) {i : Nat} (hi : i < 257) : ∀ w ∈ zr_ws i, ∀ (a' : Array Value) (U : State), s.WarmedH U.vm → w.before a' U = true := by
  intro w hwm a' U hU
  rw [List.mem_singleton.mp hwm]
  exact zr_word hw.1 (State.WarmedH.trans hW0 hU) (zr_mfacts hi).2.2.2.2.2.2.2.2.2.2.2.2 a'
theorem zr_recv (hw : zr_wf l S0 A0 D B0) (hW0 : S0.WarmedH s.vm) (hab : zr_ab S0 D B0 h H) {q ci : Nat} (hO : zr_isO (h q) ci = true) : ∃ cell : Cell, H[q]? = some cell ∧ cell.vm.isStatics = false ∧ s.vm.findClass (zr_own ci) = some cell.cls := by
  obtain ⟨V, hV⟩ := zr_isO_spec hO
  rcases (hab.1 q _ hV : zr_ct S0 D B0 q (.inl (ci, V)) H) with ⟨rfl, -, -, -, cell, g1, g2, g3, -⟩ | ⟨-, h8, h3, cell, g1, g2, g3, -⟩
  · exact ⟨cell, g1, g2, by rw [hW0.alike.findClass]; exact g3⟩
  · exact ⟨cell, g1, by rw [g3]; rfl, by rw [hW0.alike.findClass, g2]; exact (hw.2.1 ci h8 h3).2.1⟩
theorem zr_callB (hw : zr_wf l S0 A0 D B0) (hW0 : S0.WarmedH s.vm) {d x mno : Nat} {As : List Value} (hRf : d + 9 ≤ R.frames) (hRl : 40 * d + 240 ≤ R.locals) (hlt : mno < 257) (hlk : zr_goodIn (.methodLink (zr_own (zr_mo mn)) x (zr_mm mno).1)) (hh : zr_hh mno = []) (hn : As.length = zr_na mno) :
    CallB R s args (zr_own (zr_mo mn)) x (zr_mm mno).1 (zr_mb mno) (zr_ml mno) (zr_mr mno) (zr_ws mno) (zr_rm mno d) (zr_mc mno) (zr_ms mno) As.length := by
  obtain ⟨b1, b2, b3, b4, b5, b6, b7, b8, b9, b10, b11, b12, b13⟩ := zr_mfacts hlt
  have hcw : zr_goodIn (.code (zr_mm mno).1 (zr_mb mno) (zr_ml mno) (zr_mr mno)) := by
    have := b13
    unfold zr_cwd at this
    rw [show (zr_mm mno).2.2.2.2.2.2.2.1 = [] from hh, if_pos rfl] at this
    exact this
  refine ⟨rfl, rfl, hRf, ?_, zr_wsw hw hW0 hlt, ?_, zr_word hw.1 hW0 hcw args, zr_word hw.1 hW0 b12 args, b2, zr_nsig hlt hn, zr_word hw.1 hW0 hlk args⟩
  · show 8 + (zr_ml mno + 11) + (40 * d + 200) ≤ R.locals
    omega
  · unfold zr_ws
    rw [if_pos hh]
    exact List.mem_singleton.mpr rfl
theorem zr_Pcof (hW0 : S0.WarmedH s.vm) (hab : zr_ab S0 D B0 h H) (hlow : zr_low S0 B0 H) (As : List Value) : ∀ U : State, U.heap = H → s.WarmedH U.vm → zr_Pc S0 D B0 As h As.toArray U :=
  fun U hU hW => ⟨rfl, State.WarmedH.trans hW0 hW, by rw [hU]; exact hab, by rw [hU]; exact hlow⟩
section ZC
variable {d x mno : Nat} {As r : List Value} {K : zr_K}
theorem zr_runV (hw : zr_wf l S0 A0 D B0) (hx : p.tables.exec = Jvm.exec) (hb : c.code = zr_mb mn) (hml : c.maxLocals = zr_ml mn) (hown : s.vm.findClass (zr_own (zr_mo mn)) = some m.cls) (hW0 : S0.WarmedH s.vm) (hRf : d + 9 ≤ R.frames) (hRl : 40 * d + 240 ≤ R.locals) (hab : zr_ab S0 D B0 h H) (hlow : zr_low S0 B0 H) (hlt : mno < 257) (hkd : zr_kd mno = 0) (hlk : zr_goodIn (.methodLink (zr_own (zr_mo mn)) x (zr_mm mno).1)) (hcon : zr_con l S0 D B0 d mno) {q : Nat}
    (hfit : (zr_l0 (.ref q :: As)).length ≤ zr_ml mno) (hC : zr_E d mno (.ref q :: As) h K) (hn : As.length = zr_na mno) (hO : zr_isO (h q) (zr_mo mno) = true) (hcat : zr_cat r ≤ 8) (hsz : ls.size = zr_ml mn) (hd : decode (zr_mb mn) pc = .ok (.invokevirtual x, 3)) (hf : cells + zr_mc mno ≤ R.cells ∧ slots + zr_ms mno ≤ R.slots) :
    vx_Run p l e R s m args below meth c H locs cells slots (zr_mc mno) (zr_ms mno) (F0 m pc ls (As.reverse ++ .ref q :: r)) r (zr_Qc S0 D B0 K (Value.ref q :: As).toArray) (zr_XC S0 D B0 K) (zr_Lo B0) := by
  obtain ⟨b1, b2, b3, b4, b5, b6, b7, b8, b9, b10, b11, b12, b13⟩ := zr_mfacts hlt
  have hh := (b11 (by omega)).1
  rw [if_neg (by omega)] at b5
  have cb := zr_callB (args := args) (mn := mn) hw hW0 hRf hRl hlt hlk hh hn
  exact vx_runV (C := (zr_mm mno).1.cls) (Ts := []) ⟨hx, hb, hml, hown, fun w h => by cases h⟩ (hcon _ h K hC hfit) ⟨cb, zr_word hw.1 hW0 b5 args, zr_word hw.1 hW0 (b6 hkd) args⟩ ⟨zr_Pc_blind _ _ _ _ _, by rw [b4]; exact zr_recv hw hW0 hab hO, zr_Pcof hW0 hab hlow _⟩ rfl rfl hsz rfl (lv_room hcat) hd hf
theorem zr_met_of {y : MethodName} {ws : List Cond} {rm : Room} {Pc : Array Value → State → Prop} {Qc : Array Value → State → Outcome → State → Prop} {XC : String → State → State → Prop} {mc ms : Nat} {free : Addr → Prop} (hM : vx_Met l y ws rm Pc Qc XC mc ms free) (hX : ∀ E s t, ¬ XC E s t) : Met l y ws rm Pc Qc mc ms free := by
  intro p e ha hc hk s m args below hf happ hp hK
  obtain ⟨n, o, h1, h2, h3, h4⟩ := hM p e ha hc hk s m args below hf happ hp hK
  rcases h4 with h | ⟨q, -, E, ce, L, hx, -⟩
  · exact ⟨n, o, h1, h2, h3, h⟩
  · exact absurd hx (hX _ _ _)
/-- behind a call that only returns -/
theorem zr_calln {mc ms : Nat} {st0 rest : List Value} {a : Array Value} (hr : va_Run p l e R s m args below meth c H locs cells slots mc ms (F0 m pc ls st0) rest (zr_Qc S0 D B0 K a) (zr_Lo B0)) (hlocs : ∀ z ∈ locs, B0 ≤ z.base)
    (k1 : ∀ v h' H1 locs1, K (.inl v) h' → zr_ab S0 D B0 h' H1 → zr_low S0 B0 H1 → (∀ z ∈ locs1, B0 ≤ z.base) → W p l e R s m args below meth c H1 locs1 (cells + mc) (slots + ms) Q (F0 m (pc + 3) ls (v.toList ++ rest))) :
    W p l e R s m args below meth c H locs cells slots Q (F0 m pc ls st0) := by
  intro T hT X
  obtain ⟨v, st₀, t, T', L, h0, X', hL, e1, e2, ⟨v', h', hv, hK, ha, hlo⟩, st⟩ := hr T hT X
  cases hv
  obtain ⟨t2, a1, b1⟩ := k1 v h' T'.heap (locs ++ L) hK (by rw [e1]; exact ha) (by rw [e1]; exact hlo) (fun z hz => (List.mem_append.mp hz).elim (hlocs z) (hL z)) T' rfl X'
  exact ⟨t2, st t2 a1, b1⟩
theorem zr_runI (hw : zr_wf l S0 A0 D B0) (hx : p.tables.exec = Jvm.exec) (hb : c.code = zr_mb mn) (hml : c.maxLocals = zr_ml mn) (hown : s.vm.findClass (zr_own (zr_mo mn)) = some m.cls) (hW0 : S0.WarmedH s.vm) (hRf : d + 9 ≤ R.frames) (hRl : 40 * d + 240 ≤ R.locals) (hab : zr_ab S0 D B0 h H) (hlow : zr_low S0 B0 H) (hlt : mno < 257) (hkd : zr_kd mno = 2) (hlk : zr_goodIn (.methodLink (zr_own (zr_mo mn)) x (zr_mm mno).1)) (hcon : zr_con l S0 D B0 d mno) {q : Nat}
    (hfit : (zr_l0 (.ref q :: As)).length ≤ zr_ml mno) (hC : zr_E d mno (.ref q :: As) h K) (hKx : ∀ k h', ¬ K (.inr k) h') (hn : As.length = zr_na mno) (hcat : zr_cat r ≤ 8) (hsz : ls.size = zr_ml mn) (hd : decode (zr_mb mn) pc = .ok (.invokespecial x, 3)) (hf : cells + zr_mc mno ≤ R.cells ∧ slots + zr_ms mno ≤ R.slots) :
    va_Run p l e R s m args below meth c H locs cells slots (zr_mc mno) (zr_ms mno) (F0 m pc ls (As.reverse ++ .ref q :: r)) r (zr_Qc S0 D B0 K (Value.ref q :: As).toArray) (zr_Lo B0) := by
  obtain ⟨b1, b2, b3, b4, b5, b6, b7, b8, b9, b10, b11, b12, b13⟩ := zr_mfacts hlt
  have hh := (b11 (by omega)).1
  rw [if_neg (by omega)] at b5
  have cb := zr_callB (args := args) (mn := mn) hw hW0 hRf hRl hlt hlk hh hn
  rw [(b7 hkd).2] at cb
  have hM := zr_met_of (hcon _ h K hC hfit) (fun E s t ⟨k, h', _, _, hK, _⟩ => hKx k h' hK)
  exact va_runI (Ts := []) ⟨hx, hb, hml, hown, fun w h => by cases h⟩ hM ⟨cb, (b7 hkd).1, zr_word hw.1 hW0 b5 args⟩ ⟨zr_Pc_blind _ _ _ _ _, zr_Pcof hW0 hab hlow _⟩ rfl rfl hsz rfl (lv_room hcat) hd hf
theorem zr_runN (hw : zr_wf l S0 A0 D B0) (hx : p.tables.exec = Jvm.exec) (hb : c.code = zr_mb mn) (hml : c.maxLocals = zr_ml mn) (hown : s.vm.findClass (zr_own (zr_mo mn)) = some m.cls) (hW0 : S0.WarmedH s.vm) (hRf : d + 9 ≤ R.frames) (hRl : 40 * d + 240 ≤ R.locals) (hab : zr_ab S0 D B0 h H) (hlow : zr_low S0 B0 H) (hir : zr_ir (zr_mo mn) x = some (5, mno)) (hcon : zr_con l S0 D B0 d mno)
    (hfit : (zr_l0 As).length ≤ zr_ml mno) (hC : zr_E d mno As h K) (hKx : ∀ k h', ¬ K (.inr k) h') (hn : As.length = zr_na mno) (hcat : zr_cat r ≤ 8) (hsz : ls.size = zr_ml mn) (hd : decode (zr_mb mn) pc = .ok (.invokestatic x, 3)) (hf : cells + zr_mc mno ≤ R.cells ∧ slots + zr_ms mno ≤ R.slots) :
    va_Run p l e R s m args below meth c H locs cells slots (zr_mc mno) (zr_ms mno) (F0 m pc ls (As.reverse ++ r)) r (zr_Qc S0 D B0 K As.toArray) (zr_Lo B0) := by
  obtain ⟨hlt, hkd, hh, hnl⟩ := zr_ir_nest hir
  obtain ⟨b1, b2, b3, b4, b5, b6, b7, b8, b9, b10, b11, b12, b13⟩ := zr_mfacts hlt
  rw [if_pos hkd] at b5
  have hcw : zr_goodIn (.code (zr_mm mno).1 (zr_mb mno) (zr_ml mno) (zr_mr mno)) := by
    have := b13
    unfold zr_cwd at this
    rw [show (zr_mm mno).2.2.2.2.2.2.2.1 = [] from hh, if_pos rfl] at this
    exact this
  have hM := zr_met_of (hcon _ h K hC hfit) (fun E s t ⟨k, h', _, _, hK, _⟩ => hKx k h' hK)
  have hlk : (Cond.methodLinkNest (zr_own (zr_mo mn)) x (zr_mm mno).1 "RingStones").before args s = true := va_Nw.use rfl (va_Nw.warmM hW0 (va_Nw.of rfl (hw.1 _ hnl)))
  have cb : va_CN R s args (zr_own (zr_mo mn)) x (zr_mm mno).1 "RingStones" (zr_mb mno) (zr_ml mno) (zr_mr mno) (zr_ws mno) (zr_rm mno d) (zr_mc mno) (zr_ms mno) As.length := by
    refine ⟨⟨rfl, rfl, hRf, ?_, zr_wsw hw hW0 hlt, ?_⟩, zr_word hw.1 hW0 hcw args, zr_word hw.1 hW0 b12 args, b2, zr_nsig hlt hn, hlk⟩
    · show 8 + (zr_ml mno + 11) + (40 * d + 200) ≤ R.locals
      omega
    · unfold zr_ws
      rw [if_pos hh]
      exact List.mem_singleton.mpr rfl
  exact va_runSN (Ts := []) ⟨hx, hb, hml, hown, fun w h => by cases h⟩ hM ⟨cb, zr_word hw.1 hW0 b5 args, trivial⟩ ⟨zr_Pc_blind _ _ _ _ _, zr_Pcof hW0 hab hlow _⟩ rfl rfl hsz rfl (lv_room hcat) hd hf
theorem zr_runS (hw : zr_wf l S0 A0 D B0) (hx : p.tables.exec = Jvm.exec) (hb : c.code = zr_mb mn) (hml : c.maxLocals = zr_ml mn) (hown : s.vm.findClass (zr_own (zr_mo mn)) = some m.cls) (hW0 : S0.WarmedH s.vm) (hRf : d + 9 ≤ R.frames) (hRl : 40 * d + 240 ≤ R.locals) (hab : zr_ab S0 D B0 h H) (hlow : zr_low S0 B0 H) (hlt : mno < 257) (hkd : zr_kd mno = 1) (hlk : zr_goodIn (.methodLink (zr_own (zr_mo mn)) x (zr_mm mno).1)) (hcon : zr_con l S0 D B0 d mno)
    (hfit : (zr_l0 As).length ≤ zr_ml mno) (hC : zr_E d mno As h K) (hn : As.length = zr_na mno) (hcat : zr_cat r ≤ 8) (hsz : ls.size = zr_ml mn) (hd : decode (zr_mb mn) pc = .ok (.invokestatic x, 3)) (hf : cells + zr_mc mno ≤ R.cells ∧ slots + zr_ms mno ≤ R.slots) :
    vx_Run p l e R s m args below meth c H locs cells slots (zr_mc mno) (zr_ms mno) (F0 m pc ls (As.reverse ++ r)) r (zr_Qc S0 D B0 K As.toArray) (zr_XC S0 D B0 K) (zr_Lo B0) := by
  obtain ⟨b1, b2, b3, b4, b5, b6, b7, b8, b9, b10, b11, b12, b13⟩ := zr_mfacts hlt
  rw [if_pos hkd] at b5
  by_cases hh : zr_hh mno = []
  · have cb := zr_callB (args := args) (mn := mn) hw hW0 hRf hRl hlt hlk hh hn
    exact vx_runS (Ts := []) ⟨hx, hb, hml, hown, fun w h => by cases h⟩ (hcon _ h K hC hfit) ⟨cb, zr_word hw.1 hW0 b5 args⟩ ⟨zr_Pc_blind _ _ _ _ _, zr_Pcof hW0 hab hlow _⟩ rfl rfl hsz rfl (lv_room hcat) hd hf
  · have hcw : zr_goodIn (.codeWith (zr_mm mno).1 (zr_mb mno) (zr_ml mno) (zr_mr mno) (zr_hh mno)) := by
      have := b13
      unfold zr_cwd at this
      rw [if_neg (show ¬ (zr_mm mno).2.2.2.2.2.2.2.1 = [] from hh)] at this
      exact this
    have cb : vx_CSW R s args (zr_own (zr_mo mn)) x (zr_mm mno).1 (zr_mb mno) (zr_ml mno) (zr_mr mno) (zr_hh mno) (zr_ws mno) (zr_rm mno d) (zr_mc mno) (zr_ms mno) As.length := by
      refine ⟨⟨rfl, rfl, hRf, ?_, zr_wsw hw hW0 hlt, ?_⟩, zr_word hw.1 hW0 hcw args, zr_word hw.1 hW0 b12 args, b2, zr_nsig hlt hn, zr_word hw.1 hW0 hlk args, zr_word hw.1 hW0 b5 args⟩
      · show 8 + (zr_ml mno + 11) + (40 * d + 200) ≤ R.locals
        omega
      · unfold zr_ws
        rw [if_neg hh]
        exact List.mem_singleton.mpr rfl
    exact vx_runSX (Ts := []) ⟨hx, hb, hml, hown, fun w h => by cases h⟩ (hcon _ h K hC hfit) cb ⟨zr_Pc_blind _ _ _ _ _, zr_Pcof hW0 hab hlow _⟩ rfl rfl hsz rfl (lv_room hcat) hd hf
end ZC
/-- an exception that comes out of a call: to the handler, or on to the caller -/
theorem zr_exc {K : zr_K} {MC MS mno k : Nat} {kc ks : Nat} {lc : zr_L} {r : List Value} {h2 : zr_H} {H1 : Heap} {locs1 : List Loc} {q9 : Addr} {ce : Cell} {P : zr_P} (hw : zr_wf l S0 A0 D B0) (hml : c.maxLocals = zr_ml mn) (hown : s.vm.findClass (zr_own (zr_mo mn)) = some m.cls) (hlocks : meth.locks = false) (hex : c.exceptionTable.toList = tableOf (zr_hh mn)) (hhd : ∀ x ∈ zr_hh mn, (zr_ck (zr_mo mn) x.2.2.2).isSome = true ∧ x.2.2.2 ≠ 0) (hW0 : S0.WarmedH s.vm)
    (hK : zr_kt mn K P pc lc r kc ks mno (.inr k) h2) (hk4 : k < 4) (g1 : zr_ab S0 D B0 h2 H1) (g2 : zr_low S0 B0 H1) (g3 : ∀ z ∈ locs1, B0 ≤ z.base) (g4 : H1[q9]? = some ce) (g5 : ce.vm = .none) (g6 : s.vm.findClass (zr_exT.getD k "") = some ce.cls) (hc : cells + zr_mc mno ≤ MC) (hs : slots + zr_ms mno ≤ MS)
    (hP : ∀ t, P t lc [.ref q9] h2 (kc - zr_mc mno) (ks - zr_ms mno) → W p l e R s m args below meth c H1 locs1 (cells + zr_mc mno) (slots + zr_ms mno) (vx_MQ below (zr_Qc S0 D B0 K) (zr_XC S0 D B0 K) args s MC MS (zr_Lo B0)) (F0 m t ls [.ref q9])) :
    vx_W p l e R s m args below meth c H1 locs1 (cells + zr_mc mno) (slots + zr_ms mno) (vx_MQ below (zr_Qc S0 D B0 K) (zr_XC S0 D B0 K) args s MC MS (zr_Lo B0)) (F0 m pc ls r) q9 := by
  have hpass : ∀ z : Nat × Nat × Nat × Nat, (¬ (z.1 ≤ pc ∧ pc < z.2.1) ∨ (z.2.2.2 ≠ 0 ∧ ∃ E', E' ≠ k ∧ zr_ck (zr_mo mn) z.2.2.2 = some E')) →
      covers ⟨z.1, z.2.1, z.2.2.1, z.2.2.2⟩ pc = false ∨ (z.2.2.2 ≠ 0 ∧ ∃ nm : String, (Cond.classLink (zr_own (zr_mo mn)) z.2.2.2 nm).before args s = true ∧ va_Nc (zr_exT.getD k "") nm s) := by
    intro z hz
    rcases hz with hz | ⟨h0, E', hne, hE'⟩
    · left
      simp only [covers, Bool.and_eq_false_iff, decide_eq_false_iff_not]
      by_cases q : z.1 ≤ pc
      · exact Or.inr fun y => hz ⟨q, y⟩
      · exact Or.inl q
    · obtain ⟨w1, w2⟩ := zr_ck_spec hE'
      exact Or.inr ⟨h0, _, zr_word hw.1 hW0 w1 args, va_Nc.moved hW0.alike (hw.2.2.2.2.2.2.2.2 k E' hk4 w2 (Ne.symm hne))⟩
  unfold zr_kt at hK
  cases hd : zr_hd (zr_mo mn) (zr_hh mn) pc k with
  | none =>
    simp only [hd] at hK
    refine vx_outP hown hlocks ?_ g4 g5 g6 (fun t ht _ => ⟨k, h2, hk4, rfl, hK, by rw [ht]; exact g1, by rw [ht]; exact g2⟩) g3 hc hs
    intro z hz
    rw [hex] at hz
    obtain ⟨y, hy, rfl⟩ := List.mem_map.mp hz
    exact hpass y (zr_hd_none _ hhd hd y hy)
  | some t =>
    simp only [hd] at hK
    obtain ⟨pre, x, suf, e1, e2, e3, e4, e5, e6⟩ := zr_hd_some _ hhd hd
    obtain ⟨w1, w2⟩ := zr_ck_spec e4
    refine vx_catch (name := zr_exT.getD k "") hown (tableOf pre) ⟨x.1, x.2.1, x.2.2.1, x.2.2.2⟩ (tableOf suf) (by rw [hex, e1]; simp [tableOf]) ?_ (by simp [covers, e2.1, e2.2]) e5 (zr_word hw.1 hW0 w1 args) ?_ g4 g5 g6 ?_
    · intro z hz
      obtain ⟨y, hy, rfl⟩ := List.mem_map.mp hz
      exact hpass y (e6 y hy)
    · exact zr_word2 hw.1 hW0 (zr_excast hk4) rfl args
    · subst e3
      exact hP _ (hK q9)
def zr_G (p : Program) (l : Launch) (e : Env) (R : Room) (s : State) (m : MethodId) (args : Array Value) (below : List Frame) (meth : Method) (c : Code) (S0 : State) (D : va_G) (B0 mn : Nat) (K : zr_K) (MC MS : Nat) : zr_P := fun pc lc st h kc ks =>
  ∀ (ls : Array Slot) (H : Heap) (locs : List Loc) (cells slots : Nat), zr_lr ls (zr_ml mn) lc → zr_ab S0 D B0 h H → zr_low S0 B0 H → (∀ z ∈ locs, B0 ≤ z.base) → cells + kc ≤ MC → slots + ks ≤ MS →
    W p l e R s m args below meth c H locs cells slots (vx_MQ below (zr_Qc S0 D B0 K) (zr_XC S0 D B0 K) args s MC MS (zr_Lo B0)) (F0 m pc ls st)
set_option maxHeartbeats 8000000 in
theorem zr_step (hw : zr_wf l S0 A0 D B0) (hx : p.tables.exec = Jvm.exec) (hb : c.code = zr_mb mn) (hml : c.maxLocals = zr_ml mn) (hown : s.vm.findClass (zr_own (zr_mo mn)) = some m.cls) (hlocks : meth.locks = false) (hini : zr_kd mn = 2 → meth.name = "<init>") (hex : c.exceptionTable.toList = tableOf (zr_hh mn)) (hhd : ∀ x ∈ zr_hh mn, (zr_ck (zr_mo mn) x.2.2.2).isSome = true ∧ x.2.2.2 ≠ 0) (hr : meth.sig.returnType = zr_mr mn) (hW0 : S0.WarmedH s.vm) (hls : zr_low S0 B0 s.heap)
    {d MC MS : Nat} (hRf : d + 9 ≤ R.frames) (hRl : 40 * d + 240 ≤ R.locals) (hRc : MC ≤ R.cells) (hRs : MS ≤ R.slots) (IH : ∀ mno, mno < 257 → zr_con l S0 D B0 d mno) {K : zr_K} :
    ∀ pc lc st h kc ks, zr_stp (zr_E d) mn K (zr_G p l e R s m args below meth c S0 D B0 mn K MC MS) pc lc st h kc ks → zr_G p l e R s m args below meth c S0 D B0 mn K MC MS pc lc st h kc ks := by
  rintro pc lc st h kc ks ⟨i, n, hd, hs2⟩ ls H locs cells slots hl hab hlow hlocs hc hs
  rcases hs2 with ⟨st', hsop, hP⟩ | hs2
  · exact zr_sop_sound hx hb hd hsop (hP ls H locs cells slots hl hab hlow hlocs hc hs)
  unfold zr_st2 at hs2
  split at hs2
  · obtain ⟨x, hk, hP⟩ := hs2; exact lv_iload_n hx hb hd rfl (zr_lr_at hl hk) (hP ls H locs cells slots hl hab hlow hlocs hc hs)
  · obtain ⟨x, hk, hP⟩ := hs2; exact lv_iload hx hb hd (zr_lr_at hl hk) (hP ls H locs cells slots hl hab hlow hlocs hc hs)
  · obtain ⟨x, hk, hP⟩ := hs2; exact lv_lload_n hx hb hd rfl (zr_lr_at hl hk) (hP ls H locs cells slots hl hab hlow hlocs hc hs)
  · obtain ⟨x, hk, hP⟩ := hs2; exact lv_lload hx hb hd (zr_lr_at hl hk) (hP ls H locs cells slots hl hab hlow hlocs hc hs)
  · obtain ⟨x, hk, hP⟩ := hs2; exact lv_fload hx hb hd (zr_lr_at hl hk) (hP ls H locs cells slots hl hab hlow hlocs hc hs)
  · obtain ⟨v, hk, hP⟩ := hs2
    cases v with
    | none => exact lv_aload_nN hx hb hd rfl (zr_lr_at hl hk) (hP ls H locs cells slots hl hab hlow hlocs hc hs)
    | some a => exact lv_aload_n hx hb hd rfl (zr_lr_at hl hk) (hP ls H locs cells slots hl hab hlow hlocs hc hs)
  · obtain ⟨v, hk, hP⟩ := hs2
    cases v with
    | none => exact lv_aloadN hx hb hd (zr_lr_at hl hk) (hP ls H locs cells slots hl hab hlow hlocs hc hs)
    | some a => exact lv_aload hx hb hd (zr_lr_at hl hk) (hP ls H locs cells slots hl hab hlow hlocs hc hs)
  · obtain ⟨v, r, rfl, hi, hP⟩ := hs2
    cases v with
    | none => exact lv_astore_nN hx hb hd rfl hl.1 (by rw [← hl.2]; exact hi) rfl fun ls2 hl2 => hP ls2 H locs cells slots (zr_lr_s1 hl.2 hl2) hab hlow hlocs hc hs
    | some a => exact lv_astore_n hx hb hd rfl hl.1 (by rw [← hl.2]; exact hi) rfl fun ls2 hl2 => hP ls2 H locs cells slots (zr_lr_s1 hl.2 hl2) hab hlow hlocs hc hs
  · obtain ⟨v, r, rfl, hi, hP⟩ := hs2
    cases v with
    | none => exact lv_astoreN hx hb hd hl.1 (by rw [← hl.2]; exact hi) rfl fun ls2 hl2 => hP ls2 H locs cells slots (zr_lr_s1 hl.2 hl2) hab hlow hlocs hc hs
    | some a => exact lv_astore hx hb hd hl.1 (by rw [← hl.2]; exact hi) rfl fun ls2 hl2 => hP ls2 H locs cells slots (zr_lr_s1 hl.2 hl2) hab hlow hlocs hc hs
  · obtain ⟨x, r, rfl, hi, hP⟩ := hs2; exact lv_istore_n hx hb hd rfl hl.1 (by rw [← hl.2]; exact hi) rfl fun ls2 hl2 => hP ls2 H locs cells slots (zr_lr_s1 hl.2 hl2) hab hlow hlocs hc hs
  · obtain ⟨x, r, rfl, hi, hP⟩ := hs2; exact lv_istore hx hb hd hl.1 (by rw [← hl.2]; exact hi) rfl fun ls2 hl2 => hP ls2 H locs cells slots (zr_lr_s1 hl.2 hl2) hab hlow hlocs hc hs
  · obtain ⟨x, r, rfl, hi, hP⟩ := hs2; exact lv_lstore_n hx hb hd rfl hl.1 (by rw [← hl.2]; exact hi) rfl fun ls2 hl2 => hP ls2 H locs cells slots (zr_lr_s2 hl.2 hl2) hab hlow hlocs hc hs
  · obtain ⟨x, r, rfl, hi, hP⟩ := hs2; exact lv_lstore hx hb hd hl.1 (by rw [← hl.2]; exact hi) rfl fun ls2 hl2 => hP ls2 H locs cells slots (zr_lr_s2 hl.2 hl2) hab hlow hlocs hc hs
  · obtain ⟨x, r, rfl, hi, hP⟩ := hs2; exact lv_fstore hx hb hd hl.1 (by rw [← hl.2]; exact hi) rfl fun ls2 hl2 => hP ls2 H locs cells slots (zr_lr_s1 hl.2 hl2) hab hlow hlocs hc hs
  · obtain ⟨x, hk, hP⟩ := hs2; obtain ⟨k9, hk9⟩ := List.getElem?_of_mem (zr_prs_at.mpr hk); exact lv_iinc hx hb hd hl.1 hk9 rfl (by rw [← hl.2]; exact (List.getElem?_eq_some_iff.mp hk).1) rfl fun ls2 hl2 => hP ls2 H locs cells slots (zr_lr_s1 hl.2 hl2) hab hlow hlocs hc hs
  · obtain ⟨v, hv, hP⟩ := hs2; exact lv_ldc2 hx hb hown (zr_word hw.1 hW0 (zr_cl_spec hv) args) hd (hP ls H locs cells slots hl hab hlow hlocs hc hs)
  · obtain ⟨k, hk, hP⟩ := hs2; obtain ⟨q, hq, hst⟩ := hab.2 _ _ _ hk; exact va_ldcS hx hb hown (vk_R.warm hW0 hq) hd (hP q hst ls H locs cells slots hl hab hlow hlocs hc hs)
  · obtain ⟨x, r, t, rfl, ht, h1, h2⟩ := hs2; exact lv_if_eq hx hb hd ht (fun z => h1 z ls H locs cells slots hl hab hlow hlocs hc hs) (fun z => h2 z ls H locs cells slots hl hab hlow hlocs hc hs)
  · obtain ⟨x, r, t, rfl, ht, h1, h2⟩ := hs2; exact lv_if_ne hx hb hd ht (fun z => h1 z ls H locs cells slots hl hab hlow hlocs hc hs) (fun z => h2 z ls H locs cells slots hl hab hlow hlocs hc hs)
  · obtain ⟨x, r, t, rfl, ht, h1, h2⟩ := hs2; exact lv_if_lt hx hb hd ht (fun z => h1 z ls H locs cells slots hl hab hlow hlocs hc hs) (fun z => h2 z ls H locs cells slots hl hab hlow hlocs hc hs)
  · obtain ⟨x, r, t, rfl, ht, h1, h2⟩ := hs2; exact lv_if_ge hx hb hd ht (fun z => h1 z ls H locs cells slots hl hab hlow hlocs hc hs) (fun z => h2 z ls H locs cells slots hl hab hlow hlocs hc hs)
  · obtain ⟨x, r, t, rfl, ht, h1, h2⟩ := hs2; exact lv_if_gt hx hb hd ht (fun z => h1 z ls H locs cells slots hl hab hlow hlocs hc hs) (fun z => h2 z ls H locs cells slots hl hab hlow hlocs hc hs)
  · obtain ⟨x, r, t, rfl, ht, h1, h2⟩ := hs2; exact lv_if_le hx hb hd ht (fun z => h1 z ls H locs cells slots hl hab hlow hlocs hc hs) (fun z => h2 z ls H locs cells slots hl hab hlow hlocs hc hs)
  · obtain ⟨x, y, r, t, rfl, ht, h1, h2⟩ := hs2; exact lv_icmp_eq hx hb hd ht (fun z => h1 z ls H locs cells slots hl hab hlow hlocs hc hs) (fun z => h2 z ls H locs cells slots hl hab hlow hlocs hc hs)
  · obtain ⟨x, y, r, t, rfl, ht, h1, h2⟩ := hs2; exact lv_icmp_ne hx hb hd ht (fun z => h1 z ls H locs cells slots hl hab hlow hlocs hc hs) (fun z => h2 z ls H locs cells slots hl hab hlow hlocs hc hs)
  · obtain ⟨x, y, r, t, rfl, ht, h1, h2⟩ := hs2; exact lv_icmp_lt hx hb hd ht (fun z => h1 z ls H locs cells slots hl hab hlow hlocs hc hs) (fun z => h2 z ls H locs cells slots hl hab hlow hlocs hc hs)
  · obtain ⟨x, y, r, t, rfl, ht, h1, h2⟩ := hs2; exact lv_icmp_ge hx hb hd ht (fun z => h1 z ls H locs cells slots hl hab hlow hlocs hc hs) (fun z => h2 z ls H locs cells slots hl hab hlow hlocs hc hs)
  · obtain ⟨x, y, r, t, rfl, ht, h1, h2⟩ := hs2; exact lv_icmp_gt hx hb hd ht (fun z => h1 z ls H locs cells slots hl hab hlow hlocs hc hs) (fun z => h2 z ls H locs cells slots hl hab hlow hlocs hc hs)
  · obtain ⟨x, y, r, t, rfl, ht, h1, h2⟩ := hs2; exact lv_icmp_le hx hb hd ht (fun z => h1 z ls H locs cells slots hl hab hlow hlocs hc hs) (fun z => h2 z ls H locs cells slots hl hab hlow hlocs hc hs)
  · obtain ⟨t, ht, hP⟩ := hs2; exact lv_goto hx hb hd ht (hP ls H locs cells slots hl hab hlow hlocs hc hs)
  · obtain ⟨r, t, ht, ⟨rfl, hP⟩ | ⟨q, rfl, hP⟩⟩ := hs2
    · exact lv_ifnullN hx hb hd ht (hP ls H locs cells slots hl hab hlow hlocs hc hs)
    · exact lv_ifnull hx hb hd (hP ls H locs cells slots hl hab hlow hlocs hc hs)
  · obtain ⟨r, t, ht, ⟨rfl, hP⟩ | ⟨q, rfl, hP⟩⟩ := hs2
    · exact lv_ifnonnullN hx hb hd (hP ls H locs cells slots hl hab hlow hlocs hc hs)
    · exact lv_ifnonnull hx hb hd ht (hP ls H locs cells slots hl hab hlow hlocs hc hs)
  · obtain ⟨x, r, t, rfl, ht, h1, hP⟩ := hs2
    rename_i d9 lo hi offs
    by_cases z : x.toInt < lo ∨ hi < x.toInt
    · rw [if_pos z] at ht
      exact lv_tableOut hx hb hd z ht (hP ls H locs cells slots hl hab hlow hlocs hc hs)
    · rw [if_neg z] at ht
      obtain ⟨off, ho⟩ := Option.isSome_iff_exists.mp (h1 z)
      rw [ho] at ht
      exact lv_tableIn hx hb hd (fun y => z (Or.inl y)) (fun y => z (Or.inr y)) ho ht (hP ls H locs cells slots hl hab hlow hlocs hc hs)
  · obtain ⟨x, r, t, rfl, h1, ht, hP⟩ := hs2; exact lv_lookup hx hb hd h1 rfl ht (hP ls H locs cells slots hl hab hlow hlocs hc hs)
  · obtain ⟨x, y, r, rfl, h1, hP⟩ := hs2; exact lv_idiv hx hb hd h1 (hP ls H locs cells slots hl hab hlow hlocs hc hs)
  · obtain ⟨x, y, r, rfl, h1, hP⟩ := hs2; exact lv_irem hx hb hd h1 (hP ls H locs cells slots hl hab hlow hlocs hc hs)
  · obtain ⟨x, y, r, rfl, h1, hP⟩ := hs2; exact lv_fdiv hx hb hd h1 (hP ls H locs cells slots hl hab hlow hlocs hc hs)
  · obtain ⟨x, r, rfl, h1, hP⟩ := hs2; exact lv_f2d hx hb hd h1 (hP ls H locs cells slots hl hab hlow hlocs hc hs)
  · obtain ⟨q, r, ci, k, rfl, hfr, hO, hP⟩ := hs2; exact zr_get hw hx hb hown hW0 hab hfr hO hd (hP ls H locs cells slots hl hab hlow hlocs hc hs)
  · obtain ⟨q, r, ci, k, v, rfl, hfr, h8, hO, hv, hf, hP⟩ := hs2; exact zr_put hw hx hb hown hW0 hini hab hlow hlocs hfr h8 hO hv hf hd fun H1 locs1 g1 g2 g3 => hP ls H1 locs1 cells slots hl g1 g2 g3 hc hs
  · rcases hs2 with ⟨h1, rfl, hP⟩ | ⟨h1, rfl, hP⟩
    · rw [h1] at hown
      obtain ⟨cf, kf, fi, f, a, cell, g1, g2, g3, g4, g5, g6, g7, g8⟩ := va_Z.kept (va_Z.moved hW0.alike hw.2.2.2.2.2.2.1) (zr_keepLo hlow)
      exact W.gets hx hb hown (zr_word hw.1 hW0 zr_wCS args) g1 g2 g3 g4 g5 (fun e9 => by rw [e9] at g6; cases g6) g7 rfl hd (hP ls H locs cells slots hl hab hlow hlocs hc hs)
    · rw [h1] at hown
      have key : ∀ v : Option Nat, va_Z "jdk/internal/util/Preconditions" "SIOOBE_FORMATTER" "Ljava/util/function/BiFunction;" (va_rf v) (zr_Lo B0) S0 S0.heap → W p l e R s m args below meth c H locs cells slots (vx_MQ below (zr_Qc S0 D B0 K) (zr_XC S0 D B0 K) args s MC MS (zr_Lo B0)) (F0 m pc ls st) := by
        intro v hz
        obtain ⟨cf, kf, fi, f, a, cell, g1, g2, g3, g4, g5, g6, g7, g8⟩ := va_Z.kept (va_Z.moved hW0.alike hz) (zr_keepLo hlow)
        exact W.gets hx hb hown (zr_word hw.1 hW0 zr_wSF args) g1 g2 g3 g4 g5 (fun e9 => by rw [e9] at g6; cases g6) g7 rfl hd (hP v ls H locs cells slots hl hab hlow hlocs hc hs)
      rcases hw.2.2.2.2.2.2.2.1 with hz | ⟨t, hz⟩
      · exact key none hz
      · exact key (some t) hz
  · obtain ⟨q, r, t, rfl, hA, hP⟩ := hs2; obtain ⟨cell, g1, g2, g3⟩ := zr_alen hW0 hab hA; exact W.alen hx hb g1 g2 g3 rfl rfl hd (hP ls H locs cells slots hl hab hlow hlocs hc hs)
  · obtain ⟨q, i, r, t, rfl, ht, hA, hin, hP⟩ := hs2
    obtain ⟨cell, g1, g2, g3, g4, g5⟩ := zr_ald hW0 hab hA hin
    rcases ht with rfl | rfl
    · exact W.iald hx hb g1 g2 g3 g4 g5 rfl rfl hd (hP ls H locs cells slots hl hab hlow hlocs hc hs)
    · exact W.iald hx hb g1 g2 g3 g4 g5 rfl rfl hd (hP ls H locs cells slots hl hab hlow hlocs hc hs)
  · obtain ⟨q, i, r, t, rfl, ht, hA, hin, hP⟩ := hs2
    obtain ⟨cell, g1, g2, g3, g4, g5⟩ := zr_ald hW0 hab hA hin
    subst ht
    exact W.lald hx hb g1 g2 g3 g4 g5 rfl rfl hd (hP ls H locs cells slots hl hab hlow hlocs hc hs)
  · obtain ⟨q, i, r, t, rfl, ht, hA, hin, hP⟩ := hs2
    obtain ⟨cell, g1, g2, g3, g4, g5⟩ := zr_ald hW0 hab hA hin
    rcases ht with rfl | rfl | rfl
    · exact W.bald hx hb g1 g2 g3 g4 g5 rfl rfl hd (hP ls H locs cells slots hl hab hlow hlocs hc hs)
    · exact W.zald hx hb g1 g2 g3 g4 g5 rfl rfl hd (hP ls H locs cells slots hl hab hlow hlocs hc hs)
    · exact W.bald hx hb g1 g2 g3 g4 g5 rfl rfl hd (hP ls H locs cells slots hl hab hlow hlocs hc hs)
  · obtain ⟨q, i, r, t, rfl, ht, hA, hin, hP⟩ := hs2
    obtain ⟨cell, g1, g2, g3, g4, g5⟩ := zr_ald hW0 hab hA hin
    subst ht
    exact W.dald hx hb g1 g2 g3 g4 g5 rfl rfl hd (hP ls H locs cells slots hl hab hlow hlocs hc hs)
  · obtain ⟨q, i, r, t, rfl, ht, hA, hin, hP⟩ := hs2
    obtain ⟨cell, g1, g2, g3, g4, g5⟩ := zr_ald hW0 hab hA hin
    subst ht
    exact W.aald hx hb g1 g2 rfl g3 g4 g5 rfl rfl hd (hP ls H locs cells slots hl hab hlow hlocs hc hs)
  · obtain ⟨q, i, r, x, rfl, hA, hin, hP⟩ := hs2; obtain ⟨cell, g1, g2, g3, g4, -, g6⟩ := zr_ast (t := 0) hW0 hab hlow hlocs (by decide) hA hin; exact W.iast hx hb g1 g2 g3 g4 rfl rfl hd fun H1 e1 e2 e3 => hP ls H1 _ cells slots hl (g6 _ H1 e1 e2 e3).1 (g6 _ H1 e1 e2 e3).2.1 (g6 _ H1 e1 e2 e3).2.2 hc hs
  · obtain ⟨q, i, r, x, rfl, hA, hin, hP⟩ := hs2; obtain ⟨cell, g1, g2, g3, g4, -, g6⟩ := zr_ast (t := 1) hW0 hab hlow hlocs (by decide) hA hin; exact W.last hx hb g1 g2 g3 g4 rfl rfl hd fun H1 e1 e2 e3 => hP ls H1 _ cells slots hl (g6 _ H1 e1 e2 e3).1 (g6 _ H1 e1 e2 e3).2.1 (g6 _ H1 e1 e2 e3).2.2 hc hs
  · obtain ⟨q, i, r, x, rfl, hA, hin, hP⟩ := hs2; obtain ⟨cell, g1, g2, g3, g4, -, g6⟩ := zr_ast (t := 4) hW0 hab hlow hlocs (by decide) hA hin; exact W.dast hx hb g1 g2 g3 g4 rfl rfl hd fun H1 e1 e2 e3 => hP ls H1 _ cells slots hl (g6 _ H1 e1 e2 e3).1 (g6 _ H1 e1 e2 e3).2.1 (g6 _ H1 e1 e2 e3).2.2 hc hs
  · obtain ⟨q, i, r, x, t, rfl, ht, hA, hin, hP⟩ := hs2
    rcases ht with rfl | rfl
    · obtain ⟨cell, g1, g2, g3, g4, -, g6⟩ := zr_ast (t := 2) hW0 hab hlow hlocs (by decide) hA hin; exact W.bast hx hb g1 g2 g3 g4 rfl rfl hd fun H1 e1 e2 e3 => hP ls H1 _ cells slots hl (g6 _ H1 e1 e2 e3).1 (g6 _ H1 e1 e2 e3).2.1 (g6 _ H1 e1 e2 e3).2.2 hc hs
    · obtain ⟨cell, g1, g2, g3, g4, -, g6⟩ := zr_ast (t := 3) hW0 hab hlow hlocs (by decide) hA hin; exact W.zast hx hb g1 g2 g3 g4 rfl rfl hd fun H1 e1 e2 e3 => hP ls H1 _ cells slots hl (g6 _ H1 e1 e2 e3).1 (g6 _ H1 e1 e2 e3).2.1 (g6 _ H1 e1 e2 e3).2.2 hc hs
  · obtain ⟨q, i, r, x, rfl, hA, hO, hin, hP⟩ := hs2
    obtain ⟨cell, g1, g2, g3, g4, g5, g6⟩ := zr_ast (t := 5) hW0 hab hlow hlocs (by decide) hA hin
    obtain ⟨kA, comp, k1, k2, k3⟩ := g5 rfl
    obtain ⟨V, hV⟩ := zr_isO_spec hO
    obtain ⟨h9, -⟩ | ⟨-, -, -, cv, q1, q2, q3, -⟩ := (hab.1 x _ hV : zr_ct S0 D B0 x (.inl (1, V)) H)
    · exact absurd h9 (by decide)
    obtain ⟨hfc, kC, hkC, hkind⟩ := (hw.2.1 1 (by decide) (by decide)).2
    have hcomp : comp = D.1 1 := Option.some.inj (k3.symm.trans hfc)
    obtain ⟨kA1, m1, m2⟩ := hW0.alike.2.2 _ _ k1
    obtain ⟨kC1, m3, m4⟩ := hW0.alike.2.2 _ _ hkC
    have hkind1 : kC1.kind = .ordinary := by rw [m4]; exact hkind
    refine W.aast hx hb (comp := comp) (t := .object "RingStones$Game") (v := x) (cv := cv) (kv := kC1) (kcomp := kC1) g1 g2.1 g3 m1 (by rw [m2]; exact k2) rfl (by rw [hcomp]; exact m3) ⟨fun z => g4 (Or.inl z), Nat.not_le.mp fun z => g4 (Or.inr z)⟩ q1 (fun z h => by rw [q3] at h; cases h) (by rw [q2]; exact m3) ?_ rfl rfl hd fun H1 e1 e2 e3 => hP ls H1 _ cells slots hl (g6 _ H1 e1 e2 e3).1 (g6 _ H1 e1 e2 e3).2.1 (g6 _ H1 e1 e2 e3).2.2 hc hs
    rw [q2, hcomp]
    exact va_assign (s := s) (C := "RingStones$Game") ⟨by rw [hW0.alike.findClass]; exact hfc, kC1, m3, hkind1⟩
  · rcases hs2 with ⟨ci, hci, h1, h2, hP⟩ | ⟨y, z, E, d3, d4, d6, d9, hxr, hh, h1, h2, h8, hQ⟩ | ⟨y, z, E, d3, d4, d7, d10, hxr, hh, h1, h2, h8, hQ⟩
    · exact zr_newO hw hx hb hown hW0 hab hlow hci (by omega) (by omega) hd fun H1 g1 g2 => hP H.size (zr_ab_size hab) ls H1 locs (cells + 1) (slots + zr_fn ci) hl g1 g2 hlocs (by omega) (by omega)
    · obtain ⟨ho, hE4, g1, g2, ⟨sa, hsa⟩, g4, g5, g6⟩ := zr_xr_spec hw hW0 args hxr
      rw [ho] at hown
      intro T hT X
      exact zr_throwS hx hb hw.2.2.1 hown (zr_exfit hE4) (zr_cb hE4).1 (zr_cb hE4).2.1 (zr_cb hE4).2.2.1 (zr_cb hE4).2.2.2 g1 g2 hsa g4 g5 (vx_Zq.kept (vx_Zq.moved hW0.alike hw.2.2.2.1) (zr_keepLo hls)) (vx_Zq.kept (vx_Zq.moved hW0.alike hw.2.2.2.2.1) (zr_keepLo hls)) (zr_vaS hT X hls hlow hlocs) (by rw [hl.1.1, hml]) hd d3 d4 d6 d9 (by rw [hex, hh]; intro x9 hx9; cases hx9) (by omega) (by have : (st.map fun v => v.category).sum ≤ 8 := h8; omega) (by omega) (by omega) hlocks (fun t _ _ ht2 => ⟨E, h, hE4, rfl, hQ, zr_ab_kept hab ht2, zr_low_kept hlow ht2⟩) hlocs (by omega) (by omega) T hT X
    · obtain ⟨ho, hE4, g1, g2, ⟨sa, hsa⟩, g4, g5, g6⟩ := zr_xr_spec hw hW0 args hxr
      rw [ho] at hown
      intro T hT X
      exact zr_throwSW hx hb hw.2.2.1 hown (zr_exfit hE4) (zr_cb hE4).1 (zr_cb hE4).2.1 (zr_cb hE4).2.2.1 (zr_cb hE4).2.2.2 g1 g2 hsa g4 g5 (vx_Zq.kept (vx_Zq.moved hW0.alike hw.2.2.2.1) (zr_keepLo hls)) (vx_Zq.kept (vx_Zq.moved hW0.alike hw.2.2.2.2.1) (zr_keepLo hls)) (zr_vaS hT X hls hlow hlocs) (by rw [hl.1.1, hml]) hd d3 d4 d7 d10 (by rw [hex, hh]; intro x9 hx9; cases hx9) (by omega) (by have : (st.map fun v => v.category).sum ≤ 8 := h8; omega) (by omega) (by omega) hlocks (fun t _ _ ht2 => ⟨E, h, hE4, rfl, hQ, zr_ab_kept hab ht2, zr_low_kept hlow ht2⟩) hlocs (by omega) (by omega) T hT X
  · obtain ⟨m9, r, rfl, ht, hn, hbt, h1, h2, hP⟩ := hs2
    rename_i a9
    refine W.newaK hx hb (zr_word hw.1 hW0 (zr_arrw ht) args) rfl hd rfl hn rfl (zr_arrb ht hbt) (by omega) (by omega) rfl fun H1 cA e1 e2 e3 e4 => ?_
    have g := zr_anew hab hlow (t := zr_nt a9) (N := m9.toNatClampNeg) (f := fun _ => defaultValue (zr_at (zr_nt a9))) (by omega) e1 e2 e3 (by rw [zr_arrt ht]; exact State.isArrayOf_alike hW0.alike.symm (e4 _ _)) (fun z => by cases z) (arrV_size _ _ _) (fun j hj => by rw [zr_arrt ht]; exact arrV_read _ _ hj) (fun z => by omega)
    exact hP H.size (zr_ab_size hab) ls H1 locs (cells + 1) (slots + m9.toNatClampNeg) hl g.1 g.2 hlocs (by omega) (by omega)
  · obtain ⟨m9, r, rfl, hnr, hn, hbt, h1, h2, hP⟩ := hs2
    refine W.anew hx hb hown (zr_word hw.1 hW0 (zr_nr_spec hnr).1 args) (va_AO.use (va_AO.moved hW0.alike (va_AO.of (hw.1 _ zr_wAO)))) rfl hd rfl hn (by omega) (by omega) (by omega) fun cA kA comp k1 k2 k3 k4 => ?_
    obtain ⟨kA1, m1, m2⟩ := hW0.alike.symm.2.2 _ _ k2
    have hk : S0.vm.findClass "RingStones$Game" = some comp := by rw [← hW0.alike.findClass]; exact k4
    have g := zr_anew hab hlow (H' := H.push { cls := cA, slots := Array.replicate m9.toNatClampNeg .null, vm := .none }) (t := 5) (N := m9.toNatClampNeg) (f := fun _ => .null) (cell := { cls := cA, slots := Array.replicate m9.toNatClampNeg .null, vm := .none }) (by decide) (by simp) (by simp) (fun q hq => by rw [Array.getElem?_push, if_neg (Nat.ne_of_lt hq)]) ⟨fun z hz => (by cases hz), kA1, m1, comp, by rw [m2]; exact k3⟩ (fun z => by cases z) (by simp) (fun j hj => by simp [hj]) (fun _ => ⟨kA1, comp, m1, by rw [m2]; exact k3, hk⟩)
    exact hP H.size (zr_ab_size hab) ls _ locs (cells + 1) (slots + m9.toNatClampNeg) hl g.1 g.2 hlocs (by omega) (by omega)
  · obtain ⟨mno, As, q, r, hir, rfl, hn, hO, hcat, hmc, hms, hfit, hC⟩ := hs2
    obtain ⟨hlt, hkd, hlk⟩ := zr_ir_spec hir (by decide) (by decide) (by decide)
    exact zr_callk (zr_runV hw hx hb hml hown hW0 hRf hRl hab hlow hlt hkd hlk (IH mno hlt) hfit hC hn hO hcat (by rw [hl.1.1]) hd ⟨by omega, by omega⟩) hlocs (fun v h2 H1 locs1 hK g1 g2 g3 => hK ls H1 locs1 _ _ hl g1 g2 g3 (by omega) (by omega)) (fun k h2 H1 locs1 q9 ce hk4 hK g1 g2 g3 g4 g5 g6 => zr_exc hw hml hown hlocks hex hhd hW0 hK hk4 g1 g2 g3 g4 g5 g6 (by omega) (by omega) (fun t hP => hP ls H1 locs1 _ _ hl g1 g2 g3 (by omega) (by omega)))
  · rcases hs2 with ⟨mno, As, r, hir, rfl, hn, hcat, hmc, hms, hfit, hC⟩ | ⟨mno, As, r, hir, rfl, hn, hcat, hmc, hms, hfit, hC⟩ | ⟨x1, y1, r, hir, rfl, hcat, hP⟩
    · obtain ⟨hlt, hkd, hlk⟩ := zr_ir_spec hir (by decide) (by decide) (by decide)
      exact zr_callk (zr_runS hw hx hb hml hown hW0 hRf hRl hab hlow hlt hkd hlk (IH mno hlt) hfit hC hn hcat (by rw [hl.1.1]) hd ⟨by omega, by omega⟩) hlocs (fun v h2 H1 locs1 hK g1 g2 g3 => hK ls H1 locs1 _ _ hl g1 g2 g3 (by omega) (by omega)) (fun k h2 H1 locs1 q9 ce hk4 hK g1 g2 g3 g4 g5 g6 => zr_exc hw hml hown hlocks hex hhd hW0 hK hk4 g1 g2 g3 g4 g5 g6 (by omega) (by omega) (fun t hP => hP ls H1 locs1 _ _ hl g1 g2 g3 (by omega) (by omega)))
    · exact zr_calln (zr_runN hw hx hb hml hown hW0 hRf hRl hab hlow hir (IH mno (zr_ir_nest hir).1) hfit hC (fun k h9 z => z) hn hcat (by rw [hl.1.1]) hd ⟨by omega, by omega⟩) hlocs (fun v h2 H1 locs1 hK g1 g2 g3 => hK ls H1 locs1 _ _ hl g1 g2 g3 (by omega) (by omega))
    · exact va_mmin hx hb (by rw [hml, hl.1.1]) hown (zr_word hw.1 hW0 (zr_ir_min hir) args) (zr_word hw.1 hW0 zr_wM1 args) (zr_word hw.1 hW0 zr_wM2 args) (zr_word hw.1 hW0 zr_wM3 args) (by omega) (by have : (r.map fun v => v.category).sum ≤ 8 := hcat; omega) (by omega) (by omega) hd (hP ls H locs cells slots hl hab hlow hlocs hc hs)
  · rcases hs2 with ⟨q, r, hir, rfl, hcat, hP⟩ | ⟨mno, As, q, r, hir, rfl, hn, hcat, hmc, hms, hfit, hC⟩
    · exact W.objInit hx hb hown (zr_word hw.1 hW0 (zr_ir_obj hir) args) (zr_word hw.1 hW0 zr_wO1 args) (zr_word hw.1 hW0 zr_wO2 args) rfl (by rw [hml]; exact hl.1.1) rfl hd (by omega) (by have : (r.map fun v => v.category).sum ≤ 8 := hcat; show 2 * 0 + _ + 12 ≤ _; omega) (hP ls H locs cells slots hl hab hlow hlocs hc hs)
    · obtain ⟨hlt, hkd, hlk⟩ := zr_ir_spec hir (by decide) (by decide) (by decide)
      exact zr_calln (zr_runI hw hx hb hml hown hW0 hRf hRl hab hlow hlt hkd hlk (IH mno hlt) hfit hC (fun k h9 z => z) hn hcat (by rw [hl.1.1]) hd ⟨by omega, by omega⟩) hlocs (fun v h2 H1 locs1 hK g1 g2 g3 => hK ls H1 locs1 _ _ hl g1 g2 g3 (by omega) (by omega))
  · obtain ⟨x, rfl, ⟨ty, hty, hnr⟩, hQ⟩ := hs2
    refine W.widen (by omega : cells ≤ MC) (by omega : slots ≤ MS) (vx_ret (W.zret hx hb (hr.trans hty) hnr (fun t ht hW => ⟨_, h, rfl, hQ, by rw [ht]; exact hab, by rw [ht]; exact hlow⟩) hlocs hd hlocks))
  · obtain ⟨x, rfl, hty, hQ⟩ := hs2
    refine W.widen (by omega : cells ≤ MC) (by omega : slots ≤ MS) (vx_ret (W.lret hx hb (hr.trans hty) (fun t ht hW => ⟨_, h, rfl, hQ, by rw [ht]; exact hab, by rw [ht]; exact hlow⟩) hlocs hd hlocks))
  · obtain ⟨x, rfl, hty, hQ⟩ := hs2
    refine W.widen (by omega : cells ≤ MC) (by omega : slots ≤ MS) (vx_ret (W.fret hx hb (hr.trans hty) (fun t ht hW => ⟨_, h, rfl, hQ, by rw [ht]; exact hab, by rw [ht]; exact hlow⟩) hlocs hd hlocks))
  · obtain ⟨rfl, hty, hQ⟩ := hs2
    refine W.widen (by omega : cells ≤ MC) (by omega : slots ≤ MS) (vx_ret (W.vret hx hb (hr.trans hty) (fun t ht hW => ⟨_, h, rfl, hQ, by rw [ht]; exact hab, by rw [ht]; exact hlow⟩) hlocs hd hlocks))
  · exact hs2.elim
/-- THE MACHINE: at each depth, every method of the table meets what its abstract run says -/
theorem zr_frame (hw : zr_wf l S0 A0 D B0) (hx : p.tables.exec = Jvm.exec) (hb : c.code = zr_mb mn) (hml : c.maxLocals = zr_ml mn) (hown : s.vm.findClass (zr_own (zr_mo mn)) = some m.cls) (hlocks : meth.locks = false) (hini : zr_kd mn = 2 → meth.name = "<init>") (hex : c.exceptionTable.toList = tableOf (zr_hh mn)) (hhd : ∀ x ∈ zr_hh mn, (zr_ck (zr_mo mn) x.2.2.2).isSome = true ∧ x.2.2.2 ≠ 0) (hr : meth.sig.returnType = zr_mr mn) (hW0 : S0.WarmedH s.vm) (hls : zr_low S0 B0 s.heap)
    {d MC MS : Nat} (hRf : d + 9 ≤ R.frames) (hRl : 40 * d + 240 ≤ R.locals) (hRc : MC ≤ R.cells) (hRs : MS ≤ R.slots) (IH : ∀ mno, mno < 257 → zr_con l S0 D B0 d mno) {K : zr_K} {as : List Value} (hfit : (zr_l0 as).length ≤ zr_ml mn) (hab : zr_ab S0 D B0 h s.heap) (hE : zr_R (zr_E d) mn K 0 (zr_lx (zr_ml mn) as) [] h MC MS) :
    W p l e R s m args below meth c s.heap [] 0 0 (vx_MQ below (zr_Qc S0 D B0 K) (zr_XC S0 D B0 K) args s MC MS (zr_Lo B0)) (entryFrame m as.toArray (zr_ml mn)) := by
  have key := hE (zr_G p l e R s m args below meth c S0 D B0 mn K MC MS) (zr_step hw hx hb hml hown hlocks hini hex hhd hr hW0 hls hRf hRl hRc hRs IH)
  rw [lg_entry_eq]
  exact key _ s.heap [] 0 0 (zr_lr_entry hfit) hab hls (fun z hz => by cases hz) (by omega) (by omega)
end ZS
theorem zr_sound {l : Launch} {S0 : State} {A0 : Array Value} {D : va_G} {B0 : Nat} (hw : zr_wf l S0 A0 D B0) : ∀ d mn, mn < 257 → zr_con l S0 D B0 d mn
  | 0, mn, _ => fun as h K hE _ => hE.elim
  | d + 1, mn, hlt => fun as h K hE hfit => by
    obtain ⟨b1, b2, b3, b4, b5, b6, b7, b8, b9, b10, b11, b12, b13⟩ := zr_mfacts hlt
    have IH := zr_sound hw d
    have hE' : zr_R (zr_E d) mn K 0 (zr_lx (zr_ml mn) as) [] h (zr_mc mn) (zr_ms mn) := hE
    by_cases hh : zr_hh mn = []
    · refine vx_ofW (cc := zr_mb mn) (maxL := zr_ml mn) (ret := zr_mr mn) (ws' := []) b1 (by unfold zr_ws; rw [if_pos hh]) ?_
      intro p e s m args below meth c s₁ B hml hex hv
      obtain ⟨rfl, hW0, hab, hlow⟩ := hv
      have hown : s.vm.findClass (zr_own (zr_mo mn)) = some m.cls := by rw [← b4]; exact findClass_of_methodNamed B.named
      exact zr_frame hw B.exec B.bytes hml hown B.notSynchronized (fun z => by rw [(name_of_methodNamed B.named B.method).1]; exact (b7 z).1) (by rw [hh]; cases h9 : c.exceptionTable.toList with
        | nil => rfl
        | cons y r => exact (hex y (by rw [h9]; exact List.mem_cons_self)).elim) b10 B.returns hW0 hlow (by show d + 9 ≤ d + 1 + 8; omega) (by show 40 * d + 240 ≤ 40 * (d + 1) + 200; omega) (Nat.le_refl _) (Nat.le_refl _) (fun mno hm => IH mno hm) hfit hab hE'
    · refine vx_ofWH (cc := zr_mb mn) (maxL := zr_ml mn) (ret := zr_mr mn) (hh := zr_hh mn) (ws' := []) b1 (by unfold zr_ws; rw [if_neg hh]) ?_
      intro p e s m args below meth c s₁ B hml hv
      obtain ⟨rfl, hW0, hab, hlow⟩ := hv
      have hown : s.vm.findClass (zr_own (zr_mo mn)) = some m.cls := by rw [← b4]; exact findClass_of_methodNamed B.named
      have hcw : (Cond.codeWith (zr_mm mn).1 (zr_mb mn) (zr_ml mn) (zr_mr mn) (zr_hh mn)).before as.toArray s = true := by
        have h9 : zr_goodIn (.codeWith (zr_mm mn).1 (zr_mb mn) (zr_ml mn) (zr_mr mn) (zr_hh mn)) := by
          have := b13
          unfold zr_cwd at this
          rw [if_neg (show ¬ (zr_mm mn).2.2.2.2.2.2.2.1 = [] from hh)] at this
          exact this
        exact zr_word hw.1 hW0 h9 _
      exact zr_frame hw B.exec B.bytes hml hown B.notSynchronized (fun z => absurd (b11 (by omega)).1 hh) (vx_table (x := (zr_mm mn).1) B hcw) b10 B.returns hW0 hlow (by show d + 9 ≤ d + 1 + 8; omega) (by show 40 * d + 240 ≤ 40 * (d + 1) + 200; omega) (Nat.le_refl _) (Nat.le_refl _) (fun mno hm => IH mno hm) hfit hab hE'

