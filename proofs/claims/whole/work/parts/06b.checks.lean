/-! the tables hold: each entry's word stands among the Statement's, at its place -/
def zr_wm (p : Nat) (w : Cond) : Bool := decide (lw_tbl[p]? = some w)
def zr_wd (p : Nat) (w : Cond) : Bool := zr_wm p w && goodWord w
def zr_goodIn (w : Cond) : Prop := w ∈ lw_tbl ∧ ((w.onTables && w.keeps) = true ∨ ∃ ty, w = .arrayClass ty)
theorem zr_wm_spec {p : Nat} {w : Cond} (h : zr_wm p w = true) : w ∈ lw_tbl := List.mem_of_getElem? (of_decide_eq_true h)
theorem zr_wd_spec {p : Nat} {w : Cond} (h : zr_wd p w = true) : zr_goodIn w := by
  simp only [zr_wd, Bool.and_eq_true] at h
  exact ⟨zr_wm_spec h.1, good_of_word h.2⟩
def zr_ckm (m : zr_M) : Bool :=
  let y := m.1
  let ps := m.2.2.2.2.2.2.2.2
  let kd := ps.getD 0 9
  plainName y.cls && decide (y.cls ≠ "java/lang/invoke/MethodHandle") && decide (y.cls ≠ "java/lang/invoke/VarHandle") &&
  decide ((parseMethodDescriptor y.desc).map (fun d => d.parameters.length) = some m.2.2.2.2.2.1) && decide (y.cls = zr_own m.2.2.2.2.1) &&
  zr_wd (ps.getD 2 0) (if kd = 1 then .static y else .instanceMethod y) &&
  (if kd = 0 then zr_wd (ps.getD 3 0) (.selects y.cls y y) else true) &&
  (if kd = 2 then decide (y.name = "<init>") && decide (m.2.2.2.1 = none) else true) && decide (kd < 3) && decide (m.2.2.1 ≤ 21) &&
  (m.2.2.2.2.2.2.2.1.all fun x => (zr_ck m.2.2.2.2.1 x.2.2.2).isSome && decide (x.2.2.2 ≠ 0)) &&
  (if kd = 1 then true else decide (m.2.2.2.2.2.2.2.1 = []) && decide (m.2.2.2.2.1 < 9)) &&
  zr_wd (ps.getD 4 0) (.initialized y.cls)
def zr_cwd (m : zr_M) : Cond := if m.2.2.2.2.2.2.2.1 = [] then .code m.1 m.2.1 m.2.2.1 m.2.2.2.1 else .codeWith m.1 m.2.1 m.2.2.1 m.2.2.2.1 m.2.2.2.2.2.2.2.1
def zr_lall {α : Type} (P : α → Prop) : List α → Prop
  | [] => True
  | a :: l => P a ∧ zr_lall P l
theorem zr_lall_mem {α : Type} {P : α → Prop} : ∀ {l : List α}, zr_lall P l → ∀ a ∈ l, P a
  | [], _, a, h => by cases h
  | b :: l, h, a, ha => (List.mem_cons.mp ha).elim (fun e => e ▸ h.1) (fun ha => zr_lall_mem h.2 a ha)
def zr_cwp (m : zr_M) : Prop := lw_tbl[m.2.2.2.2.2.2.2.2.getD 1 0]? = some (zr_cwd m)
set_option maxRecDepth 20000 in
set_option maxHeartbeats 4000000 in
theorem zr_cw0 : zr_lall zr_cwp zr_mt0 := ⟨rfl, rfl, rfl, rfl, rfl, rfl, rfl, rfl, rfl, rfl, rfl, rfl, rfl, rfl, rfl, rfl, rfl, rfl, rfl, rfl, rfl, rfl, rfl, rfl, rfl, rfl, rfl, rfl, rfl, rfl, rfl, rfl, trivial⟩
theorem zr_ck0 : zr_mt0.all zr_ckm = true := by decide +kernel
set_option maxRecDepth 20000 in
set_option maxHeartbeats 4000000 in
theorem zr_cw1 : zr_lall zr_cwp zr_mt1 := ⟨rfl, rfl, rfl, rfl, rfl, rfl, rfl, rfl, rfl, rfl, rfl, rfl, rfl, rfl, rfl, rfl, rfl, rfl, rfl, rfl, rfl, rfl, rfl, rfl, rfl, rfl, rfl, rfl, rfl, rfl, rfl, rfl, trivial⟩
theorem zr_ck1 : zr_mt1.all zr_ckm = true := by decide +kernel
set_option maxRecDepth 20000 in
set_option maxHeartbeats 4000000 in
theorem zr_cw2 : zr_lall zr_cwp zr_mt2 := ⟨rfl, rfl, rfl, rfl, rfl, rfl, rfl, rfl, rfl, rfl, rfl, rfl, rfl, rfl, rfl, rfl, rfl, rfl, rfl, rfl, rfl, rfl, rfl, rfl, rfl, rfl, rfl, rfl, rfl, rfl, rfl, rfl, trivial⟩
theorem zr_ck2 : zr_mt2.all zr_ckm = true := by decide +kernel
set_option maxRecDepth 20000 in
set_option maxHeartbeats 4000000 in
theorem zr_cw3 : zr_lall zr_cwp zr_mt3 := ⟨rfl, rfl, rfl, rfl, rfl, rfl, rfl, rfl, rfl, rfl, rfl, rfl, rfl, rfl, rfl, rfl, rfl, rfl, rfl, rfl, rfl, rfl, rfl, rfl, rfl, rfl, rfl, rfl, rfl, rfl, rfl, rfl, trivial⟩
theorem zr_ck3 : zr_mt3.all zr_ckm = true := by decide +kernel
set_option maxRecDepth 20000 in
set_option maxHeartbeats 4000000 in
theorem zr_cw4 : zr_lall zr_cwp zr_mt4 := ⟨rfl, rfl, rfl, rfl, rfl, rfl, rfl, rfl, rfl, rfl, rfl, rfl, rfl, rfl, rfl, rfl, rfl, rfl, rfl, rfl, rfl, rfl, rfl, rfl, rfl, rfl, rfl, rfl, rfl, rfl, rfl, rfl, trivial⟩
theorem zr_ck4 : zr_mt4.all zr_ckm = true := by decide +kernel
set_option maxRecDepth 20000 in
set_option maxHeartbeats 4000000 in
theorem zr_cw5 : zr_lall zr_cwp zr_mt5 := ⟨rfl, rfl, rfl, rfl, rfl, rfl, rfl, rfl, rfl, rfl, rfl, rfl, rfl, rfl, rfl, rfl, rfl, rfl, rfl, rfl, rfl, rfl, rfl, rfl, rfl, rfl, rfl, rfl, rfl, rfl, rfl, rfl, trivial⟩
theorem zr_ck5 : zr_mt5.all zr_ckm = true := by decide +kernel
set_option maxRecDepth 20000 in
set_option maxHeartbeats 4000000 in
theorem zr_cw6 : zr_lall zr_cwp zr_mt6 := ⟨rfl, rfl, rfl, rfl, rfl, rfl, rfl, rfl, rfl, rfl, rfl, rfl, rfl, rfl, rfl, rfl, rfl, rfl, rfl, rfl, rfl, rfl, rfl, rfl, rfl, rfl, rfl, rfl, rfl, rfl, rfl, rfl, trivial⟩
theorem zr_ck6 : zr_mt6.all zr_ckm = true := by decide +kernel
set_option maxRecDepth 20000 in
set_option maxHeartbeats 4000000 in
theorem zr_cw7 : zr_lall zr_cwp zr_mt7 := ⟨rfl, rfl, rfl, rfl, rfl, rfl, rfl, rfl, rfl, rfl, rfl, rfl, rfl, rfl, rfl, rfl, rfl, rfl, rfl, rfl, rfl, rfl, rfl, rfl, rfl, rfl, rfl, rfl, rfl, rfl, rfl, rfl, trivial⟩
theorem zr_ck7 : zr_mt7.all zr_ckm = true := by decide +kernel
set_option maxRecDepth 20000 in
set_option maxHeartbeats 4000000 in
theorem zr_cw8 : zr_lall zr_cwp zr_mt8 := ⟨rfl, trivial⟩
theorem zr_ck8 : zr_mt8.all zr_ckm = true := by decide +kernel
def zr_mtc : List zr_M := zr_mt0 ++ (zr_mt1 ++ (zr_mt2 ++ (zr_mt3 ++ (zr_mt4 ++ (zr_mt5 ++ (zr_mt6 ++ (zr_mt7 ++ (zr_mt8))))))))
theorem zr_ckall : ∀ m ∈ zr_mtc, zr_ckm m = true := by
  intro m hm
  simp only [zr_mtc, List.mem_append] at hm
  rcases hm with h | h | h | h | h | h | h | h | h
  · exact List.all_eq_true.mp zr_ck0 m h
  · exact List.all_eq_true.mp zr_ck1 m h
  · exact List.all_eq_true.mp zr_ck2 m h
  · exact List.all_eq_true.mp zr_ck3 m h
  · exact List.all_eq_true.mp zr_ck4 m h
  · exact List.all_eq_true.mp zr_ck5 m h
  · exact List.all_eq_true.mp zr_ck6 m h
  · exact List.all_eq_true.mp zr_ck7 m h
  · exact List.all_eq_true.mp zr_ck8 m h
theorem zr_cwall : ∀ m ∈ zr_mtc, zr_cwp m := by
  intro m hm
  simp only [zr_mtc, List.mem_append] at hm
  rcases hm with h | h | h | h | h | h | h | h | h
  · exact zr_lall_mem zr_cw0 m h
  · exact zr_lall_mem zr_cw1 m h
  · exact zr_lall_mem zr_cw2 m h
  · exact zr_lall_mem zr_cw3 m h
  · exact zr_lall_mem zr_cw4 m h
  · exact zr_lall_mem zr_cw5 m h
  · exact zr_lall_mem zr_cw6 m h
  · exact zr_lall_mem zr_cw7 m h
  · exact zr_lall_mem zr_cw8 m h
theorem zr_mt_split : zr_mt = zr_mtc ++ zr_mt9 := by simp only [zr_mt, zr_mtc, List.append_assoc]
theorem zr_mtc_len : zr_mtc.length = 257 := by decide +kernel
theorem zr_mm_in {i : Nat} (h : i < 257) : zr_mm i ∈ zr_mtc := by
  have hl := zr_mtc_len
  unfold zr_mm
  rw [zr_mt_split, List.getD_eq_getElem?_getD, List.getElem?_append_left (by omega), List.getElem?_eq_getElem (by omega)]
  exact List.getElem_mem _
def zr_clsT (ci : Nat) : u_T := if ci = 0 then TX0 else if ci = 1 then TX1 else if ci = 2 then TX2 else if ci = 4 then TX4 else if ci = 5 then TX5 else if ci = 6 then TX6 else TX7
/-- own and index, class and field; the String's two fields apart -/
def zr_frc (e : Nat × Nat × Nat × Nat × Nat) : Bool :=
  if e.2.2.1 = 8 then zr_wd e.2.2.2.2 (.fieldLink (zr_own e.1) e.2.1 "java/lang/String" (if e.2.2.2.1 = 0 then "value" else "coder") (if e.2.2.2.1 = 0 then "[B" else "B")) && decide (e.2.2.2.1 < 2)
  else zr_wd e.2.2.2.2 (.fieldLink (zr_own e.1) e.2.1 (zr_own e.2.2.1) (zr_clsT e.2.2.1 e.2.2.2.1).2.1 (zr_clsT e.2.2.1 e.2.2.2.1).2.2.1) && decide (e.2.2.2.1 < zr_fn e.2.2.1) && decide (e.2.2.1 < 8) && decide (e.2.2.1 ≠ 3)
theorem zr_frall : zr_frT.all zr_frc = true := by decide +kernel
def zr_irc (e : Nat × Nat × Nat × Nat × Nat) : Bool :=
  if e.2.2.1 = 3 then zr_wd e.2.2.2.2 (.methodLink (zr_own e.1) e.2.1 Lib.objectInit)
  else if e.2.2.1 = 4 then zr_wd e.2.2.2.2 (.methodLink (zr_own e.1) e.2.1 Lib.Math.min.name)
  else if e.2.2.1 = 5 then zr_wm e.2.2.2.2 (.methodLinkNest (zr_own e.1) e.2.1 (zr_mm e.2.2.2.1).1 "RingStones") && decide (e.2.2.2.1 < 257) && decide (zr_kd e.2.2.2.1 = 1) && decide (zr_hh e.2.2.2.1 = [])
  else zr_wd e.2.2.2.2 (.methodLink (zr_own e.1) e.2.1 (zr_mm e.2.2.2.1).1) && decide (e.2.2.2.1 < 257) && decide (zr_kd e.2.2.2.1 = e.2.2.1)
theorem zr_irall : zr_irT.all zr_irc = true := by decide +kernel
def zr_nrc (e : Nat × Nat × Nat × Nat) : Bool := zr_wd e.2.2.2 (.classLink (zr_own e.1) e.2.1 (zr_own e.2.2.1)) && decide (e.2.2.1 < 8) && decide (e.2.2.1 ≠ 3)
theorem zr_nrall : zr_nrT.all zr_nrc = true := by decide +kernel
theorem zr_clall : zr_clT.all (fun e => zr_wd e.2.2.2 (.constantLong (zr_own e.1) e.2.1 e.2.2.1)) = true := by decide +kernel
theorem zr_srall : zr_srT.all (fun e => zr_wm e.2.2.2 (.stringRef (zr_own e.1) e.2.1 (zr_txt.getD e.2.2.1 ""))) = true := by decide +kernel
theorem zr_ckall2 : zr_ckT.all (fun e => zr_wd e.2.2.2 (.classLink (zr_own e.1) e.2.1 (zr_exT.getD e.2.2.1 "")) && decide (e.2.2.1 < 4)) = true := by decide +kernel
def zr_xtf (o x : Nat) : String := ((zr_xtx.find? fun e => e.1 == o && e.2.1 == x).map fun e => e.2.2).getD ""
def zr_nms : List String := ["java/lang/RuntimeException", "java/lang/Exception"]
def zr_xrc (e : Nat × Nat × Nat × Nat × Nat × Nat × Nat × Nat × Nat) : Bool :=
  zr_wd e.2.2.2.2.2.2.1 (.classLink (zr_own e.1) e.2.1 (zr_exT.getD e.2.2.2.2.1 "")) && zr_wd e.2.2.2.2.2.2.2.1 (.initialized (zr_exT.getD e.2.2.2.2.1 "")) &&
  zr_wm e.2.2.2.2.2.2.2.2 (.stringRef (zr_own e.1) e.2.2.1 (zr_xtf e.1 e.2.2.1)) && decide (e.2.2.2.2.1 < 4) && decide (e.1 = 6)
theorem zr_xrall : zr_xrT.all zr_xrc = true := by decide +kernel
/-- the words of a throw: those that the callee's own constructor link takes apart, those of the class -/
def zr_gw (w : Cond) : Bool := goodWord w || (match w with | .declares _ => true | .castable _ _ => true | _ => false)
def zr_cix (E : Nat) : Nat := if E = 3 then 13 else 7
def zr_cby (E : Nat) : ByteArray := if E = 3 then ⟨#[0x2a, 0x2b, 0xb7, 0x00, 0x0d, 0xb1]⟩ else ⟨#[0x2a, 0x2b, 0xb7, 0x00, 0x07, 0xb1]⟩
def zr_xw0 (E : Nat) : List Cond := (zr_o1 (zr_exT.getD E "") (zr_cix E) (zr_cby E) ++ zr_o2 (zr_exT.getD E "")).filter vx_no
theorem zr_xwall0 : ((List.range 4).all fun E => (zr_xw0 E).all fun w => decide (w ∈ lw_tbl)) = true := by decide +kernel
theorem zr_xwall1 : ((List.range 4).all fun E => (zr_xw0 E).all zr_gw) = true := by decide +kernel
theorem zr_xrl : (zr_xrT.all fun e => decide (lw_tbl.any fun w => decide (w = .methodLink (zr_own e.1) e.2.2.2.1 (Bundle.initS (zr_exT.getD e.2.2.2.2.1 ""))))) = true := by decide +kernel
