/-! THE STEPS AS EQUATIONS: an instruction, a lemma; a method's own are printed out of these -/
section ZQ
variable {d mn pc n : Nat} {b : ByteArray} {i : Instr} {Q : zr_K} {l : zr_L} {st st' r : List Value} {h : zr_H} {kc ks : Nat}
abbrev zr_Z (d mn : Nat) (Q : zr_K) : zr_P := zr_R (zr_E d) mn Q
theorem zr_at_ (hm : zr_mb mn = b) (hd : decode b pc = .ok (i, n)) : zr_Z d mn Q pc l st h kc ks = ((∃ st', zr_sop i n st = some st' ∧ zr_Z d mn Q (pc + n) l st' h kc ks) ∨ zr_st2 (zr_E d) mn Q (zr_Z d mn Q) pc l st h kc ks i n) := by
  subst hm
  refine propext ⟨fun g => ?_, fun g => zr_fold (zr_E_mon d) ⟨i, n, hd, g⟩⟩
  obtain ⟨i', n', hd', hs⟩ := zr_unfold (zr_E_mon d) g
  rw [hd] at hd'
  cases hd'
  exact hs
theorem zq_sop (hm : zr_mb mn = b) (hd : decode b pc = .ok (i, n)) (hs : zr_sop i n st = some st') (hf : zr_st2 (zr_E d) mn Q (zr_Z d mn Q) pc l st h kc ks i n → False) : zr_Z d mn Q pc l st h kc ks = zr_Z d mn Q (pc + n) l st' h kc ks := by
  rw [zr_at_ hm hd]
  refine propext ⟨fun g => ?_, fun g => Or.inl ⟨st', hs, g⟩⟩
  rcases g with ⟨st2, e, g⟩ | g
  · rw [hs] at e; cases e; exact g
  · exact (hf g).elim
theorem zq_st2 (hm : zr_mb mn = b) (hd : decode b pc = .ok (i, n)) (hs : zr_sop i n st = none) : zr_Z d mn Q pc l st h kc ks = zr_st2 (zr_E d) mn Q (zr_Z d mn Q) pc l st h kc ks i n := by
  rw [zr_at_ hm hd]
  refine propext ⟨fun g => ?_, Or.inr⟩
  rcases g with ⟨st2, e, g⟩ | g
  · rw [hs] at e; cases e
  · exact g
theorem zq_iload_n (hm : zr_mb mn = b) {k : Fin 4} {x : Int32} (hd : decode b pc = .ok (.iload_n k, 1)) (hl : l[(k : Nat)]? = some (some (.int x))) : zr_Z d mn Q pc l st h kc ks = zr_Z d mn Q (pc + 1) l (.int x :: st) h kc ks := by
  refine (zq_st2 hm hd rfl).trans (propext ⟨fun g => ?_, fun g => ?_⟩)
  · obtain ⟨y, e, g⟩ := g
    rw [hl] at e; cases e; exact g
  · exact ⟨_, hl, g⟩
theorem zq_iload (hm : zr_mb mn = b) {k : Nat} {x : Int32} (hd : decode b pc = .ok (.iload k, 2)) (hl : l[k]? = some (some (.int x))) : zr_Z d mn Q pc l st h kc ks = zr_Z d mn Q (pc + 2) l (.int x :: st) h kc ks := by
  refine (zq_st2 hm hd rfl).trans (propext ⟨fun g => ?_, fun g => ?_⟩)
  · obtain ⟨y, e, g⟩ := g
    rw [hl] at e; cases e; exact g
  · exact ⟨_, hl, g⟩
theorem zq_lload_n (hm : zr_mb mn = b) {k : Fin 4} {x : Int64} (hd : decode b pc = .ok (.lload_n k, 1)) (hl : l[(k : Nat)]? = some (some (.long x))) : zr_Z d mn Q pc l st h kc ks = zr_Z d mn Q (pc + 1) l (.long x :: st) h kc ks := by
  refine (zq_st2 hm hd rfl).trans (propext ⟨fun g => ?_, fun g => ?_⟩)
  · obtain ⟨y, e, g⟩ := g
    rw [hl] at e; cases e; exact g
  · exact ⟨_, hl, g⟩
theorem zq_lload (hm : zr_mb mn = b) {k : Nat} {x : Int64} (hd : decode b pc = .ok (.lload k, 2)) (hl : l[k]? = some (some (.long x))) : zr_Z d mn Q pc l st h kc ks = zr_Z d mn Q (pc + 2) l (.long x :: st) h kc ks := by
  refine (zq_st2 hm hd rfl).trans (propext ⟨fun g => ?_, fun g => ?_⟩)
  · obtain ⟨y, e, g⟩ := g
    rw [hl] at e; cases e; exact g
  · exact ⟨_, hl, g⟩
theorem zq_fload (hm : zr_mb mn = b) {k : Nat} {x : UInt32} (hd : decode b pc = .ok (.fload k, 2)) (hl : l[k]? = some (some (.float x))) : zr_Z d mn Q pc l st h kc ks = zr_Z d mn Q (pc + 2) l (.float x :: st) h kc ks := by
  refine (zq_st2 hm hd rfl).trans (propext ⟨fun g => ?_, fun g => ?_⟩)
  · obtain ⟨y, e, g⟩ := g
    rw [hl] at e; cases e; exact g
  · exact ⟨_, hl, g⟩
theorem zq_aload_n (hm : zr_mb mn = b) {k : Fin 4} {v : Option Nat} (hd : decode b pc = .ok (.aload_n k, 1)) (hl : l[(k : Nat)]? = some (some (va_rf v))) : zr_Z d mn Q pc l st h kc ks = zr_Z d mn Q (pc + 1) l (va_rf v :: st) h kc ks := by
  refine (zq_st2 hm hd rfl).trans (propext ⟨fun g => ?_, fun g => ?_⟩)
  · obtain ⟨y, e, g⟩ := g
    rw [hl] at e
    rw [Option.some.inj (Option.some.inj e)]; exact g
  · exact ⟨_, hl, g⟩
theorem zq_aload (hm : zr_mb mn = b) {k : Nat} {v : Option Nat} (hd : decode b pc = .ok (.aload k, 2)) (hl : l[k]? = some (some (va_rf v))) : zr_Z d mn Q pc l st h kc ks = zr_Z d mn Q (pc + 2) l (va_rf v :: st) h kc ks := by
  refine (zq_st2 hm hd rfl).trans (propext ⟨fun g => ?_, fun g => ?_⟩)
  · obtain ⟨y, e, g⟩ := g
    rw [hl] at e
    rw [Option.some.inj (Option.some.inj e)]; exact g
  · exact ⟨_, hl, g⟩
theorem zq_istore_n (hm : zr_mb mn = b) {k : Fin 4} {x : Int32} (hd : decode b pc = .ok (.istore_n k, 1)) (hl : (k : Nat) < l.length) : zr_Z d mn Q pc l (.int x :: r) h kc ks = zr_Z d mn Q (pc + 1) (zr_s1 l (k : Nat) (.int x)) r h kc ks := by
  refine (zq_st2 hm hd rfl).trans (propext ⟨fun g => ?_, fun g => ?_⟩)
  · obtain ⟨y, r2, e, -, g⟩ := g
    cases e; exact g
  · exact ⟨_, _, rfl, hl, g⟩
theorem zq_istore (hm : zr_mb mn = b) {k : Nat} {x : Int32} (hd : decode b pc = .ok (.istore k, 2)) (hl : k < l.length) : zr_Z d mn Q pc l (.int x :: r) h kc ks = zr_Z d mn Q (pc + 2) (zr_s1 l k (.int x)) r h kc ks := by
  refine (zq_st2 hm hd rfl).trans (propext ⟨fun g => ?_, fun g => ?_⟩)
  · obtain ⟨y, r2, e, -, g⟩ := g
    cases e; exact g
  · exact ⟨_, _, rfl, hl, g⟩
theorem zq_lstore_n (hm : zr_mb mn = b) {k : Fin 4} {x : Int64} (hd : decode b pc = .ok (.lstore_n k, 1)) (hl : (k : Nat) + 1 < l.length) : zr_Z d mn Q pc l (.long x :: r) h kc ks = zr_Z d mn Q (pc + 1) (zr_s2 l (k : Nat) (.long x)) r h kc ks := by
  refine (zq_st2 hm hd rfl).trans (propext ⟨fun g => ?_, fun g => ?_⟩)
  · obtain ⟨y, r2, e, -, g⟩ := g
    cases e; exact g
  · exact ⟨_, _, rfl, hl, g⟩
theorem zq_lstore (hm : zr_mb mn = b) {k : Nat} {x : Int64} (hd : decode b pc = .ok (.lstore k, 2)) (hl : k + 1 < l.length) : zr_Z d mn Q pc l (.long x :: r) h kc ks = zr_Z d mn Q (pc + 2) (zr_s2 l k (.long x)) r h kc ks := by
  refine (zq_st2 hm hd rfl).trans (propext ⟨fun g => ?_, fun g => ?_⟩)
  · obtain ⟨y, r2, e, -, g⟩ := g
    cases e; exact g
  · exact ⟨_, _, rfl, hl, g⟩
theorem zq_fstore (hm : zr_mb mn = b) {k : Nat} {x : UInt32} (hd : decode b pc = .ok (.fstore k, 2)) (hl : k < l.length) : zr_Z d mn Q pc l (.float x :: r) h kc ks = zr_Z d mn Q (pc + 2) (zr_s1 l k (.float x)) r h kc ks := by
  refine (zq_st2 hm hd rfl).trans (propext ⟨fun g => ?_, fun g => ?_⟩)
  · obtain ⟨y, r2, e, -, g⟩ := g
    cases e; exact g
  · exact ⟨_, _, rfl, hl, g⟩
theorem zq_astore_n (hm : zr_mb mn = b) {k : Fin 4} {v : Option Nat} (hd : decode b pc = .ok (.astore_n k, 1)) (hl : (k : Nat) < l.length) : zr_Z d mn Q pc l (va_rf v :: r) h kc ks = zr_Z d mn Q (pc + 1) (zr_s1 l (k : Nat) (va_rf v)) r h kc ks := by
  refine (zq_st2 hm hd rfl).trans (propext ⟨fun g => ?_, fun g => ?_⟩)
  · obtain ⟨y, r2, e, -, g⟩ := g
    rw [List.cons.injEq] at e
    rw [e.1, e.2]; exact g
  · exact ⟨_, _, rfl, hl, g⟩
theorem zq_astore (hm : zr_mb mn = b) {k : Nat} {v : Option Nat} (hd : decode b pc = .ok (.astore k, 2)) (hl : k < l.length) : zr_Z d mn Q pc l (va_rf v :: r) h kc ks = zr_Z d mn Q (pc + 2) (zr_s1 l k (va_rf v)) r h kc ks := by
  refine (zq_st2 hm hd rfl).trans (propext ⟨fun g => ?_, fun g => ?_⟩)
  · obtain ⟨y, r2, e, -, g⟩ := g
    rw [List.cons.injEq] at e
    rw [e.1, e.2]; exact g
  · exact ⟨_, _, rfl, hl, g⟩
theorem zq_iinc (hm : zr_mb mn = b) {k : Nat} {D : Int} {x : Int32} (hd : decode b pc = .ok (.iinc k D, 3)) (hl : l[k]? = some (some (.int x))) : zr_Z d mn Q pc l st h kc ks = zr_Z d mn Q (pc + 3) (zr_s1 l k (.int (x + Int32.ofInt D))) st h kc ks := by
  refine (zq_st2 hm hd rfl).trans (propext ⟨fun g => ?_, fun g => ?_⟩)
  · obtain ⟨y, e, g⟩ := g
    rw [hl] at e; cases e; exact g
  · exact ⟨_, hl, g⟩
theorem zq_ldc2 (hm : zr_mb mn = b) {o x : Nat} {v : Int64} (ho : zr_mo mn = o) (hd : decode b pc = .ok (.ldc2_w x, 3)) (hv : zr_cl o x = some v) : zr_Z d mn Q pc l st h kc ks = zr_Z d mn Q (pc + 3) l (.long v :: st) h kc ks := by
  subst ho
  refine (zq_st2 hm hd rfl).trans (propext ⟨fun g => ?_, fun g => ?_⟩)
  · obtain ⟨y, e, g⟩ := g
    rw [hv] at e; cases e; exact g
  · exact ⟨_, hv, g⟩
theorem zq_ldc (hm : zr_mb mn = b) {o x k : Nat} {tx : String} (ho : zr_mo mn = o) (hd : decode b pc = .ok (.ldc x, 2)) (hv : zr_sr o x = some k) (ht : zr_txt.getD k "" = tx) : zr_Z d mn Q pc l st h kc ks = (∀ q : Nat, zr_str h q tx → zr_Z d mn Q (pc + 2) l (.ref q :: st) h kc ks) := by
  subst ho
  subst ht
  refine (zq_st2 hm hd rfl).trans (propext ⟨fun g => ?_, fun g => ?_⟩)
  · obtain ⟨y, e, g⟩ := g
    rw [hv] at e; cases e; exact g
  · exact ⟨_, hv, g⟩
theorem zq_if_eq (hm : zr_mb mn = b) {D : Int} {t : Nat} {x : Int32} (hd : decode b pc = .ok (.ifCond .eq D, 3)) (ht : (pc : Int) + D = (t : Int)) : zr_Z d mn Q pc l (.int x :: r) h kc ks = ((x = 0 → zr_Z d mn Q t l r h kc ks) ∧ (¬ x = 0 → zr_Z d mn Q (pc + 3) l r h kc ks)) := by
  refine (zq_st2 hm hd rfl).trans (propext ⟨fun g => ?_, fun g => ?_⟩)
  · obtain ⟨y, r2, t2, e, e2, g⟩ := g
    cases e
    rw [ht] at e2
    rw [Int.ofNat.inj e2]; exact g
  · exact ⟨_, _, _, rfl, ht, g⟩
theorem zq_if_ne (hm : zr_mb mn = b) {D : Int} {t : Nat} {x : Int32} (hd : decode b pc = .ok (.ifCond .ne D, 3)) (ht : (pc : Int) + D = (t : Int)) : zr_Z d mn Q pc l (.int x :: r) h kc ks = ((¬ x = 0 → zr_Z d mn Q t l r h kc ks) ∧ (x = 0 → zr_Z d mn Q (pc + 3) l r h kc ks)) := by
  refine (zq_st2 hm hd rfl).trans (propext ⟨fun g => ?_, fun g => ?_⟩)
  · obtain ⟨y, r2, t2, e, e2, g⟩ := g
    cases e
    rw [ht] at e2
    rw [Int.ofNat.inj e2]; exact g
  · exact ⟨_, _, _, rfl, ht, g⟩
theorem zq_if_lt (hm : zr_mb mn = b) {D : Int} {t : Nat} {x : Int32} (hd : decode b pc = .ok (.ifCond .lt D, 3)) (ht : (pc : Int) + D = (t : Int)) : zr_Z d mn Q pc l (.int x :: r) h kc ks = ((x < 0 → zr_Z d mn Q t l r h kc ks) ∧ (¬ x < 0 → zr_Z d mn Q (pc + 3) l r h kc ks)) := by
  refine (zq_st2 hm hd rfl).trans (propext ⟨fun g => ?_, fun g => ?_⟩)
  · obtain ⟨y, r2, t2, e, e2, g⟩ := g
    cases e
    rw [ht] at e2
    rw [Int.ofNat.inj e2]; exact g
  · exact ⟨_, _, _, rfl, ht, g⟩
theorem zq_if_ge (hm : zr_mb mn = b) {D : Int} {t : Nat} {x : Int32} (hd : decode b pc = .ok (.ifCond .ge D, 3)) (ht : (pc : Int) + D = (t : Int)) : zr_Z d mn Q pc l (.int x :: r) h kc ks = ((0 ≤ x → zr_Z d mn Q t l r h kc ks) ∧ (¬ 0 ≤ x → zr_Z d mn Q (pc + 3) l r h kc ks)) := by
  refine (zq_st2 hm hd rfl).trans (propext ⟨fun g => ?_, fun g => ?_⟩)
  · obtain ⟨y, r2, t2, e, e2, g⟩ := g
    cases e
    rw [ht] at e2
    rw [Int.ofNat.inj e2]; exact g
  · exact ⟨_, _, _, rfl, ht, g⟩
theorem zq_if_gt (hm : zr_mb mn = b) {D : Int} {t : Nat} {x : Int32} (hd : decode b pc = .ok (.ifCond .gt D, 3)) (ht : (pc : Int) + D = (t : Int)) : zr_Z d mn Q pc l (.int x :: r) h kc ks = ((0 < x → zr_Z d mn Q t l r h kc ks) ∧ (¬ 0 < x → zr_Z d mn Q (pc + 3) l r h kc ks)) := by
  refine (zq_st2 hm hd rfl).trans (propext ⟨fun g => ?_, fun g => ?_⟩)
  · obtain ⟨y, r2, t2, e, e2, g⟩ := g
    cases e
    rw [ht] at e2
    rw [Int.ofNat.inj e2]; exact g
  · exact ⟨_, _, _, rfl, ht, g⟩
theorem zq_if_le (hm : zr_mb mn = b) {D : Int} {t : Nat} {x : Int32} (hd : decode b pc = .ok (.ifCond .le D, 3)) (ht : (pc : Int) + D = (t : Int)) : zr_Z d mn Q pc l (.int x :: r) h kc ks = ((x ≤ 0 → zr_Z d mn Q t l r h kc ks) ∧ (¬ x ≤ 0 → zr_Z d mn Q (pc + 3) l r h kc ks)) := by
  refine (zq_st2 hm hd rfl).trans (propext ⟨fun g => ?_, fun g => ?_⟩)
  · obtain ⟨y, r2, t2, e, e2, g⟩ := g
    cases e
    rw [ht] at e2
    rw [Int.ofNat.inj e2]; exact g
  · exact ⟨_, _, _, rfl, ht, g⟩
theorem zq_icmp_eq (hm : zr_mb mn = b) {D : Int} {t : Nat} {x y : Int32} (hd : decode b pc = .ok (.if_icmp .eq D, 3)) (ht : (pc : Int) + D = (t : Int)) : zr_Z d mn Q pc l (.int y :: .int x :: r) h kc ks = ((x = y → zr_Z d mn Q t l r h kc ks) ∧ (¬ x = y → zr_Z d mn Q (pc + 3) l r h kc ks)) := by
  refine (zq_st2 hm hd rfl).trans (propext ⟨fun g => ?_, fun g => ?_⟩)
  · obtain ⟨x1, y1, r2, t2, e, e2, g⟩ := g
    cases e
    rw [ht] at e2
    rw [Int.ofNat.inj e2]; exact g
  · exact ⟨_, _, _, _, rfl, ht, g⟩
theorem zq_icmp_ne (hm : zr_mb mn = b) {D : Int} {t : Nat} {x y : Int32} (hd : decode b pc = .ok (.if_icmp .ne D, 3)) (ht : (pc : Int) + D = (t : Int)) : zr_Z d mn Q pc l (.int y :: .int x :: r) h kc ks = ((¬ x = y → zr_Z d mn Q t l r h kc ks) ∧ (x = y → zr_Z d mn Q (pc + 3) l r h kc ks)) := by
  refine (zq_st2 hm hd rfl).trans (propext ⟨fun g => ?_, fun g => ?_⟩)
  · obtain ⟨x1, y1, r2, t2, e, e2, g⟩ := g
    cases e
    rw [ht] at e2
    rw [Int.ofNat.inj e2]; exact g
  · exact ⟨_, _, _, _, rfl, ht, g⟩
theorem zq_icmp_lt (hm : zr_mb mn = b) {D : Int} {t : Nat} {x y : Int32} (hd : decode b pc = .ok (.if_icmp .lt D, 3)) (ht : (pc : Int) + D = (t : Int)) : zr_Z d mn Q pc l (.int y :: .int x :: r) h kc ks = ((x < y → zr_Z d mn Q t l r h kc ks) ∧ (¬ x < y → zr_Z d mn Q (pc + 3) l r h kc ks)) := by
  refine (zq_st2 hm hd rfl).trans (propext ⟨fun g => ?_, fun g => ?_⟩)
  · obtain ⟨x1, y1, r2, t2, e, e2, g⟩ := g
    cases e
    rw [ht] at e2
    rw [Int.ofNat.inj e2]; exact g
  · exact ⟨_, _, _, _, rfl, ht, g⟩
theorem zq_icmp_ge (hm : zr_mb mn = b) {D : Int} {t : Nat} {x y : Int32} (hd : decode b pc = .ok (.if_icmp .ge D, 3)) (ht : (pc : Int) + D = (t : Int)) : zr_Z d mn Q pc l (.int y :: .int x :: r) h kc ks = ((y ≤ x → zr_Z d mn Q t l r h kc ks) ∧ (¬ y ≤ x → zr_Z d mn Q (pc + 3) l r h kc ks)) := by
  refine (zq_st2 hm hd rfl).trans (propext ⟨fun g => ?_, fun g => ?_⟩)
  · obtain ⟨x1, y1, r2, t2, e, e2, g⟩ := g
    cases e
    rw [ht] at e2
    rw [Int.ofNat.inj e2]; exact g
  · exact ⟨_, _, _, _, rfl, ht, g⟩
theorem zq_icmp_gt (hm : zr_mb mn = b) {D : Int} {t : Nat} {x y : Int32} (hd : decode b pc = .ok (.if_icmp .gt D, 3)) (ht : (pc : Int) + D = (t : Int)) : zr_Z d mn Q pc l (.int y :: .int x :: r) h kc ks = ((y < x → zr_Z d mn Q t l r h kc ks) ∧ (¬ y < x → zr_Z d mn Q (pc + 3) l r h kc ks)) := by
  refine (zq_st2 hm hd rfl).trans (propext ⟨fun g => ?_, fun g => ?_⟩)
  · obtain ⟨x1, y1, r2, t2, e, e2, g⟩ := g
    cases e
    rw [ht] at e2
    rw [Int.ofNat.inj e2]; exact g
  · exact ⟨_, _, _, _, rfl, ht, g⟩
theorem zq_icmp_le (hm : zr_mb mn = b) {D : Int} {t : Nat} {x y : Int32} (hd : decode b pc = .ok (.if_icmp .le D, 3)) (ht : (pc : Int) + D = (t : Int)) : zr_Z d mn Q pc l (.int y :: .int x :: r) h kc ks = ((x ≤ y → zr_Z d mn Q t l r h kc ks) ∧ (¬ x ≤ y → zr_Z d mn Q (pc + 3) l r h kc ks)) := by
  refine (zq_st2 hm hd rfl).trans (propext ⟨fun g => ?_, fun g => ?_⟩)
  · obtain ⟨x1, y1, r2, t2, e, e2, g⟩ := g
    cases e
    rw [ht] at e2
    rw [Int.ofNat.inj e2]; exact g
  · exact ⟨_, _, _, _, rfl, ht, g⟩
theorem zq_goto (hm : zr_mb mn = b) {D : Int} {t : Nat} (hd : decode b pc = .ok (.goto D, 3)) (ht : (pc : Int) + D = (t : Int)) : zr_Z d mn Q pc l st h kc ks = zr_Z d mn Q t l st h kc ks := by
  refine (zq_st2 hm hd rfl).trans (propext ⟨fun g => ?_, fun g => ?_⟩)
  · obtain ⟨t2, e2, g⟩ := g
    rw [ht] at e2
    rw [Int.ofNat.inj e2]; exact g
  · exact ⟨_, ht, g⟩
theorem zq_ifnullN (hm : zr_mb mn = b) {D : Int} {t q : Nat} (hd : decode b pc = .ok (.ifnull D, 3)) (ht : (pc : Int) + D = (t : Int)) : zr_Z d mn Q pc l (.null :: r) h kc ks = zr_Z d mn Q t l r h kc ks := by
  refine (zq_st2 hm hd rfl).trans (propext ⟨fun g => ?_, fun g => ?_⟩)
  · obtain ⟨r2, t2, e2, ⟨e, g⟩ | ⟨q2, e, g⟩⟩ := g
    · cases e
      rw [ht] at e2
      rw [Int.ofNat.inj e2]; exact g
    · cases e
  · exact ⟨_, _, ht, Or.inl ⟨rfl, g⟩⟩
theorem zq_ifnull (hm : zr_mb mn = b) {D : Int} {t q : Nat} (hd : decode b pc = .ok (.ifnull D, 3)) (ht : (pc : Int) + D = (t : Int)) : zr_Z d mn Q pc l (.ref q :: r) h kc ks = zr_Z d mn Q (pc + 3) l r h kc ks := by
  refine (zq_st2 hm hd rfl).trans (propext ⟨fun g => ?_, fun g => ?_⟩)
  · obtain ⟨r2, t2, e2, ⟨e, g⟩ | ⟨q2, e, g⟩⟩ := g
    · cases e
    · cases e
      rw [ht] at e2
      exact g
  · exact ⟨_, _, ht, Or.inr ⟨_, rfl, g⟩⟩
theorem zq_ifnonnullN (hm : zr_mb mn = b) {D : Int} {t q : Nat} (hd : decode b pc = .ok (.ifnonnull D, 3)) (ht : (pc : Int) + D = (t : Int)) : zr_Z d mn Q pc l (.null :: r) h kc ks = zr_Z d mn Q (pc + 3) l r h kc ks := by
  refine (zq_st2 hm hd rfl).trans (propext ⟨fun g => ?_, fun g => ?_⟩)
  · obtain ⟨r2, t2, e2, ⟨e, g⟩ | ⟨q2, e, g⟩⟩ := g
    · cases e
      rw [ht] at e2
      exact g
    · cases e
  · exact ⟨_, _, ht, Or.inl ⟨rfl, g⟩⟩
theorem zq_ifnonnull (hm : zr_mb mn = b) {D : Int} {t q : Nat} (hd : decode b pc = .ok (.ifnonnull D, 3)) (ht : (pc : Int) + D = (t : Int)) : zr_Z d mn Q pc l (.ref q :: r) h kc ks = zr_Z d mn Q t l r h kc ks := by
  refine (zq_st2 hm hd rfl).trans (propext ⟨fun g => ?_, fun g => ?_⟩)
  · obtain ⟨r2, t2, e2, ⟨e, g⟩ | ⟨q2, e, g⟩⟩ := g
    · cases e
    · cases e
      rw [ht] at e2
      rw [Int.ofNat.inj e2]; exact g
  · exact ⟨_, _, ht, Or.inr ⟨_, rfl, g⟩⟩
theorem zq_tswO (hm : zr_mb mn = b) {D lo hi : Int} {offs : Array Int} {n t : Nat} {x : Int32} (hd : decode b pc = .ok (.tableswitch D lo hi offs, n)) (hx : x.toInt < lo ∨ hi < x.toInt) (ht : (pc : Int) + D = (t : Int)) : zr_Z d mn Q pc l (.int x :: r) h kc ks = zr_Z d mn Q t l r h kc ks := by
  refine (zq_st2 hm hd rfl).trans (propext ⟨fun g => ?_, fun g => ?_⟩)
  · obtain ⟨x2, r2, t2, e, e2, -, g⟩ := g
    cases e
    rw [if_pos hx, ht] at e2
    rw [Int.ofNat.inj e2]; exact g
  · exact ⟨_, _, _, rfl, by rw [if_pos hx]; exact ht, fun z => absurd hx z, g⟩
theorem zq_tswI (hm : zr_mb mn = b) {D lo hi off : Int} {offs : Array Int} {n t : Nat} {x : Int32} (hd : decode b pc = .ok (.tableswitch D lo hi offs, n)) (hx : ¬ (x.toInt < lo ∨ hi < x.toInt)) (ho : offs[(x.toInt - lo).toNat]? = some off) (ht : (pc : Int) + off = (t : Int)) : zr_Z d mn Q pc l (.int x :: r) h kc ks = zr_Z d mn Q t l r h kc ks := by
  refine (zq_st2 hm hd rfl).trans (propext ⟨fun g => ?_, fun g => ?_⟩)
  · obtain ⟨x2, r2, t2, e, e2, -, g⟩ := g
    cases e
    rw [if_neg hx, ho] at e2
    have e3 : (t : Int) = (t2 : Int) := ht.symm.trans e2
    rw [Int.ofNat.inj e3]; exact g
  · exact ⟨_, _, _, rfl, by rw [if_neg hx, ho]; exact ht, fun _ => by rw [ho]; rfl, g⟩
theorem zq_lsw (hm : zr_mb mn = b) {D off : Int} {qs : Array (Int × Int)} {n t : Nat} {x : Int32} (hd : decode b pc = .ok (.lookupswitch D qs, n)) (hp : (qs.toList.zip (qs.toList.drop 1)).all (fun (a, next) => a.1 < next.1) = true) (ho : Op.lookupswitch.offset qs.toList D x.toInt = off) (ht : (pc : Int) + off = (t : Int)) : zr_Z d mn Q pc l (.int x :: r) h kc ks = zr_Z d mn Q t l r h kc ks := by
  refine (zq_st2 hm hd rfl).trans (propext ⟨fun g => ?_, fun g => ?_⟩)
  · obtain ⟨x2, r2, t2, e, -, e2, g⟩ := g
    cases e
    rw [ho, ht] at e2
    rw [Int.ofNat.inj e2]; exact g
  · exact ⟨_, _, _, rfl, hp, by rw [ho]; exact ht, g⟩
theorem zq_idiv (hm : zr_mb mn = b) {x y : Int32} (hd : decode b pc = .ok (.idiv, 1)) (hy : ¬ y = 0) : zr_Z d mn Q pc l (.int y :: .int x :: r) h kc ks = zr_Z d mn Q (pc + 1) l (.int (x / y) :: r) h kc ks := by
  refine (zq_st2 hm hd rfl).trans (propext ⟨fun g => ?_, fun g => ?_⟩)
  · obtain ⟨x2, y2, r2, e, -, g⟩ := g
    cases e; exact g
  · exact ⟨_, _, _, rfl, hy, g⟩
theorem zq_irem (hm : zr_mb mn = b) {x y : Int32} (hd : decode b pc = .ok (.irem, 1)) (hy : ¬ y = 0) : zr_Z d mn Q pc l (.int y :: .int x :: r) h kc ks = zr_Z d mn Q (pc + 1) l (.int (x - x / y * y) :: r) h kc ks := by
  refine (zq_st2 hm hd rfl).trans (propext ⟨fun g => ?_, fun g => ?_⟩)
  · obtain ⟨x2, y2, r2, e, -, g⟩ := g
    cases e; exact g
  · exact ⟨_, _, _, rfl, hy, g⟩
theorem zq_fdiv (hm : zr_mb mn = b) {x y : UInt32} (hd : decode b pc = .ok (.fdiv, 1)) (hy : vf_n32 (FP.fdiv x y)) : zr_Z d mn Q pc l (.float y :: .float x :: r) h kc ks = zr_Z d mn Q (pc + 1) l (.float (FP.fdiv x y) :: r) h kc ks := by
  refine (zq_st2 hm hd rfl).trans (propext ⟨fun g => ?_, fun g => ?_⟩)
  · obtain ⟨x2, y2, r2, e, -, g⟩ := g
    cases e; exact g
  · exact ⟨_, _, _, rfl, hy, g⟩
theorem zq_f2d (hm : zr_mb mn = b) {x : UInt32} (hd : decode b pc = .ok (.f2d, 1)) (hy : vf_n64 (FP.f2d x)) : zr_Z d mn Q pc l (.float x :: r) h kc ks = zr_Z d mn Q (pc + 1) l (.double (FP.f2d x) :: r) h kc ks := by
  refine (zq_st2 hm hd rfl).trans (propext ⟨fun g => ?_, fun g => ?_⟩)
  · obtain ⟨x2, r2, e, -, g⟩ := g
    cases e; exact g
  · exact ⟨_, _, rfl, hy, g⟩
theorem zq_getfield (hm : zr_mb mn = b) {o x q ci k : Nat} (ho : zr_mo mn = o) (hd : decode b pc = .ok (.getfield x, 3)) (hf : zr_fr o x = some (ci, k)) (hO : zr_isO (h q) ci = true) : zr_Z d mn Q pc l (.ref q :: r) h kc ks = zr_Z d mn Q (pc + 3) l (zr_fld (h q) k :: r) h kc ks := by
  subst ho
  refine (zq_st2 hm hd rfl).trans (propext ⟨fun g => ?_, fun g => ?_⟩)
  · obtain ⟨q2, r2, c2, k2, e, e2, -, g⟩ := g
    cases e
    rw [hf] at e2; cases e2; exact g
  · exact ⟨_, _, _, _, rfl, hf, hO, g⟩
theorem zq_putfield (hm : zr_mb mn = b) {o x q ci k : Nat} {v : Value} (ho : zr_mo mn = o) (hd : decode b pc = .ok (.putfield x, 3)) (hf : zr_fr o x = some (ci, k)) (h8 : ci < 8) (hv : zr_okF (zr_ft ci k) v) (hfin : zr_ff ci k = true → zr_kd mn = 2 ∧ zr_mo mn = ci) (hO : zr_isO (h q) ci = true) : zr_Z d mn Q pc l (v :: .ref q :: r) h kc ks = zr_Z d mn Q (pc + 3) l r (zr_putO h q k v) kc ks := by
  subst ho
  refine (zq_st2 hm hd (by cases v <;> rfl)).trans (propext ⟨fun g => ?_, fun g => ?_⟩)
  · obtain ⟨q2, r2, c2, k2, v2, e, e2, -, -, -, -, g⟩ := g
    cases e
    rw [hf] at e2; cases e2; exact g
  · exact ⟨_, _, _, _, _, rfl, hf, h8, hO, hv, hfin, g⟩
theorem zq_cs (hm : zr_mb mn = b) (ho : zr_mo mn = 8) (hd : decode b pc = .ok (.getstatic 38, 3)) : zr_Z d mn Q pc l st h kc ks = zr_Z d mn Q (pc + 3) l (.int 1 :: st) h kc ks := by
  refine (zq_st2 hm hd rfl).trans (propext ⟨fun g => ?_, fun g => ?_⟩)
  · rcases g with ⟨-, -, g⟩ | ⟨-, e, -⟩
    · exact g
    · exact absurd e (by decide)
  · exact Or.inl ⟨ho, rfl, g⟩
theorem zq_sf (hm : zr_mb mn = b) (ho : zr_mo mn = 8) (hd : decode b pc = .ok (.getstatic 1053, 3)) : zr_Z d mn Q pc l st h kc ks = (∀ v : Option Nat, zr_Z d mn Q (pc + 3) l (va_rf v :: st) h kc ks) := by
  refine (zq_st2 hm hd rfl).trans (propext ⟨fun g => ?_, fun g => ?_⟩)
  · rcases g with ⟨-, e, -⟩ | ⟨-, -, g⟩
    · exact absurd e (by decide)
    · exact g
  · exact Or.inr ⟨ho, rfl, g⟩
theorem zq_alen (hm : zr_mb mn = b) {q t : Nat} (hd : decode b pc = .ok (.arraylength, 1)) (hA : zr_isA (h q) t = true) : zr_Z d mn Q pc l (.ref q :: r) h kc ks = zr_Z d mn Q (pc + 1) l (.int (nI (zr_len (h q))) :: r) h kc ks := by
  refine (zq_st2 hm hd rfl).trans (propext ⟨fun g => ?_, fun g => ?_⟩)
  · obtain ⟨q2, r2, t2, e, -, g⟩ := g
    cases e; exact g
  · exact ⟨_, _, _, rfl, hA, g⟩
theorem zq_iaload (hm : zr_mb mn = b) {q : Nat} {i9 : Int32} (t : Nat) (hd : decode b pc = .ok (.iaload, 1)) (ht : t = 0 ∨ t = 20) (hA : zr_isA (h q) t = true) (hin : vp_in i9 (zr_len (h q))) : zr_Z d mn Q pc l (.int i9 :: .ref q :: r) h kc ks = zr_Z d mn Q (pc + 1) l (zr_elt (h q) i9.toNatClampNeg :: r) h kc ks := by
  refine (zq_st2 hm hd rfl).trans (propext ⟨fun g => ?_, fun g => ?_⟩)
  · obtain ⟨q2, i2, r2, t2, e, -, -, -, g⟩ := g
    cases e; exact g
  · exact ⟨_, _, _, t, rfl, ht, hA, hin, g⟩
theorem zq_laload (hm : zr_mb mn = b) {q : Nat} {i9 : Int32} (t : Nat) (hd : decode b pc = .ok (.laload, 1)) (ht : t = 1) (hA : zr_isA (h q) t = true) (hin : vp_in i9 (zr_len (h q))) : zr_Z d mn Q pc l (.int i9 :: .ref q :: r) h kc ks = zr_Z d mn Q (pc + 1) l (zr_elt (h q) i9.toNatClampNeg :: r) h kc ks := by
  refine (zq_st2 hm hd rfl).trans (propext ⟨fun g => ?_, fun g => ?_⟩)
  · obtain ⟨q2, i2, r2, t2, e, -, -, -, g⟩ := g
    cases e; exact g
  · exact ⟨_, _, _, t, rfl, ht, hA, hin, g⟩
theorem zq_baload (hm : zr_mb mn = b) {q : Nat} {i9 : Int32} (t : Nat) (hd : decode b pc = .ok (.baload, 1)) (ht : t = 2 ∨ t = 3 ∨ t = 22) (hA : zr_isA (h q) t = true) (hin : vp_in i9 (zr_len (h q))) : zr_Z d mn Q pc l (.int i9 :: .ref q :: r) h kc ks = zr_Z d mn Q (pc + 1) l (zr_elt (h q) i9.toNatClampNeg :: r) h kc ks := by
  refine (zq_st2 hm hd rfl).trans (propext ⟨fun g => ?_, fun g => ?_⟩)
  · obtain ⟨q2, i2, r2, t2, e, -, -, -, g⟩ := g
    cases e; exact g
  · exact ⟨_, _, _, t, rfl, ht, hA, hin, g⟩
theorem zq_daload (hm : zr_mb mn = b) {q : Nat} {i9 : Int32} (t : Nat) (hd : decode b pc = .ok (.daload, 1)) (ht : t = 4) (hA : zr_isA (h q) t = true) (hin : vp_in i9 (zr_len (h q))) : zr_Z d mn Q pc l (.int i9 :: .ref q :: r) h kc ks = zr_Z d mn Q (pc + 1) l (zr_elt (h q) i9.toNatClampNeg :: r) h kc ks := by
  refine (zq_st2 hm hd rfl).trans (propext ⟨fun g => ?_, fun g => ?_⟩)
  · obtain ⟨q2, i2, r2, t2, e, -, -, -, g⟩ := g
    cases e; exact g
  · exact ⟨_, _, _, t, rfl, ht, hA, hin, g⟩
theorem zq_aaload (hm : zr_mb mn = b) {q : Nat} {i9 : Int32} (t : Nat) (hd : decode b pc = .ok (.aaload, 1)) (ht : t = 5) (hA : zr_isA (h q) t = true) (hin : vp_in i9 (zr_len (h q))) : zr_Z d mn Q pc l (.int i9 :: .ref q :: r) h kc ks = zr_Z d mn Q (pc + 1) l (zr_elt (h q) i9.toNatClampNeg :: r) h kc ks := by
  refine (zq_st2 hm hd rfl).trans (propext ⟨fun g => ?_, fun g => ?_⟩)
  · obtain ⟨q2, i2, r2, t2, e, -, -, -, g⟩ := g
    cases e; exact g
  · exact ⟨_, _, _, t, rfl, ht, hA, hin, g⟩
theorem zq_iastore (hm : zr_mb mn = b) {q : Nat} {i9 : Int32} {x : Int32} (hd : decode b pc = .ok (.iastore, 1)) (hA : zr_isA (h q) 0 = true) (hin : vp_in i9 (zr_len (h q))) : zr_Z d mn Q pc l (.int x :: .int i9 :: .ref q :: r) h kc ks = zr_Z d mn Q (pc + 1) l r (zr_putA h q i9.toNatClampNeg (.int x)) kc ks := by
  refine (zq_st2 hm hd rfl).trans (propext ⟨fun g => ?_, fun g => ?_⟩)
  · obtain ⟨q2, i2, r2, x2, e, -, -, g⟩ := g
    cases e; exact g
  · exact ⟨_, _, _, _, rfl, hA, hin, g⟩
theorem zq_lastore (hm : zr_mb mn = b) {q : Nat} {i9 : Int32} {x : Int64} (hd : decode b pc = .ok (.lastore, 1)) (hA : zr_isA (h q) 1 = true) (hin : vp_in i9 (zr_len (h q))) : zr_Z d mn Q pc l (.long x :: .int i9 :: .ref q :: r) h kc ks = zr_Z d mn Q (pc + 1) l r (zr_putA h q i9.toNatClampNeg (.long x)) kc ks := by
  refine (zq_st2 hm hd rfl).trans (propext ⟨fun g => ?_, fun g => ?_⟩)
  · obtain ⟨q2, i2, r2, x2, e, -, -, g⟩ := g
    cases e; exact g
  · exact ⟨_, _, _, _, rfl, hA, hin, g⟩
theorem zq_dastore (hm : zr_mb mn = b) {q : Nat} {i9 : Int32} {x : UInt64} (hd : decode b pc = .ok (.dastore, 1)) (hA : zr_isA (h q) 4 = true) (hin : vp_in i9 (zr_len (h q))) : zr_Z d mn Q pc l (.double x :: .int i9 :: .ref q :: r) h kc ks = zr_Z d mn Q (pc + 1) l r (zr_putA h q i9.toNatClampNeg (.double x)) kc ks := by
  refine (zq_st2 hm hd rfl).trans (propext ⟨fun g => ?_, fun g => ?_⟩)
  · obtain ⟨q2, i2, r2, x2, e, -, -, g⟩ := g
    cases e; exact g
  · exact ⟨_, _, _, _, rfl, hA, hin, g⟩
theorem zq_bastore (hm : zr_mb mn = b) {q : Nat} {i9 x : Int32} (hd : decode b pc = .ok (.bastore, 1)) (hA : zr_isA (h q) 2 = true) (hin : vp_in i9 (zr_len (h q))) : zr_Z d mn Q pc l (.int x :: .int i9 :: .ref q :: r) h kc ks = zr_Z d mn Q (pc + 1) l r (zr_putA h q i9.toNatClampNeg (narrow (zr_at 2) (.int x))) kc ks := by
  refine (zq_st2 hm hd rfl).trans (propext ⟨fun g => ?_, fun g => ?_⟩)
  · obtain ⟨q2, i2, r2, x2, t2, e, e2, e3, -, g⟩ := g
    cases e
    have : t2 = 2 := by
      obtain ⟨n1, f1, h1⟩ := zr_isA_spec hA
      obtain ⟨n2, f2, h2⟩ := zr_isA_spec e3
      rw [h1] at h2; cases h2; rfl
    rw [this] at g; exact g
  · exact ⟨_, _, _, _, _, rfl, (by decide), hA, hin, g⟩
theorem zq_zastore (hm : zr_mb mn = b) {q : Nat} {i9 x : Int32} (hd : decode b pc = .ok (.bastore, 1)) (hA : zr_isA (h q) 3 = true) (hin : vp_in i9 (zr_len (h q))) : zr_Z d mn Q pc l (.int x :: .int i9 :: .ref q :: r) h kc ks = zr_Z d mn Q (pc + 1) l r (zr_putA h q i9.toNatClampNeg (narrow (zr_at 3) (.int x))) kc ks := by
  refine (zq_st2 hm hd rfl).trans (propext ⟨fun g => ?_, fun g => ?_⟩)
  · obtain ⟨q2, i2, r2, x2, t2, e, e2, e3, -, g⟩ := g
    cases e
    have : t2 = 3 := by
      obtain ⟨n1, f1, h1⟩ := zr_isA_spec hA
      obtain ⟨n2, f2, h2⟩ := zr_isA_spec e3
      rw [h1] at h2; cases h2; rfl
    rw [this] at g; exact g
  · exact ⟨_, _, _, _, _, rfl, (by decide), hA, hin, g⟩
theorem zq_aastore (hm : zr_mb mn = b) {q x : Nat} {i9 : Int32} (hd : decode b pc = .ok (.aastore, 1)) (hA : zr_isA (h q) 5 = true) (hO : zr_isO (h x) 1 = true) (hin : vp_in i9 (zr_len (h q))) : zr_Z d mn Q pc l (.ref x :: .int i9 :: .ref q :: r) h kc ks = zr_Z d mn Q (pc + 1) l r (zr_putA h q i9.toNatClampNeg (.ref x)) kc ks := by
  refine (zq_st2 hm hd rfl).trans (propext ⟨fun g => ?_, fun g => ?_⟩)
  · obtain ⟨q2, i2, r2, x2, e, -, -, -, g⟩ := g
    cases e; exact g
  · exact ⟨_, _, _, _, rfl, hA, hO, hin, g⟩
theorem zq_new {o x ci : Nat} (hm : zr_mb mn = b) (ho : zr_mo mn = o) (hd : decode b pc = .ok (.new x, 3)) (hn : zr_nr o x = some ci) (h1 : 1 ≤ kc) (h2 : zr_fn ci ≤ ks) (g : ∀ q : Nat, h q = none → zr_Z d mn Q (pc + 3) l (.ref q :: st) (zr_up h q (zr_dfl ci)) (kc - 1) (ks - zr_fn ci)) : zr_Z d mn Q pc l st h kc ks := by
  subst ho
  rw [zr_at_ hm hd]
  exact Or.inr (Or.inl ⟨ci, hn, h1, h2, g⟩)
theorem zq_throw {o x y z E : Nat} (hm : zr_mb mn = b) (ho : zr_mo mn = o) (hd : decode b pc = .ok (.new x, 3)) (d3 : decode b (pc + 3) = .ok (.dup, 1)) (d4 : decode b (pc + 4) = .ok (.ldc y, 2)) (d6 : decode b (pc + 6) = .ok (.invokespecial z, 3)) (d9 : decode b (pc + 9) = .ok (.athrow, 1)) (hx : zr_xr o x y z 0 = some E) (hh : zr_hh mn = []) (h1 : 1 ≤ kc) (h2 : 6 ≤ ks) (hc : zr_cat st ≤ 8) (g : Q (.inr E) h) : zr_Z d mn Q pc l st h kc ks := by
  subst ho
  subst hm
  rw [zr_at_ rfl hd]
  exact Or.inr (Or.inr (Or.inl ⟨y, z, E, d3, d4, d6, d9, hx, hh, h1, h2, hc, g⟩))
theorem zq_throwW {o x y z E : Nat} (hm : zr_mb mn = b) (ho : zr_mo mn = o) (hd : decode b pc = .ok (.new x, 3)) (d3 : decode b (pc + 3) = .ok (.dup, 1)) (d4 : decode b (pc + 4) = .ok (.ldc_w y, 3)) (d7 : decode b (pc + 7) = .ok (.invokespecial z, 3)) (d10 : decode b (pc + 10) = .ok (.athrow, 1)) (hx : zr_xr o x y z 1 = some E) (hh : zr_hh mn = []) (h1 : 1 ≤ kc) (h2 : 6 ≤ ks) (hc : zr_cat st ≤ 8) (g : Q (.inr E) h) : zr_Z d mn Q pc l st h kc ks := by
  subst ho
  subst hm
  rw [zr_at_ rfl hd]
  exact Or.inr (Or.inr (Or.inr ⟨y, z, E, d3, d4, d7, d10, hx, hh, h1, h2, hc, g⟩))
theorem zq_newa {a : ArrayType} {m9 : Int32} (hm : zr_mb mn = b) (hd : decode b pc = .ok (.newarray a, 2)) (ht : zr_nt a < 5) (h0 : ¬ m9 < 0) (hb : m9.toNatClampNeg * 8 ≤ 536870912) (h1 : 1 ≤ kc) (h2 : m9.toNatClampNeg ≤ ks) (g : ∀ q : Nat, h q = none → zr_Z d mn Q (pc + 2) l (.ref q :: r) (zr_up h q (.inr (zr_nt a, m9.toNatClampNeg, fun _ => defaultValue (zr_at (zr_nt a))))) (kc - 1) (ks - m9.toNatClampNeg)) : zr_Z d mn Q pc l (.int m9 :: r) h kc ks := by
  rw [zr_at_ hm hd]
  exact Or.inr ⟨m9, r, rfl, ht, h0, hb, h1, h2, g⟩
theorem zq_anewa {o x : Nat} {m9 : Int32} (hm : zr_mb mn = b) (ho : zr_mo mn = o) (hd : decode b pc = .ok (.anewarray x, 3)) (hn : zr_nr o x = some 1) (h0 : ¬ m9 < 0) (hb : m9.toNatClampNeg * 8 ≤ 536870912) (h1 : 1 ≤ kc) (h2 : m9.toNatClampNeg ≤ ks) (g : ∀ q : Nat, h q = none → zr_Z d mn Q (pc + 3) l (.ref q :: r) (zr_up h q (.inr (5, m9.toNatClampNeg, fun _ => .null))) (kc - 1) (ks - m9.toNatClampNeg)) : zr_Z d mn Q pc l (.int m9 :: r) h kc ks := by
  subst ho
  rw [zr_at_ hm hd]
  exact Or.inr ⟨m9, r, rfl, hn, h0, hb, h1, h2, g⟩
theorem zq_min {o x z : Nat} {x1 y1 : Int32} (hm : zr_mb mn = b) (ho : zr_mo mn = o) (hd : decode b pc = .ok (.invokestatic x, 3)) (hi : zr_ir o x = some (4, 0)) (hc : zr_cat r ≤ 8) : zr_Z d mn Q pc l (.int y1 :: .int x1 :: r) h kc ks = zr_Z d mn Q (pc + 3) l (.int (if y1 < x1 then y1 else x1) :: r) h kc ks := by
  subst ho
  refine (zq_st2 hm hd rfl).trans (propext ⟨fun g => ?_, fun g => Or.inr (Or.inr ⟨_, _, _, hi, rfl, hc, g⟩)⟩)
  rcases g with ⟨m2, As, r2, e, -⟩ | ⟨m2, As, r2, e, -⟩ | ⟨x2, y2, r2, -, e, -, g⟩
  · rw [hi] at e; cases e
  · rw [hi] at e; cases e
  · cases e; exact g
theorem zq_obj {o x q : Nat} (hm : zr_mb mn = b) (ho : zr_mo mn = o) (hd : decode b pc = .ok (.invokespecial x, 3)) (hi : zr_ir o x = some (3, 0)) (hc : zr_cat r ≤ 8) : zr_Z d mn Q pc l (.ref q :: r) h kc ks = zr_Z d mn Q (pc + 3) l r h kc ks := by
  subst ho
  refine (zq_st2 hm hd rfl).trans (propext ⟨fun g => ?_, fun g => Or.inl ⟨_, _, hi, rfl, hc, g⟩⟩)
  rcases g with ⟨q2, r2, -, e, -, g⟩ | ⟨m2, As, q2, r2, e, -⟩
  · cases e; exact g
  · rw [hi] at e; cases e
theorem zr_rev_eq {As Bs : List Value} {v w : Value} {r r2 : List Value} (hl : As.length = Bs.length) (e : As.reverse ++ v :: r = Bs.reverse ++ w :: r2) : As = Bs ∧ v = w ∧ r = r2 := by
  have h1 := List.append_inj e (by simp [hl])
  have h2 := List.reverse_inj.mp h1.1
  have h3 := h1.2
  rw [List.cons.injEq] at h3
  exact ⟨h2, h3.1, h3.2⟩
theorem zq_virt {o x q mno : Nat} {As st0 : List Value} (hm : zr_mb mn = b) (ho : zr_mo mn = o) (hd : decode b pc = .ok (.invokevirtual x, 3)) (hi : zr_ir o x = some (0, mno)) (hst : st0 = As.reverse ++ .ref q :: r) (hn : As.length = zr_na mno) (hfit : (zr_l0 (.ref q :: As)).length ≤ zr_ml mno) (hO : zr_isO (h q) (zr_mo mno) = true) (hc : zr_cat r ≤ 8) (h1 : zr_mc mno ≤ kc) (h2 : zr_ms mno ≤ ks) : zr_Z d mn Q pc l st0 h kc ks = zr_E d mno (.ref q :: As) h (zr_kt mn Q (zr_Z d mn Q) pc l r kc ks mno) := by
  subst ho
  subst hst
  rw [zr_at_ hm hd]
  refine propext ⟨fun g => ?_, fun g => Or.inr ⟨mno, As, q, r, hi, rfl, hn, hO, hc, h1, h2, hfit, g⟩⟩
  rcases g with ⟨st', e, -⟩ | ⟨m2, As2, q2, r2, e, e2, e3, -, -, -, -, -, g⟩
  · unfold zr_sop at e; cases e
  · rw [hi] at e; cases e
    obtain ⟨f1, f2, f3⟩ := zr_rev_eq (hn.trans e3.symm) e2
    cases f2; subst f1; subst f3
    exact g
theorem zq_stat {o x mno : Nat} {As st0 : List Value} (hm : zr_mb mn = b) (ho : zr_mo mn = o) (hd : decode b pc = .ok (.invokestatic x, 3)) (hi : zr_ir o x = some (1, mno)) (hst : st0 = As.reverse ++ r) (hn : As.length = zr_na mno) (hfit : (zr_l0 As).length ≤ zr_ml mno) (hc : zr_cat r ≤ 8) (h1 : zr_mc mno ≤ kc) (h2 : zr_ms mno ≤ ks) : zr_Z d mn Q pc l st0 h kc ks = zr_E d mno As h (zr_kt mn Q (zr_Z d mn Q) pc l r kc ks mno) := by
  subst ho
  subst hst
  rw [zr_at_ hm hd]
  refine propext ⟨fun g => ?_, fun g => Or.inr (Or.inl ⟨mno, As, r, hi, rfl, hn, hc, h1, h2, hfit, g⟩)⟩
  rcases g with ⟨st', e, -⟩ | ⟨m2, As2, r2, e, e2, e3, -, -, -, -, g⟩ | ⟨m2, As2, r2, e, -⟩ | ⟨x2, y2, r2, e, -⟩
  · unfold zr_sop at e; cases e
  · rw [hi] at e; cases e
    obtain ⟨f1, f2⟩ := List.append_inj e2 (by simp [hn, e3])
    have f3 := List.reverse_inj.mp f1
    subst f3; subst f2
    exact g
  · rw [hi] at e; cases e
  · rw [hi] at e; cases e
theorem zq_nest {o x mno : Nat} {As st0 : List Value} (hm : zr_mb mn = b) (ho : zr_mo mn = o) (hd : decode b pc = .ok (.invokestatic x, 3)) (hi : zr_ir o x = some (5, mno)) (hst : st0 = As.reverse ++ r) (hn : As.length = zr_na mno) (hfit : (zr_l0 As).length ≤ zr_ml mno) (hc : zr_cat r ≤ 8) (h1 : zr_mc mno ≤ kc) (h2 : zr_ms mno ≤ ks) : zr_Z d mn Q pc l st0 h kc ks = zr_E d mno As h (zr_kn Q (zr_Z d mn Q) pc l r kc ks mno) := by
  subst ho
  subst hst
  rw [zr_at_ hm hd]
  refine propext ⟨fun g => ?_, fun g => Or.inr (Or.inr (Or.inl ⟨mno, As, r, hi, rfl, hn, hc, h1, h2, hfit, g⟩))⟩
  rcases g with ⟨st', e, -⟩ | ⟨m2, As2, r2, e, -⟩ | ⟨m2, As2, r2, e, e2, e3, -, -, -, -, g⟩ | ⟨x2, y2, r2, e, -⟩
  · unfold zr_sop at e; cases e
  · rw [hi] at e; cases e
  · rw [hi] at e; cases e
    obtain ⟨f1, f2⟩ := List.append_inj e2 (by simp [hn, e3])
    have f3 := List.reverse_inj.mp f1
    subst f3; subst f2
    exact g
  · rw [hi] at e; cases e
theorem zq_init {o x q mno : Nat} {As st0 : List Value} (hm : zr_mb mn = b) (ho : zr_mo mn = o) (hd : decode b pc = .ok (.invokespecial x, 3)) (hi : zr_ir o x = some (2, mno)) (hst : st0 = As.reverse ++ .ref q :: r) (hn : As.length = zr_na mno) (hfit : (zr_l0 (.ref q :: As)).length ≤ zr_ml mno) (hc : zr_cat r ≤ 8) (h1 : zr_mc mno ≤ kc) (h2 : zr_ms mno ≤ ks) : zr_Z d mn Q pc l st0 h kc ks = zr_E d mno (.ref q :: As) h (zr_kn Q (zr_Z d mn Q) pc l r kc ks mno) := by
  subst ho
  subst hst
  rw [zr_at_ hm hd]
  refine propext ⟨fun g => ?_, fun g => Or.inr (Or.inr ⟨mno, As, q, r, hi, rfl, hn, hc, h1, h2, hfit, g⟩)⟩
  rcases g with ⟨st', e, -⟩ | ⟨q2, r2, e, -⟩ | ⟨m2, As2, q2, r2, e, e2, e3, -, -, -, -, g⟩
  · unfold zr_sop at e; cases e
  · rw [hi] at e; cases e
  · rw [hi] at e; cases e
    obtain ⟨f1, f2, f3⟩ := zr_rev_eq (hn.trans e3.symm) e2
    cases f2; subst f1; subst f3
    exact g
theorem zq_ireturn (hm : zr_mb mn = b) {x : Int32} (hd : decode b pc = .ok (.ireturn, 1)) (hr : zr_okR (zr_mr mn) x) : zr_Z d mn Q pc l [.int x] h kc ks = Q (.inl (some (.int x))) h := by
  refine (zq_st2 hm hd rfl).trans (propext ⟨fun g => ?_, fun g => ?_⟩)
  · obtain ⟨y, e, -, g⟩ := g
    cases e; exact g
  · exact ⟨_, rfl, hr, g⟩
theorem zq_lreturn (hm : zr_mb mn = b) {x : Int64} (hd : decode b pc = .ok (.lreturn, 1)) (hr : zr_mr mn = some .long) : zr_Z d mn Q pc l [.long x] h kc ks = Q (.inl (some (.long x))) h := by
  refine (zq_st2 hm hd rfl).trans (propext ⟨fun g => ?_, fun g => ?_⟩)
  · obtain ⟨y, e, -, g⟩ := g
    cases e; exact g
  · exact ⟨_, rfl, hr, g⟩
theorem zq_freturn (hm : zr_mb mn = b) {x : UInt32} (hd : decode b pc = .ok (.freturn, 1)) (hr : zr_mr mn = some .float) : zr_Z d mn Q pc l [.float x] h kc ks = Q (.inl (some (.float x))) h := by
  refine (zq_st2 hm hd rfl).trans (propext ⟨fun g => ?_, fun g => ?_⟩)
  · obtain ⟨y, e, -, g⟩ := g
    cases e; exact g
  · exact ⟨_, rfl, hr, g⟩
theorem zq_return (hm : zr_mb mn = b) (hd : decode b pc = .ok (.return_, 1)) (hr : zr_mr mn = none) : zr_Z d mn Q pc l [] h kc ks = Q (.inl none) h := by
  refine (zq_st2 hm hd rfl).trans (propext ⟨fun g => ?_, fun g => ?_⟩)
  · exact g.2.2
  · exact ⟨rfl, hr, g⟩
theorem zk_ret {mno : Nat} {v : Option Value} {P : zr_P} {h' : zr_H} : zr_kt mn Q P pc l r kc ks mno (.inl v) h' = P (pc + 3) l (v.toList ++ r) h' (kc - zr_mc mno) (ks - zr_ms mno) := rfl
theorem zn_ret {mno : Nat} {v : Option Value} {P : zr_P} {h' : zr_H} : zr_kn Q P pc l r kc ks mno (.inl v) h' = P (pc + 3) l (v.toList ++ r) h' (kc - zr_mc mno) (ks - zr_ms mno) := rfl
theorem zk_thr {mno E : Nat} {P : zr_P} {h' : zr_H} (hh : zr_hh mn = []) : zr_kt mn Q P pc l r kc ks mno (.inr E) h' = Q (.inr E) h' := by
  unfold zr_kt
  rw [hh]
  rfl
theorem zk_catch {mno E t o : Nat} {hh : List (Nat × Nat × Nat × Nat)} {P : zr_P} {h' : zr_H} (he : zr_hh mn = hh) (ho : zr_mo mn = o) (ht : zr_hd o hh pc E = some t) : zr_kt mn Q P pc l r kc ks mno (.inr E) h' = ∀ q : Nat, P t l [.ref q] h' (kc - zr_mc mno) (ks - zr_ms mno) := by
  unfold zr_kt
  subst he
  subst ho
  simp only [ht]
end ZQ
theorem zr_kill_i (x : Int32) : zr_kill (some (.int x)) = some (.int x) := rfl
theorem zr_kill_l (x : Int64) : zr_kill (some (.long x)) = none := rfl
theorem zr_kill_r (x : Nat) : zr_kill (some (.ref x)) = some (.ref x) := rfl
theorem zr_kill_u : zr_kill (some .null) = some .null := rfl
theorem zr_kill_f (x : UInt32) : zr_kill (some (.float x)) = some (.float x) := rfl
theorem zr_kill_n : zr_kill none = none := rfl
theorem zr_cat_0 : zr_cat [] = 0 := rfl
theorem zr_cat_i (x : Int32) (r : List Value) : zr_cat (.int x :: r) = 1 + zr_cat r := by simp [zr_cat, Value.category]
theorem zr_cat_l (x : Int64) (r : List Value) : zr_cat (.long x :: r) = 2 + zr_cat r := by simp [zr_cat, Value.category]
theorem zr_cat_r (x : Nat) (r : List Value) : zr_cat (.ref x :: r) = 1 + zr_cat r := by simp [zr_cat, Value.category]
theorem zr_cat_f (x : UInt32) (r : List Value) : zr_cat (.float x :: r) = 1 + zr_cat r := by simp [zr_cat, Value.category]
theorem zr_cat_d (x : UInt64) (r : List Value) : zr_cat (.double x :: r) = 2 + zr_cat r := by simp [zr_cat, Value.category]
theorem zr_cat_u (r : List Value) : zr_cat (.null :: r) = 1 + zr_cat r := by simp [zr_cat, Value.category]
theorem zr_isO_mk (k : Nat) (V : Nat → Value) (ci : Nat) : zr_isO (some (.inl (k, V))) ci = (k == ci) := rfl
theorem zr_fld_mk (k : Nat) (V : Nat → Value) (i : Nat) : zr_fld (some (.inl (k, V))) i = V i := rfl
theorem zr_isA_mk (k n : Nat) (f : Nat → Value) (t : Nat) : zr_isA (some (.inr (k, n, f))) t = (k == t) := rfl
theorem zr_len_mk (k n : Nat) (f : Nat → Value) : zr_len (some (.inr (k, n, f))) = n := rfl
theorem zr_elt_mk (k n : Nat) (f : Nat → Value) (i : Nat) : zr_elt (some (.inr (k, n, f))) i = f i := rfl
theorem zr_putO_mk {h : zr_H} {q k ci : Nat} {v : Value} {V : Nat → Value} (e : h q = some (.inl (ci, V))) : zr_putO h q k v = zr_up h q (.inl (ci, zr_fup V k v)) := by unfold zr_putO; rw [e]
theorem zr_putA_mk {h : zr_H} {q i t n : Nat} {v : Value} {f : Nat → Value} (e : h q = some (.inr (t, n, f))) : zr_putA h q i v = zr_up h q (.inr (t, n, zr_fup f i v)) := by unfold zr_putA; rw [e]
theorem zr_up_up (h : zr_H) (q : Nat) (c c' : zr_C) : zr_up (zr_up h q c) q c' = zr_up h q c' := by funext j; simp only [zr_up]; split <;> rfl
theorem zr_up_id {h : zr_H} {q : Nat} {c : zr_C} (e : h q = some c) : zr_up h q c = h := by funext j; simp only [zr_up]; split <;> simp_all
theorem zr_up_swap (h : zr_H) {q q2 : Nat} (c c2 : zr_C) (n : q ≠ q2) : zr_up (zr_up h q c) q2 c2 = zr_up (zr_up h q2 c2) q c := by
  funext j
  simp only [zr_up]
  by_cases h1 : j = q <;> by_cases h2 : j = q2 <;> simp_all
theorem zr_fup_self (f : Nat → Value) (k : Nat) (v : Value) : zr_fup f k v k = v := by simp [zr_fup]
theorem zr_fup_ne (f : Nat → Value) {k j : Nat} (v : Value) (n : j ≠ k) : zr_fup f k v j = f j := by simp [zr_fup, n]
theorem zr_E_mono {d mn : Nat} {as : List Value} {h : zr_H} {K K' : zr_K} (g : zr_E d mn as h K) (hk : ∀ o h', K o h' → K' o h') : zr_E d mn as h K' := zr_E_mon d mn as h K K' hk g

