section PURE
variable {R S : Nat} {p : Nat}
theorem hO_pos {A : Int64 → Int64 → Int64 → Nat} {m : Nat} (o c ch x : Int64) : 1 ≤ hO R S A m o c ch x := by
  unfold hO
  split
  · split
    · omega
    · split
      · omega
      · split <;> omega
  · omega
theorem lst_iff (hg : vG R S) {o c : Int64} (hp : p < R * S) {q : Nat} : tb (lst R S p o c) q = true ↔ tb (cAround R S (rc R S o (ob p))) q = true ∧ tb o q = false ∧ tb c q = false := by
  unfold lst fr
  rw [tb_and, Bool.and_eq_true]
  constructor
  · intro ⟨a, d⟩
    rw [tb_cn _ (tb_lt a), tb_or] at d
    have d : (tb o q || tb c q) = false := by simpa using d
    exact ⟨a, (Bool.or_eq_false_iff.mp d).1, (Bool.or_eq_false_iff.mp d).2⟩
  · intro ⟨a, d1, d2⟩
    refine ⟨a, ?_⟩
    rw [tb_cn _ (tb_lt a), tb_or, d1, d2]
    rfl
theorem hT_tr {o c : Int64} {q : Nat} : hT R S o c (ob q) = trT R S c o q := by
  unfold hT trT
  rw [← Int64.or_assoc, Int64.or_comm o c]
theorem cgt_hA (hg : vG R S) (hp : p < R * S) (M : Nat) : ∀ o c t, M < 90 → iv R S o c → tb o p = true → rc R S o t = rc R S o (ob p) → ∀ n, n ≤ M → (cgt R S p n o c ↔ hA R S M o c t ≤ n) := by
  have hn60 := g_n hg
  induction M with
  | zero =>
    intro o c t _ _ _ _ n hn
    have : n = 0 := by omega
    subst this
    exact ⟨fun h => h.elim, fun h => absurd h (by show ¬ 100 ≤ 0; omega)⟩
  | succ M ih =>
    intro o c t hM I hpo ht n hn
    obtain ⟨wo, wc, dj, so1, so2⟩ := id I
    have wch : wi (R * S) (rc R S o (ob p)) := rc_wi' hg hp
    have eA : hA R S (M + 1) o c t = if 2 < ct (lst R S p o c) then 100 else hL (fun x => hO R S (hA R S M) (M + 1) o c (rc R S o (ob p)) x) (lst R S p o c) (R * S) := by
      show (if 2 < ct (fr R S (rc R S o t) (o ||| c)) then 100 else hL (fun x => hO R S (hA R S M) (M + 1) o c (rc R S o t) x) (fr R S (rc R S o t) (o ||| c)) (R * S)) = _
      rw [ht]
      rfl
    rw [eA]
    have Tp : ∀ q, (trT R S c o q &&& rc R S o (ob p) = 0) ↔ tb (o &&& cn (trT R S c o q)) p = true := by
      intro q
      rw [tb_and, hpo, tb_cn _ (by omega), Bool.true_and]
      constructor
      · intro h
        cases z : tb (trT R S c o q) p
        · rfl
        · have := and_0.mp h p z
          rw [rc_self hg hp] at this
          cases this
      · intro h
        rw [and_0]
        intro j hj
        cases z : tb (rc R S o (ob p)) j
        · rfl
        · exfalso
          have hjo := sk_in hj
          have h2 := (sk_tb hg wo hjo).mp hj
          rw [rc_same hg hp hpo z] at h2
          have h3 : tb (trT R S c o q) p = true := (sk_tb hg wo hpo).mpr h2
          rw [h3] at h
          cases h
    have last : ∀ q, tb (o &&& cn (trT R S c o q)) p = true → rc R S (o &&& cn (trT R S c o q)) (ob p) = rc R S o (ob p) := fun q h => rc_un hg wo (trT_un hg wo) h
    cases n with
    | zero =>
      refine ⟨fun h => h.elim, fun h => ?_⟩
      split at h
      · omega
      · obtain ⟨j, _, _, h3⟩ := (hL_iff (by omega) _).mp h
        have := hO_pos (R := R) (S := S) (A := hA R S M) (m := M + 1) o c (rc R S o (ob p)) (ob j)
        have h3 : hO R S (hA R S M) (M + 1) o c (rc R S o (ob p)) (ob j) ≤ 0 := h3
        omega
    | succ n =>
      by_cases big : 2 < ct (lst R S p o c)
      · rw [if_pos big]
        refine ⟨fun ⟨q, q1, q2, q3, q4⟩ => ?_, fun h => by omega⟩
        exfalso
        have out := cnt_out (Q := tb (lst R S p o c)) (m := 64) (j := q) (by omega) q2
        have c1 : ct (lst R S p o c &&& cn (ob q)) + 1 = ct (lst R S p o c) := by
          unfold ct
          rw [nb_cnt, nb_cnt, ← out]
          congr 1
          refine cnt_eq (fun i hi => ?_)
          rw [tb_and, tb_cn _ hi, tb_ob (by omega) hi]
          by_cases e : i = q
          · subst e; simp
          · have e2 : (i == q) = false := by simpa using e
            rw [e2, decide_eq_false e]
        have sub : ∀ e, tb (lst R S p o c &&& cn (ob q)) e = true → tb (cAround R S (rc R S o (ob p))) e = true ∧ tb o e = false ∧ tb c e = false ∧ e ≠ q := fun e he => by
          rw [tb_and, Bool.and_eq_true] at he
          have h := (lst_iff hg hp).mp he.1
          refine ⟨h.1, h.2.1, h.2.2, fun eq => ?_⟩
          have h2 := he.2
          rw [eq, tb_cn _ (by omega), tb_ob (by omega) (by omega), decide_eq_true rfl] at h2
          cases h2
        have tp : tb (o &&& cn (trT R S c o q)) p = true := by
          rw [← Tp q]
          refine Classical.byContradiction (fun g => ?_)
          obtain ⟨j, j1, j2⟩ := and_n0.mp g
          have hjo := sk_in j1
          have h2 := (sk_tb hg wo hjo).mp j1
          rw [rc_same hg hp hpo j2] at h2
          have n0 : ¬ lst R S p o c &&& cn (ob q) = 0 := fun z => by rw [ct_0.mpr z] at c1; omega
          obtain ⟨e, _, he⟩ := tb_ne0 n0
          have he := sub e he
          have h3 := and_0.mp h2 e he.1
          have : tb (ab R S (c ||| o ||| ob q)) e = true := (ab_tb hg).mpr ⟨vn_N (ar_vn hg) wch e he.1, tb_or3.mpr ⟨he.2.2.1, he.2.1, by rw [tb_ob (by omega) (tb_lt he.1), decide_eq_false he.2.2.2]⟩⟩
          rw [h3] at this
          cases this
        rcases q4 with q4 | ⟨_, q4, _⟩
        · rw [tp] at q4; cases q4
        · have : ct (lst R S p o c &&& cn (ob q)) ≤ ct (lst R S p (o &&& cn (trT R S c o q)) (c ||| ob q)) := nb_mono (fun e he => by
            have he := sub e he
            refine (lst_iff hg hp).mpr ⟨by rw [last q tp]; exact he.1, by rw [tb_and, he.2.1]; rfl, ?_⟩
            rw [tb_or, he.2.2.1, tb_ob (by omega) (tb_lt he.1), decide_eq_false he.2.2.2]
            rfl) 64
          omega
      · rw [if_neg big, hL_iff (by omega)]
        have each : ∀ q, q < R * S → tb (lst R S p o c) q = true → (hO R S (hA R S M) (M + 1) o c (rc R S o (ob p)) (ob q) ≤ n + 1 ↔ ¬ trF R S c o q = 0 ∧ (tb (o &&& cn (trT R S c o q)) p = false ∨ (¬ n = 0 ∧ ct (lst R S p (o &&& cn (trT R S c o q)) (c ||| ob q)) = 1 ∧
            (trF R S (o &&& cn (trT R S c o q)) (c ||| ob q) (lo (lst R S p (o &&& cn (trT R S c o q)) (c ||| ob q))) = 0 ∨
              cgt R S p n ((o &&& cn (trT R S c o q)) ||| ob (lo (lst R S p (o &&& cn (trT R S c o q)) (c ||| ob q)))) ((c ||| ob q) &&& cn (trT R S (o &&& cn (trT R S c o q)) (c ||| ob q) (lo (lst R S p (o &&& cn (trT R S c o q)) (c ||| ob q))))))))) := by
          intro q hq hqF
          have hf := (lst_iff hg hp).mp hqF
          unfold hO
          rw [hT_tr]
          have ref : fr R S (rc R S (c ||| ob q) (ob q)) (o &&& cn (trT R S c o q) ||| (c ||| ob q)) = trF R S c o q := by
            rw [trF_fr hg hq, Int64.or_comm (o &&& cn (trT R S c o q))]
            rfl
          rw [ref]
          by_cases tp : tb (o &&& cn (trT R S c o q)) p = true
          rotate_left
          · rw [if_neg (fun z => tp ((Tp q).mp z))]
            have tpf : tb (o &&& cn (trT R S c o q)) p = false := by simpa using tp
            refine ⟨fun _ => ⟨?_, Or.inl tpf⟩, fun _ => by omega⟩
            refine trT_F hg (iv_sw I) hq hf.2.2 hf.2.1 (fun z => tp ((Tp q).mp ?_))
            rw [z]
            exact tb_ext (fun i _ => by rw [tb_and, tb_0, Bool.false_and])
          rw [if_pos ((Tp q).mpr tp)]
          by_cases rf0 : trF R S c o q = 0
          · rw [if_pos rf0]
            exact ⟨fun h => by omega, fun h => absurd rf0 h.1⟩
          rw [if_neg rf0]
          have hW' : hW R S o c (rc R S o (ob p)) (ob q) = lst R S p (o &&& cn (trT R S c o q)) (c ||| ob q) := by
            unfold hW lst
            rw [hT_tr, last q tp]
          rw [hW']
          have I2 : iv R S (o &&& cn (trT R S c o q)) (c ||| ob q) := iv_sw (iv_legal hg (iv_sw I) hq hf.2.2 hf.2.1 rf0)
          by_cases m2 : M + 1 < 2
          · rw [if_pos m2]
            refine ⟨fun h => by omega, fun h => ?_⟩
            rcases h.2 with u | u
            · rw [tp] at u; cases u
            · omega
          rw [if_neg m2]
          by_cases c1 : ct (lst R S p (o &&& cn (trT R S c o q)) (c ||| ob q)) = 1
          rotate_left
          · rw [if_neg c1]
            refine ⟨fun h => by omega, fun h => ?_⟩
            rcases h.2 with u | u
            · rw [tp] at u; cases u
            · exact absurd u.2.1 c1
          rw [if_pos c1]
          obtain ⟨l1, l2, l3⟩ := ob_of1 c1
          generalize hl : lo (lst R S p (o &&& cn (trT R S c o q)) (c ||| ob q)) = l at *
          have lf := (lst_iff hg hp).mp l3
          have ln : l < R * S := vn_N (ar_vn hg) (rc_wi' hg hp) l lf.1
          rw [l1]
          generalize ho' : o &&& cn (trT R S c o q) = o' at *
          generalize hc' : c ||| ob q = c' at *
          unfold hE
          have sk2 : sk R S c' ((o' ||| ob l) ||| c') = trT R S o' c' l := by
            unfold trT
            rw [Int64.or_assoc, Int64.or_comm (ob l), ← Int64.or_assoc]
          rw [sk2]
          have ref2 : fr R S (rc R S (o' ||| ob l) (ob l)) ((o' ||| ob l) ||| (c' &&& cn (trT R S o' c' l))) = trF R S o' c' l := (trF_fr hg ln).symm
          rw [ref2]
          by_cases f2 : trF R S o' c' l = 0
          · rw [if_pos f2]
            constructor
            · intro h
              exact ⟨rf0, Or.inr ⟨by omega, by rw [← l1]; exact c1, Or.inl f2⟩⟩
            · intro h
              rcases h.2 with u | u
              · rw [tp] at u; cases u
              · omega
          rw [if_neg f2]
          have I3 := iv_legal hg I2 ln lf.2.1 lf.2.2 f2
          have wo' := I2.1
          have po2 : tb (o' ||| ob l) p = true := by rw [tb_or, tp]; rfl
          have lin : tb (rc R S (o' ||| ob l) (ob p)) l = true := by
            obtain ⟨j, j1, j2⟩ := (ar_iff hg (rc_wi' hg hp) l).mp lf.1
            have wp : wi (R * S) (ob p) := wi_ob hp (by omega)
            have j3 : tb (rc R S (o' ||| ob l) (ob p)) j = true := clo_3 (ar_vn hg) wp (T := fun j => tb (rc R S (o' ||| ob l) (ob p)) j = true) (fun k hk => clo_1 hk) (fun k l2 hk ha hw => clo_2 (ar_vn hg) wp hk ha ((tb_ob_or (by omega)).mpr (Or.inl hw))) j1
            exact clo_2 (ar_vn hg) wp j3 j2 ((tb_ob_or (by omega)).mpr (Or.inr rfl))
          have same := rc_same hg hp po2 lin
          have key := ih (o' ||| ob l) (c' &&& cn (trT R S o' c' l)) (ob l) (by omega) I3 po2 same n (by omega)
          constructor
          · intro h
            have h2 : hA R S M (o' ||| ob l) (c' &&& cn (trT R S o' c' l)) (ob l) ≤ n := by omega
            have h3 := key.mpr h2
            refine ⟨rf0, Or.inr ⟨fun z => ?_, by rw [← l1]; exact c1, Or.inr h3⟩⟩
            rw [z] at h3
            exact h3
          · intro h
            rcases h.2 with u | u
            · rw [tp] at u; cases u
            · rcases u.2.2 with u2 | u2
              · exact absurd u2 f2
              · have := key.mp u2
                omega
        constructor
        · intro ⟨q, q1, q2, q3, q4⟩
          exact ⟨q, q1, q2, (each q q1 q2).mpr ⟨q3, q4⟩⟩
        · intro ⟨q, q1, q2, q3⟩
          have := (each q q1 q2).mp q3
          exact ⟨q, q1, q2, this.1, this.2⟩
end PURE
