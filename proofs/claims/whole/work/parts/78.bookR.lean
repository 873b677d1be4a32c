/-! A BOOK IS READ, BY BOTH -/
section BR
variable {d L X : Nat} {I : MI32} {J : MI64} {W : Nat → Nat} {z a : Nat}
abbrev BkS : Type := Nat × Ln × Bk
theorem nmF_sk {lo hi : Int32} (ha : a ≤ z) : nmF W z (sk W z a) lo hi = nmF W z a lo hi := by
  unfold nmF nmV
  rw [sk_sk ha]
theorem nmV_sk (ha : a ≤ z) : nmV W z (sk W z a) = nmV W z a := by
  unfold nmV
  rw [sk_sk ha]
theorem nm_in {lo hi : Nat} (ha : a ≤ z) (h1 : lo < 2 ^ 31) (h2 : hi < 2 ^ 31) (e : nmF W z a (nI lo) (nI hi) = 0) : lo ≤ (nmV W z a).2 ∧ (nmV W z a).2 ≤ hi ∧ sk W z a < z := by
  have v := nmV_le (W := W) ha
  unfold nmF at e
  by_cases q : sk W z a < z ∧ isG W (sk W z a) = true
  · rw [if_pos q] at e
    by_cases q2 : nI lo ≤ nI (nmV W z a).2 ∧ nI (nmV W z a).2 ≤ nI hi
    · obtain ⟨a1, a2⟩ := q2
      rw [nI_leI (by omega) (by omega)] at a1
      rw [nI_leI (by omega) (by omega)] at a2
      exact ⟨a1, a2, q.1⟩
    · rw [if_neg q2] at e
      exact absurd e (by decide)
  · rw [if_neg q] at e
    exact absurd e (by decide)
def bAdd (S : BkS) (k v : Nat) : BkS := (S.1 + 1, (fun i => if i = S.1 then (k, v) else S.2.1 i), (fun j => if j = k then some v else S.2.2 j))
/-- a line is read: its FAULT and where, what stands then, and behind it -/
def bk1 (W : Nat → Nat) (z a : Nat) (S : BkS) : Nat × Nat × BkS × Nat :=
  if ¬ nmF W z a (nI 0) (nI 5) = 0 then (nmF W z a (nI 0) (nI 5), sk W z a, S, a) else
  if ¬ S.2.2 (nmV W z a).2 = none then (2, sk W z a, S, a) else
  if ¬ nmF W z (nmV W z a).1 (nI 0) (nI 99) = 0 then (nmF W z (nmV W z a).1 (nI 0) (nI 99), sk W z (nmV W z a).1, S, a) else
  if ¬ (sk W z (nmV W z (nmV W z a).1).1 < z ∧ W (sk W z (nmV W z (nmV W z a).1).1) = 59) then (1, sk W z (nmV W z (nmV W z a).1).1, S, a) else
  (0, 0, bAdd S (nmV W z a).2 (nmV W z (nmV W z a).1).2, sk W z (nmV W z (nmV W z a).1).1 + 1)
def bkP (W : Nat → Nat) (z : Nat) : Nat → Nat → BkS → Nat × Nat × BkS
  | 0, _, S => (0, 0, S)
  | f + 1, a, S => if sk W z a = z then (0, 0, S) else if ¬ (bk1 W z a S).1 = 0 then ((bk1 W z a S).1, (bk1 W z a S).2.1, S) else bkP W z f (bk1 W z a S).2.2.2 (bk1 W z a S).2.2.1
def cn1 (o : Option Nat) : Nat := if o = none then 0 else 1
def bOK (S : BkS) : Prop := bkR S.1 S.2.1 S.2.2 ∧ S.1 = cn1 (S.2.2 0) + cn1 (S.2.2 1) + cn1 (S.2.2 2) + cn1 (S.2.2 3) + cn1 (S.2.2 4) + cn1 (S.2.2 5)
theorem cn_le {o : Option Nat} : cn1 o ≤ 1 := by
  unfold cn1
  by_cases q : o = none
  · rw [if_pos q]
    decide
  · rw [if_neg q]
    decide
theorem bOK_6 {S : BkS} (h : bOK S) : S.1 ≤ 6 := by
  have a0 := cn_le (o := S.2.2 0)
  have a1 := cn_le (o := S.2.2 1)
  have a2 := cn_le (o := S.2.2 2)
  have a3 := cn_le (o := S.2.2 3)
  have a4 := cn_le (o := S.2.2 4)
  have a5 := cn_le (o := S.2.2 5)
  have := h.2
  omega
theorem bOK_lt {S : BkS} {k : Nat} (h : bOK S) (hk : k < 6) (e : S.2.2 k = none) : S.1 < 6 := by
  have a0 := cn_le (o := S.2.2 0)
  have a1 := cn_le (o := S.2.2 1)
  have a2 := cn_le (o := S.2.2 2)
  have a3 := cn_le (o := S.2.2 3)
  have a4 := cn_le (o := S.2.2 4)
  have a5 := cn_le (o := S.2.2 5)
  have h2 := h.2
  have c0 : cn1 (S.2.2 k) = 0 := if_pos e
  have : k = 0 ∨ k = 1 ∨ k = 2 ∨ k = 3 ∨ k = 4 ∨ k = 5 := by omega
  rcases this with rfl | rfl | rfl | rfl | rfl | rfl <;> omega
theorem bOK_add {S : BkS} {k v : Nat} (h : bOK S) (hk : k < 6) (hv : v ≤ 99) (e : S.2.2 k = none) : bOK (bAdd S k v) := by
  obtain ⟨⟨r1, r2⟩, h2⟩ := h
  have nok : ∀ i, i < S.1 → ¬ (S.2.1 i).1 = k := by
    intro i hi q
    have := (r1 i hi).2.2
    rw [q, e] at this
    exact absurd this (by simp)
  refine ⟨⟨?_, ?_⟩, ?_⟩
  · intro i hi
    show ((if i = S.1 then (k, v) else S.2.1 i)).1 < 6 ∧ ((if i = S.1 then (k, v) else S.2.1 i)).2 ≤ 99 ∧ (if (if i = S.1 then (k, v) else S.2.1 i).1 = k then some v else S.2.2 (if i = S.1 then (k, v) else S.2.1 i).1) = some (if i = S.1 then (k, v) else S.2.1 i).2
    by_cases q : i = S.1
    · rw [if_pos q]
      exact ⟨hk, hv, if_pos rfl⟩
    · have hi2 : i < S.1 := by
        have : i < S.1 + 1 := hi
        omega
      rw [if_neg q, if_neg (nok i hi2)]
      exact r1 i hi2
  · intro k' v' hk' e'
    have e2 : (if k' = k then some v else S.2.2 k') = some v' := e'
    by_cases q : k' = k
    · rw [if_pos q] at e2
      have ev : v = v' := Option.some.inj e2
      refine ⟨S.1, Nat.lt_succ_self _, ?_⟩
      show (if S.1 = S.1 then (k, v) else S.2.1 S.1) = (k', v')
      rw [if_pos rfl, q, ev]
    · rw [if_neg q] at e2
      obtain ⟨i, hi, ei⟩ := r2 k' v' hk' e2
      refine ⟨i, Nat.lt_succ_of_lt hi, ?_⟩
      show (if i = S.1 then (k, v) else S.2.1 i) = (k', v')
      rw [if_neg (by omega), ei]
  · have g : ∀ j, cn1 ((bAdd S k v).2.2 j) = if j = k then 1 else cn1 (S.2.2 j) := by
      intro j
      show cn1 (if j = k then some v else S.2.2 j) = _
      by_cases q : j = k
      · rw [if_pos q, if_pos q]
        rfl
      · rw [if_neg q, if_neg q]
    have c0 : cn1 (S.2.2 k) = 0 := if_pos e
    show S.1 + 1 = _
    rw [g 0, g 1, g 2, g 3, g 4, g 5, h2]
    have : k = 0 ∨ k = 1 ∨ k = 2 ∨ k = 3 ∨ k = 4 ∨ k = 5 := by omega
    rcases this with rfl | rfl | rfl | rfl | rfl | rfl <;> simp [c0] <;> omega
/-- what reading a line gives, when it is well -/
theorem bk1_ok {S : BkS} (ha : a ≤ z) (h : bOK S) (e : (bk1 W z a S).1 = 0) : bOK (bk1 W z a S).2.2.1 ∧ a < (bk1 W z a S).2.2.2 ∧ (bk1 W z a S).2.2.2 ≤ z ∧ (bk1 W z a S).2.2.1.1 = S.1 + 1 := by
  unfold bk1 at e ⊢
  by_cases q1 : ¬ nmF W z a (nI 0) (nI 5) = 0
  · rw [if_pos q1] at e
    exact absurd e q1
  · rw [if_neg q1] at e ⊢
    by_cases q2 : ¬ S.2.2 (nmV W z a).2 = none
    · rw [if_pos q2] at e
      exact absurd (show 2 = 0 from e) (by decide)
    · rw [if_neg q2] at e ⊢
      by_cases q3 : ¬ nmF W z (nmV W z a).1 (nI 0) (nI 99) = 0
      · rw [if_pos q3] at e
        exact absurd e q3
      · rw [if_neg q3] at e ⊢
        by_cases q4 : ¬ (sk W z (nmV W z (nmV W z a).1).1 < z ∧ W (sk W z (nmV W z (nmV W z a).1).1) = 59)
        · rw [if_pos q4] at e
          exact absurd (show 1 = 0 from e) (by decide)
        · rw [if_neg q4] at e ⊢
          have v1 := nmV_le (W := W) ha
          have v2 := nmV_le (W := W) v1.2.1
          have v3 := sk_le (W := W) v2.2.1
          have q4' := Decidable.not_not.mp q4
          have q2' := Decidable.not_not.mp q2
          have b1 := (nm_in (lo := 0) (hi := 5) ha (by decide) (by decide) (Decidable.not_not.mp q1)).2.1
          have b2 := (nm_in (lo := 0) (hi := 99) v1.2.1 (by decide) (by decide) (Decidable.not_not.mp q3)).2.1
          exact ⟨bOK_add h (by omega) b2 q2', by show a < _ + 1; omega, by show _ + 1 ≤ z; omega, rfl⟩
/-! the class -/
def fBC : Fls := fTC ++ [(34, 1), (35, 0)]
/-- the class's own state of reading: place a, no FAULT yet -/
def RdC (I : MI32) (W : Nat → Nat) (z a : Nat) : Prop := BC I W ∧ I 1 6 = nI z ∧ z ≤ 600 ∧ a ≤ z ∧ I 1 5 = nI a
def bkA (I : MI32) (S : BkS) : Prop := I 34 0 = nI S.1 ∧ ∀ k, k < 6 → I 35 k = o2i (S.2.2 k)
theorem sp_readLine {S : BkS} (R : RdC I W z a) (A : bkA I S) (h : bOK S) : Rt L X (runM (d + 4) nX0_readLine [.ref 34, .ref 1] (mm L X I J)) (some (.int (bI (decide ((bk1 W z a S).1 = 0))))) (fun I' J' => (Fr fBC I I' ∧ ((bk1 W z a S).1 = 0 → I' 1 5 = nI (bk1 W z a S).2.2.2 ∧ bkA I' (bk1 W z a S).2.2.1 ∧ I' 1 2 = I 1 2 ∧ I' 1 3 = I 1 3) ∧ (¬ (bk1 W z a S).1 = 0 → I' 1 2 = nI (bk1 W z a S).1 ∧ I' 1 3 = nI (bk1 W z a S).2.1)) ∧ J' = J) := by
  obtain ⟨B, hz, hz2, ha, h5⟩ := R
  have h6 := bOK_6 h
  have v1 := nmV_le (W := W) ha
  have v2 := nmV_le (W := W) v1.2.1
  have v3 := sk_le (W := W) v2.2.1
  rw [e_X0_readLine]
  (first | refine rt_eq (q_X0_readLine_0 (by first | assumption | rfl | exact .inl rfl | exact .inr rfl)) ?_ | refine rt_eq (q_X0_readLine_6 (by first | assumption | rfl | exact .inl rfl | exact .inr rfl)) ?_ | refine rt_eq (q_X0_readLine_24 (by first | assumption | rfl | exact .inl rfl | exact .inr rfl)) ?_ | refine rt_eq (q_X0_readLine_40 (by first | assumption | rfl | exact .inl rfl | exact .inr rfl)) ?_ | refine rt_eq (q_X0_readLine_32) ?_ | refine rt_eq (q_X0_readLine_57 (by first | assumption | rfl | exact .inl rfl | exact .inr rfl)) ?_ | refine rt_eq (q_X0_readLine_73) ?_)
  refine rt_bnd (sp_numeral B hz hz2 ha h5) ?_
  rintro I1 J1 ⟨⟨f1, f2, f3⟩, rfl⟩
  (first | refine rt_eq (q_X0_readLine_0 (by first | assumption | rfl | exact .inl rfl | exact .inr rfl)) ?_ | refine rt_eq (q_X0_readLine_6 (by first | assumption | rfl | exact .inl rfl | exact .inr rfl)) ?_ | refine rt_eq (q_X0_readLine_24 (by first | assumption | rfl | exact .inl rfl | exact .inr rfl)) ?_ | refine rt_eq (q_X0_readLine_40 (by first | assumption | rfl | exact .inl rfl | exact .inr rfl)) ?_ | refine rt_eq (q_X0_readLine_32) ?_ | refine rt_eq (q_X0_readLine_57 (by first | assumption | rfl | exact .inl rfl | exact .inr rfl)) ?_ | refine rt_eq (q_X0_readLine_73) ?_)
  by_cases q1 : nmF W z a (nI 0) (nI 5) = 0
  · rw [decide_eq_true q1]
    refine rt_f (show ¬ bI true = nI 0 by decide) ?_
    obtain ⟨g5, g4, g2, g3, g7⟩ := f2 q1
    have n5 := (nm_in (lo := 0) (hi := 5) ha (by decide) (by decide) q1).2.1
    rw [g4]
    refine rt_bne (sp_pick ka_35 (by decide)) ?_
    rw [pk_n (by omega) (by decide), f1 35 _ rfl, A.2 _ (by omega)]
    (first | refine rt_eq (q_X0_readLine_0 (by first | assumption | rfl | exact .inl rfl | exact .inr rfl)) ?_ | refine rt_eq (q_X0_readLine_6 (by first | assumption | rfl | exact .inl rfl | exact .inr rfl)) ?_ | refine rt_eq (q_X0_readLine_24 (by first | assumption | rfl | exact .inl rfl | exact .inr rfl)) ?_ | refine rt_eq (q_X0_readLine_40 (by first | assumption | rfl | exact .inl rfl | exact .inr rfl)) ?_ | refine rt_eq (q_X0_readLine_32) ?_ | refine rt_eq (q_X0_readLine_57 (by first | assumption | rfl | exact .inl rfl | exact .inr rfl)) ?_ | refine rt_eq (q_X0_readLine_73) ?_)
    by_cases q2 : S.2.2 (nmV W z a).2 = none
    · rw [q2]
      refine rt_t rfl ?_
      have B1 := BC_fr B f1 (by decide)
      refine rt_bnd (sp_numeral B1 ((f1 1 6 rfl).trans hz) hz2 v1.2.1 g5) ?_
      rintro I2 J2 ⟨⟨k1, k2, k3⟩, rfl⟩
      have k1' : Fr fBC I I2 := fr_mono (fr_tr f1 k1) (by decide)
      (first | refine rt_eq (q_X0_readLine_0 (by first | assumption | rfl | exact .inl rfl | exact .inr rfl)) ?_ | refine rt_eq (q_X0_readLine_6 (by first | assumption | rfl | exact .inl rfl | exact .inr rfl)) ?_ | refine rt_eq (q_X0_readLine_24 (by first | assumption | rfl | exact .inl rfl | exact .inr rfl)) ?_ | refine rt_eq (q_X0_readLine_40 (by first | assumption | rfl | exact .inl rfl | exact .inr rfl)) ?_ | refine rt_eq (q_X0_readLine_32) ?_ | refine rt_eq (q_X0_readLine_57 (by first | assumption | rfl | exact .inl rfl | exact .inr rfl)) ?_ | refine rt_eq (q_X0_readLine_73) ?_)
      by_cases q3 : nmF W z (nmV W z a).1 (nI 0) (nI 99) = 0
      · rw [decide_eq_true q3]
        refine rt_f (show ¬ bI true = nI 0 by decide) ?_
        obtain ⟨l5, l4, l2, l3, l7⟩ := k2 q3
        refine rt_bne (sp_put ka_35 (by decide)) ?_
        rw [pt_n (by omega) (by decide), l4]
        (first | refine rt_eq (q_X0_readLine_0 (by first | assumption | rfl | exact .inl rfl | exact .inr rfl)) ?_ | refine rt_eq (q_X0_readLine_6 (by first | assumption | rfl | exact .inl rfl | exact .inr rfl)) ?_ | refine rt_eq (q_X0_readLine_24 (by first | assumption | rfl | exact .inl rfl | exact .inr rfl)) ?_ | refine rt_eq (q_X0_readLine_40 (by first | assumption | rfl | exact .inl rfl | exact .inr rfl)) ?_ | refine rt_eq (q_X0_readLine_32) ?_ | refine rt_eq (q_X0_readLine_57 (by first | assumption | rfl | exact .inl rfl | exact .inr rfl)) ?_ | refine rt_eq (q_X0_readLine_73) ?_)
        have z1 : (up2 I2 35 (nmV W z a).2 (nI (nmV W z (nmV W z a).1).2)) 34 0 = nI S.1 := by
          rw [up2_n (by decide), k1' 34 0 |> fun _ => (k1 34 0 rfl).trans ((f1 34 0 rfl).trans A.1)]
        rw [z1, nI_add]
        generalize hI3 : up2 (up2 I2 35 (nmV W z a).2 (nI (nmV W z (nmV W z a).1).2)) 34 0 (nI (S.1 + 1)) = I3
        have m1 : Fr fBC I I3 := by
          rw [← hI3]
          exact fr_up (fr_up k1' rfl) rfl
        have m5 : I3 1 5 = nI (nmV W z (nmV W z a).1).1 := by rw [← hI3, up2_n (by decide), up2_n (by decide), l5]
        have m2 : I3 1 2 = I 1 2 := by rw [← hI3, up2_n (by decide), up2_n (by decide), l2, g2]
        have m3 : I3 1 3 = I 1 3 := by rw [← hI3, up2_n (by decide), up2_n (by decide), l3, g3]
        have mA : bkA I3 (bAdd S (nmV W z a).2 (nmV W z (nmV W z a).1).2) := by
          refine ⟨by rw [← hI3, up2_s]; rfl, fun k hk => ?_⟩
          rw [← hI3, up2_n (by decide), up2_at]
          show _ = o2i (if k = (nmV W z a).2 then some (nmV W z (nmV W z a).1).2 else S.2.2 k)
          by_cases q : k = (nmV W z a).2
          · rw [if_pos q, if_pos q]
            rfl
          · rw [if_neg q, if_neg q, k1 35 k rfl, f1 35 k rfl, A.2 k hk]
        refine rt_bnd (sp_signC (c := 59) (BC_fr B m1 (by decide)) ((m1 1 6 rfl).trans hz) hz2 v2.2.1 m5 (by decide)) ?_
        rintro I4 J4 ⟨⟨p1, p2, p3⟩, rfl⟩
        have p1' : Fr fBC I I4 := fr_tr m1 (fr_mono p1 (by decide))
        have pA : bkA I4 (bAdd S (nmV W z a).2 (nmV W z (nmV W z a).1).2) := ⟨(p1 34 0 rfl).trans mA.1, fun k hk => (p1 35 k rfl).trans (mA.2 k hk)⟩
        (first | refine rt_eq (q_X0_readLine_0 (by first | assumption | rfl | exact .inl rfl | exact .inr rfl)) ?_ | refine rt_eq (q_X0_readLine_6 (by first | assumption | rfl | exact .inl rfl | exact .inr rfl)) ?_ | refine rt_eq (q_X0_readLine_24 (by first | assumption | rfl | exact .inl rfl | exact .inr rfl)) ?_ | refine rt_eq (q_X0_readLine_40 (by first | assumption | rfl | exact .inl rfl | exact .inr rfl)) ?_ | refine rt_eq (q_X0_readLine_32) ?_ | refine rt_eq (q_X0_readLine_57 (by first | assumption | rfl | exact .inl rfl | exact .inr rfl)) ?_ | refine rt_eq (q_X0_readLine_73) ?_)
        by_cases q4 : sk W z (nmV W z (nmV W z a).1).1 < z ∧ W (sk W z (nmV W z (nmV W z a).1).1) = 59
        · have eb : bk1 W z a S = (0, 0, bAdd S (nmV W z a).2 (nmV W z (nmV W z a).1).2, sk W z (nmV W z (nmV W z a).1).1 + 1) := by
            unfold bk1
            rw [if_neg (not_not_intro q1), if_neg (not_not_intro q2), if_neg (not_not_intro q3), if_neg (not_not_intro q4)]
          rw [eb, decide_eq_true q4]
          exact rt_gd (by decide) (rt_ret ⟨⟨p1', fun _ => ⟨(p2 q4).1, pA, (p2 q4).2.1.trans m2, (p2 q4).2.2.trans m3⟩, fun q => absurd rfl q⟩, rfl⟩)
        · have eb : bk1 W z a S = (1, sk W z (nmV W z (nmV W z a).1).1, S, a) := by
            unfold bk1
            rw [if_neg (not_not_intro q1), if_neg (not_not_intro q2), if_neg (not_not_intro q3), if_pos q4]
          rw [eb, decide_eq_false q4]
          exact rt_gd (by decide) (rt_ret ⟨⟨p1', fun q => absurd (show 1 = 0 from q) (by decide), fun _ => p3 q4⟩, rfl⟩)
      · have eb : bk1 W z a S = (nmF W z (nmV W z a).1 (nI 0) (nI 99), sk W z (nmV W z a).1, S, a) := by
          unfold bk1
          rw [if_neg (not_not_intro q1), if_neg (not_not_intro q2), if_pos q3]
        rw [eb]
        have e0 : decide ((nmF W z (nmV W z a).1 (nI 0) (nI 99), sk W z (nmV W z a).1, S, a).1 = 0) = false := decide_eq_false q3
        rw [e0]
        exact rt_t bI_f (rt_ret ⟨⟨k1', fun q => absurd q q3, fun _ => k3 q3⟩, rfl⟩)
    · have eb : bk1 W z a S = (2, sk W z a, S, a) := by
        unfold bk1
        rw [if_neg (not_not_intro q1), if_pos q2]
      rw [eb]
      obtain ⟨v, ev⟩ : ∃ v, S.2.2 (nmV W z a).2 = some v := by
        cases q : S.2.2 (nmV W z a).2 with
        | none => exact absurd q q2
        | some v => exact ⟨v, rfl⟩
      rw [ev]
      have hv99 : v ≤ 99 := by
        obtain ⟨i, hi, ei⟩ := h.1.2 _ v (by omega) ev
        have := (h.1.1 i hi).2.1
        rw [ei] at this
        exact this
      refine rt_f (nI_m1 v (by omega)) (rt_be sp_noneSuch ?_)
      (first | refine rt_eq (q_X0_readLine_0 (by first | assumption | rfl | exact .inl rfl | exact .inr rfl)) ?_ | refine rt_eq (q_X0_readLine_6 (by first | assumption | rfl | exact .inl rfl | exact .inr rfl)) ?_ | refine rt_eq (q_X0_readLine_24 (by first | assumption | rfl | exact .inl rfl | exact .inr rfl)) ?_ | refine rt_eq (q_X0_readLine_40 (by first | assumption | rfl | exact .inl rfl | exact .inr rfl)) ?_ | refine rt_eq (q_X0_readLine_32) ?_ | refine rt_eq (q_X0_readLine_57 (by first | assumption | rfl | exact .inl rfl | exact .inr rfl)) ?_ | refine rt_eq (q_X0_readLine_73) ?_)
      refine rt_gd (by decide) (rt_ret ⟨⟨fr_up (fr_up (fr_mono f1 (by decide)) rfl) rfl, fun q => absurd (show 2 = 0 from q) (by decide), fun _ => ⟨?_, ?_⟩⟩, rfl⟩)
      · rw [up2_k (by decide), up2_s]
      · rw [up2_s, g7]
  · have eb : bk1 W z a S = (nmF W z a (nI 0) (nI 5), sk W z a, S, a) := by
      unfold bk1
      rw [if_pos q1]
    rw [eb]
    have e0 : decide ((nmF W z a (nI 0) (nI 5), sk W z a, S, a).1 = 0) = false := decide_eq_false q1
    rw [e0]
    exact rt_t bI_f (rt_ret ⟨⟨fr_mono f1 (by decide), fun q => absurd q q1, fun _ => f3 q1⟩, rfl⟩)
theorem lp_readBook : ∀ f a I' (S : BkS), S.1 + f = 7 → RdC I' W z a → Fr fBC I I' → bkA I' S → bOK S → I' 1 2 = nI 0 → I' 1 3 = -1 → Rt L X (c_X0_readFrom_6 (d + 4) L X I' J 34 (nI S.1)) (some (.int (bI (decide ((bkP W z f a S).1 = 0))))) (fun I'' J' => (Fr fBC I I'' ∧ ((bkP W z f a S).1 = 0 → bkA I'' (bkP W z f a S).2.2 ∧ I'' 1 2 = nI 0 ∧ I'' 1 3 = -1 ∧ bOK (bkP W z f a S).2.2) ∧ (¬ (bkP W z f a S).1 = 0 → I'' 1 2 = nI (bkP W z f a S).1 ∧ I'' 1 3 = nI (bkP W z f a S).2.1)) ∧ J' = J)
  | 0, a, I', S, hn, R, hf, A, h, h2, h3 => by
    exfalso
    have := bOK_6 h
    omega
  | f + 1, a, I', S, hn, R, hf, A, h, h2, h3 => by
    have ih := lp_readBook f
    have h6 := bOK_6 h
    obtain ⟨B, hz, hz2, ha, h5⟩ := R
    have hs := sk_le (W := W) ha
    have ho : oc0 34 := .inr rfl
    (first | refine rt_eq (q_X0_readFrom_0 (by first | assumption | rfl | exact .inl rfl | exact .inr rfl)) ?_ | refine rt_eq (q_X0_readFrom_4 (by first | assumption | rfl | exact .inl rfl | exact .inr rfl)) ?_ | refine rt_eq (q_X0_readFrom_6 (by first | assumption | rfl | exact .inl rfl | exact .inr rfl)) ?_ | refine rt_eq (q_X0_readFrom_16 (by first | assumption | rfl | exact .inl rfl | exact .inr rfl)) ?_ | refine rt_eq (q_X0_readFrom_27 (by first | assumption | rfl | exact .inl rfl | exact .inr rfl)) ?_)
    refine rt_f (by (try simp (disch := omega) only [nI_leI, nI_ltI, nI_eq, nI_add, pk_mul, n_0add, Nat.zero_add, nI_clamp]) <;> omega) (rt_bnd (sp_peek B hz hz2 ha h5) ?_)
    rintro I1 J1 ⟨⟨f1, f2, f3⟩, rfl⟩
    have f1' : Fr fBC I I1 := fr_tr hf (fr_mono f1 (by decide))
    have A1 : bkA I1 S := ⟨(f1 34 0 rfl).trans A.1, fun k hk => (f1 35 k rfl).trans (A.2 k hk)⟩
    (first | refine rt_eq (q_X0_readFrom_0 (by first | assumption | rfl | exact .inl rfl | exact .inr rfl)) ?_ | refine rt_eq (q_X0_readFrom_4 (by first | assumption | rfl | exact .inl rfl | exact .inr rfl)) ?_ | refine rt_eq (q_X0_readFrom_6 (by first | assumption | rfl | exact .inl rfl | exact .inr rfl)) ?_ | refine rt_eq (q_X0_readFrom_16 (by first | assumption | rfl | exact .inl rfl | exact .inr rfl)) ?_ | refine rt_eq (q_X0_readFrom_27 (by first | assumption | rfl | exact .inl rfl | exact .inr rfl)) ?_)
    by_cases e : sk W z a = z
    · have ep : bkP W z (f + 1) a S = (0, 0, S) := if_pos e
      rw [ep, show byT W z (sk W z a) = -1 from if_neg (by omega)]
      exact rt_t rfl (rt_ret ⟨⟨f1', fun _ => ⟨A1, (f1 1 2 rfl).trans h2, (f1 1 3 rfl).trans h3, h⟩, fun q => absurd rfl q⟩, rfl⟩)
    · have hb := (B (sk W z a) (by omega)).2
      rw [show byT W z (sk W z a) = nI (W (sk W z a)) from if_pos (by omega)]
      have ep : bkP W z (f + 1) a S = if ¬ (bk1 W z a S).1 = 0 then ((bk1 W z a S).1, (bk1 W z a S).2.1, S) else bkP W z f (bk1 W z a S).2.2.2 (bk1 W z a S).2.2.1 := if_neg e
      have eb : bk1 W z (sk W z a) S = if (bk1 W z a S).1 = 0 then bk1 W z a S else ((bk1 W z a S).1, (bk1 W z a S).2.1, S, sk W z a) := by
        unfold bk1
        rw [nmF_sk ha, nmV_sk ha, sk_sk ha]
        by_cases q1 : nmF W z a (nI 0) (nI 5) = 0
        · rw [if_neg (not_not_intro q1), if_neg (not_not_intro q1)]
          by_cases q2 : S.2.2 (nmV W z a).2 = none
          · rw [if_neg (not_not_intro q2), if_neg (not_not_intro q2)]
            by_cases q3 : nmF W z (nmV W z a).1 (nI 0) (nI 99) = 0
            · rw [if_neg (not_not_intro q3), if_neg (not_not_intro q3)]
              by_cases q4 : sk W z (nmV W z (nmV W z a).1).1 < z ∧ W (sk W z (nmV W z (nmV W z a).1).1) = 59
              · rw [if_neg (not_not_intro q4), if_neg (not_not_intro q4)]
                exact (if_pos rfl).symm
              · rw [if_pos q4, if_pos q4]
                rfl
            · rw [if_pos q3, if_pos q3]
              exact (if_neg q3).symm
          · rw [if_pos q2, if_pos q2]
            rfl
        · rw [if_pos q1, if_pos q1]
          exact (if_neg q1).symm
      refine rt_f (nI_m1 _ (by omega)) (rt_bnd (sp_readLine (a := sk W z a) (S := S) ⟨BC_fr B f1 (by decide), (f1 1 6 rfl).trans hz, hz2, hs.2, f2⟩ A1 h) ?_)
      rintro I2 J2 ⟨⟨g1, g2, g3⟩, rfl⟩
      have g1' : Fr fBC I I2 := fr_tr f1' g1
      (first | refine rt_eq (q_X0_readFrom_0 (by first | assumption | rfl | exact .inl rfl | exact .inr rfl)) ?_ | refine rt_eq (q_X0_readFrom_4 (by first | assumption | rfl | exact .inl rfl | exact .inr rfl)) ?_ | refine rt_eq (q_X0_readFrom_6 (by first | assumption | rfl | exact .inl rfl | exact .inr rfl)) ?_ | refine rt_eq (q_X0_readFrom_16 (by first | assumption | rfl | exact .inl rfl | exact .inr rfl)) ?_ | refine rt_eq (q_X0_readFrom_27 (by first | assumption | rfl | exact .inl rfl | exact .inr rfl)) ?_)
      by_cases q : (bk1 W z a S).1 = 0
      · rw [if_pos q] at eb
        rw [eb] at g2 g3 ⊢
        obtain ⟨k5, kA, k2, k3⟩ := g2 q
        obtain ⟨o1, o2, o3, o4⟩ := bk1_ok (W := W) ha h q
        rw [ep, if_neg (not_not_intro q), decide_eq_true q]
        refine rt_f (show ¬ bI true = nI 0 by decide) ?_
        rw [nI_add, ← o4]
        exact ih _ I2 _ (by rw [o4]; omega) ⟨BC_fr B (fr_tr (l := fBC) (fr_mono f1 (by decide)) g1) (by decide), (g1 1 6 rfl).trans ((f1 1 6 rfl).trans hz), hz2, o3, k5⟩ g1' kA o1 (k2.trans ((f1 1 2 rfl).trans h2)) (k3.trans ((f1 1 3 rfl).trans h3))
      · rw [if_neg q] at eb
        rw [eb] at g2 g3 ⊢
        rw [ep, if_pos q]
        have e0 : decide (((bk1 W z a S).1, (bk1 W z a S).2.1, S, sk W z a).1 = 0) = false := decide_eq_false q
        have e1 : decide (((bk1 W z a S).1, (bk1 W z a S).2.1, S).1 = 0) = false := decide_eq_false q
        rw [e0]
        exact rt_t bI_f (rt_ret ⟨⟨g1', fun q2 => absurd q2 q, fun _ => g3 q⟩, rfl⟩)
def bS0 : BkS := (0, (fun _ => (0, 0)), fun _ => none)
theorem bOK_0 : bOK bS0 := ⟨⟨fun i hi => absurd hi (Nat.not_lt_zero i), fun k v _ e => absurd (show (none : Option Nat) = some v from e) (by simp)⟩, rfl⟩
theorem sp_readBook (R : RdC I W z a) (h2 : I 1 2 = nI 0) (h3 : I 1 3 = -1) : Rt L X (runM (d + 5) nX0_readFrom [.ref 34, .ref 1] (mm L X I J)) (some (.int (bI (decide ((bkP W z 7 a bS0).1 = 0))))) (fun I'' J' => (Fr fBC I I'' ∧ ((bkP W z 7 a bS0).1 = 0 → bkA I'' (bkP W z 7 a bS0).2.2 ∧ I'' 1 2 = nI 0 ∧ I'' 1 3 = -1 ∧ bOK (bkP W z 7 a bS0).2.2) ∧ (¬ (bkP W z 7 a bS0).1 = 0 → I'' 1 2 = nI (bkP W z 7 a bS0).1 ∧ I'' 1 3 = nI (bkP W z 7 a bS0).2.1)) ∧ J' = J) := by
  have ho : oc0 34 := .inr rfl
  have clr : Rt L X (runM (d + 4) nX0_clear [.ref 34] (mm L X I J)) none (fun I' J' => (Fr [(34, 1), (35, 0)] I I' ∧ bkA I' bS0) ∧ J' = J) := by
    rw [e_X0_clear]
    (first | refine rt_eq (q_X0_clear_0 (by first | assumption | rfl | exact .inl rfl | exact .inr rfl)) ?_ | refine rt_eq (q_X0_clear_13) ?_)
    refine rt_bndN (sp_fillI ka_35 (by decide)) ?_
    rintro I1 J1 ⟨⟨f1, f2⟩, rfl⟩
    (first | refine rt_eq (q_X0_clear_0 (by first | assumption | rfl | exact .inl rfl | exact .inr rfl)) ?_ | refine rt_eq (q_X0_clear_13) ?_)
    refine rt_ret ⟨⟨fr_tr (fr_up fr_rfl rfl) (fr_mono f1 (by decide)), ?_, fun k hk => f2 k hk⟩, rfl⟩
    rw [f1 34 0 rfl, up2_s]
    rfl
  rw [e_X0_readFrom]
  (first | refine rt_eq (q_X0_readFrom_0 (by first | assumption | rfl | exact .inl rfl | exact .inr rfl)) ?_ | refine rt_eq (q_X0_readFrom_4 (by first | assumption | rfl | exact .inl rfl | exact .inr rfl)) ?_ | refine rt_eq (q_X0_readFrom_6 (by first | assumption | rfl | exact .inl rfl | exact .inr rfl)) ?_ | refine rt_eq (q_X0_readFrom_16 (by first | assumption | rfl | exact .inl rfl | exact .inr rfl)) ?_ | refine rt_eq (q_X0_readFrom_27 (by first | assumption | rfl | exact .inl rfl | exact .inr rfl)) ?_)
  refine rt_bnd clr ?_
  rintro I1 J1 ⟨⟨f1, f2⟩, rfl⟩
  (first | refine rt_eq (q_X0_readFrom_0 (by first | assumption | rfl | exact .inl rfl | exact .inr rfl)) ?_ | refine rt_eq (q_X0_readFrom_4 (by first | assumption | rfl | exact .inl rfl | exact .inr rfl)) ?_ | refine rt_eq (q_X0_readFrom_6 (by first | assumption | rfl | exact .inl rfl | exact .inr rfl)) ?_ | refine rt_eq (q_X0_readFrom_16 (by first | assumption | rfl | exact .inl rfl | exact .inr rfl)) ?_ | refine rt_eq (q_X0_readFrom_27 (by first | assumption | rfl | exact .inl rfl | exact .inr rfl)) ?_)
  obtain ⟨B, hz, hz2, ha, h5⟩ := R
  exact lp_readBook (I := I) 7 a I1 bS0 rfl ⟨BC_fr B f1 (by decide), (f1 1 6 rfl).trans hz, hz2, ha, (f1 1 5 rfl).trans h5⟩ (fr_mono f1 (by decide)) f2 bOK_0 ((f1 1 2 rfl).trans h2) ((f1 1 3 rfl).trans h3)
/-! the model -/
theorem ka_rl : ∀ s, s < 6 → ka (444 + s) 1 2 := by
  have q : ∀ s, s < 6 → (Nat.blt (444 + s) 1000000 && (K0[444 + s]? == some (1, 2))) = true := by decide +kernel
  exact fun s hs => ka_of (q s hs)
def fBM : Fls := fTM ++ cells 444 6
/-- the model's own state of reading: place a, no FAULT yet -/
def RdM (I : MI32) (W : Nat → Nat) (z a : Nat) : Prop := BM I W ∧ (∀ k, k < 600 → W k < 256) ∧ I 72 2 = nI z ∧ z ≤ 600 ∧ a ≤ z ∧ I 72 4 = nI a ∧ I 72 5 = nI 0
def bkN (I : MI32) (S : BkS) : Prop := ∀ i, i < S.1 → I (444 + i) 0 = nI (S.2.1 i).1 ∧ I (444 + i) 1 = nI (S.2.1 i).2
theorem bf_row {I' : MI32} {i k : Nat} (g : Fr fTM I I') (hi : i < 6) : I' (444 + i) k = I (444 + i) k := ag_of (s := cells 444 6) g (by decide +kernel) _ k (in_cells hi)
theorem lp_twice {S : BkS} {dd : Nat} {x3 : Int32} {u1 rr : Option Value} {Q : MI32 → MI64 → Prop} (A : bkN I S) (h : bOK S) (hd : dd < 6) : ∀ r j I', j + r = S.1 → Fr fTM I I' → (I' 72 5 = nI 0 ∨ I' 72 5 = nI 2) → (I' 72 5 = nI 0 → ∀ i, i < j → ¬ (S.2.1 i).1 = dd) → (I' 72 5 = nI 2 → ¬ S.2.2 dd = none ∧ I' 72 6 = x3) → I' 72 4 = I 72 4 → (∀ I'', Fr fTM I I'' → I'' 72 4 = I 72 4 → (S.2.2 dd = none → I'' 72 5 = nI 0) → (¬ S.2.2 dd = none → I'' 72 5 = nI 2 ∧ I'' 72 6 = x3) → Rt L X (runI (runM (d + 1)) iX12_book (80, [some (.ref 72), u1, some (.int (nI S.1)), some (.int x3), some (.int (nI dd)), some (.int (nI S.1))], [], mm L X I'' J)) rr Q) → Rt L X (c_X12_book_80 (d + 1) L X I' J u1 (nI S.1) x3 (nI dd) (nI j)) rr Q
  | 0, j, I', hj, hf, h0, h1, h2, h4, k => by
    have ej : j = S.1 := by omega
    subst ej
    refine k I' hf h4 (fun e => ?_) (fun e => ?_)
    · rcases h0 with q | q
      · exact q
      · exact absurd e (h2 q).1
    · rcases h0 with q | q
      · exfalso
        cases ev : S.2.2 dd with
        | none => exact e ev
        | some v =>
          obtain ⟨i, hi, ei⟩ := h.1.2 dd v hd ev
          exact h1 q i hi (by rw [ei])
      · exact ⟨q, (h2 q).2⟩
  | r + 1, j, I', hj, hf, h0, h1, h2, h4, k => by
    have ih := lp_twice (S := S) (dd := dd) (x3 := x3) (u1 := u1) (rr := rr) (Q := Q) A h hd r (j + 1)
    have h6 := bOK_6 h
    have go : ∀ I2, Fr fTM I I2 → (I2 72 5 = nI 0 ∨ I2 72 5 = nI 2) → (I2 72 5 = nI 0 → ∀ i, i < j + 1 → ¬ (S.2.1 i).1 = dd) → (I2 72 5 = nI 2 → ¬ S.2.2 dd = none ∧ I2 72 6 = x3) → I2 72 4 = I 72 4 → Rt L X (runI (runM (d + 1)) iX12_book (113, [some (.ref 72), u1, some (.int (nI S.1)), some (.int x3), some (.int (nI dd)), some (.int (nI j))], [], mm L X I2 J)) rr Q := by
      intro I2 a1 a2 a3 a4 a5
      (first | refine rt_eq (q_X12_book_0) ?_ | refine rt_eq (q_X12_book_15) ?_ | refine rt_eq (q_X12_book_24) ?_ | refine rt_eq (q_X12_book_29) ?_ | refine rt_eq (q_X12_book_34) ?_ | refine rt_eq (q_X12_book_44 (by first | assumption | rfl | exact .inl rfl | exact .inr rfl)) ?_ | refine rt_eq (q_X12_book_46) ?_ | refine rt_eq (q_X12_book_190) ?_ | refine rt_eq (q_X12_book_75) ?_ | refine rt_eq (q_X12_book_224) ?_ | refine rt_eq (q_X12_book_201) ?_ | refine rt_eq (q_X12_book_80) ?_ | refine rt_eq (q_X12_book_138) ?_ | refine rt_eq (q_X12_book_113) ?_ | refine rt_eq (q_X12_book_145) ?_ | refine rt_eq (q_X12_book_153 (by first | assumption | rfl | exact .inl rfl | exact .inr rfl)) ?_ | refine rt_eq (q_X12_book_183) ?_ | refine rt_eq (q_X12_book_187) ?_)
      rw [nI_add]
      exact ih I2 (by omega) a1 a2 a3 a4 a5 k
    (first | refine rt_eq (q_X12_book_0) ?_ | refine rt_eq (q_X12_book_15) ?_ | refine rt_eq (q_X12_book_24) ?_ | refine rt_eq (q_X12_book_29) ?_ | refine rt_eq (q_X12_book_34) ?_ | refine rt_eq (q_X12_book_44 (by first | assumption | rfl | exact .inl rfl | exact .inr rfl)) ?_ | refine rt_eq (q_X12_book_46) ?_ | refine rt_eq (q_X12_book_190) ?_ | refine rt_eq (q_X12_book_75) ?_ | refine rt_eq (q_X12_book_224) ?_ | refine rt_eq (q_X12_book_201) ?_ | refine rt_eq (q_X12_book_80) ?_ | refine rt_eq (q_X12_book_138) ?_ | refine rt_eq (q_X12_book_113) ?_ | refine rt_eq (q_X12_book_145) ?_ | refine rt_eq (q_X12_book_153 (by first | assumption | rfl | exact .inl rfl | exact .inr rfl)) ?_ | refine rt_eq (q_X12_book_183) ?_ | refine rt_eq (q_X12_book_187) ?_)
    refine rt_f (by (try simp (disch := omega) only [nI_leI, nI_ltI, nI_eq, nI_add, pk_mul, n_0add, Nat.zero_add, nI_clamp]) <;> omega) ?_
    rcases h0 with q | q
    · refine rt_t q (rt_gd (inb_n (by omega) (by decide)) ?_)
      have hk := (h.1.1 j (by omega)).1
      rw [nI_clamp (by omega), bf_row hf (by omega), (A j (by omega)).1]
      by_cases e : (S.2.1 j).1 = dd
      · rw [e]
        refine rt_t rfl (rt_be (sp_wrong.trans (if_pos q)) ?_)
        refine go _ (fr_up (fr_up hf rfl) rfl) (.inr ?_) ?_ (fun _ => ⟨?_, up2_s⟩) ?_
        · rw [up2_k (by decide), up2_s]
        · intro q2
          rw [up2_k (by decide), up2_s] at q2
          exact absurd q2 (by decide)
        · have := (h.1.1 j (by omega)).2.2
          rw [e] at this
          rw [this]
          simp
        · rw [up2_k (by decide), up2_k (by decide), h4]
      · refine rt_f (by (try simp (disch := omega) only [nI_leI, nI_ltI, nI_eq, nI_add, pk_mul, n_0add, Nat.zero_add, nI_clamp]) <;> omega) ?_
        refine go I' hf (.inl q) (fun _ i hi => ?_) h2 h4
        by_cases e2 : i = j
        · rw [e2]
          exact e
        · exact h1 q i (by omega)
    · refine rt_f (by rw [q]; decide) ?_
      exact go I' hf (.inr q) (fun q2 => absurd (q.symm.trans q2) (by decide)) h2 h4
end BR
