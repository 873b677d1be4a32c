/-! A NIGHT IS READ, BY BOTH -/
def inRow (n : Nat) (N : Nt) (p : Nat) : Bool := (fndF (fun k => decide (N k = nI p)) n 0).isSome
def wyN (N : Nt) (k : Nat) : Nat := 2 * nv (N k) + nv (N (6 + nv (N k)))
def canL (h : Hs) (m n : Nat) (N : Nt) (w : Nat) : Bool := !inRow n N (w / 2) && (decide (n = 0) || fol h m (wyN N (n - 1)) w)
def lenA (h : Hs) (N : Nt) (k a : Nat) : Nat := a + h 1 (nv (N k))
def lenN (h : Hs) (N : Nt) (n : Nat) : Nat := accF (lenA h N) n 0 0
def rowA (N : Nt) (k : Nat) (a : Int32) : Int32 := a ||| (nI 1 <<< (N k &&& 31))
def rowB (N : Nt) (n : Nat) : Int32 := accF (rowA N) n 0 (nI 0)
def outP (N : Nt) (f : Nat) : Bool := !decide (N (24 + f) = -1)
def bitA (P : Nat → Bool) (k a : Nat) : Nat := if P k = true then a ||| 2 ^ k else a
theorem wy_div {p t : Nat} (ht : t ≤ 1) : (2 * p + t) / 2 = p := by omega
theorem wy_mod {p t : Nat} (ht : t ≤ 1) : (2 * p + t) % 2 = t := by omega
/-! places (began as kit/laws/COUNTS.to-paste) -/
theorem fb_holes : ∀ (m n : Nat) (f : Nat → Nat), (∀ i, i < n → f i < m) → (∀ i j, i < j → j < n → f i ≠ f j) → n ≤ m := by
  intro m
  induction m with
  | zero =>
    intro n f h1 _
    rcases Nat.eq_zero_or_pos n with h | h
    · omega
    · exact absurd (h1 0 h) (Nat.not_lt_zero _)
  | succ m ih =>
    intro n f h1 h2
    by_cases hx : ∃ i, i < n ∧ f i = m
    · obtain ⟨a, ha, hfa⟩ := hx
      have hg := ih (n - 1) (fun i => if i < a then f i else f (i + 1)) (by
        intro i hi
        by_cases q : i < a
        · simp only [if_pos q]
          have b1 := h1 i (by omega)
          have b2 := h2 i a q ha
          omega
        · simp only [if_neg q]
          have b1 := h1 (i + 1) (by omega)
          have b2 := h2 a (i + 1) (by omega) (by omega)
          omega) (by
        intro i j hij hj
        by_cases q : i < a
        · by_cases r : j < a
          · simp only [if_pos q, if_pos r]
            exact h2 i j hij (by omega)
          · simp only [if_pos q, if_neg r]
            exact h2 i (j + 1) (by omega) (by omega)
        · have r : ¬ j < a := by omega
          simp only [if_neg q, if_neg r]
          exact h2 (i + 1) (j + 1) (by omega) (by omega))
      omega
    · have hg := ih n f (fun i hi => by
        have b1 := h1 i hi
        have b2 : f i ≠ m := fun e => hx ⟨i, hi, e⟩
        omega) h2
      omega
/-- as many as places, none twice: each place is taken -/
theorem fb_onto {n : Nat} {f : Nat → Nat} (h : ∀ i, i < n → f i < n) (h2 : ∀ i j, i < j → j < n → f i ≠ f j) {y : Nat} (hy : y < n) : ∃ i, i < n ∧ f i = y := by
  refine Classical.byContradiction fun hx => ?_
  have hne : ∀ i, i < n → f i ≠ y := fun i hi e => hx ⟨i, hi, e⟩
  have := fb_holes (n - 1) n (fun i => if f i < y then f i else f i - 1) (by
    intro i hi
    have b1 := h i hi
    have b2 := hne i hi
    by_cases q : f i < y
    · simp only [if_pos q]; omega
    · simp only [if_neg q]; omega) (by
    intro i j hij hj
    have b1 := hne i (by omega)
    have b2 := hne j hj
    have b3 := h2 i j hij hj
    by_cases q : f i < y
    · by_cases r : f j < y
      · simp only [if_pos q, if_pos r]; exact b3
      · simp only [if_pos q, if_neg r]; omega
    · by_cases r : f j < y
      · simp only [if_neg q, if_pos r]; omega
      · simp only [if_neg q, if_neg r]; omega)
  omega
section NG
variable {d L X : Nat} {I : MI32} {J : MI64} {a n np : Nat} {N : Nt} {h : Hs} {m r p t : Nat}
/-! the model -/
theorem sp_headM (H : HM I h m) (ok : HOK h) (hp : p < h 0 0) (ht : t ≤ 1) : runM (d + 1) nX12_headOf [.ref 72, .int (nI p), .int (nI t)] (mm L X I J) = rI (nI (hdW h (2 * p + t))) (mm L X I J) := by
  have h6 : p < 6 := by have := ok.1; omega
  obtain ⟨-, -, -, -, -, q, -, -⟩ := H
  rw [e_X12_headOf]
  (first | refine Eq.trans (q_X12_headOf_0) ?_)
  rw [gd_t (inb_n (by omega) (by decide)), nI_add, gd_t (inb_n (by omega) (by decide)), nI_clamp (by omega), nI_clamp (by omega)]
  unfold hdW
  rw [wy_div ht, wy_mod ht]
  rcases Nat.eq_zero_or_pos t with e | e
  · subst e
    rw [if_pos rfl]
    exact congrArg (fun z => rI z _) (q p hp).2.1
  · have e1 : t = 1 := by omega
    subst e1
    rw [if_neg (by decide)]
    exact congrArg (fun z => rI z _) (q p hp).2.2.1
theorem sp_footM (H : HM I h m) (ok : HOK h) (hp : p < h 0 0) (ht : t ≤ 1) : runM (d + 1) nX12_footOf [.ref 72, .int (nI p), .int (nI t)] (mm L X I J) = rI (nI (ftW h (2 * p + t))) (mm L X I J) := by
  have h6 : p < 6 := by have := ok.1; omega
  obtain ⟨-, -, -, -, -, q, -, -⟩ := H
  rw [e_X12_footOf]
  (first | refine Eq.trans (q_X12_footOf_0) ?_)
  rw [gd_t (inb_n (by omega) (by decide)), pk_sub (by omega), gd_t (inb_n (by omega) (by decide)), nI_clamp (by omega), nI_clamp (by omega)]
  unfold ftW
  rw [wy_div ht, wy_mod ht]
  rcases Nat.eq_zero_or_pos t with e | e
  · subst e
    rw [if_pos rfl]
    exact congrArg (fun z => rI z _) (q p hp).2.2.1
  · have e1 : t = 1 := by omega
    subst e1
    rw [if_neg (by decide)]
    exact congrArg (fun z => rI z _) (q p hp).2.1
theorem hd_le (ok : HOK h) {w : Nat} (hw : w / 2 < h 0 0) : hdW h w ≤ 9 ∧ ftW h w ≤ 9 := by
  have q := ok.2.2.2.1 (w / 2) hw
  unfold hdW ftW
  by_cases e : w % 2 = 0
  · rw [if_pos e, if_pos e]
    omega
  · rw [if_neg e, if_neg e]
    omega
theorem inRow6 (H : NR np n N) (hp : p < 2 ^ 31) : (fndF (fun k => decide (N k = nI p)) 6 0) = fndF (fun k => decide (N k = nI p)) n 0 := by
  obtain ⟨⟨h1, -⟩, -, h3, -, -⟩ := H
  have e : 6 = n + (6 - n) := by omega
  rw [e]
  refine fndF_app n (6 - n) 0 (fun k q1 q2 => ?_)
  rw [h3 k (by omega) (by omega)]
  simp only [decide_eq_false_iff_not]
  exact fun q => nI_m1 p hp q.symm
theorem o2i_none {o : Option Nat} (ho : ∀ k, o = some k → k < 2 ^ 31) : o2i o = -1 ↔ o.isSome = false := by
  rcases o with _ | k
  · simp [o2i]
  · simp only [o2i, Option.isSome_some, Bool.true_eq_false, iff_false]
    exact nI_m1 k (ho k rfl)
theorem fnd_small {P : Nat → Bool} {q : Nat} (hq : q < 2 ^ 31) : ∀ k, fndF P q 0 = some k → k < 2 ^ 31 := fun k e => by
  have := (fndF_some q 0 e).2.1
  omega
theorem NR_wy (H : NR np n N) {k : Nat} (hk : k < n) : nv (N k) < np ∧ N k = nI (nv (N k)) ∧ N (6 + nv (N k)) = nI (nv (N (6 + nv (N k)))) ∧ nv (N (6 + nv (N k))) ≤ 1 := by
  obtain ⟨⟨h1, h6⟩, h2, -, -, h5⟩ := H
  have q := h2 k hk
  exact ⟨q.2, q.1, (h5 _ (by omega)).1, (h5 _ (by omega)).2⟩
theorem sp_canLayM (k1 : ka r 1 31) (H : HM I h m) (ok : HOK h) (R : NR (h 0 0) n (I r)) (hp : p < h 0 0) (ht : t ≤ 1) : runM (d + 2) nX12_canLay [.ref 72, .ref r, .int (nI p), .int (nI t)] (mm L X I J) = rB (canL h m n (I r) (2 * p + t)) (mm L X I J) := by
  have hn6 := R.1.1
  have hp6 : p < 2 ^ 31 := by have := ok.1; omega
  rw [e_X12_canLay]
  (first | refine Eq.trans (q_X12_canLay_0 (by first | assumption | rfl | exact .inl rfl | exact .inr rfl)) ?_ | refine Eq.trans (q_X12_canLay_4 (by first | assumption | rfl | exact .inl rfl | exact .inr rfl)) ?_ | refine Eq.trans (q_X12_canLay_11 (by first | assumption | rfl | exact .inl rfl | exact .inr rfl)) ?_ | refine Eq.trans (q_X12_canLay_48) ?_ | refine Eq.trans (q_X12_canLay_54) ?_ | refine Eq.trans (q_X12_canLay_57) ?_)
  refine (bndN_e (sp_manyIn k1 R)).trans ?_
  (first | refine Eq.trans (q_X12_canLay_0 (by first | assumption | rfl | exact .inl rfl | exact .inr rfl)) ?_ | refine Eq.trans (q_X12_canLay_4 (by first | assumption | rfl | exact .inl rfl | exact .inr rfl)) ?_ | refine Eq.trans (q_X12_canLay_11 (by first | assumption | rfl | exact .inl rfl | exact .inr rfl)) ?_ | refine Eq.trans (q_X12_canLay_48) ?_ | refine Eq.trans (q_X12_canLay_54) ?_ | refine Eq.trans (q_X12_canLay_57) ?_)
  refine (bndN_e (sp_placeM k1)).trans ?_
  rw [inRow6 R hp6]
  (first | refine Eq.trans (q_X12_canLay_0 (by first | assumption | rfl | exact .inl rfl | exact .inr rfl)) ?_ | refine Eq.trans (q_X12_canLay_4 (by first | assumption | rfl | exact .inl rfl | exact .inr rfl)) ?_ | refine Eq.trans (q_X12_canLay_11 (by first | assumption | rfl | exact .inl rfl | exact .inr rfl)) ?_ | refine Eq.trans (q_X12_canLay_48) ?_ | refine Eq.trans (q_X12_canLay_54) ?_ | refine Eq.trans (q_X12_canLay_57) ?_)
  unfold canL inRow
  rw [wy_div ht]
  by_cases hs : (fndF (fun k => decide (I r k = nI p)) n 0).isSome = false
  · rw [if_pos ((o2i_none (fnd_small (by omega))).mpr hs), hs]
    by_cases h0 : n = 0
    · rw [if_pos (by (try simp (disch := omega) only [nI_leI, nI_ltI, nI_eq, nI_add, pk_mul, n_0add, Nat.zero_add, nI_clamp]) <;> omega), decide_eq_true h0]
      rfl
    · rw [if_neg (by (try simp (disch := omega) only [nI_leI, nI_ltI, nI_eq, nI_add, pk_mul, n_0add, Nat.zero_add, nI_clamp]) <;> omega), decide_eq_false h0]
      obtain ⟨n1, rfl⟩ : ∃ n1, n = n1 + 1 := ⟨n - 1, by omega⟩
      obtain ⟨w1, w2, w3, w4⟩ := NR_wy R (show n1 < n1 + 1 by omega)
      have w6 : nv (I r n1) < 6 := by have := ok.1; omega
      rw [n_0add, n_sub1, gd_t (inb_n (by omega) (by decide)), nI_clamp (show n1 < 2 ^ 31 by omega)]
      generalize hq : nv (I r n1) = q at w1 w2 w3 w4 w6
      rw [w2, nI_add, gd_t (inb_n (by omega) (by decide)), nI_clamp (show 6 + q < 2 ^ 31 by omega), w3]
      refine (bnd_e (sp_footM H ok w1 w4)).trans ?_
      (first | refine Eq.trans (q_X12_canLay_0 (by first | assumption | rfl | exact .inl rfl | exact .inr rfl)) ?_ | refine Eq.trans (q_X12_canLay_4 (by first | assumption | rfl | exact .inl rfl | exact .inr rfl)) ?_ | refine Eq.trans (q_X12_canLay_11 (by first | assumption | rfl | exact .inl rfl | exact .inr rfl)) ?_ | refine Eq.trans (q_X12_canLay_48) ?_ | refine Eq.trans (q_X12_canLay_54) ?_ | refine Eq.trans (q_X12_canLay_57) ?_)
      refine (bnd_e (sp_headM H ok hp ht)).trans ?_
      (first | refine Eq.trans (q_X12_canLay_0 (by first | assumption | rfl | exact .inl rfl | exact .inr rfl)) ?_ | refine Eq.trans (q_X12_canLay_4 (by first | assumption | rfl | exact .inl rfl | exact .inr rfl)) ?_ | refine Eq.trans (q_X12_canLay_11 (by first | assumption | rfl | exact .inl rfl | exact .inr rfl)) ?_ | refine Eq.trans (q_X12_canLay_48) ?_ | refine Eq.trans (q_X12_canLay_54) ?_ | refine Eq.trans (q_X12_canLay_57) ?_)
      have b1 := hd_le ok (w := 2 * q + nv (I r (6 + q))) (by omega)
      have b2 := hd_le ok (w := 2 * p + t) (by omega)
      refine (bnd_e (sp_isJoined H (by omega) (by omega))).trans ?_
      (first | refine Eq.trans (q_X12_canLay_0 (by first | assumption | rfl | exact .inl rfl | exact .inr rfl)) ?_ | refine Eq.trans (q_X12_canLay_4 (by first | assumption | rfl | exact .inl rfl | exact .inr rfl)) ?_ | refine Eq.trans (q_X12_canLay_11 (by first | assumption | rfl | exact .inl rfl | exact .inr rfl)) ?_ | refine Eq.trans (q_X12_canLay_48) ?_ | refine Eq.trans (q_X12_canLay_54) ?_ | refine Eq.trans (q_X12_canLay_57) ?_)
      rw [gd_t bI_b01]
      unfold fol wyN
      rw [Nat.add_sub_cancel, hq]
      rfl
  · rw [if_neg (fun q => hs ((o2i_none (fnd_small (by omega))).mp q))]
    rw [Bool.not_eq_false] at hs
    rw [hs]
    rfl
theorem lp_longOf (k1 : ka r 1 31) (H : HM I h m) (R : NR (h 0 0) n (I r)) : ∀ q j b, j + q = n → c_X12_longOf_4 (d + 1) L X I J r (nI b) (nI j) = rI (nI (accF (lenA h (I r)) q j b)) (mm L X I J)
  | 0, j, b, hj => by
    have hn6 := R.1.1
    (first | refine Eq.trans (q_X12_longOf_0 (by first | assumption | rfl | exact .inl rfl | exact .inr rfl)) ?_ | refine Eq.trans (q_X12_longOf_4 (by first | assumption | rfl | exact .inl rfl | exact .inr rfl)) ?_ | refine Eq.trans (q_X12_longOf_9 (by first | assumption | rfl | exact .inl rfl | exact .inr rfl)) ?_)
    refine (bndN_e (sp_manyIn k1 R)).trans ?_
    (first | refine Eq.trans (q_X12_longOf_0 (by first | assumption | rfl | exact .inl rfl | exact .inr rfl)) ?_ | refine Eq.trans (q_X12_longOf_4 (by first | assumption | rfl | exact .inl rfl | exact .inr rfl)) ?_ | refine Eq.trans (q_X12_longOf_9 (by first | assumption | rfl | exact .inl rfl | exact .inr rfl)) ?_)
    rw [if_pos (by (try simp (disch := omega) only [nI_leI, nI_ltI, nI_eq, nI_add, pk_mul, n_0add, Nat.zero_add, nI_clamp]) <;> omega)]
    rfl
  | q + 1, j, b, hj => by
    have ih := lp_longOf k1 H R q (j + 1) (lenA h (I r) j b) (by omega)
    have hn6 := R.1.1
    have hnp := R.1.2
    obtain ⟨w1, w2, -, -⟩ := NR_wy R (show j < n by omega)
    have hc := (H.2.2.2.2.2.1 _ w1).1
    (first | refine Eq.trans (q_X12_longOf_0 (by first | assumption | rfl | exact .inl rfl | exact .inr rfl)) ?_ | refine Eq.trans (q_X12_longOf_4 (by first | assumption | rfl | exact .inl rfl | exact .inr rfl)) ?_ | refine Eq.trans (q_X12_longOf_9 (by first | assumption | rfl | exact .inl rfl | exact .inr rfl)) ?_)
    refine (bndN_e (sp_manyIn k1 R)).trans ?_
    (first | refine Eq.trans (q_X12_longOf_0 (by first | assumption | rfl | exact .inl rfl | exact .inr rfl)) ?_ | refine Eq.trans (q_X12_longOf_4 (by first | assumption | rfl | exact .inl rfl | exact .inr rfl)) ?_ | refine Eq.trans (q_X12_longOf_9 (by first | assumption | rfl | exact .inl rfl | exact .inr rfl)) ?_)
    rw [if_neg (by (try simp (disch := omega) only [nI_leI, nI_ltI, nI_eq, nI_add, pk_mul, n_0add, Nat.zero_add, nI_clamp]) <;> omega), n_0add, gd_t (inb_n (by omega) (by decide)), nI_clamp (by omega), gd_t (by rw [w2]; exact (inb_n (by omega) (by decide))), hc, nI_add, nI_add]
    exact ih
theorem sp_longOf (k1 : ka r 1 31) (H : HM I h m) (R : NR (h 0 0) n (I r)) : runM (d + 2) nX12_longOf [.ref 72, .ref r] (mm L X I J) = rI (nI (lenN h (I r) n)) (mm L X I J) := by
  rw [e_X12_longOf]
  (first | refine Eq.trans (q_X12_longOf_0 (by first | assumption | rfl | exact .inl rfl | exact .inr rfl)) ?_ | refine Eq.trans (q_X12_longOf_4 (by first | assumption | rfl | exact .inl rfl | exact .inr rfl)) ?_ | refine Eq.trans (q_X12_longOf_9 (by first | assumption | rfl | exact .inl rfl | exact .inr rfl)) ?_)
  exact lp_longOf k1 H R n 0 0 (by omega)
theorem lp_liesIn {u : Option Value} (k1 : ka r 1 31) (R : NR np n (I r)) : ∀ q j b, j + q = n → c_X12_liesIn_4 (d + 1) L X I J u r b (nI j) = rI (accF (rowA (I r)) q j b) (mm L X I J)
  | 0, j, b, hj => by
    have hn6 := R.1.1
    (first | refine Eq.trans (q_X12_liesIn_0 (by first | assumption | rfl | exact .inl rfl | exact .inr rfl)) ?_ | refine Eq.trans (q_X12_liesIn_4 (by first | assumption | rfl | exact .inl rfl | exact .inr rfl)) ?_ | refine Eq.trans (q_X12_liesIn_9 (by first | assumption | rfl | exact .inl rfl | exact .inr rfl)) ?_)
    refine (bndN_e (sp_manyIn k1 R)).trans ?_
    (first | refine Eq.trans (q_X12_liesIn_0 (by first | assumption | rfl | exact .inl rfl | exact .inr rfl)) ?_ | refine Eq.trans (q_X12_liesIn_4 (by first | assumption | rfl | exact .inl rfl | exact .inr rfl)) ?_ | refine Eq.trans (q_X12_liesIn_9 (by first | assumption | rfl | exact .inl rfl | exact .inr rfl)) ?_)
    rw [if_pos (by (try simp (disch := omega) only [nI_leI, nI_ltI, nI_eq, nI_add, pk_mul, n_0add, Nat.zero_add, nI_clamp]) <;> omega)]
    rfl
  | q + 1, j, b, hj => by
    have ih := lp_liesIn (u := u) k1 R q (j + 1) (rowA (I r) j b) (by omega)
    have hn6 := R.1.1
    (first | refine Eq.trans (q_X12_liesIn_0 (by first | assumption | rfl | exact .inl rfl | exact .inr rfl)) ?_ | refine Eq.trans (q_X12_liesIn_4 (by first | assumption | rfl | exact .inl rfl | exact .inr rfl)) ?_ | refine Eq.trans (q_X12_liesIn_9 (by first | assumption | rfl | exact .inl rfl | exact .inr rfl)) ?_)
    refine (bndN_e (sp_manyIn k1 R)).trans ?_
    (first | refine Eq.trans (q_X12_liesIn_0 (by first | assumption | rfl | exact .inl rfl | exact .inr rfl)) ?_ | refine Eq.trans (q_X12_liesIn_4 (by first | assumption | rfl | exact .inl rfl | exact .inr rfl)) ?_ | refine Eq.trans (q_X12_liesIn_9 (by first | assumption | rfl | exact .inl rfl | exact .inr rfl)) ?_)
    rw [if_neg (by (try simp (disch := omega) only [nI_leI, nI_ltI, nI_eq, nI_add, pk_mul, n_0add, Nat.zero_add, nI_clamp]) <;> omega), n_0add, gd_t (inb_n (by omega) (by decide)), nI_clamp (by omega), nI_add]
    exact ih
theorem sp_liesIn (k1 : ka r 1 31) (R : NR np n (I r)) : runM (d + 2) nX12_liesIn [.ref 72, .ref r] (mm L X I J) = rI (rowB (I r) n) (mm L X I J) := by
  rw [e_X12_liesIn]
  (first | refine Eq.trans (q_X12_liesIn_0 (by first | assumption | rfl | exact .inl rfl | exact .inr rfl)) ?_ | refine Eq.trans (q_X12_liesIn_4 (by first | assumption | rfl | exact .inl rfl | exact .inr rfl)) ?_ | refine Eq.trans (q_X12_liesIn_9 (by first | assumption | rfl | exact .inl rfl | exact .inr rfl)) ?_)
  exact lp_liesIn k1 R n 0 (nI 0) (by omega)
theorem lp_outIn {nf : Nat} (k1 : ka r 1 31) (hf : I 76 2 = nI nf) (h5 : nf ≤ 5) : ∀ q j b, j + q = nf → c_X12_outIn_4 d L X I J r (nI b) (nI j) = rI (nI (accF (bitA (outP (I r))) q j b)) (mm L X I J)
  | 0, j, b, hj => by
    (first | refine Eq.trans (q_X12_outIn_0 (by first | assumption | rfl | exact .inl rfl | exact .inr rfl)) ?_ | refine Eq.trans (q_X12_outIn_4 (by first | assumption | rfl | exact .inl rfl | exact .inr rfl)) ?_ | refine Eq.trans (q_X12_outIn_32 (by first | assumption | rfl | exact .inl rfl | exact .inr rfl)) ?_)
    rw [hf, if_pos (by (try simp (disch := omega) only [nI_leI, nI_ltI, nI_eq, nI_add, pk_mul, n_0add, Nat.zero_add, nI_clamp]) <;> omega)]
    rfl
  | q + 1, j, b, hj => by
    have ih := lp_outIn k1 hf h5 q (j + 1) (bitA (outP (I r)) j b) (by omega)
    (first | refine Eq.trans (q_X12_outIn_0 (by first | assumption | rfl | exact .inl rfl | exact .inr rfl)) ?_ | refine Eq.trans (q_X12_outIn_4 (by first | assumption | rfl | exact .inl rfl | exact .inr rfl)) ?_ | refine Eq.trans (q_X12_outIn_32 (by first | assumption | rfl | exact .inl rfl | exact .inr rfl)) ?_)
    rw [hf, if_neg (by (try simp (disch := omega) only [nI_leI, nI_ltI, nI_eq, nI_add, pk_mul, n_0add, Nat.zero_add, nI_clamp]) <;> omega), nI_add, gd_t (inb_n (by omega) (by decide)), nI_clamp (by omega)]
    show _ = rI (nI (accF (bitA (outP (I r))) q (j + 1) (bitA (outP (I r)) j b))) _
    by_cases hx : I r (24 + j) = -1
    · rw [if_pos hx]
      (first | refine Eq.trans (q_X12_outIn_0 (by first | assumption | rfl | exact .inl rfl | exact .inr rfl)) ?_ | refine Eq.trans (q_X12_outIn_4 (by first | assumption | rfl | exact .inl rfl | exact .inr rfl)) ?_ | refine Eq.trans (q_X12_outIn_32 (by first | assumption | rfl | exact .inl rfl | exact .inr rfl)) ?_)
      rw [nI_add, n_or, Nat.or_zero]
      have e : bitA (outP (I r)) j b = b := if_neg (by simp [outP, hx])
      rw [e] at ih
      rw [e]
      exact ih
    · rw [if_neg hx]
      (first | refine Eq.trans (q_X12_outIn_0 (by first | assumption | rfl | exact .inl rfl | exact .inr rfl)) ?_ | refine Eq.trans (q_X12_outIn_4 (by first | assumption | rfl | exact .inl rfl | exact .inr rfl)) ?_ | refine Eq.trans (q_X12_outIn_32 (by first | assumption | rfl | exact .inl rfl | exact .inr rfl)) ?_)
      rw [nI_add, n_pow (by omega), n_or]
      have e : bitA (outP (I r)) j b = b ||| 2 ^ j := if_pos (by simp [outP, hx])
      rw [e] at ih
      rw [e]
      exact ih
theorem sp_outIn {nf : Nat} (k1 : ka r 1 31) (hf : I 76 2 = nI nf) (h5 : nf ≤ 5) : runM (d + 1) nX12_outIn [.ref 72, .ref r] (mm L X I J) = rI (nI (bitsN (outP (I r)) nf)) (mm L X I J) := by
  rw [e_X12_outIn]
  (first | refine Eq.trans (q_X12_outIn_0 (by first | assumption | rfl | exact .inl rfl | exact .inr rfl)) ?_ | refine Eq.trans (q_X12_outIn_4 (by first | assumption | rfl | exact .inl rfl | exact .inr rfl)) ?_ | refine Eq.trans (q_X12_outIn_32 (by first | assumption | rfl | exact .inl rfl | exact .inr rfl)) ?_)
  exact lp_outIn k1 hf h5 nf 0 0 (by omega)
/-! the class -/
theorem sp_wayOf0 (h0 : oc3 a) {x : Int32} : runM (d + 2) nX3_wayOf [.ref a, .int x] (mm L X I J) = rI (nI 2 * x + ((I a 4 >>> (x &&& 31)) &&& nI 1)) (mm L X I J) := by
  rw [e_X3_wayOf]
  (first | refine Eq.trans (q_X3_wayOf_0 (by first | assumption | rfl | exact .inl rfl | exact .inr rfl)) ?_ | refine Eq.trans (q_X3_wayOf_11) ?_)
  exact (bndN_e sp_bit).trans q_X3_wayOf_11
theorem sp_wayOf (h0 : oc3 a) (C : NC I a n N) (h6 : p < 6) : runM (d + 2) nX3_wayOf [.ref a, .int (nI p)] (mm L X I J) = rI (nI (2 * p + nv (N (6 + p)))) (mm L X I J) := by
  obtain ⟨-, -, -, -, -, -, -, T, c1, c2, c3⟩ := C
  rw [sp_wayOf0 h0, c2, n_bit (by omega) (by omega), c3 p h6, nv_n (Nat.lt_trans tb_lt (by decide)), pk_mul, nI_add]
theorem lp_placeC (h0 : oc3 a) (C : NC I a n N) (h6 : n ≤ 6) {x : Int32} : ∀ q j, j + q = n → c_X3_placeOf_2 d L X I J a x (nI j) = rI (o2i (fndF (fun k => decide (N k = x)) q j)) (mm L X I J)
  | 0, j, hj => by
    obtain ⟨c1, -⟩ := C
    (first | refine Eq.trans (q_X3_placeOf_0 (by first | assumption | rfl | exact .inl rfl | exact .inr rfl)) ?_ | refine Eq.trans (q_X3_placeOf_2 (by first | assumption | rfl | exact .inl rfl | exact .inr rfl)) ?_)
    rw [c1, if_pos (by (try simp (disch := omega) only [nI_leI, nI_ltI, nI_eq, nI_add, pk_mul, n_0add, Nat.zero_add, nI_clamp]) <;> omega)]
    rfl
  | q + 1, j, hj => by
    have ih := lp_placeC (x := x) h0 C h6 q (j + 1) (by omega)
    obtain ⟨c1, c2, -⟩ := C
    (first | refine Eq.trans (q_X3_placeOf_0 (by first | assumption | rfl | exact .inl rfl | exact .inr rfl)) ?_ | refine Eq.trans (q_X3_placeOf_2 (by first | assumption | rfl | exact .inl rfl | exact .inr rfl)) ?_)
    rw [c1, if_neg (by (try simp (disch := omega) only [nI_leI, nI_ltI, nI_eq, nI_add, pk_mul, n_0add, Nat.zero_add, nI_clamp]) <;> omega), if_neg (by (try simp (disch := omega) only [nI_leI, nI_ltI, nI_eq, nI_add, pk_mul, n_0add, Nat.zero_add, nI_clamp]) <;> omega), gd_t (inb_n (by omega) (by decide)), nI_clamp (by omega), c2 j (by omega)]
    unfold fndF
    by_cases hx : N j = x
    · rw [if_pos hx, if_pos (decide_eq_true hx)]
      rfl
    · rw [if_neg hx, if_neg (by simpa using hx), nI_add]
      exact ih
theorem sp_placeC (h0 : oc3 a) (C : NC I a n N) (h6 : n ≤ 6) {x : Int32} : runM (d + 1) nX3_placeOf [.ref a, .int x] (mm L X I J) = rI (o2i (fndF (fun k => decide (N k = x)) n 0)) (mm L X I J) := by
  rw [e_X3_placeOf]
  (first | refine Eq.trans (q_X3_placeOf_0 (by first | assumption | rfl | exact .inl rfl | exact .inr rfl)) ?_ | refine Eq.trans (q_X3_placeOf_2 (by first | assumption | rfl | exact .inl rfl | exact .inr rfl)) ?_)
  exact lp_placeC h0 C h6 n 0 (by omega)
theorem lp_rowBits (h0 : oc3 a) (C : NC I a n N) (h6 : n ≤ 6) : ∀ q j b, j + q = n → c_X3_rowBits_4 d L X I J a b (nI j) = rI (accF (rowA N) q j b) (mm L X I J)
  | 0, j, b, hj => by
    obtain ⟨c1, -⟩ := C
    (first | refine Eq.trans (q_X3_rowBits_0 (by first | assumption | rfl | exact .inl rfl | exact .inr rfl)) ?_ | refine Eq.trans (q_X3_rowBits_4 (by first | assumption | rfl | exact .inl rfl | exact .inr rfl)) ?_)
    rw [c1, if_pos (by (try simp (disch := omega) only [nI_leI, nI_ltI, nI_eq, nI_add, pk_mul, n_0add, Nat.zero_add, nI_clamp]) <;> omega)]
    rfl
  | q + 1, j, b, hj => by
    have ih := lp_rowBits h0 C h6 q (j + 1) (rowA N j b) (by omega)
    obtain ⟨c1, c2, -⟩ := C
    (first | refine Eq.trans (q_X3_rowBits_0 (by first | assumption | rfl | exact .inl rfl | exact .inr rfl)) ?_ | refine Eq.trans (q_X3_rowBits_4 (by first | assumption | rfl | exact .inl rfl | exact .inr rfl)) ?_)
    rw [c1, if_neg (by (try simp (disch := omega) only [nI_leI, nI_ltI, nI_eq, nI_add, pk_mul, n_0add, Nat.zero_add, nI_clamp]) <;> omega), if_neg (by (try simp (disch := omega) only [nI_leI, nI_ltI, nI_eq, nI_add, pk_mul, n_0add, Nat.zero_add, nI_clamp]) <;> omega), gd_t (inb_n (by omega) (by decide)), nI_clamp (by omega), c2 j (by omega), nI_add]
    exact ih
theorem sp_rowBits (h0 : oc3 a) (C : NC I a n N) (h6 : n ≤ 6) : runM (d + 1) nX3_rowBits [.ref a] (mm L X I J) = rI (rowB N n) (mm L X I J) := by
  rw [e_X3_rowBits]
  (first | refine Eq.trans (q_X3_rowBits_0 (by first | assumption | rfl | exact .inl rfl | exact .inr rfl)) ?_ | refine Eq.trans (q_X3_rowBits_4 (by first | assumption | rfl | exact .inl rfl | exact .inr rfl)) ?_)
  exact lp_rowBits h0 C h6 n 0 (nI 0) (by omega)
theorem lp_outBits (h0 : oc3 a) (C : NC I a n N) : ∀ q j b, j + q = 5 → c_X3_outBits_4 d L X I J a (nI b) (nI j) = rI (nI (accF (bitA (outP N)) q j b)) (mm L X I J)
  | 0, j, b, hj => by
    (first | refine Eq.trans (q_X3_outBits_0 (by first | assumption | rfl | exact .inl rfl | exact .inr rfl)) ?_ | refine Eq.trans (q_X3_outBits_4 (by first | assumption | rfl | exact .inl rfl | exact .inr rfl)) ?_ | refine Eq.trans (q_X3_outBits_25 (by first | assumption | rfl | exact .inl rfl | exact .inr rfl)) ?_)
    rw [if_pos (by (try simp (disch := omega) only [nI_leI, nI_ltI, nI_eq, nI_add, pk_mul, n_0add, Nat.zero_add, nI_clamp]) <;> omega)]
    rfl
  | q + 1, j, b, hj => by
    have ih := lp_outBits h0 C q (j + 1) (bitA (outP N) j b) (by omega)
    obtain ⟨-, -, -, -, c5, -⟩ := C
    (first | refine Eq.trans (q_X3_outBits_0 (by first | assumption | rfl | exact .inl rfl | exact .inr rfl)) ?_ | refine Eq.trans (q_X3_outBits_4 (by first | assumption | rfl | exact .inl rfl | exact .inr rfl)) ?_ | refine Eq.trans (q_X3_outBits_25 (by first | assumption | rfl | exact .inl rfl | exact .inr rfl)) ?_)
    rw [if_neg (by (try simp (disch := omega) only [nI_leI, nI_ltI, nI_eq, nI_add, pk_mul, n_0add, Nat.zero_add, nI_clamp]) <;> omega), gd_t (inb_n (by omega) (by decide)), nI_clamp (by omega), c5 j (by omega)]
    show _ = rI (nI (accF (bitA (outP N)) q (j + 1) (bitA (outP N) j b))) _
    by_cases hx : N (24 + j) = -1
    · rw [if_pos hx]
      (first | refine Eq.trans (q_X3_outBits_0 (by first | assumption | rfl | exact .inl rfl | exact .inr rfl)) ?_ | refine Eq.trans (q_X3_outBits_4 (by first | assumption | rfl | exact .inl rfl | exact .inr rfl)) ?_ | refine Eq.trans (q_X3_outBits_25 (by first | assumption | rfl | exact .inl rfl | exact .inr rfl)) ?_)
      rw [nI_add]
      have e : bitA (outP N) j b = b := if_neg (by simp [outP, hx])
      rw [e] at ih
      rw [e]
      exact ih
    · rw [if_neg hx]
      (first | refine Eq.trans (q_X3_outBits_0 (by first | assumption | rfl | exact .inl rfl | exact .inr rfl)) ?_ | refine Eq.trans (q_X3_outBits_4 (by first | assumption | rfl | exact .inl rfl | exact .inr rfl)) ?_ | refine Eq.trans (q_X3_outBits_25 (by first | assumption | rfl | exact .inl rfl | exact .inr rfl)) ?_)
      rw [nI_add, n_pow (by omega), n_or]
      have e : bitA (outP N) j b = b ||| 2 ^ j := if_pos (by simp [outP, hx])
      rw [e] at ih
      rw [e]
      exact ih
theorem sp_outBits (h0 : oc3 a) (C : NC I a n N) : runM (d + 1) nX3_outBits [.ref a] (mm L X I J) = rI (nI (bitsN (outP N) 5)) (mm L X I J) := by
  rw [e_X3_outBits]
  (first | refine Eq.trans (q_X3_outBits_0 (by first | assumption | rfl | exact .inl rfl | exact .inr rfl)) ?_ | refine Eq.trans (q_X3_outBits_4 (by first | assumption | rfl | exact .inl rfl | exact .inr rfl)) ?_ | refine Eq.trans (q_X3_outBits_25 (by first | assumption | rfl | exact .inl rfl | exact .inr rfl)) ?_)
  exact lp_outBits h0 C 5 0 0 (by omega)
theorem lp_longNow (h0 : oc3 a) (C : NC I a n N) (R : NR (h 0 0) n N) (K : HC I h m) (ok : HOK h) : ∀ q j b, j + q = n → c_X3_longNow_4 (d + 1) L X I J a 3 (nI b) (nI j) = rI (nI (accF (lenA h N) q j b)) (mm L X I J)
  | 0, j, b, hj => by
    have hn6 := R.1.1
    obtain ⟨c1, -⟩ := C
    (first | refine Eq.trans (q_X3_longNow_0 (by first | assumption | rfl | exact .inl rfl | exact .inr rfl) (by first | assumption | rfl | exact .inl rfl | exact .inr rfl)) ?_ | refine Eq.trans (q_X3_longNow_4 (by first | assumption | rfl | exact .inl rfl | exact .inr rfl) (by first | assumption | rfl | exact .inl rfl | exact .inr rfl)) ?_ | refine Eq.trans (q_X3_longNow_32 (by first | assumption | rfl | exact .inl rfl | exact .inr rfl) (by first | assumption | rfl | exact .inl rfl | exact .inr rfl)) ?_)
    rw [c1, if_pos (by (try simp (disch := omega) only [nI_leI, nI_ltI, nI_eq, nI_add, pk_mul, n_0add, Nat.zero_add, nI_clamp]) <;> omega)]
    rfl
  | q + 1, j, b, hj => by
    have ih := lp_longNow h0 C R K ok q (j + 1) (lenA h N j b) (by omega)
    have hn6 := R.1.1
    have hp6 := ok.1
    obtain ⟨c1, c2, -⟩ := C
    obtain ⟨w1, w2, -, -⟩ := NR_wy R (show j < n by omega)
    have k1 := (K.2.2.2.1 _ w1).1
    (first | refine Eq.trans (q_X3_longNow_0 (by first | assumption | rfl | exact .inl rfl | exact .inr rfl) (by first | assumption | rfl | exact .inl rfl | exact .inr rfl)) ?_ | refine Eq.trans (q_X3_longNow_4 (by first | assumption | rfl | exact .inl rfl | exact .inr rfl) (by first | assumption | rfl | exact .inl rfl | exact .inr rfl)) ?_ | refine Eq.trans (q_X3_longNow_32 (by first | assumption | rfl | exact .inl rfl | exact .inr rfl) (by first | assumption | rfl | exact .inl rfl | exact .inr rfl)) ?_)
    rw [c1, if_neg (by (try simp (disch := omega) only [nI_leI, nI_ltI, nI_eq, nI_add, pk_mul, n_0add, Nat.zero_add, nI_clamp]) <;> omega), if_neg (by (try simp (disch := omega) only [nI_leI, nI_ltI, nI_eq, nI_add, pk_mul, n_0add, Nat.zero_add, nI_clamp]) <;> omega), gd_t (inb_n (by omega) (by decide)), nI_clamp (by omega), c2 j (by omega), w2]
    refine (bndN_e (sp_pick ka_4 (by decide))).trans ?_
    rw [pk_n (by omega) (by decide), k1]
    (first | refine Eq.trans (q_X3_longNow_0 (by first | assumption | rfl | exact .inl rfl | exact .inr rfl) (by first | assumption | rfl | exact .inl rfl | exact .inr rfl)) ?_ | refine Eq.trans (q_X3_longNow_4 (by first | assumption | rfl | exact .inl rfl | exact .inr rfl) (by first | assumption | rfl | exact .inl rfl | exact .inr rfl)) ?_ | refine Eq.trans (q_X3_longNow_32 (by first | assumption | rfl | exact .inl rfl | exact .inr rfl) (by first | assumption | rfl | exact .inl rfl | exact .inr rfl)) ?_)
    rw [nI_add, nI_add]
    exact ih
theorem sp_longNow (h0 : oc3 a) (C : NC I a n N) (R : NR (h 0 0) n N) (K : HC I h m) (ok : HOK h) : runM (d + 2) nX3_longNow [.ref a, .ref 3] (mm L X I J) = rI (nI (lenN h N n)) (mm L X I J) := by
  rw [e_X3_longNow]
  (first | refine Eq.trans (q_X3_longNow_0 (by first | assumption | rfl | exact .inl rfl | exact .inr rfl) (by first | assumption | rfl | exact .inl rfl | exact .inr rfl)) ?_ | refine Eq.trans (q_X3_longNow_4 (by first | assumption | rfl | exact .inl rfl | exact .inr rfl) (by first | assumption | rfl | exact .inl rfl | exact .inr rfl)) ?_ | refine Eq.trans (q_X3_longNow_32 (by first | assumption | rfl | exact .inl rfl | exact .inr rfl) (by first | assumption | rfl | exact .inl rfl | exact .inr rfl)) ?_)
  exact lp_longNow h0 C R K ok n 0 0 (by omega)
theorem folC (K : HC I h m) (ok : HOK h) {w v : Nat} (hw : w / 2 < h 0 0) (hv : v / 2 < h 0 0) : runM (d + 3) nX1_follows [.ref 3, .int (nI w), .int (nI v)] (mm L X I J) = rB (fol h m w v) (mm L X I J) := by
  have h6 := ok.1
  obtain ⟨-, -, -, k4, -, -, k7⟩ := K
  obtain ⟨-, -, a3, a4⟩ := k4 _ hw
  obtain ⟨-, -, b3, b4⟩ := k4 _ hv
  rw [sp_follows (.inl rfl)]
  have e1 : (if nI w &&& nI 1 = nI 0 then pk (I (3 + 4)) 6 (nI w >>> (nI 1 &&& 31)) else pk (I (3 + 3)) 6 (nI w >>> (nI 1 &&& 31))) = nI (ftW h w) := by
    rw [n_and1, n_shr (by omega) (by decide), Nat.pow_one, pk_n (by omega) (by decide), pk_n (by omega) (by decide)]
    unfold ftW
    by_cases e : w % 2 = 0
    · rw [if_pos (congrArg nI e), if_pos e]
      exact a4
    · rw [if_neg (by rw [nI_eq (by omega) (by decide)]; exact e), if_neg e]
      exact a3
  have e2 : (if nI v &&& nI 1 = nI 0 then pk (I (3 + 3)) 6 (nI v >>> (nI 1 &&& 31)) else pk (I (3 + 4)) 6 (nI v >>> (nI 1 &&& 31))) = nI (hdW h v) := by
    rw [n_and1, n_shr (by omega) (by decide), Nat.pow_one, pk_n (by omega) (by decide), pk_n (by omega) (by decide)]
    unfold hdW
    by_cases e : v % 2 = 0
    · rw [if_pos (congrArg nI e), if_pos e]
      exact b3
    · rw [if_neg (by rw [nI_eq (by omega) (by decide)]; exact e), if_neg e]
      exact b4
  have q1 := hd_le ok hw
  have q2 := hd_le ok hv
  rw [e1, e2, pk_n (by omega) (by decide), k7 _ (by omega), n_bit (Nat.lt_trans (bitsN_lt 10) (by decide)) (by omega), tb_bitsN (by omega)]
  congr 3
  unfold fol
  by_cases e : jn h m (ftW h w) (hdW h v) = true
  · rw [if_pos e, e]
    decide
  · rw [if_neg e, show jn h m (ftW h w) (hdW h v) = false by simpa using e]
    decide
theorem row_full (R : NR np 6 N) (hp : p < np) : inRow 6 N p = true := by
  obtain ⟨⟨-, h6⟩, h2, -, h4, -⟩ := R
  by_cases hc : inRow 6 N p = true
  · exact hc
  · exfalso
    have hn : fndF (fun k => decide (N k = nI p)) 6 0 = none := by
      unfold inRow at hc
      simpa using hc
    have hno := fndF_non 6 0 hn
    have key : ∀ k, k < 6 → nv (N k) ≠ p := by
      intro k hk e
      have h0 := hno k (by omega) (by omega)
      rw [decide_eq_false_iff_not] at h0
      exact h0 (by rw [(h2 k hk).1, e])
    obtain ⟨k, k1, k2⟩ := fb_onto (n := 6) (f := fun k => nv (N k)) (fun i hi => by have := (h2 i hi).2; omega) h4 (y := p) (by omega)
    exact key k k1 k2
theorem sp_canLayC (h0 : oc3 a) (C : NC I a n N) (R : NR (h 0 0) n N) (K : HC I h m) (ok : HOK h) {w : Nat} (hw : w / 2 < h 0 0) : runM (d + 4) nX3_canLay [.ref a, .ref 3, .int (nI w)] (mm L X I J) = rB (canL h m n N w) (mm L X I J) := by
  have hn6 := R.1.1
  have hp6 := ok.1
  have c1 := C.1
  have c2 := C.2.1
  rw [e_X3_canLay]
  (first | refine Eq.trans (q_X3_canLay_0 (by first | assumption | rfl | exact .inl rfl | exact .inr rfl) (by first | assumption | rfl | exact .inl rfl | exact .inr rfl)) ?_ | refine Eq.trans (q_X3_canLay_7 (by first | assumption | rfl | exact .inl rfl | exact .inr rfl) (by first | assumption | rfl | exact .inl rfl | exact .inr rfl)) ?_ | refine Eq.trans (q_X3_canLay_44 (by first | assumption | rfl | exact .inl rfl | exact .inr rfl) (by first | assumption | rfl | exact .inl rfl | exact .inr rfl)) ?_ | refine Eq.trans (q_X3_canLay_47 (by first | assumption | rfl | exact .inl rfl | exact .inr rfl)) ?_ | refine Eq.trans (q_X3_canLay_51) ?_)
  rw [n_shr (by omega) (by decide), Nat.pow_one]
  refine (bnd_e (sp_placeC h0 C hn6)).trans ?_
  (first | refine Eq.trans (q_X3_canLay_0 (by first | assumption | rfl | exact .inl rfl | exact .inr rfl) (by first | assumption | rfl | exact .inl rfl | exact .inr rfl)) ?_ | refine Eq.trans (q_X3_canLay_7 (by first | assumption | rfl | exact .inl rfl | exact .inr rfl) (by first | assumption | rfl | exact .inl rfl | exact .inr rfl)) ?_ | refine Eq.trans (q_X3_canLay_44 (by first | assumption | rfl | exact .inl rfl | exact .inr rfl) (by first | assumption | rfl | exact .inl rfl | exact .inr rfl)) ?_ | refine Eq.trans (q_X3_canLay_47 (by first | assumption | rfl | exact .inl rfl | exact .inr rfl)) ?_ | refine Eq.trans (q_X3_canLay_51) ?_)
  unfold canL
  by_cases hs : inRow n N (w / 2) = false
  · rw [if_pos ((o2i_none (fnd_small (by omega))).mpr hs), hs, c1]
    have hn5 : n < 6 := by
      rcases Nat.lt_or_ge n 6 with q | q
      · exact q
      · have e : n = 6 := by omega
        subst e
        rw [row_full R hw] at hs
        cases hs
    rw [if_pos (by (try simp (disch := omega) only [nI_leI, nI_ltI, nI_eq, nI_add, pk_mul, n_0add, Nat.zero_add, nI_clamp]) <;> omega)]
    by_cases hz : n = 0
    · rw [if_pos (by (try simp (disch := omega) only [nI_leI, nI_ltI, nI_eq, nI_add, pk_mul, n_0add, Nat.zero_add, nI_clamp]) <;> omega), decide_eq_true hz]
      rfl
    · rw [if_neg (by (try simp (disch := omega) only [nI_leI, nI_ltI, nI_eq, nI_add, pk_mul, n_0add, Nat.zero_add, nI_clamp]) <;> omega), decide_eq_false hz]
      obtain ⟨n1, rfl⟩ : ∃ n1, n = n1 + 1 := ⟨n - 1, by omega⟩
      obtain ⟨w1, w2, w3, w4⟩ := NR_wy R (show n1 < n1 + 1 by omega)
      rw [n_sub1]
      refine (bndN_e (sp_pick (ks3_1 h0) (by decide))).trans ?_
      rw [pk_n (by omega) (by decide), c2 n1 (by omega), w2]
      (first | refine Eq.trans (q_X3_canLay_0 (by first | assumption | rfl | exact .inl rfl | exact .inr rfl) (by first | assumption | rfl | exact .inl rfl | exact .inr rfl)) ?_ | refine Eq.trans (q_X3_canLay_7 (by first | assumption | rfl | exact .inl rfl | exact .inr rfl) (by first | assumption | rfl | exact .inl rfl | exact .inr rfl)) ?_ | refine Eq.trans (q_X3_canLay_44 (by first | assumption | rfl | exact .inl rfl | exact .inr rfl) (by first | assumption | rfl | exact .inl rfl | exact .inr rfl)) ?_ | refine Eq.trans (q_X3_canLay_47 (by first | assumption | rfl | exact .inl rfl | exact .inr rfl)) ?_ | refine Eq.trans (q_X3_canLay_51) ?_)
      refine (bnd_e (sp_wayOf h0 C (by omega))).trans ?_
      (first | refine Eq.trans (q_X3_canLay_0 (by first | assumption | rfl | exact .inl rfl | exact .inr rfl) (by first | assumption | rfl | exact .inl rfl | exact .inr rfl)) ?_ | refine Eq.trans (q_X3_canLay_7 (by first | assumption | rfl | exact .inl rfl | exact .inr rfl) (by first | assumption | rfl | exact .inl rfl | exact .inr rfl)) ?_ | refine Eq.trans (q_X3_canLay_44 (by first | assumption | rfl | exact .inl rfl | exact .inr rfl) (by first | assumption | rfl | exact .inl rfl | exact .inr rfl)) ?_ | refine Eq.trans (q_X3_canLay_47 (by first | assumption | rfl | exact .inl rfl | exact .inr rfl)) ?_ | refine Eq.trans (q_X3_canLay_51) ?_)
      refine (bnd_e (folC K ok (by omega) hw)).trans ?_
      (first | refine Eq.trans (q_X3_canLay_0 (by first | assumption | rfl | exact .inl rfl | exact .inr rfl) (by first | assumption | rfl | exact .inl rfl | exact .inr rfl)) ?_ | refine Eq.trans (q_X3_canLay_7 (by first | assumption | rfl | exact .inl rfl | exact .inr rfl) (by first | assumption | rfl | exact .inl rfl | exact .inr rfl)) ?_ | refine Eq.trans (q_X3_canLay_44 (by first | assumption | rfl | exact .inl rfl | exact .inr rfl) (by first | assumption | rfl | exact .inl rfl | exact .inr rfl)) ?_ | refine Eq.trans (q_X3_canLay_47 (by first | assumption | rfl | exact .inl rfl | exact .inr rfl)) ?_ | refine Eq.trans (q_X3_canLay_51) ?_)
      rw [Nat.add_sub_cancel]
      show _ = rB (fol h m (wyN N n1) w) _
      unfold wyN
      generalize fol h m _ w = b
      cases b
      · exact if_pos rfl
      · exact if_neg (by decide)
  · rw [if_neg (fun q => hs ((o2i_none (fnd_small (by omega))).mp q)), show inRow n N (w / 2) = true by simpa using hs]
    rfl
end NG
