/-! NAMES ARE READ, BY THE MODEL -/
section WD
variable {d L X : Nat} {I : MI32} {J : MI64} {W : Nat → Nat} {z a : Nat}
def vW (W : Nat → Nat) (t : Nat) : Nat → Nat
  | 0 => 0
  | n + 1 => 27 * vW W t n + (W (t + n) - 96)
theorem vW_lt {t : Nat} : ∀ n, (∀ i, i < n → W (t + i) ≤ 122) → vW W t n < 27 ^ n
  | 0, _ => Nat.one_pos
  | n + 1, h => by
    have h1 := vW_lt n (fun i hi => h i (by omega))
    have h2 := h n (by omega)
    show 27 * vW W t n + (W (t + n) - 96) < 27 ^ n * 27
    omega
theorem vW_inj {V : Nat → Nat} {t s : Nat} : ∀ n k, (∀ i, i < n → 97 ≤ W (t + i) ∧ W (t + i) ≤ 122) → (∀ i, i < k → 97 ≤ V (s + i) ∧ V (s + i) ≤ 122) → vW W t n = vW V s k → n = k ∧ ∀ i, i < n → W (t + i) = V (s + i)
  | 0, 0, _, _, _ => ⟨rfl, fun i hi => absurd hi (Nat.not_lt_zero i)⟩
  | 0, k + 1, _, h2, e => by
    exfalso
    have := h2 k (by omega)
    have e' : 0 = 27 * vW V s k + (V (s + k) - 96) := e
    omega
  | n + 1, 0, h1, _, e => by
    exfalso
    have := h1 n (by omega)
    have e' : 27 * vW W t n + (W (t + n) - 96) = 0 := e
    omega
  | n + 1, k + 1, h1, h2, e => by
    have a1 := h1 n (by omega)
    have a2 := h2 k (by omega)
    have e' : 27 * vW W t n + (W (t + n) - 96) = 27 * vW V s k + (V (s + k) - 96) := e
    obtain ⟨q1, q2⟩ := vW_inj n k (fun i hi => h1 i (by omega)) (fun i hi => h2 i (by omega)) (by omega)
    subst q1
    refine ⟨rfl, fun i hi => ?_⟩
    by_cases q : i = n
    · subst q
      omega
    · exact q2 i (by omega)
theorem mt_iff {e : Nat} : ∀ (w : List Nat) t, mt W e w t = true ↔ ∀ i, i < w.length → t + i < e ∧ W (t + i) = w.getD i 0
  | [], t => ⟨fun _ i hi => absurd hi (Nat.not_lt_zero i), fun _ => rfl⟩
  | c :: w, t => by
    have ih := mt_iff (e := e) w (t + 1)
    unfold mt
    rw [Bool.and_eq_true, Bool.and_eq_true, decide_eq_true_eq, decide_eq_true_eq, ih]
    constructor
    · rintro ⟨⟨q1, q2⟩, q3⟩ i hi
      cases i with
      | zero => exact ⟨q1, q2⟩
      | succ i =>
        have := q3 i (by rw [List.length_cons] at hi; omega)
        rw [show t + (i + 1) = t + 1 + i by omega]
        exact this
    · intro q
      refine ⟨q 0 (by simp), fun i hi => ?_⟩
      have := q (i + 1) (by rw [List.length_cons]; omega)
      rw [show t + 1 + i = t + (i + 1) by omega]
      exact this
/-- a word as the model tells it -/
def sx (x1 x2 x3 x4 x5 x6 : Nat) : Nat :=
  let v := 27 * (27 * x1 + x2) + x3
  let v := if x4 = 0 then v else 27 * v + x4
  let v := if x5 = 0 then v else 27 * v + x5
  if x6 = 0 then v else 27 * v + x6
/-- the word w stands here -/
def isWd (W : Nat → Nat) (z a : Nat) (w : List Nat) : Bool := decide (mt W (wE W z a) w (sk W z a) = true ∧ sk W z a + w.length = wE W z a)
def wv (W : Nat → Nat) (t e : Nat) : Int32 := if e - t ≤ 6 then nI (vW W t (e - t)) else -1
theorem wE_S : ∀ i, sk W z a ≤ i → i < wE W z a → 97 ≤ W i ∧ W i ≤ 122 := fun i h1 h2 => of_decide_eq_true (adv_in (P := isS W) _ _ i h1 h2)
theorem wE_sk (ha : a ≤ z) : wE W z (sk W z a) = wE W z a := by
  unfold wE
  rw [sk_sk ha]
theorem isWd_sk {w : List Nat} (ha : a ≤ z) : isWd W z (sk W z a) w = isWd W z a w := by
  unfold isWd
  rw [sk_sk ha, wE_sk ha]
theorem wv_iff {w : List Nat} (ha : a ≤ z) (hw : ∀ c, c ∈ w → 97 ≤ c ∧ c ≤ 122) (hl : w.length ≤ 6) : wv W (sk W z a) (wE W z a) = nI (vW (fun i => w.getD i 0) 0 w.length) ↔ isWd W z a w = true := by
  have hs := sk_le (W := W) ha
  have he := wE_le (W := W) ha
  have gw : ∀ i, i < w.length → 97 ≤ w.getD (0 + i) 0 ∧ w.getD (0 + i) 0 ≤ 122 := by
    intro i hi
    rw [Nat.zero_add, List.getD_eq_getElem?_getD, List.getElem?_eq_getElem hi]
    exact hw _ (List.getElem_mem hi)
  have gW : ∀ i, i < wE W z a - sk W z a → 97 ≤ W (sk W z a + i) ∧ W (sk W z a + i) ≤ 122 := fun i hi => wE_S (z := z) (a := a) _ (by omega) (by omega)
  have p6 : ∀ n, n ≤ 6 → 27 ^ n ≤ 387420489 := by decide
  have b1 := vW_lt (W := fun i => w.getD i 0) (t := 0) w.length (fun i hi => (gw i hi).2)
  have b1' := p6 w.length hl
  unfold isWd wv
  rw [decide_eq_true_eq, mt_iff]
  by_cases q : wE W z a - sk W z a ≤ 6
  · have b2 := vW_lt (W := W) (t := sk W z a) (wE W z a - sk W z a) (fun i hi => (gW i hi).2)
    have b2' := p6 _ q
    rw [if_pos q, nI_eq (by omega) (by omega)]
    constructor
    · intro e
      obtain ⟨e1, e2⟩ := vW_inj _ _ gW gw e
      refine ⟨fun i hi => ⟨by omega, ?_⟩, by omega⟩
      have := e2 i (by omega)
      rw [Nat.zero_add] at this
      exact this
    · rintro ⟨q1, q2⟩
      have el : wE W z a - sk W z a = w.length := by omega
      rw [el]
      have : ∀ n, n ≤ w.length → vW W (sk W z a) n = vW (fun i => w.getD i 0) 0 n := by
        intro n
        induction n with
        | zero => intro _; rfl
        | succ n ih =>
          intro hn
          show 27 * vW W (sk W z a) n + (W (sk W z a + n) - 96) = 27 * vW (fun i => w.getD i 0) 0 n + (w.getD (0 + n) 0 - 96)
          rw [ih (by omega), (q1 n (by omega)).2, Nat.zero_add]
      exact this _ (Nat.le_refl _)
  · rw [if_neg q]
    constructor
    · intro e
      exact absurd e.symm (nI_m1 _ (by omega))
    · rintro ⟨_, q2⟩
      omega
theorem lp_wordHere (B : BM I W) (B2 : ∀ k, k < 600 → W k < 256) (hz : I 72 2 = nI z) (hz2 : z ≤ 600) {t : Nat} (h4 : I 72 4 = nI t) (ht : t ≤ z) : ∀ r n, z - (t + n) = r → t + n ≤ z → (∀ i, i < n → 97 ≤ W (t + i) ∧ W (t + i) ≤ 122) → Rt L X (c_X12_wordHere_8 (d + 1) L X I J (nI (vW W t (if n ≤ 6 then n else 6))) (nI n)) (some (.int (wv W t (adv (isS W) r (t + n))))) (fun I' J' => I' = I ∧ J' = J) := by
  have done : ∀ n, t + n ≤ z → Rt L X (runI (runM (d + 1)) iX12_wordHere (21, [some (.ref 72), some (.int (nI (vW W t (if n ≤ 6 then n else 6)))), some (.int (nI n))], [.int (nI 0)], mm L X I J)) (some (.int (wv W t (t + n)))) (fun I' J' => I' = I ∧ J' = J) := by
    intro n hn
    unfold wv
    rw [show t + n - t = n by omega]
    (first | refine rt_eq (q_X12_wordHere_0) ?_ | refine rt_eq (q_X12_wordHere_4) ?_ | refine rt_eq (q_X12_wordHere_8) ?_ | refine rt_eq (q_X12_wordHere_18) ?_ | refine rt_eq (q_X12_wordHere_21) ?_ | refine rt_eq (q_X12_wordHere_54) ?_ | refine rt_eq (q_X12_wordHere_44) ?_)
    refine rt_t rfl ?_
    by_cases q : n ≤ 6
    · rw [if_pos q, if_pos q]
      exact rt_t (by (try simp (disch := omega) only [nI_leI, nI_ltI, nI_eq, nI_add, pk_mul, n_0add, Nat.zero_add, nI_clamp]) <;> omega) (rt_ret ⟨rfl, rfl⟩)
    · rw [if_neg q, if_neg q]
      exact rt_f (by (try simp (disch := omega) only [nI_leI, nI_ltI, nI_eq, nI_add, pk_mul, n_0add, Nat.zero_add, nI_clamp]) <;> omega) (rt_ret ⟨rfl, rfl⟩)
  intro r
  induction r with
  | zero =>
    intro n hr hn hi
    (first | refine rt_eq (q_X12_wordHere_0) ?_ | refine rt_eq (q_X12_wordHere_4) ?_ | refine rt_eq (q_X12_wordHere_8) ?_ | refine rt_eq (q_X12_wordHere_18) ?_ | refine rt_eq (q_X12_wordHere_21) ?_ | refine rt_eq (q_X12_wordHere_54) ?_ | refine rt_eq (q_X12_wordHere_44) ?_)
    rw [h4, nI_add]
    refine rt_be (sp_byteM B hz hz2 (by omega)) ?_
    rw [show byT W z (t + n) = -1 from if_neg (by omega)]
    (first | refine rt_eq (q_X12_wordHere_0) ?_ | refine rt_eq (q_X12_wordHere_4) ?_ | refine rt_eq (q_X12_wordHere_8) ?_ | refine rt_eq (q_X12_wordHere_18) ?_ | refine rt_eq (q_X12_wordHere_21) ?_ | refine rt_eq (q_X12_wordHere_54) ?_ | refine rt_eq (q_X12_wordHere_44) ?_)
    refine rt_bne sp_isSml ?_
    rw [sml_n]
    exact done n hn
  | succ r ih =>
    intro n hr hn hi
    have hb := B2 (t + n) (by omega)
    have eb : byT W z (t + n) = nI (W (t + n)) := if_pos (by omega)
    (first | refine rt_eq (q_X12_wordHere_0) ?_ | refine rt_eq (q_X12_wordHere_4) ?_ | refine rt_eq (q_X12_wordHere_8) ?_ | refine rt_eq (q_X12_wordHere_18) ?_ | refine rt_eq (q_X12_wordHere_21) ?_ | refine rt_eq (q_X12_wordHere_54) ?_ | refine rt_eq (q_X12_wordHere_44) ?_)
    rw [h4, nI_add]
    refine rt_be (sp_byteM B hz hz2 (by omega)) ?_
    rw [eb]
    (first | refine rt_eq (q_X12_wordHere_0) ?_ | refine rt_eq (q_X12_wordHere_4) ?_ | refine rt_eq (q_X12_wordHere_8) ?_ | refine rt_eq (q_X12_wordHere_18) ?_ | refine rt_eq (q_X12_wordHere_21) ?_ | refine rt_eq (q_X12_wordHere_54) ?_ | refine rt_eq (q_X12_wordHere_44) ?_)
    refine rt_bne sp_isSml ?_
    rw [sml_W hb]
    by_cases q : isS W (t + n) = true
    · have q2 : 97 ≤ W (t + n) ∧ W (t + n) ≤ 122 := of_decide_eq_true q
      have en : adv (isS W) (r + 1) (t + n) = adv (isS W) r (t + (n + 1)) := if_pos q
      have hi2 : ∀ i, i < n + 1 → 97 ≤ W (t + i) ∧ W (t + i) ≤ 122 := by
        intro i h
        by_cases e : i = n
        · subst e
          exact q2
        · exact hi i (by omega)
      rw [q, en]
      (first | refine rt_eq (q_X12_wordHere_0) ?_ | refine rt_eq (q_X12_wordHere_4) ?_ | refine rt_eq (q_X12_wordHere_8) ?_ | refine rt_eq (q_X12_wordHere_18) ?_ | refine rt_eq (q_X12_wordHere_21) ?_ | refine rt_eq (q_X12_wordHere_54) ?_ | refine rt_eq (q_X12_wordHere_44) ?_)
      refine rt_f (show ¬ bI true = nI 0 by decide) ?_
      by_cases q6 : 6 ≤ n
      · refine rt_t (by (try simp (disch := omega) only [nI_leI, nI_ltI, nI_eq, nI_add, pk_mul, n_0add, Nat.zero_add, nI_clamp]) <;> omega) ?_
        (first | refine rt_eq (q_X12_wordHere_0) ?_ | refine rt_eq (q_X12_wordHere_4) ?_ | refine rt_eq (q_X12_wordHere_8) ?_ | refine rt_eq (q_X12_wordHere_18) ?_ | refine rt_eq (q_X12_wordHere_21) ?_ | refine rt_eq (q_X12_wordHere_54) ?_ | refine rt_eq (q_X12_wordHere_44) ?_)
        rw [nI_add]
        have ev : (if n ≤ 6 then n else 6) = (if n + 1 ≤ 6 then n + 1 else 6) := by
          rw [if_neg (show ¬ n + 1 ≤ 6 by omega)]
          by_cases e : n ≤ 6
          · rw [if_pos e]
            omega
          · rw [if_neg e]
        rw [ev]
        exact ih (n + 1) (by omega) (by omega) hi2
      · refine rt_f (by (try simp (disch := omega) only [nI_leI, nI_ltI, nI_eq, nI_add, pk_mul, n_0add, Nat.zero_add, nI_clamp]) <;> omega) ?_
        rw [h4, nI_add]
        refine rt_be (sp_byteM B hz hz2 (by omega)) ?_
        rw [eb]
        (first | refine rt_eq (q_X12_wordHere_0) ?_ | refine rt_eq (q_X12_wordHere_4) ?_ | refine rt_eq (q_X12_wordHere_8) ?_ | refine rt_eq (q_X12_wordHere_18) ?_ | refine rt_eq (q_X12_wordHere_21) ?_ | refine rt_eq (q_X12_wordHere_54) ?_ | refine rt_eq (q_X12_wordHere_44) ?_)
        (first | refine rt_eq (q_X12_wordHere_0) ?_ | refine rt_eq (q_X12_wordHere_4) ?_ | refine rt_eq (q_X12_wordHere_8) ?_ | refine rt_eq (q_X12_wordHere_18) ?_ | refine rt_eq (q_X12_wordHere_21) ?_ | refine rt_eq (q_X12_wordHere_54) ?_ | refine rt_eq (q_X12_wordHere_44) ?_)
        have e1 : nI 27 * nI (vW W t (if n ≤ 6 then n else 6)) + nI (W (t + n)) - nI 97 + nI 1 = nI (vW W t (if n + 1 ≤ 6 then n + 1 else 6)) := by
          rw [if_pos (show n ≤ 6 by omega), if_pos (show n + 1 ≤ 6 by omega), pk_mul, nI_add]
          show _ = nI (27 * vW W t n + (W (t + n) - 96))
          rw [show 27 * vW W t n + W (t + n) = (27 * vW W t n + (W (t + n) - 97)) + 97 by omega, ← nI_add _ 97, Int32.add_sub_cancel, nI_add, show 27 * vW W t n + (W (t + n) - 97) + 1 = 27 * vW W t n + (W (t + n) - 96) by omega]
        rw [e1, nI_add]
        exact ih (n + 1) (by omega) (by omega) hi2
    · have en : adv (isS W) (r + 1) (t + n) = t + n := if_neg q
      rw [Bool.eq_false_iff.mpr q, en]
      exact done n hn
theorem sp_wordHere (B : BM I W) (B2 : ∀ k, k < 600 → W k < 256) (hz : I 72 2 = nI z) (hz2 : z ≤ 600) (ha : a ≤ z) (h4 : I 72 4 = nI a) : Rt L X (runM (d + 3) nX12_wordHere [.ref 72] (mm L X I J)) (some (.int (wv W (sk W z a) (wE W z a)))) (fun I' J' => (Fr [(72, 5)] I I' ∧ I' 72 4 = nI (sk W z a)) ∧ J' = J) := by
  have hs := sk_le (W := W) ha
  rw [e_X12_wordHere]
  (first | refine rt_eq (q_X12_wordHere_0) ?_ | refine rt_eq (q_X12_wordHere_4) ?_ | refine rt_eq (q_X12_wordHere_8) ?_ | refine rt_eq (q_X12_wordHere_18) ?_ | refine rt_eq (q_X12_wordHere_21) ?_ | refine rt_eq (q_X12_wordHere_54) ?_ | refine rt_eq (q_X12_wordHere_44) ?_)
  refine rt_bnd (sp_blanks B B2 hz hz2 ha h4) ?_
  rintro I1 J1 ⟨⟨f1, f2⟩, rfl⟩
  (first | refine rt_eq (q_X12_wordHere_0) ?_ | refine rt_eq (q_X12_wordHere_4) ?_ | refine rt_eq (q_X12_wordHere_8) ?_ | refine rt_eq (q_X12_wordHere_18) ?_ | refine rt_eq (q_X12_wordHere_21) ?_ | refine rt_eq (q_X12_wordHere_54) ?_ | refine rt_eq (q_X12_wordHere_44) ?_)
  refine rt_mono (lp_wordHere (I := I1) (BM_fr B f1 (by decide)) B2 ((f1 72 2 rfl).trans hz) hz2 f2 hs.2 (z - sk W z a) 0 rfl hs.2 (fun i hi => absurd hi (Nat.not_lt_zero i))) ?_
  rintro I2 J2 ⟨rfl, rfl⟩
  exact ⟨⟨f1, f2⟩, rfl⟩
theorem sp_six {x1 x2 x3 x4 x5 x6 : Nat} (h1 : x1 < 27) (h2 : x2 < 27) (h3 : x3 < 27) (h4 : x4 < 27) (h5 : x5 < 27) (h6 : x6 < 27) : runM (d + 1) nX12_six [.int (nI x1), .int (nI x2), .int (nI x3), .int (nI x4), .int (nI x5), .int (nI x6)] (mm L X I J) = rI (nI (sx x1 x2 x3 x4 x5 x6)) (mm L X I J) := by
  have f6 : ∀ u1 u2 u3 u4 u5 u6 (v : Nat), runI (runM d) iX12_six (49, [u1, u2, u3, u4, u5, some (.int (nI x6)), u6], [.int (nI v)], mm L X I J) = rI (nI (if x6 = 0 then v else 27 * v + x6)) (mm L X I J) := by
    intro u1 u2 u3 u4 u5 u6 v
    (first | refine Eq.trans (q_X12_six_0) ?_ | refine Eq.trans (q_X12_six_29) ?_ | refine Eq.trans (q_X12_six_49) ?_)
    by_cases e : x6 = 0
    · subst e
      rw [if_pos rfl, if_pos rfl]
    · rw [if_neg e, if_neg (by rw [n_eq0 (by omega)]; exact e), pk_mul, nI_add]
  have f5 : ∀ u1 u2 u3 u4 u6 (v : Nat), runI (runM d) iX12_six (29, [u1, u2, u3, u4, some (.int (nI x5)), some (.int (nI x6)), u6], [.int (nI v)], mm L X I J) = rI (nI (if x6 = 0 then (if x5 = 0 then v else 27 * v + x5) else 27 * (if x5 = 0 then v else 27 * v + x5) + x6)) (mm L X I J) := by
    intro u1 u2 u3 u4 u6 v
    (first | refine Eq.trans (q_X12_six_0) ?_ | refine Eq.trans (q_X12_six_29) ?_ | refine Eq.trans (q_X12_six_49) ?_)
    by_cases e : x5 = 0
    · subst e
      rw [if_pos rfl, if_pos rfl]
      exact f6 _ _ _ _ _ _ v
    · rw [if_neg e, if_neg (by rw [n_eq0 (by omega)]; exact e), pk_mul, nI_add]
      exact f6 _ _ _ _ _ _ _
  rw [e_X12_six]
  (first | refine Eq.trans (q_X12_six_0) ?_ | refine Eq.trans (q_X12_six_29) ?_ | refine Eq.trans (q_X12_six_49) ?_)
  rw [pk_mul, nI_add, pk_mul, nI_add]
  unfold sx
  by_cases e : x4 = 0
  · subst e
    rw [if_pos rfl]
    exact f5 _ _ _ _ _ _
  · rw [if_neg (by rw [n_eq0 (by omega)]; exact e), pk_mul, nI_add]
    have e2 : (if x4 = 0 then 27 * (27 * x1 + x2) + x3 else 27 * (27 * (27 * x1 + x2) + x3) + x4) = 27 * (27 * (27 * x1 + x2) + x3) + x4 := if_neg e
    simp only [e2]
    exact f5 _ _ _ _ _ _
/-- the word w, as the model tells it -/
def WdA (w : List Nat) (x1 x2 x3 x4 x5 x6 : Nat) : Prop := (x1 < 27 ∧ x2 < 27 ∧ x3 < 27 ∧ x4 < 27 ∧ x5 < 27 ∧ x6 < 27) ∧ w.length ≤ 6 ∧ (∀ c, c ∈ w → 97 ≤ c ∧ c ≤ 122) ∧ sx x1 x2 x3 x4 x5 x6 = vW (fun i => w.getD i 0) 0 w.length
theorem sp_isWord {w : List Nat} {x1 x2 x3 x4 x5 x6 : Nat} (A : WdA w x1 x2 x3 x4 x5 x6) (B : BM I W) (B2 : ∀ k, k < 600 → W k < 256) (hz : I 72 2 = nI z) (hz2 : z ≤ 600) (ha : a ≤ z) (h4 : I 72 4 = nI a) (h0 : I 72 5 = nI 0) : Rt L X (runM (d + 4) nX12_isWord [.ref 72, .int (nI x1), .int (nI x2), .int (nI x3), .int (nI x4), .int (nI x5), .int (nI x6)] (mm L X I J)) (some (.int (bI (isWd W z a w)))) (fun I' J' => (Fr [(72, 5)] I I' ∧ I' 72 4 = nI (sk W z a)) ∧ J' = J) := by
  obtain ⟨⟨a1, a2, a3, a4, a5, a6⟩, hl, hw, hx⟩ := A
  have hi := wv_iff (W := W) ha hw hl
  rw [e_X12_isWord]
  (first | refine rt_eq (q_X12_isWord_0) ?_ | refine rt_eq (q_X12_isWord_11) ?_ | refine rt_eq (q_X12_isWord_23) ?_)
  refine rt_t h0 (rt_bnd (sp_wordHere B B2 hz hz2 ha h4) ?_)
  rintro I1 J1 ⟨⟨f1, f2⟩, rfl⟩
  (first | refine rt_eq (q_X12_isWord_0) ?_ | refine rt_eq (q_X12_isWord_11) ?_ | refine rt_eq (q_X12_isWord_23) ?_)
  refine rt_bne (sp_six a1 a2 a3 a4 a5 a6) ?_
  (first | refine rt_eq (q_X12_isWord_0) ?_ | refine rt_eq (q_X12_isWord_11) ?_ | refine rt_eq (q_X12_isWord_23) ?_)
  rw [hx]
  cases e : isWd W z a w with
  | true => exact rt_t (hi.mpr e) (rt_ret ⟨⟨f1, f2⟩, rfl⟩)
  | false => exact rt_f (fun q => absurd (hi.mp q) (by rw [e]; decide)) (rt_ret ⟨⟨f1, f2⟩, rfl⟩)
theorem sp_isWordF {x1 x2 x3 x4 x5 x6 : Int32} (h0 : ¬ I 72 5 = nI 0) : runM (d + 1) nX12_isWord [.ref 72, .int x1, .int x2, .int x3, .int x4, .int x5, .int x6] (mm L X I J) = rI (nI 0) (mm L X I J) := by
  rw [e_X12_isWord]
  (first | refine Eq.trans (q_X12_isWord_0) ?_ | refine Eq.trans (q_X12_isWord_11) ?_ | refine Eq.trans (q_X12_isWord_23) ?_)
  exact if_neg h0
theorem lp_skipWord (B : BM I W) (B2 : ∀ k, k < 600 → W k < 256) (hz : I 72 2 = nI z) (hz2 : z ≤ 600) : ∀ r a I', z - a = r → a ≤ z → Fr [(72, 5)] I I' → I' 72 4 = nI a → Rt L X (c_X12_skipWord_0 (d + 1) L X I' J) none (fun I'' J' => (Fr [(72, 5)] I I'' ∧ I'' 72 4 = nI (adv (isS W) r a)) ∧ J' = J) := by
  intro r
  induction r with
  | zero =>
    intro a I' hr ha hf h4
    have B' := BM_fr B hf (by decide)
    (first | refine rt_eq (q_X12_skipWord_0) ?_ | refine rt_eq (q_X12_skipWord_8) ?_ | refine rt_eq (q_X12_skipWord_11) ?_)
    rw [h4]
    refine rt_be (sp_byteM B' ((hf 72 2 rfl).trans hz) hz2 (by omega)) ?_
    rw [show byT W z a = -1 from if_neg (by omega)]
    (first | refine rt_eq (q_X12_skipWord_0) ?_ | refine rt_eq (q_X12_skipWord_8) ?_ | refine rt_eq (q_X12_skipWord_11) ?_)
    refine rt_bne sp_isSml ?_
    rw [sml_n]
    (first | refine rt_eq (q_X12_skipWord_0) ?_ | refine rt_eq (q_X12_skipWord_8) ?_ | refine rt_eq (q_X12_skipWord_11) ?_)
    exact rt_t bI_f (rt_ret ⟨⟨hf, h4⟩, rfl⟩)
  | succ r ih =>
    intro a I' hr ha hf h4
    have B' := BM_fr B hf (by decide)
    have hb := B2 a (by omega)
    (first | refine rt_eq (q_X12_skipWord_0) ?_ | refine rt_eq (q_X12_skipWord_8) ?_ | refine rt_eq (q_X12_skipWord_11) ?_)
    rw [h4]
    refine rt_be (sp_byteM B' ((hf 72 2 rfl).trans hz) hz2 (by omega)) ?_
    rw [show byT W z a = nI (W a) from if_pos (by omega)]
    (first | refine rt_eq (q_X12_skipWord_0) ?_ | refine rt_eq (q_X12_skipWord_8) ?_ | refine rt_eq (q_X12_skipWord_11) ?_)
    refine rt_bne sp_isSml ?_
    rw [sml_W hb]
    (first | refine rt_eq (q_X12_skipWord_0) ?_ | refine rt_eq (q_X12_skipWord_8) ?_ | refine rt_eq (q_X12_skipWord_11) ?_)
    by_cases q : isS W a = true
    · have en : adv (isS W) (r + 1) a = adv (isS W) r (a + 1) := if_pos q
      rw [q, en]
      refine rt_f (show ¬ bI true = nI 0 by decide) ?_
      refine rt_eq (q_X12_skipWord_0).symm ?_
      exact ih (a + 1) _ (by omega) (by omega) (fr_up hf rfl) (by rw [up2_s, h4, nI_add])
    · have en : adv (isS W) (r + 1) a = a := if_neg q
      rw [Bool.eq_false_iff.mpr q, en]
      exact rt_t bI_f (rt_ret ⟨⟨hf, h4⟩, rfl⟩)
theorem sp_skipWord (B : BM I W) (B2 : ∀ k, k < 600 → W k < 256) (hz : I 72 2 = nI z) (hz2 : z ≤ 600) (ha : a ≤ z) (h4 : I 72 4 = nI (sk W z a)) : Rt L X (runM (d + 2) nX12_skipWord [.ref 72] (mm L X I J)) none (fun I' J' => (Fr [(72, 5)] I I' ∧ I' 72 4 = nI (wE W z a)) ∧ J' = J) := by
  have hs := sk_le (W := W) ha
  rw [e_X12_skipWord]
  exact lp_skipWord B B2 hz hz2 _ _ I rfl hs.2 fr_rfl h4
theorem sp_takes {w : List Nat} {x1 x2 x3 x4 x5 x6 : Nat} (A : WdA w x1 x2 x3 x4 x5 x6) (B : BM I W) (B2 : ∀ k, k < 600 → W k < 256) (hz : I 72 2 = nI z) (hz2 : z ≤ 600) (ha : a ≤ z) (h4 : I 72 4 = nI a) (h0 : I 72 5 = nI 0) : Rt L X (runM (d + 5) nX12_takes [.ref 72, .int (nI x1), .int (nI x2), .int (nI x3), .int (nI x4), .int (nI x5), .int (nI x6)] (mm L X I J)) (some (.int (bI (isWd W z a w)))) (fun I' J' => (Fr [(72, 5)] I I' ∧ I' 72 4 = nI (if isWd W z a w = true then wE W z a else sk W z a)) ∧ J' = J) := by
  rw [e_X12_takes]
  (first | refine rt_eq (q_X12_takes_0) ?_ | refine rt_eq (q_X12_takes_13 (by first | assumption | rfl | exact .inl rfl | exact .inr rfl)) ?_ | refine rt_eq (q_X12_takes_24) ?_)
  refine rt_bnd (sp_isWord A B B2 hz hz2 ha h4 h0) ?_
  rintro I1 J1 ⟨⟨f1, f2⟩, rfl⟩
  have hv : okv (some (.int (nI x6))) = true := rfl
  (first | refine rt_eq (q_X12_takes_0) ?_ | refine rt_eq (q_X12_takes_13 (by first | assumption | rfl | exact .inl rfl | exact .inr rfl)) ?_ | refine rt_eq (q_X12_takes_24) ?_)
  cases e : isWd W z a w with
  | false =>
    exact rt_t bI_f (rt_gd (by decide) (rt_ret ⟨⟨f1, f2⟩, rfl⟩))
  | true =>
    refine rt_f (show ¬ bI true = nI 0 by decide) (rt_bnd (sp_skipWord (BM_fr B f1 (by decide)) B2 ((f1 72 2 rfl).trans hz) hz2 ha f2) ?_)
    rintro I2 J2 ⟨⟨g1, g2⟩, rfl⟩
    (first | refine rt_eq (q_X12_takes_0) ?_ | refine rt_eq (q_X12_takes_13 (by first | assumption | rfl | exact .inl rfl | exact .inr rfl)) ?_ | refine rt_eq (q_X12_takes_24) ?_)
    exact rt_gd (by decide) (rt_ret ⟨⟨fr_tr f1 g1, g2⟩, rfl⟩)
end WD
