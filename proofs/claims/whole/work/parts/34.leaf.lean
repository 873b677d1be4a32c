/-! SMALL METHODS, BOTH SIDES -/
def pk (f : Nat → Int32) (n : Nat) (x : Int32) : Int32 := if inb x n = true then f x.toNatClampNeg else nI 0
def pt (I : MI32) (r n : Nat) (x v : Int32) : MI32 := if inb x n = true then up2 I r x.toNatClampNeg v else I
theorem inb_neg {x : Int32} {n : Nat} (h : x < nI 0) : inb x n = false := by
  have h2 : x < 0 := h
  simp [inb, h2]
theorem inb_ge {x : Int32} {n : Nat} (hn : n < 2 ^ 31) (h : nI n ≤ x) : inb x n = false := by
  by_cases hi : inb x n = true
  · obtain ⟨j, h1, rfl⟩ := inb_of hi hn
    exact absurd h (nI_ge h1 hn)
  · simpa using hi
theorem pk_n {f : Nat → Int32} {n k : Nat} (h : k < n) (hn : n < 2 ^ 31) : pk f n (nI k) = f k := by
  unfold pk
  rw [if_pos (inb_n h hn), nI_clamp (by omega)]
theorem pk_out {f : Nat → Int32} {n k : Nat} (h : n ≤ k) (hk : k < 2 ^ 31) : pk f n (nI k) = nI 0 := by
  unfold pk
  rw [if_neg (by rw [inb_f h hk]; decide)]
theorem pk_m1' {f : Nat → Int32} {n : Nat} : pk f n (-1) = nI 0 := by
  unfold pk
  rw [if_neg (by rw [inb_m1]; decide)]
theorem pt_n {I : MI32} {r n k : Nat} {v : Int32} (h : k < n) (hn : n < 2 ^ 31) : pt I r n (nI k) v = up2 I r k v := by
  unfold pt
  rw [if_pos (inb_n h hn), nI_clamp (by omega)]
theorem pt_out {I : MI32} {r n k : Nat} {v : Int32} (h : n ≤ k) (hk : k < 2 ^ 31) : pt I r n (nI k) v = I := by
  unfold pt
  rw [if_neg (by rw [inb_f h hk]; decide)]
/-- the first place by which P is so -/
def fndF (P : Nat → Bool) : Nat → Nat → Option Nat
  | 0, _ => none
  | m + 1, j => if P j = true then some j else fndF P m (j + 1)
def o2i (o : Option Nat) : Int32 := match o with
  | some k => nI k
  | none => -1
def accF {α : Type} (f : Nat → α → α) : Nat → Nat → α → α
  | 0, _, a => a
  | m + 1, j, a => accF f m (j + 1) (f j a)
theorem accF_congr {α : Type} {f g : Nat → α → α} : ∀ m j a, (∀ k, j ≤ k → k < j + m → ∀ x, f k x = g k x) → accF f m j a = accF g m j a
  | 0, _, _, _ => rfl
  | m + 1, j, a, h => by
    show accF f m (j + 1) (f j a) = accF g m (j + 1) (g j a)
    rw [h j (by omega) (by omega), accF_congr m (j + 1) _ (fun k h1 h2 => h k (by omega) (by omega))]
theorem accF_app {α : Type} {f : Nat → α → α} : ∀ m j a n, accF f (m + n) j a = accF f n (j + m) (accF f m j a)
  | 0, j, a, n => by rw [Nat.zero_add]; rfl
  | m + 1, j, a, n => by
    rw [show m + 1 + n = (m + n) + 1 by omega]
    show accF f (m + n) (j + 1) (f j a) = accF f n (j + (m + 1)) (accF f m (j + 1) (f j a))
    rw [accF_app m (j + 1) _ n, show j + 1 + m = j + (m + 1) by omega]
theorem accF_last {α : Type} {f : Nat → α → α} {m j : Nat} {a : α} : accF f (m + 1) j a = f (j + m) (accF f m j a) := by
  rw [accF_app]
  rfl
theorem accF_id {α : Type} {f : Nat → α → α} {a : α} : ∀ m j, (∀ k, j ≤ k → k < j + m → f k a = a) → accF f m j a = a
  | 0, _, _ => rfl
  | m + 1, j, h => by
    show accF f m (j + 1) (f j a) = a
    rw [h j (by omega) (by omega), accF_id m (j + 1) (fun k h1 h2 => h k (by omega) (by omega))]
theorem fndF_congr {P Q : Nat → Bool} : ∀ m j, (∀ k, j ≤ k → k < j + m → P k = Q k) → fndF P m j = fndF Q m j
  | 0, _, _ => rfl
  | m + 1, j, h => by
    unfold fndF
    rw [h j (by omega) (by omega), fndF_congr m (j + 1) (fun k h1 h2 => h k (by omega) (by omega))]
theorem fndF_none {P : Nat → Bool} : ∀ m j, (∀ k, j ≤ k → k < j + m → P k = false) → fndF P m j = none
  | 0, _, _ => rfl
  | m + 1, j, h => by
    unfold fndF
    rw [if_neg (by rw [h j (by omega) (by omega)]; decide), fndF_none m (j + 1) (fun k h1 h2 => h k (by omega) (by omega))]
theorem fndF_app {P : Nat → Bool} : ∀ m n j, (∀ k, j + m ≤ k → k < j + m + n → P k = false) → fndF P (m + n) j = fndF P m j
  | 0, n, j, h => by
    rw [Nat.zero_add, fndF_none n j (fun k h1 h2 => h k (by omega) (by omega))]
    rfl
  | m + 1, n, j, h => by
    rw [show m + 1 + n = (m + n) + 1 by omega]
    unfold fndF
    rw [fndF_app m n (j + 1) (fun k h1 h2 => h k (by omega) (by omega))]
theorem fndF_some {P : Nat → Bool} {k : Nat} : ∀ m j, fndF P m j = some k → j ≤ k ∧ k < j + m ∧ P k = true ∧ ∀ i, j ≤ i → i < k → P i = false
  | 0, _, h => by cases h
  | m + 1, j, h => by
    unfold fndF at h
    by_cases hp : P j = true
    · rw [if_pos hp] at h
      cases h
      exact ⟨Nat.le_refl _, by omega, hp, fun i h1 h2 => by omega⟩
    · rw [if_neg hp] at h
      obtain ⟨h1, h2, h3, h4⟩ := fndF_some m (j + 1) h
      refine ⟨by omega, by omega, h3, fun i q1 q2 => ?_⟩
      rcases Nat.eq_or_lt_of_le q1 with q | q
      · subst q
        simpa using hp
      · exact h4 i q q2
theorem fndF_non {P : Nat → Bool} : ∀ m j, fndF P m j = none → ∀ i, j ≤ i → i < j + m → P i = false
  | 0, _, _ => fun i h1 h2 => by omega
  | m + 1, j, h => by
    unfold fndF at h
    by_cases hp : P j = true
    · rw [if_pos hp] at h
      cases h
    · rw [if_neg hp] at h
      intro i q1 q2
      rcases Nat.eq_or_lt_of_le q1 with q | q
      · subst q
        simpa using hp
      · exact fndF_non m (j + 1) h i q (by omega)
section LF
variable {d L X : Nat} {I : MI32} {J : MI64} {x0 x1 x2 x3 : Int32}
theorem sp_within : runM (d + 1) nX11_within [.int x0, .int x1, .int x2] (mm L X I J) = rB (decide (x1 ≤ x0 ∧ x0 ≤ x2)) (mm L X I J) := by
  rw [e_X11_within, q_X11_within_0]
  by_cases h1 : x0 < x1
  · rw [if_pos h1, decide_eq_false (fun h => absurd h1 (Int32.not_lt.mpr h.1))]
    rfl
  · by_cases h2 : x2 < x0
    · rw [if_neg h1, if_pos h2, decide_eq_false (fun h => absurd h2 (Int32.not_lt.mpr h.2))]
      rfl
    · rw [if_neg h1, if_neg h2, decide_eq_true ⟨Int32.not_lt.mp h1, Int32.not_lt.mp h2⟩]
      rfl
theorem sp_in : runM (d + 1) nX12_in [.int x0, .int x1, .int x2] (mm L X I J) = rB (decide (x1 ≤ x0 ∧ x0 ≤ x2)) (mm L X I J) := by
  rw [e_X12_in, q_X12_in_0]
  by_cases h1 : x0 < x1
  · rw [if_pos h1, decide_eq_false (fun h => absurd h1 (Int32.not_lt.mpr h.1))]
    rfl
  · by_cases h2 : x2 < x0
    · rw [if_neg h1, if_pos h2, decide_eq_false (fun h => absurd h2 (Int32.not_lt.mpr h.2))]
      rfl
    · rw [if_neg h1, if_neg h2, decide_eq_true ⟨Int32.not_lt.mp h1, Int32.not_lt.mp h2⟩]
      rfl
theorem sp_digC : runM (d + 1) nX7_isDigit [.int x0] (mm L X I J) = rB (decide (nI 48 ≤ x0 ∧ x0 ≤ nI 57)) (mm L X I J) := by
  rw [e_X7_isDigit, q_X7_isDigit_0]
  by_cases h1 : x0 < nI 48
  · rw [if_pos h1, decide_eq_false (fun h => absurd h1 (Int32.not_lt.mpr h.1))]
    rfl
  · by_cases h2 : nI 57 < x0
    · rw [if_neg h1, if_pos h2, decide_eq_false (fun h => absurd h2 (Int32.not_lt.mpr h.2))]
      rfl
    · rw [if_neg h1, if_neg h2, decide_eq_true ⟨Int32.not_lt.mp h1, Int32.not_lt.mp h2⟩]
      rfl
theorem sp_digM : runM (d + 1) nX12_isDigit [.int x0] (mm L X I J) = rB (decide (nI 48 ≤ x0 ∧ x0 ≤ nI 57)) (mm L X I J) := by
  rw [e_X12_isDigit, q_X12_isDigit_0]
  by_cases h1 : x0 < nI 48
  · rw [if_pos h1, decide_eq_false (fun h => absurd h1 (Int32.not_lt.mpr h.1))]
    rfl
  · by_cases h2 : nI 57 < x0
    · rw [if_neg h1, if_pos h2, decide_eq_false (fun h => absurd h2 (Int32.not_lt.mpr h.2))]
      rfl
    · rw [if_neg h1, if_neg h2, decide_eq_true ⟨Int32.not_lt.mp h1, Int32.not_lt.mp h2⟩]
      rfl
theorem sp_smallM : runM (d + 1) nX12_isSmall [.int x0] (mm L X I J) = rB (decide (nI 97 ≤ x0 ∧ x0 ≤ nI 122)) (mm L X I J) := by
  rw [e_X12_isSmall, q_X12_isSmall_0]
  by_cases h1 : x0 < nI 97
  · rw [if_pos h1, decide_eq_false (fun h => absurd h1 (Int32.not_lt.mpr h.1))]
    rfl
  · by_cases h2 : nI 122 < x0
    · rw [if_neg h1, if_pos h2, decide_eq_false (fun h => absurd h2 (Int32.not_lt.mpr h.2))]
      rfl
    · rw [if_neg h1, if_neg h2, decide_eq_true ⟨Int32.not_lt.mp h1, Int32.not_lt.mp h2⟩]
      rfl
theorem sp_bit : runM (d + 1) nX11_bit [.int x0, .int x1] (mm L X I J) = rI ((x0 >>> (x1 &&& 31)) &&& nI 1) (mm L X I J) := by
  rw [e_X11_bit, q_X11_bit_0]
theorem sp_has : runM (d + 1) nX12_has [.int x0, .int x1] (mm L X I J) = rB (decide ((x0 >>> (x1 &&& 31)) &&& nI 1 = nI 1)) (mm L X I J) := by
  rw [e_X12_has, q_X12_has_0]
  by_cases h1 : (x0 >>> (x1 &&& 31)) &&& nI 1 = nI 1
  · rw [if_pos h1, decide_eq_true h1]
    rfl
  · rw [if_neg h1, decide_eq_false h1]
    rfl
def mnI (x y : Int32) : Int32 := if y ≤ x then y else x
def mxI (x y : Int32) : Int32 := if x ≤ y then y else x
theorem sp_less : runM (d + 1) nX12_less [.int x0, .int x1] (mm L X I J) = rI (mnI x0 x1) (mm L X I J) := by
  rw [e_X12_less, q_X12_less_0]
  unfold mnI
  by_cases h : x1 ≤ x0
  · rw [if_pos h, if_pos h]
  · rw [if_neg h, if_neg h]
theorem sp_more : runM (d + 1) nX12_more [.int x0, .int x1] (mm L X I J) = rI (mxI x0 x1) (mm L X I J) := by
  rw [e_X12_more, q_X12_more_0]
  unfold mxI
  by_cases h : x0 ≤ x1
  · rw [if_pos h, if_pos h]
  · rw [if_neg h, if_neg h]
theorem sp_thrown : runM (d + 1) nX12_thrown [.ref 72] (mm L X I J) = rI (I 72 0) (mm L X I J) := by
  rw [e_X12_thrown, q_X12_thrown_0]
theorem sp_pick {r n : Nat} (k0 : ka r 1 n) (hn : n < 2 ^ 31) : runM (d + 1) nX11_pick [.ref r, .int x1] (mm L X I J) = rI (pk (I r) n x1) (mm L X I J) := by
  rw [e_X11_pick, q_X11_pick_0 k0]
  by_cases h1 : x1 < nI 0
  · rw [if_pos h1, pk, if_neg (by rw [inb_neg h1]; decide)]
  · rw [if_neg h1]
    by_cases h2 : nI n ≤ x1
    · rw [if_pos h2, pk, if_neg (by rw [inb_ge hn h2]; decide)]
    · have h3 : inb x1 n = true := by
        obtain ⟨j, hj, rfl⟩ := nI_of h1
        refine inb_n ?_ hn
        rcases Nat.lt_or_ge j n with q | q
        · exact q
        · exact absurd (nI_le q hj) h2
      rw [if_neg h2, gd_t h3, pk, if_pos h3]
theorem sp_put {r n : Nat} (k0 : ka r 1 n) (hn : n < 2 ^ 31) : runM (d + 1) nX11_put [.ref r, .int x1, .int x2] (mm L X I J) = rV (mm L X (pt I r n x1 x2) J) := by
  rw [e_X11_put, q_X11_put_0 k0]
  by_cases h1 : x1 < nI 0
  · rw [if_pos h1, pt, if_neg (by rw [inb_neg h1]; decide)]
  · rw [if_neg h1]
    by_cases h2 : nI n ≤ x1
    · rw [if_pos h2, pt, if_neg (by rw [inb_ge hn h2]; decide)]
    · have h3 : inb x1 n = true := by
        obtain ⟨j, hj, rfl⟩ := nI_of h1
        refine inb_n ?_ hn
        rcases Nat.lt_or_ge j n with q | q
        · exact q
        · exact absurd (nI_le q hj) h2
      rw [if_neg h2, gd_t h3, pt, if_pos h3]
/-! the class's house -/
variable {a n : Nat}
theorem sp_headOf (h0 : oc1 a) : runM (d + 2) nX1_headOf [.ref a, .int x1] (mm L X I J) = rI (if x1 &&& nI 1 = nI 0 then pk (I (a + 3)) 6 (x1 >>> (nI 1 &&& 31)) else pk (I (a + 4)) 6 (x1 >>> (nI 1 &&& 31))) (mm L X I J) := by
  rw [e_X1_headOf, q_X1_headOf_0 h0]
  by_cases h : x1 &&& nI 1 = nI 0
  · rw [if_pos h, if_pos h]
    exact (bndN_e (sp_pick (ks1_3 h0) (by decide))).trans q_X1_headOf_16
  · rw [if_neg h, if_neg h]
    exact (bndN_e (sp_pick (ks1_4 h0) (by decide))).trans q_X1_headOf_29
theorem sp_footOf (h0 : oc1 a) : runM (d + 2) nX1_footOf [.ref a, .int x1] (mm L X I J) = rI (if x1 &&& nI 1 = nI 0 then pk (I (a + 4)) 6 (x1 >>> (nI 1 &&& 31)) else pk (I (a + 3)) 6 (x1 >>> (nI 1 &&& 31))) (mm L X I J) := by
  rw [e_X1_footOf, q_X1_footOf_0 h0]
  by_cases h : x1 &&& nI 1 = nI 0
  · rw [if_pos h, if_pos h]
    exact (bndN_e (sp_pick (ks1_4 h0) (by decide))).trans q_X1_footOf_16
  · rw [if_neg h, if_neg h]
    exact (bndN_e (sp_pick (ks1_3 h0) (by decide))).trans q_X1_footOf_29
theorem sp_joins (h0 : oc1 a) : runM (d + 2) nX1_joins [.ref a, .int x1, .int x2] (mm L X I J) = rB (decide ((pk (I (a + 9)) 10 x1 >>> (x2 &&& 31)) &&& nI 1 = nI 1)) (mm L X I J) := by
  rw [e_X1_joins]
  (first | refine Eq.trans (q_X1_joins_0 (by first | assumption | rfl | exact .inl rfl | exact .inr rfl)) ?_ | refine Eq.trans (q_X1_joins_8) ?_ | refine Eq.trans (q_X1_joins_12) ?_)
  refine (bndN_e (sp_pick (ks1_9 h0) (by decide))).trans ?_
  (first | refine Eq.trans (q_X1_joins_0 (by first | assumption | rfl | exact .inl rfl | exact .inr rfl)) ?_ | refine Eq.trans (q_X1_joins_8) ?_ | refine Eq.trans (q_X1_joins_12) ?_)
  refine (bndN_e sp_bit).trans ?_
  (first | refine Eq.trans (q_X1_joins_0 (by first | assumption | rfl | exact .inl rfl | exact .inr rfl)) ?_ | refine Eq.trans (q_X1_joins_8) ?_ | refine Eq.trans (q_X1_joins_12) ?_)
  by_cases h : (pk (I (a + 9)) 10 x1 >>> (x2 &&& 31)) &&& nI 1 = nI 1
  · rw [if_pos h, decide_eq_true h]
    rfl
  · rw [if_neg h, decide_eq_false h]
    rfl
theorem sp_follows (h0 : oc1 a) : runM (d + 3) nX1_follows [.ref a, .int x1, .int x2] (mm L X I J) = rB (decide ((pk (I (a + 9)) 10 (if x1 &&& nI 1 = nI 0 then pk (I (a + 4)) 6 (x1 >>> (nI 1 &&& 31)) else pk (I (a + 3)) 6 (x1 >>> (nI 1 &&& 31))) >>> ((if x2 &&& nI 1 = nI 0 then pk (I (a + 3)) 6 (x2 >>> (nI 1 &&& 31)) else pk (I (a + 4)) 6 (x2 >>> (nI 1 &&& 31))) &&& 31)) &&& nI 1 = nI 1)) (mm L X I J) := by
  rw [e_X1_follows]
  (first | refine Eq.trans (q_X1_follows_0 (by first | assumption | rfl | exact .inl rfl | exact .inr rfl)) ?_ | refine Eq.trans (q_X1_follows_6 (by first | assumption | rfl | exact .inl rfl | exact .inr rfl)) ?_ | refine Eq.trans (q_X1_follows_11 (by first | assumption | rfl | exact .inl rfl | exact .inr rfl)) ?_ | refine Eq.trans (q_X1_follows_14) ?_)
  refine (bnd_e (sp_footOf h0)).trans ?_
  (first | refine Eq.trans (q_X1_follows_0 (by first | assumption | rfl | exact .inl rfl | exact .inr rfl)) ?_ | refine Eq.trans (q_X1_follows_6 (by first | assumption | rfl | exact .inl rfl | exact .inr rfl)) ?_ | refine Eq.trans (q_X1_follows_11 (by first | assumption | rfl | exact .inl rfl | exact .inr rfl)) ?_ | refine Eq.trans (q_X1_follows_14) ?_)
  refine (bnd_e (sp_headOf h0)).trans ?_
  (first | refine Eq.trans (q_X1_follows_0 (by first | assumption | rfl | exact .inl rfl | exact .inr rfl)) ?_ | refine Eq.trans (q_X1_follows_6 (by first | assumption | rfl | exact .inl rfl | exact .inr rfl)) ?_ | refine Eq.trans (q_X1_follows_11 (by first | assumption | rfl | exact .inl rfl | exact .inr rfl)) ?_ | refine Eq.trans (q_X1_follows_14) ?_)
  refine (bnd_e (sp_joins h0)).trans ?_
  (first | refine Eq.trans (q_X1_follows_0 (by first | assumption | rfl | exact .inl rfl | exact .inr rfl)) ?_ | refine Eq.trans (q_X1_follows_6 (by first | assumption | rfl | exact .inl rfl | exact .inr rfl)) ?_ | refine Eq.trans (q_X1_follows_11 (by first | assumption | rfl | exact .inl rfl | exact .inr rfl)) ?_ | refine Eq.trans (q_X1_follows_14) ?_)
  exact gd_t bI_b01
theorem sp_reaches (h0 : oc1 a) : runM (d + 2) nX1_reaches [.ref a, .int x1, .int x2, .int x3] (mm L X I J) = rB (decide (pk (I (a + 7)) 5 x1 ≤ x2 ∧ pk (I (a + 8)) 5 x1 ≤ x3)) (mm L X I J) := by
  rw [e_X1_reaches]
  (first | refine Eq.trans (q_X1_reaches_0 (by first | assumption | rfl | exact .inl rfl | exact .inr rfl)) ?_ | refine Eq.trans (q_X1_reaches_9 (by first | assumption | rfl | exact .inl rfl | exact .inr rfl)) ?_ | refine Eq.trans (q_X1_reaches_21) ?_)
  refine (bndN_e (sp_pick (ks1_7 h0) (by decide))).trans ?_
  (first | refine Eq.trans (q_X1_reaches_0 (by first | assumption | rfl | exact .inl rfl | exact .inr rfl)) ?_ | refine Eq.trans (q_X1_reaches_9 (by first | assumption | rfl | exact .inl rfl | exact .inr rfl)) ?_ | refine Eq.trans (q_X1_reaches_21) ?_)
  by_cases h : x2 < pk (I (a + 7)) 5 x1
  · rw [if_pos h, decide_eq_false (fun q => absurd h (Int32.not_lt.mpr q.1))]
    rfl
  · rw [if_neg h]
    refine (bndN_e (sp_pick (ks1_8 h0) (by decide))).trans ?_
    (first | refine Eq.trans (q_X1_reaches_0 (by first | assumption | rfl | exact .inl rfl | exact .inr rfl)) ?_ | refine Eq.trans (q_X1_reaches_9 (by first | assumption | rfl | exact .inl rfl | exact .inr rfl)) ?_ | refine Eq.trans (q_X1_reaches_21) ?_)
    by_cases h2 : x3 < pk (I (a + 8)) 5 x1
    · rw [if_pos h2, decide_eq_false (fun q => absurd h2 (Int32.not_lt.mpr q.2))]
      rfl
    · rw [if_neg h2, decide_eq_true ⟨Int32.not_lt.mp h, Int32.not_lt.mp h2⟩]
      rfl
end LF
