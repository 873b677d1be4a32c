/-! WHAT THE CELLS TELL: house, night -/
/-- a house: h 0: pieces, collars, fires, hope; by piece 1 length, 2 head, 3 foot, 4 loss; by collar 5, 6; by fire 7 far, 8 need -/
abbrev Hs : Type := Nat → Nat → Nat
def HOK (h : Hs) : Prop := h 0 0 ≤ 6 ∧ h 0 1 ≤ 4 ∧ h 0 2 ≤ 5 ∧ (∀ p, p < h 0 0 → 1 ≤ h 1 p ∧ h 1 p ≤ 30 ∧ h 2 p ≤ 9 ∧ h 3 p ≤ 9 ∧ h 4 p ≤ 9) ∧ (∀ f, f < h 0 2 → h 7 f ≤ 200 ∧ 1 ≤ h 8 f ∧ h 8 f ≤ 99)
/-- do threads fit, by the first m collars -/
def jnP (h : Hs) (s t e : Nat) : Bool := (decide (h 5 e = s) && decide (h 6 e = t)) || (decide (h 5 e = t) && decide (h 6 e = s))
def jn (h : Hs) (m s t : Nat) : Bool := (fndF (jnP h s t) m 0).isSome || decide (s = t)
def hdW (h : Hs) (w : Nat) : Nat := if w % 2 = 0 then h 2 (w / 2) else h 3 (w / 2)
def ftW (h : Hs) (w : Nat) : Nat := if w % 2 = 0 then h 3 (w / 2) else h 2 (w / 2)
def fol (h : Hs) (m w v : Nat) : Bool := jn h m (ftW h w) (hdW h v)
/-- numbers told as bits -/
def bitsN (P : Nat → Bool) (n : Nat) : Nat := accF (fun k a => if P k = true then a ||| 2 ^ k else a) n 0 0
theorem bitsN_s {P : Nat → Bool} {n : Nat} : bitsN P (n + 1) = if P n = true then bitsN P n ||| 2 ^ n else bitsN P n := by
  unfold bitsN
  rw [accF_last, Nat.zero_add]
theorem bitsN_test {P : Nat → Bool} {k : Nat} : ∀ n, (bitsN P n).testBit k = (decide (k < n) && P k)
  | 0 => by simp [bitsN, accF]
  | n + 1 => by
    rw [bitsN_s]
    by_cases hp : P n = true
    · rw [if_pos hp, Nat.testBit_or, bitsN_test n, Nat.testBit_two_pow]
      by_cases hk : n = k
      · subst hk
        simp [hp]
      · have : (decide (k < n + 1)) = decide (k < n) := by
          apply decide_eq_decide.mpr
          omega
        simp [hk, this]
    · rw [if_neg hp, bitsN_test n]
      by_cases hk : k = n
      · subst hk
        simp [hp]
      · have : (decide (k < n + 1)) = decide (k < n) := by
          apply decide_eq_decide.mpr
          omega
        rw [this]
theorem bitsN_lt {P : Nat → Bool} : ∀ n, bitsN P n < 2 ^ n
  | 0 => by show 0 < 1; decide
  | n + 1 => by
    have h1 := bitsN_lt (P := P) n
    have h2 : 2 ^ (n + 1) = 2 ^ n + 2 ^ n := by rw [Nat.pow_succ]; omega
    rw [bitsN_s]
    by_cases hp : P n = true
    · rw [if_pos hp]
      exact Nat.or_lt_two_pow (by omega) (by omega)
    · rw [if_neg hp]
      omega
theorem bitsN_congr {P Q : Nat → Bool} {n : Nat} (h : ∀ k, k < n → P k = Q k) : bitsN P n = bitsN Q n := by
  unfold bitsN
  refine accF_congr n 0 0 (fun k h1 h2 x => ?_)
  rw [h k (by omega)]
theorem tb_bitsN {P : Nat → Bool} {n k : Nat} (hk : k < n) : tb (bitsN P n) k = if P k = true then 1 else 0 := by
  rw [tb_eq, bitsN_test, decide_eq_true hk, Bool.true_and]
/-- the model's cells of the house, m collars being looked at -/
def HM (I : MI32) (h : Hs) (m : Nat) : Prop := I 76 0 = nI (h 0 0) ∧ I 76 1 = nI (h 0 1) ∧ I 76 2 = nI (h 0 2) ∧ I 72 39 = nI m ∧ m ≤ 5 ∧ (∀ p, p < h 0 0 → I (85 + p) 0 = nI (h 1 p) ∧ I (85 + p) 1 = nI (h 2 p) ∧ I (85 + p) 2 = nI (h 3 p) ∧ I (85 + p) 3 = nI (h 4 p)) ∧ (∀ e, e < m → I (97 + e) 0 = nI (h 5 e) ∧ I (97 + e) 1 = nI (h 6 e) ∧ h 5 e ≤ 9 ∧ h 6 e ≤ 9) ∧ (∀ f, f < h 0 2 → I (109 + f) 0 = nI (h 7 f) ∧ I (109 + f) 1 = nI (h 8 f))
def sHM : Fls := [(72, 40), (76, 0)] ++ cells 85 6 ++ cells 97 5 ++ cells 109 5
theorem HM_fr {I I' : MI32} {h : Hs} {m : Nat} (H : HM I h m) (ok : HOK h) (g : Ag sHM I I') : HM I' h m := by
  obtain ⟨h1, h2, h3, h4, h5, h6, h7, h8⟩ := H
  obtain ⟨o1, o2, o3, -, -⟩ := ok
  have g1 : ∀ k, I' 76 k = I 76 k := fun k => g 76 k rfl
  have g2 : ∀ p k, p < 6 → I' (85 + p) k = I (85 + p) k := fun p k hp => g _ _ (by simp only [sHM, inF_app, in_cells hp, Bool.or_true, Bool.true_or])
  have g3 : ∀ p k, p < 5 → I' (97 + p) k = I (97 + p) k := fun p k hp => g _ _ (by simp only [sHM, inF_app, in_cells hp, Bool.or_true, Bool.true_or])
  have g4 : ∀ p k, p < 5 → I' (109 + p) k = I (109 + p) k := fun p k hp => g _ _ (by simp only [sHM, inF_app, in_cells hp, Bool.or_true, Bool.true_or])
  have g5 : I' 72 39 = I 72 39 := g 72 39 rfl
  refine ⟨by rw [g1, h1], by rw [g1, h2], by rw [g1, h3], by rw [g5, h4], h5, fun p hp => ?_, fun e he => ?_, fun f hf => ?_⟩
  · have hp6 : p < 6 := by omega
    rw [g2 p 0 hp6, g2 p 1 hp6, g2 p 2 hp6, g2 p 3 hp6]
    exact h6 p hp
  · rw [g3 e 0 (by omega), g3 e 1 (by omega)]
    exact h7 e he
  · rw [g4 f 0 (by omega), g4 f 1 (by omega)]
    exact h8 f hf
/-- the class's cells of the house; kin by m collars -/
def HC (I : MI32) (h : Hs) (m : Nat) : Prop := I 3 0 = nI (h 0 0) ∧ I 3 1 = nI (h 0 1) ∧ I 3 2 = nI (h 0 2) ∧ (∀ p, p < h 0 0 → I 4 p = nI (h 1 p) ∧ I 5 p = nI (h 4 p) ∧ I 6 p = nI (h 2 p) ∧ I 7 p = nI (h 3 p)) ∧ (∀ e, e < h 0 1 → I 8 e = nI (h 5 e) ∧ I 9 e = nI (h 6 e)) ∧ (∀ f, f < h 0 2 → I 10 f = nI (h 7 f) ∧ I 11 f = nI (h 8 f)) ∧ (∀ t, t < 10 → I 12 t = nI (bitsN (jn h m t) 10))
def sHC : Fls := [(3, 1), (3, 2), (3, 3), (4, 0), (5, 0), (6, 0), (7, 0), (8, 0), (9, 0), (10, 0), (11, 0), (12, 0)]
theorem HC_fr {I I' : MI32} {h : Hs} {m : Nat} (H : HC I h m) (g : Ag sHC I I') : HC I' h m := by
  obtain ⟨h1, h2, h3, h4, h5, h6, h7⟩ := H
  have g0 : I' 3 0 = I 3 0 := g 3 0 rfl
  have g1 : I' 3 1 = I 3 1 := g 3 1 rfl
  have g2 : I' 3 2 = I 3 2 := g 3 2 rfl
  have e4 : ∀ k, I' 4 k = I 4 k := fun k => g 4 k rfl
  have e5 : ∀ k, I' 5 k = I 5 k := fun k => g 5 k rfl
  have e6 : ∀ k, I' 6 k = I 6 k := fun k => g 6 k rfl
  have e7 : ∀ k, I' 7 k = I 7 k := fun k => g 7 k rfl
  have e8 : ∀ k, I' 8 k = I 8 k := fun k => g 8 k rfl
  have e9 : ∀ k, I' 9 k = I 9 k := fun k => g 9 k rfl
  have e10 : ∀ k, I' 10 k = I 10 k := fun k => g 10 k rfl
  have e11 : ∀ k, I' 11 k = I 11 k := fun k => g 11 k rfl
  have e12 : ∀ k, I' 12 k = I 12 k := fun k => g 12 k rfl
  exact ⟨by rw [g0, h1], by rw [g1, h2], by rw [g2, h3], fun p hp => by rw [e4, e5, e6, e7]; exact h4 p hp, fun e he => by rw [e8, e9]; exact h5 e he, fun f hf => by rw [e10, e11]; exact h6 f hf, fun t ht => by rw [e12]; exact h7 t ht⟩
/-! a night, as the model holds it: 0 the row, 6 turned, 12 bends, 18 bursts, 24 out, 29 hope, 30 hour -/
abbrev Nt : Type := Nat → Int32
abbrev nv (x : Int32) : Nat := x.toNatClampNeg
/-- the row: n pieces of np; what is turned -/
def NR (np n : Nat) (N : Nt) : Prop := (n ≤ 6 ∧ np ≤ 6) ∧ (∀ k, k < n → N k = nI (nv (N k)) ∧ nv (N k) < np) ∧ (∀ k, n ≤ k → k < 6 → N k = -1) ∧ (∀ i j, i < j → j < n → nv (N i) ≠ nv (N j)) ∧ (∀ p, p < 6 → N (6 + p) = nI (nv (N (6 + p))) ∧ nv (N (6 + p)) ≤ 1)
/-- the class's night in the cells from a on -/
def NC (I : MI32) (a : Nat) (n : Nat) (N : Nt) : Prop := I a 5 = nI n ∧ (∀ k, k < n → I (a + 1) k = N k) ∧ (∀ p, p < 6 → I (a + 2) p = N (12 + p)) ∧ (∀ p, p < 6 → I (a + 3) p = N (18 + p)) ∧ (∀ f, f < 5 → I (a + 4) f = N (24 + f)) ∧ I a 7 = N 29 ∧ I a 6 = N 30 ∧ ∃ T, T < 64 ∧ I a 4 = nI T ∧ ∀ p, p < 6 → N (6 + p) = nI (tb T p)
def sNC (a : Nat) : Fls := [(a, 5), (a, 6), (a, 7), (a, 8), (a + 1, 0), (a + 2, 0), (a + 3, 0), (a + 4, 0)]
theorem NC_fr {I I' : MI32} {a n : Nat} {N : Nt} (H : NC I a n N) (g : Ag (sNC a) I I') : NC I' a n N := by
  obtain ⟨h1, h2, h3, h4, h5, h6, h7, T, h8, h9, h10⟩ := H
  have f : ∀ b k, (b = a ∧ (k = 4 ∨ k = 5 ∨ k = 6 ∨ k = 7)) ∨ b = a + 1 ∨ b = a + 2 ∨ b = a + 3 ∨ b = a + 4 → I' b k = I b k := by
    intro b k hb
    refine g b k ?_
    rw [inF_t]
    rcases hb with ⟨rfl, rfl | rfl | rfl | rfl⟩ | rfl | rfl | rfl | rfl
    · exact ⟨(b, 5), by simp [sNC], rfl, .inr rfl⟩
    · exact ⟨(b, 6), by simp [sNC], rfl, .inr rfl⟩
    · exact ⟨(b, 7), by simp [sNC], rfl, .inr rfl⟩
    · exact ⟨(b, 8), by simp [sNC], rfl, .inr rfl⟩
    · exact ⟨(a + 1, 0), by simp [sNC], rfl, .inl rfl⟩
    · exact ⟨(a + 2, 0), by simp [sNC], rfl, .inl rfl⟩
    · exact ⟨(a + 3, 0), by simp [sNC], rfl, .inl rfl⟩
    · exact ⟨(a + 4, 0), by simp [sNC], rfl, .inl rfl⟩
  refine ⟨by rw [f _ _ (.inl ⟨rfl, by simp⟩), h1], fun k hk => by rw [f _ _ (by simp), h2 k hk], fun p hp => by rw [f _ _ (by simp), h3 p hp], fun p hp => by rw [f _ _ (by simp), h4 p hp], fun p hp => by rw [f _ _ (by simp), h5 p hp], by rw [f _ _ (.inl ⟨rfl, by simp⟩), h6], by rw [f _ _ (.inl ⟨rfl, by simp⟩), h7], T, h8, by rw [f _ _ (.inl ⟨rfl, by simp⟩), h9], h10⟩
section NS
variable {d L X : Nat} {I : MI32} {J : MI64} {a n np : Nat} {N : Nt} {h : Hs} {m : Nat}
theorem nv_n {k : Nat} (hk : k < 2 ^ 31) : nv (nI k) = k := nI_clamp hk
/-! the model's side -/
theorem lp_manyIn {r : Nat} (k0 : ka r 1 31) (H : NR np n (I r)) : ∀ q j, j + q = n → c_X12_manyIn_2 d L X I J r (nI j) = rI (nI n) (mm L X I J)
  | 0, j, hj => by
    obtain ⟨h1, h2, h3, -, -⟩ := H
    (first | refine Eq.trans (q_X12_manyIn_0 (by first | assumption | rfl | exact .inl rfl | exact .inr rfl)) ?_ | refine Eq.trans (q_X12_manyIn_2 (by first | assumption | rfl | exact .inl rfl | exact .inr rfl)) ?_)
    rcases Nat.lt_or_ge j 6 with hl | hl
    · rw [if_neg (by (try simp (disch := omega) only [nI_leI, nI_ltI, nI_eq, nI_add, pk_mul, n_0add, Nat.zero_add, nI_clamp]) <;> omega), n_0add, gd_t (inb_n (by omega) (by decide)), nI_clamp (by omega), if_pos (h3 j (by omega) hl), show j = n by omega]
    · rw [if_pos (by (try simp (disch := omega) only [nI_leI, nI_ltI, nI_eq, nI_add, pk_mul, n_0add, Nat.zero_add, nI_clamp]) <;> omega), show j = n by omega]
  | q + 1, j, hj => by
    have ih := lp_manyIn k0 H q (j + 1) (by omega)
    obtain ⟨h1, h2, h3, -, -⟩ := H
    (first | refine Eq.trans (q_X12_manyIn_0 (by first | assumption | rfl | exact .inl rfl | exact .inr rfl)) ?_ | refine Eq.trans (q_X12_manyIn_2 (by first | assumption | rfl | exact .inl rfl | exact .inr rfl)) ?_)
    rw [if_neg (by (try simp (disch := omega) only [nI_leI, nI_ltI, nI_eq, nI_add, pk_mul, n_0add, Nat.zero_add, nI_clamp]) <;> omega), n_0add, gd_t (inb_n (by omega) (by decide)), nI_clamp (by omega), if_neg (by rw [(h2 j (by omega)).1]; exact nI_m1 _ (Nat.lt_of_le_of_lt (Nat.le_of_lt (h2 j (by omega)).2) (by omega)) ), nI_add]
    exact ih
theorem sp_manyIn {r : Nat} (k0 : ka r 1 31) (H : NR np n (I r)) : runM (d + 1) nX12_manyIn [.ref r] (mm L X I J) = rI (nI n) (mm L X I J) := by
  rw [e_X12_manyIn]
  (first | refine Eq.trans (q_X12_manyIn_0 (by first | assumption | rfl | exact .inl rfl | exact .inr rfl)) ?_ | refine Eq.trans (q_X12_manyIn_2 (by first | assumption | rfl | exact .inl rfl | exact .inr rfl)) ?_)
  exact lp_manyIn k0 H n 0 (by omega)
theorem lp_placeM {r : Nat} {x : Int32} (k0 : ka r 1 31) : ∀ q j, j + q = 6 → c_X12_placeOf_2 d L X I J r x (nI j) = rI (o2i (fndF (fun k => decide (I r k = x)) q j)) (mm L X I J)
  | 0, j, hj => by
    (first | refine Eq.trans (q_X12_placeOf_0 (by first | assumption | rfl | exact .inl rfl | exact .inr rfl)) ?_ | refine Eq.trans (q_X12_placeOf_2 (by first | assumption | rfl | exact .inl rfl | exact .inr rfl)) ?_)
    rw [if_pos (by (try simp (disch := omega) only [nI_leI, nI_ltI, nI_eq, nI_add, pk_mul, n_0add, Nat.zero_add, nI_clamp]) <;> omega)]
    rfl
  | q + 1, j, hj => by
    have ih := lp_placeM (x := x) k0 q (j + 1) (by omega)
    (first | refine Eq.trans (q_X12_placeOf_0 (by first | assumption | rfl | exact .inl rfl | exact .inr rfl)) ?_ | refine Eq.trans (q_X12_placeOf_2 (by first | assumption | rfl | exact .inl rfl | exact .inr rfl)) ?_)
    rw [if_neg (by (try simp (disch := omega) only [nI_leI, nI_ltI, nI_eq, nI_add, pk_mul, n_0add, Nat.zero_add, nI_clamp]) <;> omega), n_0add, gd_t (inb_n (by omega) (by decide)), nI_clamp (by omega)]
    unfold fndF
    by_cases hx : I r j = x
    · rw [if_pos hx, if_pos (decide_eq_true hx)]
      rfl
    · rw [if_neg hx, if_neg (by simpa using hx), nI_add]
      exact ih
theorem sp_placeM {r : Nat} {x : Int32} (k0 : ka r 1 31) : runM (d + 1) nX12_placeOf [.ref r, .int x] (mm L X I J) = rI (o2i (fndF (fun k => decide (I r k = x)) 6 0)) (mm L X I J) := by
  rw [e_X12_placeOf]
  (first | refine Eq.trans (q_X12_placeOf_0 (by first | assumption | rfl | exact .inl rfl | exact .inr rfl)) ?_ | refine Eq.trans (q_X12_placeOf_2 (by first | assumption | rfl | exact .inl rfl | exact .inr rfl)) ?_)
  exact lp_placeM k0 6 0 (by omega)
theorem lp_isJoined {s t : Nat} (H : HM I h m) (hs : s < 2 ^ 31) (ht : t < 2 ^ 31) : ∀ q j, j + q = m → c_X12_isJoined_2 d L X I J (nI s) (nI t) (nI j) = rB ((fndF (jnP h s t) q j).isSome || decide (s = t)) (mm L X I J)
  | 0, j, hj => by
    obtain ⟨-, -, -, h4, h5, -, -, -⟩ := H
    (first | refine Eq.trans (q_X12_isJoined_0) ?_ | refine Eq.trans (q_X12_isJoined_2) ?_ | refine Eq.trans (q_X12_isJoined_34) ?_ | refine Eq.trans (q_X12_isJoined_60) ?_)
    rw [h4, if_pos (by (try simp (disch := omega) only [nI_leI, nI_ltI, nI_eq, nI_add, pk_mul, n_0add, Nat.zero_add, nI_clamp]) <;> omega)]
    by_cases hst : s = t
    · rw [if_pos (congrArg nI hst)]
      simp [fndF, hst, bI]
    · rw [if_neg (by rw [nI_eq hs ht]; exact hst)]
      simp [fndF, hst, bI]
  | q + 1, j, hj => by
    have ih := lp_isJoined H hs ht q (j + 1) (by omega)
    obtain ⟨-, -, -, h4, h5, -, h7, -⟩ := H
    obtain ⟨e1, e2, e3, e4⟩ := h7 j (by omega)
    (first | refine Eq.trans (q_X12_isJoined_0) ?_ | refine Eq.trans (q_X12_isJoined_2) ?_ | refine Eq.trans (q_X12_isJoined_34) ?_ | refine Eq.trans (q_X12_isJoined_60) ?_)
    have hB : inb (nI j) 5 = true := inb_n (by omega) (by decide)
    rw [h4, if_neg (by (try simp (disch := omega) only [nI_leI, nI_ltI, nI_eq, nI_add, pk_mul, n_0add, Nat.zero_add, nI_clamp]) <;> omega), gd_t hB, nI_clamp (by omega), e1, e2]
    have hgo : runI (runM d) iX12_isJoined (34, [some (.ref 72), some (.int (nI s)), some (.int (nI t)), some (.int (nI j))], [], mm L X I J) = if h 5 j = t ∧ h 6 j = s then rB true (mm L X I J) else c_X12_isJoined_2 d L X I J (nI s) (nI t) (nI (j + 1)) := by
      (first | refine Eq.trans (q_X12_isJoined_0) ?_ | refine Eq.trans (q_X12_isJoined_2) ?_ | refine Eq.trans (q_X12_isJoined_34) ?_ | refine Eq.trans (q_X12_isJoined_60) ?_)
      rw [gd_t hB, nI_clamp (by omega), e1, e2]
      have hend : runI (runM d) iX12_isJoined (60, [some (.ref 72), some (.int (nI s)), some (.int (nI t)), some (.int (nI j))], [], mm L X I J) = c_X12_isJoined_2 d L X I J (nI s) (nI t) (nI (j + 1)) := by
        (first | refine Eq.trans (q_X12_isJoined_0) ?_ | refine Eq.trans (q_X12_isJoined_2) ?_ | refine Eq.trans (q_X12_isJoined_34) ?_ | refine Eq.trans (q_X12_isJoined_60) ?_)
        rw [nI_add]
      by_cases a1 : h 5 j = t
      · rw [if_pos (congrArg nI a1)]
        by_cases a2 : h 6 j = s
        · rw [if_pos (congrArg nI a2), if_pos ⟨a1, a2⟩]
          rfl
        · rw [if_neg (by rw [nI_eq (by omega) hs]; exact a2), if_neg (fun q => a2 q.2)]
          exact hend
      · rw [if_neg (by rw [nI_eq (by omega) ht]; exact a1), if_neg (fun q => a1 q.1)]
        exact hend
    rw [hgo]
    unfold fndF
    have hP : jnP h s t j = true ↔ (h 5 j = s ∧ h 6 j = t) ∨ (h 5 j = t ∧ h 6 j = s) := by simp [jnP]
    by_cases a1 : h 5 j = s ∧ h 6 j = t
    · rw [if_pos (congrArg nI a1.1), if_pos (congrArg nI a1.2), if_pos (hP.mpr (.inl a1))]
      rfl
    · by_cases a2 : h 5 j = t ∧ h 6 j = s
      · rw [if_pos a2, if_pos (hP.mpr (.inr a2))]
        by_cases b1 : nI (h 5 j) = nI s
        · rw [if_pos b1]
          by_cases b2 : nI (h 6 j) = nI t
          · rw [if_pos b2]
            rfl
          · rw [if_neg b2]
            rfl
        · rw [if_neg b1]
          rfl
      · have hPf : ¬ jnP h s t j = true := fun q => (hP.mp q).elim a1 a2
        rw [if_neg a2, if_neg hPf, ih]
        by_cases b1 : nI (h 5 j) = nI s
        · rw [if_pos b1, if_neg (fun b2 => a1 ⟨(nI_eq (by omega) hs).mp b1, (nI_eq (by omega) ht).mp b2⟩)]
        · rw [if_neg b1]
theorem sp_isJoined {s t : Nat} (H : HM I h m) (hs : s < 2 ^ 31) (ht : t < 2 ^ 31) : runM (d + 1) nX12_isJoined [.ref 72, .int (nI s), .int (nI t)] (mm L X I J) = rB (jn h m s t) (mm L X I J) := by
  rw [e_X12_isJoined]
  (first | refine Eq.trans (q_X12_isJoined_0) ?_ | refine Eq.trans (q_X12_isJoined_2) ?_ | refine Eq.trans (q_X12_isJoined_34) ?_ | refine Eq.trans (q_X12_isJoined_60) ?_)
  exact lp_isJoined H hs ht m 0 (by omega)
end NS
