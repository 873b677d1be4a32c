/-! WHICH COLLAR DOES MOST, BY BOTH -/
def addC (h : Hs) (a b : Nat) : Hs := fun i k => if i = 5 ∧ k = h 0 1 then a else if i = 6 ∧ k = h 0 1 then b else h i k
theorem fnd_iff {P : Nat → Bool} {n : Nat} : (fndF P n 0).isSome = true ↔ ∃ k, k < n ∧ P k = true := by
  rcases hf : fndF P n 0 with _ | k
  · constructor
    · intro e
      cases e
    · rintro ⟨k, h1, h2⟩
      have := fndF_non n 0 hf k (by omega) (by omega)
      rw [h2] at this
      cases this
  · obtain ⟨q1, q2, q3, -⟩ := fndF_some n 0 hf
    exact ⟨fun _ => ⟨k, by omega, q3⟩, fun _ => rfl⟩
theorem b_n {n i : Nat} (hi : i < 32) : bt (nI n) i = n.testBit i := by
  show (BitVec.ofNat 32 n).getLsbD i = _
  rw [BitVec.getLsbD_ofNat, decide_eq_true hi, Bool.true_and]
theorem b_not {x : Int32} {i : Nat} (hi : i < 32) : bt (x ^^^ (-1)) i = !bt x i := by
  unfold bt
  rw [Int32.toBitVec_xor, BitVec.getLsbD_xor]
  have : ∀ i, i < 32 → (-1 : Int32).toBitVec.getLsbD i = true := by decide
  rw [this i hi, Bool.xor_true]
/-- a bit is taken out -/
def clr (T b : Nat) : Nat := if T.testBit b = true then T ^^^ 2 ^ b else T
theorem clr_test {T b i : Nat} : (clr T b).testBit i = (T.testBit i && !decide (b = i)) := by
  unfold clr
  by_cases z : T.testBit b = true
  · rw [if_pos z, Nat.testBit_xor, Nat.testBit_two_pow]
    by_cases e : b = i
    · subst e
      simp [z]
    · simp [e]
  · rw [if_neg z]
    by_cases e : b = i
    · subst e
      simp [z]
    · simp [e]
theorem n_clr {T b : Nat} (hb : b < 32) : nI T &&& ((nI 1 <<< (nI b &&& 31)) ^^^ (-1)) = nI (clr T b) := by
  apply b_ext
  intro i hi
  rw [b_and, b_not hi, n_pow hb, b_n hi, b_n hi, b_n hi, clr_test, Nat.testBit_two_pow]
theorem clr_or {T b : Nat} (hb : T.testBit b = false) : clr (T ||| 2 ^ b) b = T := by
  apply Nat.eq_of_testBit_eq
  intro i
  rw [clr_test, Nat.testBit_or, Nat.testBit_two_pow]
  by_cases e : b = i
  · subst e
    simp [hb]
  · simp [e]
theorem clr_no {T b : Nat} (hb : T.testBit b = false) : clr T b = T := if_neg (by rw [hb]; decide)
theorem clr_le {T b : Nat} : clr T b ≤ T := by
  apply Nat.le_of_not_lt
  intro hlt
  have e : T ||| clr T b = T := by
    apply Nat.eq_of_testBit_eq
    intro i
    rw [Nat.testBit_or, clr_test]
    cases T.testBit i <;> simp
  have := Nat.right_le_or (n := T) (m := clr T b)
  omega
theorem clr_lt {T b : Nat} (hb : T.testBit b = true) : clr T b < T := by
  refine Nat.lt_of_le_of_ne clr_le (fun e => ?_)
  have : (clr T b).testBit b = true := by rw [e]; exact hb
  rw [clr_test] at this
  simp at this
section JO
variable {d L X : Nat} {I : MI32} {J : MI64} {h : Hs} {a b : Nat}
theorem addC_ok (ok : HOK h) : HOK (addC h a b) := ok
theorem jn_iff {h : Hs} {m s t : Nat} : jn h m s t = true ↔ (∃ e, e < m ∧ jnP h s t e = true) ∨ s = t := by
  unfold jn
  rw [Bool.or_eq_true, fnd_iff, decide_eq_true_eq]
theorem jn_sym {h : Hs} {m s t : Nat} : jn h m s t = jn h m t s := by
  have key : ∀ s t, jn h m s t = true → jn h m t s = true := by
    intro s t hs
    rw [jn_iff] at hs ⊢
    rcases hs with ⟨e, h1, h2⟩ | h1
    · refine .inl ⟨e, h1, ?_⟩
      unfold jnP at h2 ⊢
      rw [Bool.or_comm]
      exact h2
    · exact .inr h1.symm
  by_cases z : jn h m s t = true
  · rw [z, key s t z]
  · rw [Bool.not_eq_true] at z
    rw [z]
    by_cases y : jn h m t s = true
    · rw [key t s y] at z
      cases z
    · rw [Bool.not_eq_true] at y
      exact y.symm
theorem jn_add {s t : Nat} : jn (addC h a b) (h 0 1 + 1) s t = (jn h (h 0 1) s t || ((decide (a = s) && decide (b = t)) || (decide (a = t) && decide (b = s)))) := by
  have hlow : ∀ e, e < h 0 1 → jnP (addC h a b) s t e = jnP h s t e := by
    intro e he
    have h5 : addC h a b 5 e = h 5 e := by
      unfold addC
      rw [if_neg (fun q => by omega), if_neg (fun q => by omega)]
    have h6 : addC h a b 6 e = h 6 e := by
      unfold addC
      rw [if_neg (fun q => by omega), if_neg (fun q => by omega)]
    unfold jnP
    rw [h5, h6]
  have htop : jnP (addC h a b) s t (h 0 1) = ((decide (a = s) && decide (b = t)) || (decide (a = t) && decide (b = s))) := by
    have h5 : addC h a b 5 (h 0 1) = a := by
      unfold addC
      rw [if_pos ⟨rfl, rfl⟩]
    have h6 : addC h a b 6 (h 0 1) = b := by
      unfold addC
      rw [if_neg (fun q => by omega), if_pos ⟨rfl, rfl⟩]
    unfold jnP
    rw [h5, h6]
  have e : jn (addC h a b) (h 0 1 + 1) s t = true ↔ (jn h (h 0 1) s t || ((decide (a = s) && decide (b = t)) || (decide (a = t) && decide (b = s)))) = true := by
    rw [Bool.or_eq_true, ← htop, jn_iff, jn_iff]
    constructor
    · rintro (⟨e, h1, h2⟩ | h1)
      · rcases Nat.eq_or_lt_of_le (Nat.le_of_lt_succ h1) with z | z
        · rw [z] at h2
          exact .inr h2
        · rw [hlow e z] at h2
          exact .inl (.inl ⟨e, z, h2⟩)
      · exact .inl (.inr h1)
    · rintro ((⟨e, h1, h2⟩ | h1) | h1)
      · exact .inl ⟨e, by omega, by rw [hlow e h1]; exact h2⟩
      · exact .inr h1
      · exact .inl ⟨h 0 1, by omega, h1⟩
  exact Bool.eq_iff_iff.mpr e
/-- kin with one collar more -/
def knC (h : Hs) (a b t : Nat) : Nat := if t = a then bitsN (jn h (h 0 1) a) 10 ||| 2 ^ b else if t = b then bitsN (jn h (h 0 1) b) 10 ||| 2 ^ a else bitsN (jn h (h 0 1) t) 10
theorem kn_add (ha : a ≤ 9) (hb : b ≤ 9) (hne : ¬ a = b) {t : Nat} : bitsN (jn (addC h a b) (h 0 1 + 1) t) 10 = knC h a b t := by
  apply Nat.eq_of_testBit_eq
  intro i
  rw [bitsN_test, jn_add]
  unfold knC
  by_cases e1 : t = a
  · subst e1
    rw [if_pos rfl, Nat.testBit_or, bitsN_test, Nat.testBit_two_pow]
    by_cases e2 : b = i
    · subst e2
      simp
      omega
    · simp [e2, Ne.symm hne, show ¬ b = t from fun q => hne q.symm]
  · rw [if_neg e1]
    by_cases e2 : t = b
    · subst e2
      rw [if_pos rfl, Nat.testBit_or, bitsN_test, Nat.testBit_two_pow]
      by_cases e3 : a = i
      · subst e3
        simp
        omega
      · simp [e3, hne]
    · rw [if_neg e2, bitsN_test]
      simp [show ¬ a = t from fun q => e1 q.symm, show ¬ b = t from fun q => e2 q.symm]
theorem HC_cong {I' : MI32} {m : Nat} (K : HC I h m) (g : Fr [(12, 0)] I I') (h' : Hs) (m' : Nat) (e0 : ∀ k, h' 0 k = h 0 k) (e1 : ∀ i p, 1 ≤ i → i ≤ 4 → h' i p = h i p) (e7 : ∀ p, h' 7 p = h 7 p ∧ h' 8 p = h 8 p) (e5 : ∀ e, e < h 0 1 → h' 5 e = h 5 e ∧ h' 6 e = h 6 e) (kn : ∀ t, t < 10 → I' 12 t = nI (bitsN (jn h' m' t) 10)) : HC I' h' m' := by
  obtain ⟨k1, k2, k3, k4, k5, k6, k7⟩ := K
  unfold HC
  simp only [e0, e1 1 _ (by decide) (by decide), e1 2 _ (by decide) (by decide), e1 3 _ (by decide) (by decide), e1 4 _ (by decide) (by decide)]
  refine ⟨by rw [g 3 0 rfl, k1], by rw [g 3 1 rfl, k2], by rw [g 3 2 rfl, k3], fun p hp => ?_, fun e he => ?_, fun f hf => ?_, kn⟩
  · rw [g 4 p rfl, g 5 p rfl, g 6 p rfl, g 7 p rfl]
    exact k4 p hp
  · rw [g 8 e rfl, g 9 e rfl, (e5 e he).1, (e5 e he).2]
    exact k5 e he
  · rw [g 10 f rfl, g 11 f rfl, (e7 f).1, (e7 f).2]
    exact k6 f hf
theorem HC_add {I' : MI32} (K : HC I h (h 0 1)) (ha : a ≤ 9) (hb : b ≤ 9) (hne : ¬ a = b) (g : Fr [(12, 0)] I I') (e : ∀ t, t < 10 → I' 12 t = nI (knC h a b t)) : HC I' (addC h a b) (h 0 1 + 1) := by
  refine HC_cong K g _ _ (fun k => rfl) (fun i p h1 h4 => ?_) (fun p => ⟨rfl, rfl⟩) (fun e he => ?_) (fun t ht => ?_)
  · unfold addC
    rw [if_neg (fun q => by omega), if_neg (fun q => by omega)]
  · unfold addC
    rw [if_neg (fun q => by omega), if_neg (fun q => by omega), if_neg (fun q => by omega), if_neg (fun q => by omega)]
    exact ⟨rfl, rfl⟩
  · rw [kn_add ha hb hne]
    exact e t ht
theorem sp_join {A B : Nat} (ha : a ≤ 9) (hb : b ≤ 9) (hne : ¬ a = b) (eA : I 12 a = nI A) (eB : I 12 b = nI B) : runM (d + 2) nX1_join [.ref 3, .int (nI a), .int (nI b)] (mm L X I J) = rV (mm L X (up2 (up2 I 12 a (nI (A ||| 2 ^ b))) 12 b (nI (B ||| 2 ^ a))) J) := by
  have h0 : oc1 3 := .inl rfl
  rw [e_X1_join]
  (first | refine Eq.trans (q_X1_join_0 (by first | assumption | rfl | exact .inl rfl | exact .inr rfl)) ?_ | refine Eq.trans (q_X1_join_13 (by first | assumption | rfl | exact .inl rfl | exact .inr rfl)) ?_ | refine Eq.trans (q_X1_join_20 (by first | assumption | rfl | exact .inl rfl | exact .inr rfl)) ?_ | refine Eq.trans (q_X1_join_33 (by first | assumption | rfl | exact .inl rfl | exact .inr rfl)) ?_ | refine Eq.trans (q_X1_join_40) ?_)
  refine (bndN_e (sp_pick ka_12 (by decide))).trans ?_
  show runI _ _ (_, _, [.int (pk (I 12) 10 (nI a)), _, _], _) = _
  rw [pk_n (by omega) (by decide), eA]
  (first | refine Eq.trans (q_X1_join_0 (by first | assumption | rfl | exact .inl rfl | exact .inr rfl)) ?_ | refine Eq.trans (q_X1_join_13 (by first | assumption | rfl | exact .inl rfl | exact .inr rfl)) ?_ | refine Eq.trans (q_X1_join_20 (by first | assumption | rfl | exact .inl rfl | exact .inr rfl)) ?_ | refine Eq.trans (q_X1_join_33 (by first | assumption | rfl | exact .inl rfl | exact .inr rfl)) ?_ | refine Eq.trans (q_X1_join_40) ?_)
  rw [n_pow (by omega), n_or]
  refine (bndN_e (sp_put ka_12 (by decide))).trans ?_
  rw [pt_n (by omega) (by decide)]
  (first | refine Eq.trans (q_X1_join_0 (by first | assumption | rfl | exact .inl rfl | exact .inr rfl)) ?_ | refine Eq.trans (q_X1_join_13 (by first | assumption | rfl | exact .inl rfl | exact .inr rfl)) ?_ | refine Eq.trans (q_X1_join_20 (by first | assumption | rfl | exact .inl rfl | exact .inr rfl)) ?_ | refine Eq.trans (q_X1_join_33 (by first | assumption | rfl | exact .inl rfl | exact .inr rfl)) ?_ | refine Eq.trans (q_X1_join_40) ?_)
  refine (bndN_e (sp_pick ka_12 (by decide))).trans ?_
  rw [pk_n (by omega) (by decide), up2_k (fun q => hne q.symm), eB]
  (first | refine Eq.trans (q_X1_join_0 (by first | assumption | rfl | exact .inl rfl | exact .inr rfl)) ?_ | refine Eq.trans (q_X1_join_13 (by first | assumption | rfl | exact .inl rfl | exact .inr rfl)) ?_ | refine Eq.trans (q_X1_join_20 (by first | assumption | rfl | exact .inl rfl | exact .inr rfl)) ?_ | refine Eq.trans (q_X1_join_33 (by first | assumption | rfl | exact .inl rfl | exact .inr rfl)) ?_ | refine Eq.trans (q_X1_join_40) ?_)
  rw [n_pow (by omega), n_or]
  refine (bndN_e (sp_put ka_12 (by decide))).trans ?_
  rw [pt_n (by omega) (by decide)]
  exact q_X1_join_40
theorem sp_part {A B : Nat} (ha : a ≤ 9) (hb : b ≤ 9) (hne : ¬ a = b) (eA : I 12 a = nI A) (eB : I 12 b = nI B) : runM (d + 2) nX1_part [.ref 3, .int (nI a), .int (nI b)] (mm L X I J) = rV (mm L X (up2 (up2 I 12 a (nI (clr A b))) 12 b (nI (clr B a))) J) := by
  have h0 : oc1 3 := .inl rfl
  rw [e_X1_part]
  (first | refine Eq.trans (q_X1_part_0 (by first | assumption | rfl | exact .inl rfl | exact .inr rfl)) ?_ | refine Eq.trans (q_X1_part_13 (by first | assumption | rfl | exact .inl rfl | exact .inr rfl)) ?_ | refine Eq.trans (q_X1_part_22 (by first | assumption | rfl | exact .inl rfl | exact .inr rfl)) ?_ | refine Eq.trans (q_X1_part_35 (by first | assumption | rfl | exact .inl rfl | exact .inr rfl)) ?_ | refine Eq.trans (q_X1_part_44) ?_)
  refine (bndN_e (sp_pick ka_12 (by decide))).trans ?_
  show runI _ _ (_, _, [.int (pk (I 12) 10 (nI a)), _, _], _) = _
  rw [pk_n (by omega) (by decide), eA]
  (first | refine Eq.trans (q_X1_part_0 (by first | assumption | rfl | exact .inl rfl | exact .inr rfl)) ?_ | refine Eq.trans (q_X1_part_13 (by first | assumption | rfl | exact .inl rfl | exact .inr rfl)) ?_ | refine Eq.trans (q_X1_part_22 (by first | assumption | rfl | exact .inl rfl | exact .inr rfl)) ?_ | refine Eq.trans (q_X1_part_35 (by first | assumption | rfl | exact .inl rfl | exact .inr rfl)) ?_ | refine Eq.trans (q_X1_part_44) ?_)
  rw [n_clr (by omega)]
  refine (bndN_e (sp_put ka_12 (by decide))).trans ?_
  rw [pt_n (by omega) (by decide)]
  (first | refine Eq.trans (q_X1_part_0 (by first | assumption | rfl | exact .inl rfl | exact .inr rfl)) ?_ | refine Eq.trans (q_X1_part_13 (by first | assumption | rfl | exact .inl rfl | exact .inr rfl)) ?_ | refine Eq.trans (q_X1_part_22 (by first | assumption | rfl | exact .inl rfl | exact .inr rfl)) ?_ | refine Eq.trans (q_X1_part_35 (by first | assumption | rfl | exact .inl rfl | exact .inr rfl)) ?_ | refine Eq.trans (q_X1_part_44) ?_)
  refine (bndN_e (sp_pick ka_12 (by decide))).trans ?_
  rw [pk_n (by omega) (by decide), up2_k (fun q => hne q.symm), eB]
  (first | refine Eq.trans (q_X1_part_0 (by first | assumption | rfl | exact .inl rfl | exact .inr rfl)) ?_ | refine Eq.trans (q_X1_part_13 (by first | assumption | rfl | exact .inl rfl | exact .inr rfl)) ?_ | refine Eq.trans (q_X1_part_22 (by first | assumption | rfl | exact .inl rfl | exact .inr rfl)) ?_ | refine Eq.trans (q_X1_part_35 (by first | assumption | rfl | exact .inl rfl | exact .inr rfl)) ?_ | refine Eq.trans (q_X1_part_44) ?_)
  rw [n_clr (by omega)]
  refine (bndN_e (sp_put ka_12 (by decide))).trans ?_
  rw [pt_n (by omega) (by decide)]
  exact q_X1_part_44
/-- the best so far: how long, which threads -/
def joV (h : Hs) (a b : Nat) : Nat := lg (addC h a b) (h 0 1 + 1) 0 none
def joT (h : Hs) (a b : Nat) (s : Int32 × Int32) : Int32 × Int32 := if s.1 < nI (joV h a b) then (nI (joV h a b), nI (10 * a + b)) else s
def joA (h : Hs) (a b : Nat) (s : Int32 × Int32) : Int32 × Int32 := if jn h (h 0 1) a b = true then s else joT h a b s
def joR (h : Hs) : Int32 × Int32 := accF (fun a s => accF (joA h a) (9 - a) (a + 1) s) 10 0 (-1, -1)
def fTc : Fls := [(12, 0), (57, 0), (58, 0), (56, 10), (56, 11)]
theorem sp_tryCollar (K : HC I h (h 0 1)) (ok : HOK h) (ha : a ≤ 9) (hb : b ≤ 9) (hab : a < b) (hj : jn h (h 0 1) a b = false) : Rt L X (runM (d + 6) nX5_tryCollar [.ref 56, .int (nI a), .int (nI b)] (mm L X I J)) none (fun I' J' => (Fr fTc I I' ∧ HC I' h (h 0 1) ∧ (I' 56 9, I' 56 10) = joT h a b (I 56 9, I 56 10)) ∧ J' = J) := by
  have hne : ¬ a = b := by omega
  have kA := K.2.2.2.2.2.2 a (by omega)
  have kB := K.2.2.2.2.2.2 b (by omega)
  rw [e_X5_tryCollar]
  (first | refine rt_eq (q_X5_tryCollar_0) ?_ | refine rt_eq (q_X5_tryCollar_9) ?_ | refine rt_eq (q_X5_tryCollar_13) ?_ | refine rt_eq (q_X5_tryCollar_23) ?_)
  refine rt_be (sp_join ha hb hne kA kB) ?_
  generalize hI1 : up2 (up2 I 12 a (nI (bitsN (jn h (h 0 1) a) 10 ||| 2 ^ b))) 12 b (nI (bitsN (jn h (h 0 1) b) 10 ||| 2 ^ a)) = I1
  have g1 : Fr [(12, 0)] I I1 := by rw [← hI1]; exact fr_up (fr_up fr_rfl rfl) rfl
  have e1 : ∀ t, t < 10 → I1 12 t = nI (knC h a b t) := by
    intro t ht
    rw [← hI1, up2_at, up2_at]
    unfold knC
    by_cases z : t = b
    · rw [if_pos z, if_neg (by omega), if_pos z]
    · rw [if_neg z]
      by_cases y : t = a
      · rw [if_pos y, if_pos y]
      · rw [if_neg y, if_neg y, if_neg z]
        exact K.2.2.2.2.2.2 t ht
  clear hI1
  have K1 := HC_add K ha hb hne g1 e1
  (first | refine rt_eq (q_X5_tryCollar_0) ?_ | refine rt_eq (q_X5_tryCollar_9) ?_ | refine rt_eq (q_X5_tryCollar_13) ?_ | refine rt_eq (q_X5_tryCollar_23) ?_)
  refine rt_bnd (sp_longestNow K1 (addC_ok ok)) ?_
  rintro I2 J2 ⟨⟨f2, -, -⟩, rfl⟩
  (first | refine rt_eq (q_X5_tryCollar_0) ?_ | refine rt_eq (q_X5_tryCollar_9) ?_ | refine rt_eq (q_X5_tryCollar_13) ?_ | refine rt_eq (q_X5_tryCollar_23) ?_)
  have e2 : ∀ t, t < 10 → I2 12 t = nI (knC h a b t) := fun t ht => by rw [f2 12 t rfl]; exact e1 t ht
  have e2a : I2 12 a = nI (bitsN (jn h (h 0 1) a) 10 ||| 2 ^ b) := by
    rw [e2 a (by omega)]
    unfold knC
    rw [if_pos rfl]
  have e2b : I2 12 b = nI (bitsN (jn h (h 0 1) b) 10 ||| 2 ^ a) := by
    rw [e2 b (by omega)]
    unfold knC
    rw [if_neg (by omega), if_pos rfl]
  refine rt_be (sp_part ha hb hne e2a e2b) ?_
  have n1 : (bitsN (jn h (h 0 1) a) 10).testBit b = false := by rw [bitsN_test, hj, Bool.and_false]
  have n2 : (bitsN (jn h (h 0 1) b) 10).testBit a = false := by rw [bitsN_test, jn_sym, hj, Bool.and_false]
  rw [clr_or n1, clr_or n2]
  generalize hI3 : up2 (up2 I2 12 a (nI (bitsN (jn h (h 0 1) a) 10))) 12 b (nI (bitsN (jn h (h 0 1) b) 10)) = I3
  have g3 : Fr [(12, 0)] I2 I3 := by rw [← hI3]; exact fr_up (fr_up fr_rfl rfl) rfl
  have e3 : ∀ t, t < 10 → I3 12 t = I 12 t := by
    intro t ht
    rw [← hI3, up2_at, up2_at]
    by_cases z : t = b
    · rw [if_pos z, z, kB]
    · rw [if_neg z]
      by_cases y : t = a
      · rw [if_pos y, y, kA]
      · rw [if_neg y, e2 t ht]
        unfold knC
        rw [if_neg y, if_neg z]
        exact (K.2.2.2.2.2.2 t ht).symm
  clear hI3
  have f3 : Fr [(12, 0), (57, 0), (58, 0)] I I3 := fr_tr (fr_mono g1 (by decide)) (fr_tr (fr_mono f2 (by decide)) (fr_mono g3 (by decide)))
  have K3 : ∀ I4, Fr [(56, 0)] I3 I4 → HC I4 h (h 0 1) := by
    intro I4 g4
    have f4 : Fr [(12, 0), (57, 0), (58, 0), (56, 0)] I I4 := fr_tr (fr_mono f3 (by decide)) (fr_mono g4 (by decide))
    obtain ⟨k1, k2, k3, k4, k5, k6, k7⟩ := K
    exact ⟨by rw [f4 3 0 rfl, k1], by rw [f4 3 1 rfl, k2], by rw [f4 3 2 rfl, k3], fun p hp => by rw [f4 4 p rfl, f4 5 p rfl, f4 6 p rfl, f4 7 p rfl]; exact k4 p hp, fun e he => by rw [f4 8 e rfl, f4 9 e rfl]; exact k5 e he, fun f hf => by rw [f4 10 f rfl, f4 11 f rfl]; exact k6 f hf, fun t ht => by rw [g4 12 t rfl, e3 t ht]; exact k7 t ht⟩
  (first | refine rt_eq (q_X5_tryCollar_0) ?_ | refine rt_eq (q_X5_tryCollar_9) ?_ | refine rt_eq (q_X5_tryCollar_13) ?_ | refine rt_eq (q_X5_tryCollar_23) ?_)
  have hv : lg (addC h a b) (h 0 1 + 1) 0 none = joV h a b := rfl
  rw [hv, f3 56 9 rfl]
  unfold joT
  by_cases z : nI (joV h a b) ≤ I 56 9
  · refine rt_t z ?_
    refine rt_ret ⟨⟨fr_mono f3 (by decide), K3 I3 fr_rfl, ?_⟩, rfl⟩
    rw [if_neg (fun q => absurd z (Int32.not_le.mpr q)), f3 56 9 rfl, f3 56 10 rfl]
  · refine rt_f z ?_
    refine rt_ret ⟨⟨fr_up (fr_up (fr_mono f3 (by decide)) rfl) rfl, K3 _ (fr_up (fr_up fr_rfl rfl) rfl), ?_⟩, rfl⟩
    rw [if_pos (Int32.not_le.mp z), up2_s, up2_k (by decide), up2_s, pk_mul, nI_add]
def fFc : Fls := [(12, 0), (57, 0), (58, 0), (56, 9), (56, 10), (56, 11)]
theorem lp_fc30 {r : Option Value} {Q : MI32 → MI64 → Prop} (ok : HOK h) (ha : a ≤ 9) (go : ∀ I' s u2, Fr fTc I I' → HC I' h (h 0 1) → (I' 56 9, I' 56 10) = accF (joA h a) (9 - a) (a + 1) (I 56 9, I 56 10) → s = nI (a + 1) → Rt L X (c_X5_findCollar_20 (d + 6) L X I' J s u2) r Q) : ∀ q j I' s, j + q = 10 → a < j → Fr fTc I I' → HC I' h (h 0 1) → (I' 56 9, I' 56 10) = s → accF (joA h a) q j s = accF (joA h a) (9 - a) (a + 1) (I 56 9, I 56 10) → Rt L X (c_X5_findCollar_30 (d + 6) L X I' J (nI a) (nI j)) r Q
  | 0, j, I', s, hj, hl, hf, K, hs, he => by
    (first | refine rt_eq (q_X5_findCollar_0) ?_ | refine rt_eq (q_X5_findCollar_20) ?_ | refine rt_eq (q_X5_findCollar_30) ?_ | refine rt_eq (q_X5_findCollar_45) ?_ | refine rt_eq (q_X5_findCollar_54) ?_)
    refine rt_t (by (try simp (disch := omega) only [nI_leI, nI_ltI, nI_eq, nI_add, pk_mul, n_0add, Nat.zero_add, nI_clamp]) <;> omega) ?_
    exact go I' _ _ hf K (by rw [hs, ← he]; rfl) (nI_add _ _)
  | q + 1, j, I', s, hj, hl, hf, K, hs, he => by
    have ih := lp_fc30 ok ha go q (j + 1)
    have he' : accF (joA h a) q (j + 1) (joA h a j s) = accF (joA h a) (9 - a) (a + 1) (I 56 9, I 56 10) := he
    (first | refine rt_eq (q_X5_findCollar_0) ?_ | refine rt_eq (q_X5_findCollar_20) ?_ | refine rt_eq (q_X5_findCollar_30) ?_ | refine rt_eq (q_X5_findCollar_45) ?_ | refine rt_eq (q_X5_findCollar_54) ?_)
    refine rt_f (by (try simp (disch := omega) only [nI_leI, nI_ltI, nI_eq, nI_add, pk_mul, n_0add, Nat.zero_add, nI_clamp]) <;> omega) ?_
    refine rt_be (joinsC K ha (by omega)) ?_
    (first | refine rt_eq (q_X5_findCollar_0) ?_ | refine rt_eq (q_X5_findCollar_20) ?_ | refine rt_eq (q_X5_findCollar_30) ?_ | refine rt_eq (q_X5_findCollar_45) ?_ | refine rt_eq (q_X5_findCollar_54) ?_)
    by_cases z : jn h (h 0 1) a j = true
    · rw [z]
      refine rt_f (by decide) ?_
      (first | refine rt_eq (q_X5_findCollar_0) ?_ | refine rt_eq (q_X5_findCollar_20) ?_ | refine rt_eq (q_X5_findCollar_30) ?_ | refine rt_eq (q_X5_findCollar_45) ?_ | refine rt_eq (q_X5_findCollar_54) ?_)
      rw [nI_add]
      refine ih I' s (by omega) (by omega) hf K hs ?_
      rw [← he']
      unfold joA
      rw [if_pos z]
    · rw [Bool.not_eq_true] at z
      rw [z]
      refine rt_t bI_f ?_
      refine rt_bnd (sp_tryCollar K ok ha (by omega) hl z) ?_
      rintro I2 J2 ⟨⟨f2, K2, s2⟩, rfl⟩
      (first | refine rt_eq (q_X5_findCollar_0) ?_ | refine rt_eq (q_X5_findCollar_20) ?_ | refine rt_eq (q_X5_findCollar_30) ?_ | refine rt_eq (q_X5_findCollar_45) ?_ | refine rt_eq (q_X5_findCollar_54) ?_)
      rw [nI_add]
      refine ih I2 _ (by omega) (by omega) (fr_tr hf f2) K2 s2 ?_
      rw [← he', hs]
      unfold joA
      rw [if_neg (by rw [z]; decide)]
theorem lp_fc20 (ok : HOK h) : ∀ q j I' u2, j + q = 10 → Fr fTc I I' → HC I' h (h 0 1) → accF (fun a s => accF (joA h a) (9 - a) (a + 1) s) q j (I' 56 9, I' 56 10) = joR h → Rt L X (c_X5_findCollar_20 (d + 6) L X I' J (nI j) u2) none (fun I'' J' => (Fr fFc I I'' ∧ HC I'' h (h 0 1) ∧ I'' 56 8 = nI 1 ∧ (I'' 56 9, I'' 56 10) = joR h) ∧ J' = J)
  | 0, j, I', u2, hj, hf, K, he => by
    (first | refine rt_eq (q_X5_findCollar_0) ?_ | refine rt_eq (q_X5_findCollar_20) ?_ | refine rt_eq (q_X5_findCollar_30) ?_ | refine rt_eq (q_X5_findCollar_45) ?_ | refine rt_eq (q_X5_findCollar_54) ?_)
    refine rt_t (by (try simp (disch := omega) only [nI_leI, nI_ltI, nI_eq, nI_add, pk_mul, n_0add, Nat.zero_add, nI_clamp]) <;> omega) ?_
    refine rt_ret ⟨⟨fr_up (fr_mono hf (by decide)) rfl, HC_fr K (ag_of (l := [(56, 0)]) (fr_up fr_rfl rfl) (by decide)), up2_s, ?_⟩, rfl⟩
    rw [up2_k (by decide), up2_k (by decide)]
    exact he
  | q + 1, j, I', u2, hj, hf, K, he => by
    have ih := lp_fc20 ok q (j + 1)
    (first | refine rt_eq (q_X5_findCollar_0) ?_ | refine rt_eq (q_X5_findCollar_20) ?_ | refine rt_eq (q_X5_findCollar_30) ?_ | refine rt_eq (q_X5_findCollar_45) ?_ | refine rt_eq (q_X5_findCollar_54) ?_)
    refine rt_f (by (try simp (disch := omega) only [nI_leI, nI_ltI, nI_eq, nI_add, pk_mul, n_0add, Nat.zero_add, nI_clamp]) <;> omega) ?_
    rw [nI_add]
    refine lp_fc30 (I := I') ok (by omega) (fun I2 s u2 f2 K2 s2 hs => ?_) (9 - j) (j + 1) I' _ (by omega) (by omega) fr_rfl K rfl rfl
    rw [hs]
    refine ih I2 u2 (by omega) (fr_tr hf f2) K2 ?_
    rw [s2, ← he]
    rfl
def jcC (I : MI32) (h : Hs) : Prop := (I 56 9, I 56 10) = joR h
theorem sp_findCollar (K : HC I h (h 0 1)) (ok : HOK h) (hk : I 56 8 = nI 0 ∨ (I 56 8 = nI 1 ∧ jcC I h)) : Rt L X (runM (d + 7) nX5_findCollar [.ref 56] (mm L X I J)) none (fun I' J' => (Fr fFc I I' ∧ HC I' h (h 0 1) ∧ I' 56 8 = nI 1 ∧ jcC I' h) ∧ J' = J) := by
  rw [e_X5_findCollar]
  (first | refine rt_eq (q_X5_findCollar_0) ?_ | refine rt_eq (q_X5_findCollar_20) ?_ | refine rt_eq (q_X5_findCollar_30) ?_ | refine rt_eq (q_X5_findCollar_45) ?_ | refine rt_eq (q_X5_findCollar_54) ?_)
  rcases hk with hk | ⟨hk, hc⟩
  · refine rt_t hk ?_
    refine lp_fc20 ok 10 0 _ _ (by omega) (fr_up (fr_up fr_rfl rfl) rfl) (HC_fr K (ag_of (l := [(56, 0)]) (fr_up (fr_up fr_rfl rfl) rfl) (by decide))) ?_
    rw [up2_k (by decide), up2_s, up2_s]
    rfl
  · refine rt_f (by rw [hk]; decide) ?_
    exact rt_ret ⟨⟨fr_rfl, K, hk, hc⟩, rfl⟩
end JO
