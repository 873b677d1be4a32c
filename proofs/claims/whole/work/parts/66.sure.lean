/-! SURE: by both -/
def prA (q T k a : Nat) : Nat := a * (if T.testBit k = true then q else 16 - q)
def prN (q T n : Nat) : Nat := accF (prA q T) n 0 1
def flS (h : Hs) (nL : Nat) (cd : Cd) (N : Nt) (T j : Nat) : Int32 := flN h nL cd N (N 29) (bdN N) (fun k => bsN N k + nI (tb T k)) noL j
def rcS (h : Hs) (nL : Nat) (cd : Cd) (n : Nat) (N : Nt) (f T : Nat) : Bool := decide (h 7 f ≤ lenN h N n) && decide (nI (h 8 f) ≤ flS h nL cd N T n)
def upA (h : Hs) (nL : Nat) (cd : Cd) (n : Nat) (N : Nt) (f q T a : Nat) : Nat := if rcS h nL cd n N f T = true then a + prN q T n else a
def upN (h : Hs) (nL : Nat) (cd : Cd) (n : Nat) (N : Nt) (f q : Nat) : Nat := accF (upA h nL cd n N f q) (2 ^ n) 0 0
theorem pr_le {q T : Nat} (hq : q ≤ 16) : ∀ r j a, accF (prA q T) r j a ≤ a * 16 ^ r
  | 0, j, a => by rw [Nat.pow_zero, Nat.mul_one]; exact Nat.le_refl _
  | r + 1, j, a => by
    have ih := pr_le (T := T) hq r (j + 1) (prA q T j a)
    have h1 : prA q T j a ≤ a * 16 := by
      unfold prA
      refine Nat.mul_le_mul_left _ ?_
      by_cases z : T.testBit j = true
      · rw [if_pos z]; exact hq
      · rw [if_neg z]; omega
    have h2 : prA q T j a * 16 ^ r ≤ a * 16 * 16 ^ r := Nat.mul_le_mul_right _ h1
    have h3 : a * 16 * 16 ^ r = a * 16 ^ (r + 1) := by rw [Nat.pow_succ, Nat.mul_assoc, Nat.mul_comm 16]
    show accF (prA q T) r (j + 1) (prA q T j a) ≤ _
    omega
theorem pr_b {q T n : Nat} (hq : q ≤ 16) (hn : n ≤ 6) : prN q T n ≤ 2 ^ 24 := by
  have h1 := pr_le (T := T) hq n 0 1
  have h2 : 16 ^ n ≤ 16 ^ 6 := Nat.pow_le_pow_right (by decide) hn
  unfold prN
  have : (16 : Nat) ^ 6 = 2 ^ 24 := by decide
  omega
theorem up_le {h : Hs} {nL : Nat} {cd : Cd} {n : Nat} {N : Nt} {f q : Nat} (hq : q ≤ 16) (hn : n ≤ 6) : ∀ r j a, accF (upA h nL cd n N f q) r j a ≤ a + 2 ^ 24 * r
  | 0, j, a => Nat.le_refl _
  | r + 1, j, a => by
    have ih := up_le (h := h) (nL := nL) (cd := cd) (N := N) (f := f) hq hn r (j + 1) (upA h nL cd n N f q j a)
    have h1 : upA h nL cd n N f q j a ≤ a + 2 ^ 24 := by
      have := pr_b (T := j) hq hn
      unfold upA
      by_cases z : rcS h nL cd n N f j = true
      · rw [if_pos z]; omega
      · rw [if_neg z]; omega
    show accF (upA h nL cd n N f q) r (j + 1) (upA h nL cd n N f q j a) ≤ _
    omega
theorem up_b {h : Hs} {nL : Nat} {cd : Cd} {n : Nat} {N : Nt} {f q : Nat} (hq : q ≤ 16) (hn : n ≤ 6) : upN h nL cd n N f q ≤ 2 ^ 30 := by
  have h1 := up_le (h := h) (nL := nL) (cd := cd) (N := N) (f := f) hq hn (2 ^ n) 0 0
  have h2 : 2 ^ n ≤ 2 ^ 6 := Nat.pow_le_pow_right (by decide) hn
  unfold upN
  have : 2 ^ 24 * 2 ^ n ≤ 2 ^ 24 * 2 ^ 6 := Nat.mul_le_mul_left _ h2
  omega
/-- in least terms -/
def hvF : Nat → Nat → Nat → Nat × Nat
  | 0, a, b => (a, b)
  | k + 1, a, b => if 1 < b ∧ a % 2 = 0 then hvF k (a / 2) (b / 2) else (a, b)
theorem hv_gcd : ∀ k e a, e ≤ k → hvF k a (2 ^ e) = (a / Nat.gcd (2 ^ e) a, 2 ^ e / Nat.gcd (2 ^ e) a)
  | 0, e, a, he => by
    have : e = 0 := by omega
    subst this
    simp [hvF]
  | k + 1, 0, a, he => by
    unfold hvF
    rw [if_neg (fun q => absurd q.1 (by decide))]
    simp
  | k + 1, e + 1, a, he => by
    have hp : 2 ^ (e + 1) = 2 * 2 ^ e := by rw [Nat.pow_succ, Nat.mul_comm]
    have h1 : 1 < 2 ^ (e + 1) := Nat.one_lt_two_pow (by omega)
    unfold hvF
    by_cases z : a % 2 = 0
    · rw [if_pos ⟨h1, z⟩]
      obtain ⟨b, rfl⟩ : ∃ b, a = 2 * b := ⟨a / 2, by omega⟩
      have e1 : 2 * b / 2 = b := by omega
      have e2 : 2 ^ (e + 1) / 2 = 2 ^ e := by rw [hp]; omega
      rw [e1, e2, hv_gcd k e b (by omega), hp, Nat.gcd_mul_left, Nat.mul_div_mul_left _ _ (by decide), Nat.mul_div_mul_left _ _ (by decide)]
    · rw [if_neg (fun q => z q.2)]
      have hc : Nat.gcd (2 ^ (e + 1)) a = 1 := by
        have hc2 : Nat.Coprime 2 a := by
          unfold Nat.Coprime
          rw [Nat.gcd_rec, show a % 2 = 1 by omega]
          decide
        exact Nat.Coprime.pow_left _ hc2
      rw [hc, Nat.div_one, Nat.div_one]
def surA (h : Hs) (nL : Nat) (cd : Cd) (n : Nat) (N : Nt) (f q w : Nat) : Nat := if w = 0 then upN h nL cd n N f q / Nat.gcd (2 ^ (4 * n)) (upN h nL cd n N f q) else 2 ^ (4 * n) / Nat.gcd (2 ^ (4 * n)) (upN h nL cd n N f q)
theorem sh4 : ∀ n, n ≤ 6 → lN 1 <<< ((nI 4 * nI n).toInt64 &&& 63) = lN (2 ^ (4 * n)) := by decide +kernel
theorem l_and1 {a : Nat} : lN a &&& lN 1 = lN (a % 2) := by
  apply Int64.toBitVec_inj.1
  show BitVec.ofNat 64 a &&& BitVec.ofNat 64 1 = BitVec.ofNat 64 (a % 2)
  apply BitVec.eq_of_getLsbD_eq
  intro i hi
  rw [BitVec.getLsbD_and, BitVec.getLsbD_ofNat, BitVec.getLsbD_ofNat, BitVec.getLsbD_ofNat, decide_eq_true hi, Bool.true_and, Bool.true_and, Bool.true_and, ← Nat.testBit_and, Nat.and_one_is_mod]
theorem l_shr1 {a : Nat} (ha : a < 2 ^ 63) : lN a >>> ((nI 1).toInt64 &&& 63) = lN (a / 2) := by
  apply Int64.toInt_inj.mp
  have e : (((nI 1).toInt64 &&& 63).toBitVec.smod 64).toNat = 1 := by decide
  have h1 : (lN a >>> ((nI 1).toInt64 &&& 63)).toInt = (lN a).toInt >>> 1 := by
    show (lN a >>> ((nI 1).toInt64 &&& 63)).toBitVec.toInt = _
    rw [Int64.toBitVec_shiftRight]
    show ((lN a).toBitVec.sshiftRight (((nI 1).toInt64 &&& 63).toBitVec.smod 64).toNat).toInt = _
    rw [e, BitVec.toInt_sshiftRight]
    rfl
  rw [h1, pk_lT ha, pk_lT (by omega)]
  rw [Int.shiftRight_eq_div_pow]
  omega
theorem cq (x y : Int64) : (lg_cmp x y = nI 0) ↔ x = y := lg_cmp_eq x y
theorem cl (x y : Int64) : (lg_cmp x y ≤ nI 0) ↔ x ≤ y := lg_cmp_le x y
section SU
variable {d L X : Nat} {I : MI32} {J : MI64} {h : Hs} {nL n : Nat} {cd : Cd} {N : Nt} {f q w T : Nat}
theorem lp_half {u0 u1 u2 : Option Value} (hw : w ≤ 1) : ∀ r k a b, k + r = 24 → a < 2 ^ 62 → b < 2 ^ 62 → c_X11_sure_64 d L X I J u0 u1 u2 (nI w) (lN a) (lN b) (nI k) = rL (lN (if w = 0 then (hvF r a b).1 else (hvF r a b).2)) (mm L X I J)
  | 0, k, a, b, hk, ha, hb => by
    (first | refine Eq.trans (q_X11_sure_0) ?_ | refine Eq.trans (q_X11_sure_5) ?_ | refine Eq.trans (q_X11_sure_13) ?_ | refine Eq.trans (q_X11_sure_29) ?_ | refine Eq.trans (q_X11_sure_22) ?_ | refine Eq.trans (q_X11_sure_30) ?_ | refine Eq.trans (q_X11_sure_33) ?_ | refine Eq.trans (q_X11_sure_46) ?_ | refine Eq.trans (q_X11_sure_64) ?_ | refine Eq.trans (q_X11_sure_105) ?_)
    rw [if_pos (by (try simp (disch := omega) only [nI_leI, nI_ltI, nI_eq, nI_add, pk_mul, n_0add, Nat.zero_add, nI_clamp]) <;> omega)]
    (first | refine Eq.trans (q_X11_sure_0) ?_ | refine Eq.trans (q_X11_sure_5) ?_ | refine Eq.trans (q_X11_sure_13) ?_ | refine Eq.trans (q_X11_sure_29) ?_ | refine Eq.trans (q_X11_sure_22) ?_ | refine Eq.trans (q_X11_sure_30) ?_ | refine Eq.trans (q_X11_sure_33) ?_ | refine Eq.trans (q_X11_sure_46) ?_ | refine Eq.trans (q_X11_sure_64) ?_ | refine Eq.trans (q_X11_sure_105) ?_)
    have : w = 0 ∨ w = 1 := by omega
    rcases this with rfl | rfl
    · rw [if_pos rfl, if_pos rfl]
      rfl
    · rw [if_neg (by decide), if_neg (by decide)]
      rfl
  | r + 1, k, a, b, hk, ha, hb => by
    have ih := lp_half (u0 := u0) (u1 := u1) (u2 := u2) hw r (k + 1) (a / 2) (b / 2) (by omega) (by omega) (by omega)
    have stop : ¬ (1 < b ∧ a % 2 = 0) → runI (runM d) iX11_sure (105, [u0, u1, u2, some (.int (nI w)), some (.long (lN a)), none, some (.long (lN b)), none, some (.int (nI k))], [], mm L X I J) = rL (lN (if w = 0 then (hvF (r + 1) a b).1 else (hvF (r + 1) a b).2)) (mm L X I J) := by
      intro hno
      have e : hvF (r + 1) a b = (a, b) := if_neg hno
      rw [e]
      (first | refine Eq.trans (q_X11_sure_0) ?_ | refine Eq.trans (q_X11_sure_5) ?_ | refine Eq.trans (q_X11_sure_13) ?_ | refine Eq.trans (q_X11_sure_29) ?_ | refine Eq.trans (q_X11_sure_22) ?_ | refine Eq.trans (q_X11_sure_30) ?_ | refine Eq.trans (q_X11_sure_33) ?_ | refine Eq.trans (q_X11_sure_46) ?_ | refine Eq.trans (q_X11_sure_64) ?_ | refine Eq.trans (q_X11_sure_105) ?_)
      have : w = 0 ∨ w = 1 := by omega
      rcases this with rfl | rfl
      · rw [if_pos rfl, if_pos rfl]
      · rw [if_neg (by decide), if_neg (by decide)]
    (first | refine Eq.trans (q_X11_sure_0) ?_ | refine Eq.trans (q_X11_sure_5) ?_ | refine Eq.trans (q_X11_sure_13) ?_ | refine Eq.trans (q_X11_sure_29) ?_ | refine Eq.trans (q_X11_sure_22) ?_ | refine Eq.trans (q_X11_sure_30) ?_ | refine Eq.trans (q_X11_sure_33) ?_ | refine Eq.trans (q_X11_sure_46) ?_ | refine Eq.trans (q_X11_sure_64) ?_ | refine Eq.trans (q_X11_sure_105) ?_)
    rw [if_neg (by (try simp (disch := omega) only [nI_leI, nI_ltI, nI_eq, nI_add, pk_mul, n_0add, Nat.zero_add, nI_clamp]) <;> omega)]
    by_cases z : 1 < b
    · rw [if_neg (fun q => by have := (cl (lN b) (lN 1)).mp q; rw [pk_lLE (by omega) (by decide)] at this; omega), l_and1]
      by_cases y : a % 2 = 0
      · rw [if_pos ((cq (lN (a % 2)) (lN 0)).mpr (by rw [y])), l_shr1 (by omega), l_shr1 (by omega), nI_add]
        have e : hvF (r + 1) a b = hvF r (a / 2) (b / 2) := if_pos ⟨z, y⟩
        rw [e]
        exact ih
      · rw [if_neg (fun q => by have := (cq (lN (a % 2)) (lN 0)).mp q; rw [pk_lEQ (by omega) (by decide)] at this; exact y this)]
        exact stop (fun q => y q.2)
    · rw [if_pos ((cl (lN b) (lN 1)).mpr (by rw [pk_lLE (by omega) (by decide)]; omega))]
      exact stop (fun q => z q.1)
def fSu : Fls := [(25, 0), (26, 0), (53, 0), (55, 0)]
/-- what reckoning the chances needs -/
def SX (I : MI32) (h : Hs) (nL : Nat) (cd : Cd) (n : Nat) (N : Nt) : Prop := HC I h (h 0 1) ∧ LawC I nL cd ∧ NC I 43 n N ∧ (∀ k, k < 6 → I 54 k = nI 0) ∧ I 52 5 = -1
theorem SX_f {I' : MI32} (C : SX I h nL cd n N) (g : Fr fSu I I') : SX I' h nL cd n N := ⟨HC_fr C.1 (ag_of g (by decide)), LawC_fr C.2.1 (ag_of g (by decide)), NC_fr C.2.2.1 (ag_of g (by decide)), fun k hk => by rw [g 54 k rfl]; exact C.2.2.2.1 k hk, by rw [g 52 5 rfl]; exact C.2.2.2.2⟩
theorem lp_ch33 {r : Option Value} {Q : MI32 → MI64 → Prop} {x4 : Int32} {y5 : Int64} (hn : n ≤ 6) (hq : q ≤ 16) (hT : T < 64) (C : SX I h nL cd n N) (go : ∀ I' u10, Fr fSu I I' → (∀ k, k < n → I' 55 k = nI (tb T k)) → Rt L X (runI (runM (d + 1)) iX8_chanceOf (95, [some (.ref 52), some (.ref 43), some (.int (nI f)), some (.int (nI q)), some (.int x4), some (.long y5), none, some (.int (nI T)), some (.long (lN (prN q T n))), none, u10], [], mm L X I' J)) r Q) : ∀ s j I' a, j + s = n → Fr fSu I I' → (∀ k, k < j → I' 55 k = nI (tb T k)) → accF (prA q T) s j a = prN q T n → Rt L X (c_X8_chanceOf_33 (d + 1) L X I' J 43 (nI f) (nI q) x4 y5 (nI T) (lN a) (nI j)) r Q
  | 0, j, I', a, hj, hf, hl, he => by
    have h1 : oc3 43 := .inl rfl
    have C' := SX_f C hf
    have e : a = prN q T n := he
    have ej : j = n := by omega
    subst ej
    (first | refine rt_eq (q_X8_chanceOf_0 (by first | assumption | rfl | exact .inl rfl | exact .inr rfl)) ?_ | refine rt_eq (q_X8_chanceOf_8 (by first | assumption | rfl | exact .inl rfl | exact .inr rfl)) ?_ | refine rt_eq (q_X8_chanceOf_16 (by first | assumption | rfl | exact .inl rfl | exact .inr rfl)) ?_ | refine rt_eq (q_X8_chanceOf_145) ?_ | refine rt_eq (q_X8_chanceOf_33 (by first | assumption | rfl | exact .inl rfl | exact .inr rfl)) ?_ | refine rt_eq (q_X8_chanceOf_95 (by first | assumption | rfl | exact .inl rfl | exact .inr rfl)) ?_ | refine rt_eq (q_X8_chanceOf_62 (by first | assumption | rfl | exact .inl rfl | exact .inr rfl)) ?_ | refine rt_eq (q_X8_chanceOf_131 (by first | assumption | rfl | exact .inl rfl | exact .inr rfl)) ?_ | refine rt_eq (q_X8_chanceOf_118 (by first | assumption | rfl | exact .inl rfl | exact .inr rfl)) ?_ | refine rt_eq (q_X8_chanceOf_86 (by first | assumption | rfl | exact .inl rfl | exact .inr rfl)) ?_ | refine rt_eq (q_X8_chanceOf_16b (by first | assumption | rfl | exact .inl rfl | exact .inr rfl)) ?_ | refine rt_eq (q_X8_chanceOf_121 (by first | assumption | rfl | exact .inl rfl | exact .inr rfl)) ?_ | refine rt_eq (q_X8_chanceOf_145b) ?_)
    rw [C'.2.2.1.1, e]
    refine rt_t (by (try simp (disch := omega) only [nI_leI, nI_ltI, nI_eq, nI_add, pk_mul, n_0add, Nat.zero_add, nI_clamp]) <;> omega) ?_
    exact go I' _ hf hl
  | s + 1, j, I', a, hj, hf, hl, he => by
    have ih := lp_ch33 hn hq hT C go s (j + 1)
    have h1 : oc3 43 := .inl rfl
    have C' := SX_f C hf
    have he' : accF (prA q T) s (j + 1) (prA q T j a) = prN q T n := he
    have ht := tb_lt (b := T) (k := j)
    (first | refine rt_eq (q_X8_chanceOf_0 (by first | assumption | rfl | exact .inl rfl | exact .inr rfl)) ?_ | refine rt_eq (q_X8_chanceOf_8 (by first | assumption | rfl | exact .inl rfl | exact .inr rfl)) ?_ | refine rt_eq (q_X8_chanceOf_16 (by first | assumption | rfl | exact .inl rfl | exact .inr rfl)) ?_ | refine rt_eq (q_X8_chanceOf_145) ?_ | refine rt_eq (q_X8_chanceOf_33 (by first | assumption | rfl | exact .inl rfl | exact .inr rfl)) ?_ | refine rt_eq (q_X8_chanceOf_95 (by first | assumption | rfl | exact .inl rfl | exact .inr rfl)) ?_ | refine rt_eq (q_X8_chanceOf_62 (by first | assumption | rfl | exact .inl rfl | exact .inr rfl)) ?_ | refine rt_eq (q_X8_chanceOf_131 (by first | assumption | rfl | exact .inl rfl | exact .inr rfl)) ?_ | refine rt_eq (q_X8_chanceOf_118 (by first | assumption | rfl | exact .inl rfl | exact .inr rfl)) ?_ | refine rt_eq (q_X8_chanceOf_86 (by first | assumption | rfl | exact .inl rfl | exact .inr rfl)) ?_ | refine rt_eq (q_X8_chanceOf_16b (by first | assumption | rfl | exact .inl rfl | exact .inr rfl)) ?_ | refine rt_eq (q_X8_chanceOf_121 (by first | assumption | rfl | exact .inl rfl | exact .inr rfl)) ?_ | refine rt_eq (q_X8_chanceOf_145b) ?_)
    rw [C'.2.2.1.1]
    refine rt_f (by (try simp (disch := omega) only [nI_leI, nI_ltI, nI_eq, nI_add, pk_mul, n_0add, Nat.zero_add, nI_clamp]) <;> omega) (rt_f (by (try simp (disch := omega) only [nI_leI, nI_ltI, nI_eq, nI_add, pk_mul, n_0add, Nat.zero_add, nI_clamp]) <;> omega) ?_)
    refine rt_bne sp_bit ?_
    rw [n_bit (by omega) (by omega)]
    (first | refine rt_eq (q_X8_chanceOf_0 (by first | assumption | rfl | exact .inl rfl | exact .inr rfl)) ?_ | refine rt_eq (q_X8_chanceOf_8 (by first | assumption | rfl | exact .inl rfl | exact .inr rfl)) ?_ | refine rt_eq (q_X8_chanceOf_16 (by first | assumption | rfl | exact .inl rfl | exact .inr rfl)) ?_ | refine rt_eq (q_X8_chanceOf_145) ?_ | refine rt_eq (q_X8_chanceOf_33 (by first | assumption | rfl | exact .inl rfl | exact .inr rfl)) ?_ | refine rt_eq (q_X8_chanceOf_95 (by first | assumption | rfl | exact .inl rfl | exact .inr rfl)) ?_ | refine rt_eq (q_X8_chanceOf_62 (by first | assumption | rfl | exact .inl rfl | exact .inr rfl)) ?_ | refine rt_eq (q_X8_chanceOf_131 (by first | assumption | rfl | exact .inl rfl | exact .inr rfl)) ?_ | refine rt_eq (q_X8_chanceOf_118 (by first | assumption | rfl | exact .inl rfl | exact .inr rfl)) ?_ | refine rt_eq (q_X8_chanceOf_86 (by first | assumption | rfl | exact .inl rfl | exact .inr rfl)) ?_ | refine rt_eq (q_X8_chanceOf_16b (by first | assumption | rfl | exact .inl rfl | exact .inr rfl)) ?_ | refine rt_eq (q_X8_chanceOf_121 (by first | assumption | rfl | exact .inl rfl | exact .inr rfl)) ?_ | refine rt_eq (q_X8_chanceOf_145b) ?_)
    refine rt_gd (inb_n (by omega) (by decide)) (rt_gd (inb_n (by omega) (by decide)) ?_)
    rw [nI_clamp (by omega), up2_s]
    have f2 : Fr fSu I (up2 I' 55 j (nI (tb T j))) := fr_up hf rfl
    have l2 : ∀ k, k < j + 1 → (up2 I' 55 j (nI (tb T j))) 55 k = nI (tb T k) := by
      intro k hk
      rw [up2_at]
      by_cases z : k = j
      · rw [if_pos z, z]
      · rw [if_neg z]
        exact hl k (by omega)
    by_cases z : T.testBit j = true
    · have et := tb_test.mpr z
      refine rt_t (by rw [et]) ?_
      (first | refine rt_eq (q_X8_chanceOf_0 (by first | assumption | rfl | exact .inl rfl | exact .inr rfl)) ?_ | refine rt_eq (q_X8_chanceOf_8 (by first | assumption | rfl | exact .inl rfl | exact .inr rfl)) ?_ | refine rt_eq (q_X8_chanceOf_16 (by first | assumption | rfl | exact .inl rfl | exact .inr rfl)) ?_ | refine rt_eq (q_X8_chanceOf_145) ?_ | refine rt_eq (q_X8_chanceOf_33 (by first | assumption | rfl | exact .inl rfl | exact .inr rfl)) ?_ | refine rt_eq (q_X8_chanceOf_95 (by first | assumption | rfl | exact .inl rfl | exact .inr rfl)) ?_ | refine rt_eq (q_X8_chanceOf_62 (by first | assumption | rfl | exact .inl rfl | exact .inr rfl)) ?_ | refine rt_eq (q_X8_chanceOf_131 (by first | assumption | rfl | exact .inl rfl | exact .inr rfl)) ?_ | refine rt_eq (q_X8_chanceOf_118 (by first | assumption | rfl | exact .inl rfl | exact .inr rfl)) ?_ | refine rt_eq (q_X8_chanceOf_86 (by first | assumption | rfl | exact .inl rfl | exact .inr rfl)) ?_ | refine rt_eq (q_X8_chanceOf_16b (by first | assumption | rfl | exact .inl rfl | exact .inr rfl)) ?_ | refine rt_eq (q_X8_chanceOf_121 (by first | assumption | rfl | exact .inl rfl | exact .inr rfl)) ?_ | refine rt_eq (q_X8_chanceOf_145b) ?_)
      have ep : prA q T j a = a * q := by unfold prA; rw [if_pos z]
      rw [nI_l (by omega), lN_mul, nI_add, ← ep]
      exact ih _ _ (by omega) f2 l2 he'
    · have et := tb_test0.mpr (by simpa using z)
      refine rt_f (by rw [et]; decide) ?_
      (first | refine rt_eq (q_X8_chanceOf_0 (by first | assumption | rfl | exact .inl rfl | exact .inr rfl)) ?_ | refine rt_eq (q_X8_chanceOf_8 (by first | assumption | rfl | exact .inl rfl | exact .inr rfl)) ?_ | refine rt_eq (q_X8_chanceOf_16 (by first | assumption | rfl | exact .inl rfl | exact .inr rfl)) ?_ | refine rt_eq (q_X8_chanceOf_145) ?_ | refine rt_eq (q_X8_chanceOf_33 (by first | assumption | rfl | exact .inl rfl | exact .inr rfl)) ?_ | refine rt_eq (q_X8_chanceOf_95 (by first | assumption | rfl | exact .inl rfl | exact .inr rfl)) ?_ | refine rt_eq (q_X8_chanceOf_62 (by first | assumption | rfl | exact .inl rfl | exact .inr rfl)) ?_ | refine rt_eq (q_X8_chanceOf_131 (by first | assumption | rfl | exact .inl rfl | exact .inr rfl)) ?_ | refine rt_eq (q_X8_chanceOf_118 (by first | assumption | rfl | exact .inl rfl | exact .inr rfl)) ?_ | refine rt_eq (q_X8_chanceOf_86 (by first | assumption | rfl | exact .inl rfl | exact .inr rfl)) ?_ | refine rt_eq (q_X8_chanceOf_16b (by first | assumption | rfl | exact .inl rfl | exact .inr rfl)) ?_ | refine rt_eq (q_X8_chanceOf_121 (by first | assumption | rfl | exact .inl rfl | exact .inr rfl)) ?_ | refine rt_eq (q_X8_chanceOf_145b) ?_)
      have ep : prA q T j a = a * (16 - q) := by unfold prA; rw [if_neg z]
      rw [pk_sub hq, nI_l (by omega), lN_mul, nI_add, ← ep]
      exact ih _ _ (by omega) f2 l2 he'
theorem lp_ch16 (ok : HOK h) (W : wfC cd nL 0 0) (R : NR (h 0 0) n N) (hf5 : f < h 0 2) (hq : q ≤ 16) (C : SX I h nL cd n N) : ∀ s T I' a u8 u9 u10, T + s = 2 ^ n → Fr fSu I I' → accF (upA h nL cd n N f q) s T a = upN h nL cd n N f q → Rt L X (c_X8_chanceOf_16 (d + 4) L X I' J 43 (nI f) (nI q) (nI (lenN h N n)) (lN a) (nI T) u8 u9 u10) (some (.long (lN (upN h nL cd n N f q)))) (fun I'' J' => (Fr fSu I I'' ∧ ∀ k, k < 6 → I'' 55 k = nI 0) ∧ J' = J)
  | 0, T, I', a, u8, u9, u10, hs, hf, he => by
    have h1 : oc3 43 := .inl rfl
    have C' := SX_f C hf
    have hn := R.1.1
    have e : a = upN h nL cd n N f q := he
    have p6 : 2 ^ n ≤ 2 ^ 6 := Nat.pow_le_pow_right (by decide) hn
    (first | refine rt_eq (q_X8_chanceOf_0 (by first | assumption | rfl | exact .inl rfl | exact .inr rfl)) ?_ | refine rt_eq (q_X8_chanceOf_8 (by first | assumption | rfl | exact .inl rfl | exact .inr rfl)) ?_ | refine rt_eq (q_X8_chanceOf_16 (by first | assumption | rfl | exact .inl rfl | exact .inr rfl)) ?_ | refine rt_eq (q_X8_chanceOf_145) ?_ | refine rt_eq (q_X8_chanceOf_33 (by first | assumption | rfl | exact .inl rfl | exact .inr rfl)) ?_ | refine rt_eq (q_X8_chanceOf_95 (by first | assumption | rfl | exact .inl rfl | exact .inr rfl)) ?_ | refine rt_eq (q_X8_chanceOf_62 (by first | assumption | rfl | exact .inl rfl | exact .inr rfl)) ?_ | refine rt_eq (q_X8_chanceOf_131 (by first | assumption | rfl | exact .inl rfl | exact .inr rfl)) ?_ | refine rt_eq (q_X8_chanceOf_118 (by first | assumption | rfl | exact .inl rfl | exact .inr rfl)) ?_ | refine rt_eq (q_X8_chanceOf_86 (by first | assumption | rfl | exact .inl rfl | exact .inr rfl)) ?_ | refine rt_eq (q_X8_chanceOf_16b (by first | assumption | rfl | exact .inl rfl | exact .inr rfl)) ?_ | refine rt_eq (q_X8_chanceOf_121 (by first | assumption | rfl | exact .inl rfl | exact .inr rfl)) ?_ | refine rt_eq (q_X8_chanceOf_145b) ?_)
    rw [C'.2.2.1.1, n_pow (by omega), e]
    refine rt_t (by (try simp (disch := omega) only [nI_leI, nI_ltI, nI_eq, nI_add, pk_mul, n_0add, Nat.zero_add, nI_clamp]) <;> omega) ?_
    refine rt_bndN (sp_fillI ka_55 (by decide)) ?_
    rintro I2 J2 ⟨⟨f2, z2⟩, rfl⟩
    (first | refine rt_eq (q_X8_chanceOf_0 (by first | assumption | rfl | exact .inl rfl | exact .inr rfl)) ?_ | refine rt_eq (q_X8_chanceOf_8 (by first | assumption | rfl | exact .inl rfl | exact .inr rfl)) ?_ | refine rt_eq (q_X8_chanceOf_16 (by first | assumption | rfl | exact .inl rfl | exact .inr rfl)) ?_ | refine rt_eq (q_X8_chanceOf_145) ?_ | refine rt_eq (q_X8_chanceOf_33 (by first | assumption | rfl | exact .inl rfl | exact .inr rfl)) ?_ | refine rt_eq (q_X8_chanceOf_95 (by first | assumption | rfl | exact .inl rfl | exact .inr rfl)) ?_ | refine rt_eq (q_X8_chanceOf_62 (by first | assumption | rfl | exact .inl rfl | exact .inr rfl)) ?_ | refine rt_eq (q_X8_chanceOf_131 (by first | assumption | rfl | exact .inl rfl | exact .inr rfl)) ?_ | refine rt_eq (q_X8_chanceOf_118 (by first | assumption | rfl | exact .inl rfl | exact .inr rfl)) ?_ | refine rt_eq (q_X8_chanceOf_86 (by first | assumption | rfl | exact .inl rfl | exact .inr rfl)) ?_ | refine rt_eq (q_X8_chanceOf_16b (by first | assumption | rfl | exact .inl rfl | exact .inr rfl)) ?_ | refine rt_eq (q_X8_chanceOf_121 (by first | assumption | rfl | exact .inl rfl | exact .inr rfl)) ?_ | refine rt_eq (q_X8_chanceOf_145b) ?_)
    exact rt_ret ⟨⟨fr_tr hf (fr_mono f2 (by decide)), z2⟩, rfl⟩
  | s + 1, T, I', a, u8, u9, u10, hs, hf, he => by
    have ih := lp_ch16 ok W R hf5 hq C s (T + 1)
    have h1 : oc3 43 := .inl rfl
    have C' := SX_f C hf
    have hn := R.1.1
    have h5 := ok.2.2.1
    have b8 := ok.2.2.2.2 f hf5
    have hln := lenN_lt ok R
    have p6 : 2 ^ n ≤ 2 ^ 6 := Nat.pow_le_pow_right (by decide) hn
    have he' : accF (upA h nL cd n N f q) s (T + 1) (upA h nL cd n N f q T a) = upN h nL cd n N f q := he
    (first | refine rt_eq (q_X8_chanceOf_0 (by first | assumption | rfl | exact .inl rfl | exact .inr rfl)) ?_ | refine rt_eq (q_X8_chanceOf_8 (by first | assumption | rfl | exact .inl rfl | exact .inr rfl)) ?_ | refine rt_eq (q_X8_chanceOf_16 (by first | assumption | rfl | exact .inl rfl | exact .inr rfl)) ?_ | refine rt_eq (q_X8_chanceOf_145) ?_ | refine rt_eq (q_X8_chanceOf_33 (by first | assumption | rfl | exact .inl rfl | exact .inr rfl)) ?_ | refine rt_eq (q_X8_chanceOf_95 (by first | assumption | rfl | exact .inl rfl | exact .inr rfl)) ?_ | refine rt_eq (q_X8_chanceOf_62 (by first | assumption | rfl | exact .inl rfl | exact .inr rfl)) ?_ | refine rt_eq (q_X8_chanceOf_131 (by first | assumption | rfl | exact .inl rfl | exact .inr rfl)) ?_ | refine rt_eq (q_X8_chanceOf_118 (by first | assumption | rfl | exact .inl rfl | exact .inr rfl)) ?_ | refine rt_eq (q_X8_chanceOf_86 (by first | assumption | rfl | exact .inl rfl | exact .inr rfl)) ?_ | refine rt_eq (q_X8_chanceOf_16b (by first | assumption | rfl | exact .inl rfl | exact .inr rfl)) ?_ | refine rt_eq (q_X8_chanceOf_121 (by first | assumption | rfl | exact .inl rfl | exact .inr rfl)) ?_ | refine rt_eq (q_X8_chanceOf_145b) ?_)
    rw [C'.2.2.1.1, n_pow (by omega)]
    refine rt_f (by (try simp (disch := omega) only [nI_leI, nI_ltI, nI_eq, nI_add, pk_mul, n_0add, Nat.zero_add, nI_clamp]) <;> omega) ?_
    refine lp_ch33 (d := d + 3) hn hq (by omega) C' (fun I2 u10 f2 l2 => ?_) n 0 I' 1 (by omega) fr_rfl (fun k hk => absurd hk (Nat.not_lt_zero k)) rfl
    have fr2 := fr_tr hf f2
    have C2 := SX_f C fr2
    have hpb := pr_b (T := T) hq hn
    have next : ∀ I3 a' u10, Fr fSu I I3 → a' = upA h nL cd n N f q T a → Rt L X (runI (runM (d + 4)) iX8_chanceOf (131, [some (.ref 52), some (.ref 43), some (.int (nI f)), some (.int (nI q)), some (.int (nI (lenN h N n))), some (.long (lN a')), none, some (.int (nI T)), some (.long (lN (prN q T n))), none, u10], [], mm L X I3 J)) (some (.long (lN (upN h nL cd n N f q)))) (fun I'' J' => (Fr fSu I I'' ∧ ∀ k, k < 6 → I'' 55 k = nI 0) ∧ J' = J) := by
      intro I3 a' u10 f3 ea
      (first | refine rt_eq (q_X8_chanceOf_0 (by first | assumption | rfl | exact .inl rfl | exact .inr rfl)) ?_ | refine rt_eq (q_X8_chanceOf_8 (by first | assumption | rfl | exact .inl rfl | exact .inr rfl)) ?_ | refine rt_eq (q_X8_chanceOf_16 (by first | assumption | rfl | exact .inl rfl | exact .inr rfl)) ?_ | refine rt_eq (q_X8_chanceOf_145) ?_ | refine rt_eq (q_X8_chanceOf_33 (by first | assumption | rfl | exact .inl rfl | exact .inr rfl)) ?_ | refine rt_eq (q_X8_chanceOf_95 (by first | assumption | rfl | exact .inl rfl | exact .inr rfl)) ?_ | refine rt_eq (q_X8_chanceOf_62 (by first | assumption | rfl | exact .inl rfl | exact .inr rfl)) ?_ | refine rt_eq (q_X8_chanceOf_131 (by first | assumption | rfl | exact .inl rfl | exact .inr rfl)) ?_ | refine rt_eq (q_X8_chanceOf_118 (by first | assumption | rfl | exact .inl rfl | exact .inr rfl)) ?_ | refine rt_eq (q_X8_chanceOf_86 (by first | assumption | rfl | exact .inl rfl | exact .inr rfl)) ?_ | refine rt_eq (q_X8_chanceOf_16b (by first | assumption | rfl | exact .inl rfl | exact .inr rfl)) ?_ | refine rt_eq (q_X8_chanceOf_121 (by first | assumption | rfl | exact .inl rfl | exact .inr rfl)) ?_ | refine rt_eq (q_X8_chanceOf_145b) ?_)
      rw [nI_add, ea]
      exact ih I3 _ _ _ _ (by omega) f3 he'
    (first | refine rt_eq (q_X8_chanceOf_0 (by first | assumption | rfl | exact .inl rfl | exact .inr rfl)) ?_ | refine rt_eq (q_X8_chanceOf_8 (by first | assumption | rfl | exact .inl rfl | exact .inr rfl)) ?_ | refine rt_eq (q_X8_chanceOf_16 (by first | assumption | rfl | exact .inl rfl | exact .inr rfl)) ?_ | refine rt_eq (q_X8_chanceOf_145) ?_ | refine rt_eq (q_X8_chanceOf_33 (by first | assumption | rfl | exact .inl rfl | exact .inr rfl)) ?_ | refine rt_eq (q_X8_chanceOf_95 (by first | assumption | rfl | exact .inl rfl | exact .inr rfl)) ?_ | refine rt_eq (q_X8_chanceOf_62 (by first | assumption | rfl | exact .inl rfl | exact .inr rfl)) ?_ | refine rt_eq (q_X8_chanceOf_131 (by first | assumption | rfl | exact .inl rfl | exact .inr rfl)) ?_ | refine rt_eq (q_X8_chanceOf_118 (by first | assumption | rfl | exact .inl rfl | exact .inr rfl)) ?_ | refine rt_eq (q_X8_chanceOf_86 (by first | assumption | rfl | exact .inl rfl | exact .inr rfl)) ?_ | refine rt_eq (q_X8_chanceOf_16b (by first | assumption | rfl | exact .inl rfl | exact .inr rfl)) ?_ | refine rt_eq (q_X8_chanceOf_121 (by first | assumption | rfl | exact .inl rfl | exact .inr rfl)) ?_ | refine rt_eq (q_X8_chanceOf_145b) ?_)
    by_cases z : prN q T n = 0
    · refine rt_t ((lg_cmp_le _ _).mpr (by rw [z]; exact Int64.le_refl _)) ?_
      refine next I2 a _ fr2 ?_
      unfold upA
      by_cases y : rcS h nL cd n N f T = true
      · rw [if_pos y, z, Nat.add_zero]
      · rw [if_neg y]
    · refine rt_f (fun q => z (by have := (lg_cmp_le _ _).mp q; rw [pk_lLE (by omega) (by decide)] at this; omega)) ?_
      rw [NC_hope C2.2.2.1]
      have q1 := sp_arriving (d := d) (L := L) (X := X) (J := J) (x2 := N 29) (.inl rfl) C2.2.2.1 R C2.1 ok C2.2.1 W
      have efl : ∀ k, k ≤ n → flN h nL cd N (N 29) (fun k => bdN N k + I2 54 k) (fun k => bsN N k + I2 55 k) (lkL (I2 52 5) (I2 52 6)) k = flS h nL cd N T k := by
        intro k hk
        refine flN_congr k (fun i hi => ⟨rfl, rfl, ?_, ?_, fun x => ?_⟩)
        · show bdN N i + I2 54 i = bdN N i
          rw [C2.2.2.2.1 i (by omega), add_n0]
        · show bsN N i + I2 55 i = bsN N i + nI (tb T i)
          rw [l2 i (by omega)]
        · rw [C2.2.2.2.2]
          exact lkL_m1 (by omega)
      rw [efl n (Nat.le_refl _)] at q1
      refine rt_bnd q1 ?_
      rintro I3 J3 ⟨⟨f3, -⟩, rfl⟩
      have fr3 := fr_tr fr2 (fr_mono f3 (by decide))
      have C3 := SX_f C fr3
      (first | refine rt_eq (q_X8_chanceOf_0 (by first | assumption | rfl | exact .inl rfl | exact .inr rfl)) ?_ | refine rt_eq (q_X8_chanceOf_8 (by first | assumption | rfl | exact .inl rfl | exact .inr rfl)) ?_ | refine rt_eq (q_X8_chanceOf_16 (by first | assumption | rfl | exact .inl rfl | exact .inr rfl)) ?_ | refine rt_eq (q_X8_chanceOf_145) ?_ | refine rt_eq (q_X8_chanceOf_33 (by first | assumption | rfl | exact .inl rfl | exact .inr rfl)) ?_ | refine rt_eq (q_X8_chanceOf_95 (by first | assumption | rfl | exact .inl rfl | exact .inr rfl)) ?_ | refine rt_eq (q_X8_chanceOf_62 (by first | assumption | rfl | exact .inl rfl | exact .inr rfl)) ?_ | refine rt_eq (q_X8_chanceOf_131 (by first | assumption | rfl | exact .inl rfl | exact .inr rfl)) ?_ | refine rt_eq (q_X8_chanceOf_118 (by first | assumption | rfl | exact .inl rfl | exact .inr rfl)) ?_ | refine rt_eq (q_X8_chanceOf_86 (by first | assumption | rfl | exact .inl rfl | exact .inr rfl)) ?_ | refine rt_eq (q_X8_chanceOf_16b (by first | assumption | rfl | exact .inl rfl | exact .inr rfl)) ?_ | refine rt_eq (q_X8_chanceOf_121 (by first | assumption | rfl | exact .inl rfl | exact .inr rfl)) ?_ | refine rt_eq (q_X8_chanceOf_145b) ?_)
      refine rt_be (sp_reaches (.inl rfl)) ?_
      have er : decide (pk (I3 (3 + 7)) 5 (nI f) ≤ nI (lenN h N n) ∧ pk (I3 (3 + 8)) 5 (nI f) ≤ flS h nL cd N T n) = rcS h nL cd n N f T := by
        obtain ⟨k1, k2⟩ := C3.1.2.2.2.2.2.1 f hf5
        show decide (pk (I3 10) 5 (nI f) ≤ nI (lenN h N n) ∧ pk (I3 11) 5 (nI f) ≤ flS h nL cd N T n) = _
        rw [pk_n (by omega) (by decide), pk_n (by omega) (by decide), k1, k2]
        unfold rcS
        rw [Bool.eq_iff_iff]
        simp only [decide_eq_true_eq, Bool.and_eq_true]
        rw [nI_leI (by omega) (by omega)]
      rw [er]
      (first | refine rt_eq (q_X8_chanceOf_0 (by first | assumption | rfl | exact .inl rfl | exact .inr rfl)) ?_ | refine rt_eq (q_X8_chanceOf_8 (by first | assumption | rfl | exact .inl rfl | exact .inr rfl)) ?_ | refine rt_eq (q_X8_chanceOf_16 (by first | assumption | rfl | exact .inl rfl | exact .inr rfl)) ?_ | refine rt_eq (q_X8_chanceOf_145) ?_ | refine rt_eq (q_X8_chanceOf_33 (by first | assumption | rfl | exact .inl rfl | exact .inr rfl)) ?_ | refine rt_eq (q_X8_chanceOf_95 (by first | assumption | rfl | exact .inl rfl | exact .inr rfl)) ?_ | refine rt_eq (q_X8_chanceOf_62 (by first | assumption | rfl | exact .inl rfl | exact .inr rfl)) ?_ | refine rt_eq (q_X8_chanceOf_131 (by first | assumption | rfl | exact .inl rfl | exact .inr rfl)) ?_ | refine rt_eq (q_X8_chanceOf_118 (by first | assumption | rfl | exact .inl rfl | exact .inr rfl)) ?_ | refine rt_eq (q_X8_chanceOf_86 (by first | assumption | rfl | exact .inl rfl | exact .inr rfl)) ?_ | refine rt_eq (q_X8_chanceOf_16b (by first | assumption | rfl | exact .inl rfl | exact .inr rfl)) ?_ | refine rt_eq (q_X8_chanceOf_121 (by first | assumption | rfl | exact .inl rfl | exact .inr rfl)) ?_ | refine rt_eq (q_X8_chanceOf_145b) ?_)
      by_cases y : rcS h nL cd n N f T = true
      · rw [y]
        refine rt_f (by decide) ?_
        rw [lN_add]
        refine next I3 (a + prN q T n) _ fr3 ?_
        unfold upA
        rw [if_pos y]
      · have y' : rcS h nL cd n N f T = false := by simpa using y
        rw [y']
        refine rt_t bI_f ?_
        refine next I3 a _ fr3 ?_
        unfold upA
        rw [if_neg y]
theorem rt_lv {y : Option (RS × AM)} {v v' : Int64} {Q : MI32 → MI64 → Prop} (g : Rt L X y (some (.long v)) Q) (e : v = v') : Rt L X y (some (.long v')) Q := e ▸ g
theorem c_sure (V : CS I h nL cd n N) (hf : f < h 0 2) (hq : q ≤ 16) (hw : w ≤ 1) : Rt L X (runM (d + 6) nX11_sure [.ref 0, .int (nI f), .int (nI q), .int (nI w)] (mm L X I J)) (some (.long (lN (surA h nL cd n N f q w)))) (fun I' _ => Fr fQ2 I I' ∧ Calm I') := by
  obtain ⟨ok, W, ⟨K, LC, Q⟩, C, R, Z⟩ := V
  have h1 : oc3 43 := .inl rfl
  have h5 := ok.2.2.1
  have hn := R.1.1
  rw [e_X11_sure]
  (first | refine rt_eq (q_X11_sure_0) ?_ | refine rt_eq (q_X11_sure_5) ?_ | refine rt_eq (q_X11_sure_13) ?_ | refine rt_eq (q_X11_sure_29) ?_ | refine rt_eq (q_X11_sure_22) ?_ | refine rt_eq (q_X11_sure_30) ?_ | refine rt_eq (q_X11_sure_33) ?_ | refine rt_eq (q_X11_sure_46) ?_ | refine rt_eq (q_X11_sure_64) ?_ | refine rt_eq (q_X11_sure_105) ?_)
  refine rt_be (xf_t K.2.2.1 (by omega) hf) ?_
  (first | refine rt_eq (q_X11_sure_0) ?_ | refine rt_eq (q_X11_sure_5) ?_ | refine rt_eq (q_X11_sure_13) ?_ | refine rt_eq (q_X11_sure_29) ?_ | refine rt_eq (q_X11_sure_22) ?_ | refine rt_eq (q_X11_sure_30) ?_ | refine rt_eq (q_X11_sure_33) ?_ | refine rt_eq (q_X11_sure_46) ?_ | refine rt_eq (q_X11_sure_64) ?_ | refine rt_eq (q_X11_sure_105) ?_)
  refine rt_bne (wi_t (by (try simp (disch := omega) only [nI_leI, nI_ltI, nI_eq, nI_add, pk_mul, n_0add, Nat.zero_add, nI_clamp]) <;> omega) (by (try simp (disch := omega) only [nI_leI, nI_ltI, nI_eq, nI_add, pk_mul, n_0add, Nat.zero_add, nI_clamp]) <;> omega)) ?_
  (first | refine rt_eq (q_X11_sure_0) ?_ | refine rt_eq (q_X11_sure_5) ?_ | refine rt_eq (q_X11_sure_13) ?_ | refine rt_eq (q_X11_sure_29) ?_ | refine rt_eq (q_X11_sure_22) ?_ | refine rt_eq (q_X11_sure_30) ?_ | refine rt_eq (q_X11_sure_33) ?_ | refine rt_eq (q_X11_sure_46) ?_ | refine rt_eq (q_X11_sure_64) ?_ | refine rt_eq (q_X11_sure_105) ?_)
  repeat (first | refine rt_t (by decide) ?_ | refine rt_f (by decide) ?_)
  refine rt_bne (wi_t (by (try simp (disch := omega) only [nI_leI, nI_ltI, nI_eq, nI_add, pk_mul, n_0add, Nat.zero_add, nI_clamp]) <;> omega) (by (try simp (disch := omega) only [nI_leI, nI_ltI, nI_eq, nI_add, pk_mul, n_0add, Nat.zero_add, nI_clamp]) <;> omega)) ?_
  (first | refine rt_eq (q_X11_sure_0) ?_ | refine rt_eq (q_X11_sure_5) ?_ | refine rt_eq (q_X11_sure_13) ?_ | refine rt_eq (q_X11_sure_29) ?_ | refine rt_eq (q_X11_sure_22) ?_ | refine rt_eq (q_X11_sure_30) ?_ | refine rt_eq (q_X11_sure_33) ?_ | refine rt_eq (q_X11_sure_46) ?_ | refine rt_eq (q_X11_sure_64) ?_ | refine rt_eq (q_X11_sure_105) ?_)
  repeat (first | refine rt_t (by decide) ?_ | refine rt_f (by decide) ?_)
  (first | refine rt_eq (q_X11_sure_0) ?_ | refine rt_eq (q_X11_sure_5) ?_ | refine rt_eq (q_X11_sure_13) ?_ | refine rt_eq (q_X11_sure_29) ?_ | refine rt_eq (q_X11_sure_22) ?_ | refine rt_eq (q_X11_sure_30) ?_ | refine rt_eq (q_X11_sure_33) ?_ | refine rt_eq (q_X11_sure_46) ?_ | refine rt_eq (q_X11_sure_64) ?_ | refine rt_eq (q_X11_sure_105) ?_)
  refine rt_be ex_t ?_
  (first | refine rt_eq (q_X11_sure_0) ?_ | refine rt_eq (q_X11_sure_5) ?_ | refine rt_eq (q_X11_sure_13) ?_ | refine rt_eq (q_X11_sure_29) ?_ | refine rt_eq (q_X11_sure_22) ?_ | refine rt_eq (q_X11_sure_30) ?_ | refine rt_eq (q_X11_sure_33) ?_ | refine rt_eq (q_X11_sure_46) ?_ | refine rt_eq (q_X11_sure_64) ?_ | refine rt_eq (q_X11_sure_105) ?_)
  have C0 : SX I h nL cd n N := ⟨K, LC, C, Q.2.1, Q.1⟩
  have hch : Rt L X (runM (d + 5) nX8_chanceOf [.ref 52, .ref 43, .int (nI f), .int (nI q)] (mm L X I J)) (some (.long (lN (upN h nL cd n N f q)))) (fun I'' J' => (Fr fSu I I'' ∧ ∀ k, k < 6 → I'' 55 k = nI 0) ∧ J' = J) := by
    rw [e_X8_chanceOf]
    (first | refine rt_eq (q_X8_chanceOf_0 (by first | assumption | rfl | exact .inl rfl | exact .inr rfl)) ?_ | refine rt_eq (q_X8_chanceOf_8 (by first | assumption | rfl | exact .inl rfl | exact .inr rfl)) ?_ | refine rt_eq (q_X8_chanceOf_16 (by first | assumption | rfl | exact .inl rfl | exact .inr rfl)) ?_ | refine rt_eq (q_X8_chanceOf_145) ?_ | refine rt_eq (q_X8_chanceOf_33 (by first | assumption | rfl | exact .inl rfl | exact .inr rfl)) ?_ | refine rt_eq (q_X8_chanceOf_95 (by first | assumption | rfl | exact .inl rfl | exact .inr rfl)) ?_ | refine rt_eq (q_X8_chanceOf_62 (by first | assumption | rfl | exact .inl rfl | exact .inr rfl)) ?_ | refine rt_eq (q_X8_chanceOf_131 (by first | assumption | rfl | exact .inl rfl | exact .inr rfl)) ?_ | refine rt_eq (q_X8_chanceOf_118 (by first | assumption | rfl | exact .inl rfl | exact .inr rfl)) ?_ | refine rt_eq (q_X8_chanceOf_86 (by first | assumption | rfl | exact .inl rfl | exact .inr rfl)) ?_ | refine rt_eq (q_X8_chanceOf_16b (by first | assumption | rfl | exact .inl rfl | exact .inr rfl)) ?_ | refine rt_eq (q_X8_chanceOf_121 (by first | assumption | rfl | exact .inl rfl | exact .inr rfl)) ?_ | refine rt_eq (q_X8_chanceOf_145b) ?_)
    refine rt_be (sp_longNow h1 C R K ok) ?_
    (first | refine rt_eq (q_X8_chanceOf_0 (by first | assumption | rfl | exact .inl rfl | exact .inr rfl)) ?_ | refine rt_eq (q_X8_chanceOf_8 (by first | assumption | rfl | exact .inl rfl | exact .inr rfl)) ?_ | refine rt_eq (q_X8_chanceOf_16 (by first | assumption | rfl | exact .inl rfl | exact .inr rfl)) ?_ | refine rt_eq (q_X8_chanceOf_145) ?_ | refine rt_eq (q_X8_chanceOf_33 (by first | assumption | rfl | exact .inl rfl | exact .inr rfl)) ?_ | refine rt_eq (q_X8_chanceOf_95 (by first | assumption | rfl | exact .inl rfl | exact .inr rfl)) ?_ | refine rt_eq (q_X8_chanceOf_62 (by first | assumption | rfl | exact .inl rfl | exact .inr rfl)) ?_ | refine rt_eq (q_X8_chanceOf_131 (by first | assumption | rfl | exact .inl rfl | exact .inr rfl)) ?_ | refine rt_eq (q_X8_chanceOf_118 (by first | assumption | rfl | exact .inl rfl | exact .inr rfl)) ?_ | refine rt_eq (q_X8_chanceOf_86 (by first | assumption | rfl | exact .inl rfl | exact .inr rfl)) ?_ | refine rt_eq (q_X8_chanceOf_16b (by first | assumption | rfl | exact .inl rfl | exact .inr rfl)) ?_ | refine rt_eq (q_X8_chanceOf_121 (by first | assumption | rfl | exact .inl rfl | exact .inr rfl)) ?_ | refine rt_eq (q_X8_chanceOf_145b) ?_)
    exact lp_ch16 ok W R hf hq C0 (2 ^ n) 0 I 0 _ _ _ (by omega) fr_rfl rfl
  refine rt_bnd hch ?_
  rintro I1 J1 ⟨⟨f1, z1⟩, rfl⟩
  have C1 := SX_f C0 f1
  (first | refine rt_eq (q_X11_sure_0) ?_ | refine rt_eq (q_X11_sure_5) ?_ | refine rt_eq (q_X11_sure_13) ?_ | refine rt_eq (q_X11_sure_29) ?_ | refine rt_eq (q_X11_sure_22) ?_ | refine rt_eq (q_X11_sure_30) ?_ | refine rt_eq (q_X11_sure_33) ?_ | refine rt_eq (q_X11_sure_46) ?_ | refine rt_eq (q_X11_sure_64) ?_ | refine rt_eq (q_X11_sure_105) ?_)
  rw [C1.2.2.1.1, sh4 n hn]
  have hub := up_b (h := h) (nL := nL) (cd := cd) (N := N) (f := f) hq hn
  have hp : 2 ^ (4 * n) ≤ 2 ^ 24 := Nat.pow_le_pow_right (by decide) (by omega)
  refine rt_end (I := I1) (J := J1) ?_ ⟨fr_mono f1 (by decide +kernel), C1.2.2.2.2, C1.2.2.2.1, z1⟩
  refine Eq.trans (lp_half hw 24 0 (upN h nL cd n N f q) (2 ^ (4 * n)) (by omega) (by omega) (by omega)) ?_
  rw [hv_gcd 24 (4 * n) _ (by omega)]
  rfl
end SU
