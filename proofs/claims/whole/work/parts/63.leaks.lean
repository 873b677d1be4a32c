/-! LEAKS, LOOK: the words, the class -/
abbrev Bk : Type := Nat → Option Nat
def bkC (I : MI32) (bk : Bk) : Prop := ∀ k, k < 6 → I 32 k = o2i (bk k) ∧ ∀ v, bk k = some v → v ≤ 99
/-- the water with a leak -/
def flK (h : Hs) (nL : Nat) (cd : Cd) (N : Nt) (p b : Nat) (j : Nat) : Int32 := flN h nL cd N (N 29) (bdN N) (bsN N) (lkL (nI p) (nI b)) j
def badC (bk : Bk) (n : Nat) (F : Nat → Int32) (k : Nat) : Bool := match bk k with
  | none => false
  | some v => !(decide (k < n) && decide (F (k + 1) = nI v))
def rgt (bk : Bk) (n : Nat) (F : Nat → Int32) : Bool := !(fndF (badC bk n F) 6 0).isSome
/-- pairs so far: how many, the first -/
def lkS (h : Hs) (nL : Nat) (cd : Cd) (n : Nat) (N : Nt) (bk : Bk) (p b : Nat) (s : Nat × Int32) : Nat × Int32 := if rgt bk n (flK h nL cd N p b) = true then (s.1 + 1, if s.1 = 0 then nI (100 * p + b) else s.2) else s
def lkR (h : Hs) (nL : Nat) (cd : Cd) (n : Nat) (N : Nt) (bk : Bk) : Nat × Int32 := accF (fun p s => accF (lkS h nL cd n N bk p) 30 1 s) n 0 (0, -1)
/-- how often what was left where -/
abbrev Tl : Type := Nat → Nat → Nat
def tlA (n : Nat) (F : Nat → Int32) (t : Tl) : Tl := fun i v => if i < n ∧ v = nv (F (i + 1)) then t i v + 1 else t i v
def tlS (h : Hs) (nL : Nat) (cd : Cd) (n : Nat) (N : Nt) (bk : Bk) (p b : Nat) (t : Tl) : Tl := if rgt bk n (flK h nL cd N p b) = true then tlA n (flK h nL cd N p b) t else t
def tlR (h : Hs) (nL : Nat) (cd : Cd) (n : Nat) (N : Nt) (bk : Bk) : Tl := accF (fun p s => accF (tlS h nL cd n N bk p) 30 1 s) n 0 (fun _ _ => 0)
def fLk : Fls := [(25, 0), (26, 0), (53, 0), (33, 0), (31, 4), (31, 5), (52, 6), (52, 7)]
section LK
variable {d L X : Nat} {I : MI32} {J : MI64} {h : Hs} {nL n : Nat} {cd : Cd} {N : Nt} {bk : Bk} {p b w : Nat}
theorem lp_fillI {r n0 : Nat} {x : Int32} (k0 : ka r 1 n0) (hn : n0 < 2 ^ 31) : ∀ q j I', j + q = n0 → Fr [(r, 0)] I I' → (∀ i, i < j → I' r i = x) → Rt L X (c_J7_fill_53178_5 d L X I' J r x (nI j) (nI n0)) none (fun I'' J' => (Fr [(r, 0)] I I'' ∧ ∀ i, i < n0 → I'' r i = x) ∧ J' = J)
  | 0, j, I', hj, hf, hl => by
    (first | refine rt_eq (q_J7_fill_53178_0 (by first | assumption | rfl | exact .inl rfl | exact .inr rfl)) ?_ | refine rt_eq (q_J7_fill_53178_5 (by first | assumption | rfl | exact .inl rfl | exact .inr rfl)) ?_)
    refine rt_t (by (try simp (disch := omega) only [nI_leI, nI_ltI, nI_eq, nI_add, pk_mul, n_0add, Nat.zero_add, nI_clamp]) <;> omega) ?_
    exact rt_ret ⟨⟨hf, fun i hi => hl i (by omega)⟩, rfl⟩
  | q + 1, j, I', hj, hf, hl => by
    have ih := lp_fillI (x := x) k0 hn q (j + 1)
    (first | refine rt_eq (q_J7_fill_53178_0 (by first | assumption | rfl | exact .inl rfl | exact .inr rfl)) ?_ | refine rt_eq (q_J7_fill_53178_5 (by first | assumption | rfl | exact .inl rfl | exact .inr rfl)) ?_)
    refine rt_f (by (try simp (disch := omega) only [nI_leI, nI_ltI, nI_eq, nI_add, pk_mul, n_0add, Nat.zero_add, nI_clamp]) <;> omega) (rt_gd (inb_n (by omega) hn) ?_)
    rw [nI_clamp (by omega), nI_add]
    refine ih _ (by omega) (fr_up hf (inF_t.mpr ⟨(r, 0), by simp, rfl, .inl rfl⟩)) ?_
    intro i hi
    rw [up2_at]
    by_cases z : i = j
    · rw [if_pos z]
    · rw [if_neg z]
      exact hl i (by omega)
theorem sp_fillI {r n0 : Nat} {x : Int32} (k0 : ka r 1 n0) (hn : n0 < 2 ^ 31) : Rt L X (runM (d + 1) nJ7_fill_53178 [.ref r, .int x] (mm L X I J)) none (fun I' J' => (Fr [(r, 0)] I I' ∧ ∀ i, i < n0 → I' r i = x) ∧ J' = J) := by
  rw [e_J7_fill_53178]
  (first | refine rt_eq (q_J7_fill_53178_0 (by first | assumption | rfl | exact .inl rfl | exact .inr rfl)) ?_ | refine rt_eq (q_J7_fill_53178_5 (by first | assumption | rfl | exact .inl rfl | exact .inr rfl)) ?_)
  exact lp_fillI k0 hn n0 0 I (by omega) fr_rfl (fun i hi => absurd hi (Nat.not_lt_zero i))
theorem flK_le (hb : b ≤ 30) (z29 : N 29 = nI (nv (N 29)) ∧ nv (N 29) ≤ 99) : ∀ j, flK h nL cd N p b j = nI (nv (flK h nL cd N p b j)) ∧ nv (flK h nL cd N p b j) ≤ 99 := by
  intro j
  have key : ∃ v, v ≤ 99 ∧ flK h nL cd N p b j = nI v := by
    rcases j with _ | j
    · exact ⟨_, z29.2, z29.1⟩
    · unfold flK flN
      obtain ⟨v, v1, v2⟩ := lwl_le (cd := cd) (nL := nL) (fl := flN h nL cd N (N 29) (bdN N) (bsN N) (lkL (nI p) (nI b)) j) (lo := nI (h 4 (nv (N j)))) (le := nI (h 1 (nv (N j)))) (be := bdN N j) (bu := bsN N j) (pl := nI j) (tu := N (6 + nv (N j))) (ho := N 29) (pi := nI (nv (N j)))
      rw [v2]
      unfold lkL
      by_cases z : nI j = nI p
      · rw [if_pos z]
        unfold mxI
        by_cases y : nI 0 ≤ nI v - nI b
        · rw [if_pos y]
          rcases Nat.lt_or_ge v b with q | q
          · exfalso
            exact absurd y (Int32.not_le.mpr (pk_sneg (by omega) q))
          · exact ⟨v - b, by omega, pk_sub q⟩
        · rw [if_neg y]
          exact ⟨0, by omega, rfl⟩
      · rw [if_neg z]
        exact ⟨v, v1, rfl⟩
  obtain ⟨v, v1, v2⟩ := key
  rw [v2, nv_n (by omega)]
  exact ⟨rfl, v1⟩
/-! the class -/
theorem calm_K {I : MI32} (C1 : ∀ k, k < 6 → I 54 k = nI 0) (C2 : ∀ k, k < 6 → I 55 k = nI 0) : ∀ k, k ≤ 6 → flN h nL cd N (N 29) (fun k => bdN N k + I 54 k) (fun k => bsN N k + I 55 k) (lkL (nI p) (nI b)) k = flK h nL cd N p b k := by
  intro k hk
  refine flN_congr k (fun i hi => ⟨rfl, rfl, ?_, ?_, fun _ => rfl⟩)
  · show bdN N i + I 54 i = bdN N i
    rw [C1 i (by omega), add_n0]
  · show bsN N i + I 55 i = bsN N i
    rw [C2 i (by omega), add_n0]
/-- what the class's looking needs -/
def LX (I : MI32) (h : Hs) (nL : Nat) (cd : Cd) (n : Nat) (N : Nt) (bk : Bk) : Prop := HC I h (h 0 1) ∧ LawC I nL cd ∧ NC I 43 n N ∧ (∀ k, k < 6 → I 54 k = nI 0) ∧ (∀ k, k < 6 → I 55 k = nI 0) ∧ bkC I bk
theorem LX_fr {I' : MI32} (C : LX I h nL cd n N bk) (g : Fr (fLk ++ [(31, 6), (31, 7)]) I I') : LX I' h nL cd n N bk := ⟨HC_fr C.1 (ag_of g (by decide)), LawC_fr C.2.1 (ag_of g (by decide)), NC_fr C.2.2.1 (ag_of g (by decide)), fun k hk => by rw [g 54 k rfl]; exact C.2.2.2.1 k hk, fun k hk => by rw [g 55 k rfl]; exact C.2.2.2.2.1 k hk, fun k hk => by rw [g 32 k rfl]; exact C.2.2.2.2.2 k hk⟩
theorem LX_f {I' : MI32} (C : LX I h nL cd n N bk) (g : Fr fLk I I') : LX I' h nL cd n N bk := LX_fr C (fr_mono g (by decide))
theorem sp_arrK (ok : HOK h) (W : wfC cd nL 0 0) (R : NR (h 0 0) n N) (C : LX I h nL cd n N bk) (e5 : I 52 5 = nI p) (e6 : I 52 6 = nI b) : Rt L X (runM (d + 4) nX8_arriving [.ref 52, .ref 43, .int (N 29)] (mm L X I J)) (some (.int (flK h nL cd N p b n))) (fun I'' J' => (Fr fW I I'' ∧ ∀ k, k < n → I'' 53 k = flK h nL cd N p b (k + 1)) ∧ J' = J) := by
  have hn := R.1.1
  have q := sp_arriving (d := d) (L := L) (X := X) (J := J) (x2 := N 29) (.inl rfl) C.2.2.1 R C.1 ok C.2.1 W
  rw [e5, e6] at q
  rw [calm_K C.2.2.2.1 C.2.2.2.2.1 n (by omega)] at q
  refine rt_mono q ?_
  rintro I1 J1 ⟨⟨f1, f2⟩, rfl⟩
  refine ⟨⟨f1, fun k hk => ?_⟩, rfl⟩
  rw [f2 k hk, calm_K C.2.2.2.1 C.2.2.2.2.1 (k + 1) (by omega)]
theorem lp_right {F : Nat → Int32} (hn : n ≤ 6) (C : NC I 43 n N) (B : bkC I bk) (hF : ∀ k, k < n → I 53 k = F (k + 1)) : ∀ q j, j + q = 6 → c_X0_isRight_2 d L X I J 31 43 (nI j) = rB (!(fndF (badC bk n F) q j).isSome) (mm L X I J)
  | 0, j, hj => by
    have h0 : oc0 31 := .inl rfl
    have h1 : oc3 43 := .inl rfl
    (first | refine Eq.trans (q_X0_isRight_0 (by first | assumption | rfl | exact .inl rfl | exact .inr rfl) (by first | assumption | rfl | exact .inl rfl | exact .inr rfl)) ?_ | refine Eq.trans (q_X0_isRight_2 (by first | assumption | rfl | exact .inl rfl | exact .inr rfl) (by first | assumption | rfl | exact .inl rfl | exact .inr rfl)) ?_ | refine Eq.trans (q_X0_isRight_43 (by first | assumption | rfl | exact .inl rfl | exact .inr rfl) (by first | assumption | rfl | exact .inl rfl | exact .inr rfl)) ?_)
    rw [if_pos (by (try simp (disch := omega) only [nI_leI, nI_ltI, nI_eq, nI_add, pk_mul, n_0add, Nat.zero_add, nI_clamp]) <;> omega)]
    rfl
  | q + 1, j, hj => by
    have ih := lp_right hn C B hF q (j + 1) (by omega)
    have h0 : oc0 31 := .inl rfl
    have h1 : oc3 43 := .inl rfl
    obtain ⟨b1, b2⟩ := B j (by omega)
    (first | refine Eq.trans (q_X0_isRight_0 (by first | assumption | rfl | exact .inl rfl | exact .inr rfl) (by first | assumption | rfl | exact .inl rfl | exact .inr rfl)) ?_ | refine Eq.trans (q_X0_isRight_2 (by first | assumption | rfl | exact .inl rfl | exact .inr rfl) (by first | assumption | rfl | exact .inl rfl | exact .inr rfl)) ?_ | refine Eq.trans (q_X0_isRight_43 (by first | assumption | rfl | exact .inl rfl | exact .inr rfl) (by first | assumption | rfl | exact .inl rfl | exact .inr rfl)) ?_)
    rw [if_neg (by (try simp (disch := omega) only [nI_leI, nI_ltI, nI_eq, nI_add, pk_mul, n_0add, Nat.zero_add, nI_clamp]) <;> omega), gd_t (inb_n (by omega) (by decide)), nI_clamp (by omega), show I (31 + 1) j = o2i (bk j) from b1, C.1]
    have go : badC bk n F j = false → runI (runM d) iX0_isRight (43, [some (.ref 31), some (.ref 43), some (.ref 52), some (.int (nI j))], [], mm L X I J) = rB (!(fndF (badC bk n F) (q + 1) j).isSome) (mm L X I J) := by
      intro hb
      (first | refine Eq.trans (q_X0_isRight_0 (by first | assumption | rfl | exact .inl rfl | exact .inr rfl) (by first | assumption | rfl | exact .inl rfl | exact .inr rfl)) ?_ | refine Eq.trans (q_X0_isRight_2 (by first | assumption | rfl | exact .inl rfl | exact .inr rfl) (by first | assumption | rfl | exact .inl rfl | exact .inr rfl)) ?_ | refine Eq.trans (q_X0_isRight_43 (by first | assumption | rfl | exact .inl rfl | exact .inr rfl) (by first | assumption | rfl | exact .inl rfl | exact .inr rfl)) ?_)
      rw [nI_add]
      unfold fndF
      rw [if_neg (by rw [hb]; decide)]
      exact ih
    rcases hb : bk j with _ | v
    · rw [if_pos (show o2i none = -1 from rfl)]
      exact go (by unfold badC; rw [hb])
    · have v99 := b2 v hb
      rw [if_neg (show ¬ o2i (some v) = -1 from nI_m1 v (by omega))]
      by_cases z : j < n
      · rw [if_neg (by (try simp (disch := omega) only [nI_leI, nI_ltI, nI_eq, nI_add, pk_mul, n_0add, Nat.zero_add, nI_clamp]) <;> omega), hF j z]
        by_cases y : F (j + 1) = nI v
        · rw [if_pos (show F (j + 1) = o2i (some v) from y)]
          refine go ?_
          unfold badC
          rw [hb]
          simp only
          rw [decide_eq_true z, decide_eq_true y]
          rfl
        · rw [if_neg (show ¬ F (j + 1) = o2i (some v) from y)]
          unfold fndF
          rw [if_pos (by unfold badC; rw [hb]; simp only; rw [decide_eq_false y, Bool.and_false]; rfl)]
          rfl
      · rw [if_pos (by (try simp (disch := omega) only [nI_leI, nI_ltI, nI_eq, nI_add, pk_mul, n_0add, Nat.zero_add, nI_clamp]) <;> omega)]
        unfold fndF
        rw [if_pos (by unfold badC; rw [hb]; simp only; rw [decide_eq_false z, Bool.false_and]; rfl)]
        rfl
theorem sp_right {F : Nat → Int32} (hn : n ≤ 6) (C : NC I 43 n N) (B : bkC I bk) (hF : ∀ k, k < n → I 53 k = F (k + 1)) : runM (d + 1) nX0_isRight [.ref 31, .ref 43, .ref 52] (mm L X I J) = rB (rgt bk n F) (mm L X I J) := by
  have h0 : oc0 31 := .inl rfl
  have h1 : oc3 43 := .inl rfl
  rw [e_X0_isRight]
  (first | refine Eq.trans (q_X0_isRight_0 (by first | assumption | rfl | exact .inl rfl | exact .inr rfl) (by first | assumption | rfl | exact .inl rfl | exact .inr rfl)) ?_ | refine Eq.trans (q_X0_isRight_2 (by first | assumption | rfl | exact .inl rfl | exact .inr rfl) (by first | assumption | rfl | exact .inl rfl | exact .inr rfl)) ?_ | refine Eq.trans (q_X0_isRight_43 (by first | assumption | rfl | exact .inl rfl | exact .inr rfl) (by first | assumption | rfl | exact .inl rfl | exact .inr rfl)) ?_)
  exact lp_right hn C B hF 6 0 (by omega)
def tlC (I : MI32) (t : Tl) : Prop := ∀ i v, i < 6 → v < 100 → I 33 (i * 100 + v) = nI (t i v)
theorem lp_tally {F : Nat → Int32} {t : Tl} (hn : n ≤ 6) (C : NC I 43 n N) (hF : ∀ k, k < n → I 53 k = F (k + 1)) (hv : ∀ k, F k = nI (nv (F k)) ∧ nv (F k) ≤ 99) : ∀ q j I' u4, j + q = n → Fr [(33, 0)] I I' → tlC I' (tlA j F t) → Rt L X (c_X0_tallyUp_2 (d + 1) L X I' J 31 43 (nI j) u4) none (fun I'' J' => (Fr [(33, 0)] I I'' ∧ tlC I'' (tlA n F t)) ∧ J' = J)
  | 0, j, I', u4, hj, hf, hT => by
    have h0 : oc0 31 := .inl rfl
    have h1 : oc3 43 := .inl rfl
    have e : j = n := by omega
    subst e
    (first | refine rt_eq (q_X0_tallyUp_0 (by first | assumption | rfl | exact .inl rfl | exact .inr rfl) (by first | assumption | rfl | exact .inl rfl | exact .inr rfl)) ?_ | refine rt_eq (q_X0_tallyUp_2 (by first | assumption | rfl | exact .inl rfl | exact .inr rfl) (by first | assumption | rfl | exact .inl rfl | exact .inr rfl)) ?_ | refine rt_eq (q_X0_tallyUp_44 (by first | assumption | rfl | exact .inl rfl | exact .inr rfl) (by first | assumption | rfl | exact .inl rfl | exact .inr rfl)) ?_ | refine rt_eq (q_X0_tallyUp_49 (by first | assumption | rfl | exact .inl rfl | exact .inr rfl) (by first | assumption | rfl | exact .inl rfl | exact .inr rfl)) ?_)
    rw [hf 43 5 rfl, C.1]
    refine rt_t (by (try simp (disch := omega) only [nI_leI, nI_ltI, nI_eq, nI_add, pk_mul, n_0add, Nat.zero_add, nI_clamp]) <;> omega) ?_
    exact rt_ret ⟨⟨hf, hT⟩, rfl⟩
  | q + 1, j, I', u4, hj, hf, hT => by
    have ih := lp_tally (t := t) hn C hF hv q (j + 1)
    have h0 : oc0 31 := .inl rfl
    have h1 : oc3 43 := .inl rfl
    obtain ⟨v1, v2⟩ := hv (j + 1)
    (first | refine rt_eq (q_X0_tallyUp_0 (by first | assumption | rfl | exact .inl rfl | exact .inr rfl) (by first | assumption | rfl | exact .inl rfl | exact .inr rfl)) ?_ | refine rt_eq (q_X0_tallyUp_2 (by first | assumption | rfl | exact .inl rfl | exact .inr rfl) (by first | assumption | rfl | exact .inl rfl | exact .inr rfl)) ?_ | refine rt_eq (q_X0_tallyUp_44 (by first | assumption | rfl | exact .inl rfl | exact .inr rfl) (by first | assumption | rfl | exact .inl rfl | exact .inr rfl)) ?_ | refine rt_eq (q_X0_tallyUp_49 (by first | assumption | rfl | exact .inl rfl | exact .inr rfl) (by first | assumption | rfl | exact .inl rfl | exact .inr rfl)) ?_)
    rw [hf 43 5 rfl, C.1]
    refine rt_f (by (try simp (disch := omega) only [nI_leI, nI_ltI, nI_eq, nI_add, pk_mul, n_0add, Nat.zero_add, nI_clamp]) <;> omega) (rt_f (by (try simp (disch := omega) only [nI_leI, nI_ltI, nI_eq, nI_add, pk_mul, n_0add, Nat.zero_add, nI_clamp]) <;> omega) (rt_gd (inb_n (by omega) (by decide)) ?_))
    rw [nI_clamp (by omega), hf 53 j rfl, hF j (by omega)]
    generalize hw : nv (F (j + 1)) = v at v1 v2
    rw [v1, pk_mul, nI_add]
    refine rt_bne (sp_pick ka_33 (by decide)) ?_
    rw [pk_n (by omega) (by decide), hT j v (by omega) (by omega)]
    (first | refine rt_eq (q_X0_tallyUp_0 (by first | assumption | rfl | exact .inl rfl | exact .inr rfl) (by first | assumption | rfl | exact .inl rfl | exact .inr rfl)) ?_ | refine rt_eq (q_X0_tallyUp_2 (by first | assumption | rfl | exact .inl rfl | exact .inr rfl) (by first | assumption | rfl | exact .inl rfl | exact .inr rfl)) ?_ | refine rt_eq (q_X0_tallyUp_44 (by first | assumption | rfl | exact .inl rfl | exact .inr rfl) (by first | assumption | rfl | exact .inl rfl | exact .inr rfl)) ?_ | refine rt_eq (q_X0_tallyUp_49 (by first | assumption | rfl | exact .inl rfl | exact .inr rfl) (by first | assumption | rfl | exact .inl rfl | exact .inr rfl)) ?_)
    rw [nI_add]
    refine rt_bne (sp_put ka_33 (by decide)) ?_
    rw [pt_n (by omega) (by decide)]
    (first | refine rt_eq (q_X0_tallyUp_0 (by first | assumption | rfl | exact .inl rfl | exact .inr rfl) (by first | assumption | rfl | exact .inl rfl | exact .inr rfl)) ?_ | refine rt_eq (q_X0_tallyUp_2 (by first | assumption | rfl | exact .inl rfl | exact .inr rfl) (by first | assumption | rfl | exact .inl rfl | exact .inr rfl)) ?_ | refine rt_eq (q_X0_tallyUp_44 (by first | assumption | rfl | exact .inl rfl | exact .inr rfl) (by first | assumption | rfl | exact .inl rfl | exact .inr rfl)) ?_ | refine rt_eq (q_X0_tallyUp_49 (by first | assumption | rfl | exact .inl rfl | exact .inr rfl) (by first | assumption | rfl | exact .inl rfl | exact .inr rfl)) ?_)
    rw [nI_add]
    refine ih _ _ (by omega) (fr_up hf rfl) ?_
    intro i v' hi hv'
    rw [up2_at]
    by_cases z : i * 100 + v' = j * 100 + v
    · have e1 : i = j := by omega
      have e2 : v' = v := by omega
      rw [if_pos z, e1, e2]
      unfold tlA
      rw [if_neg (fun q => by omega), if_pos ⟨by omega, hw.symm⟩]
    · rw [if_neg z, hT i v' hi hv']
      unfold tlA
      by_cases y : i < j ∧ v' = nv (F (i + 1))
      · rw [if_pos y, if_pos ⟨by omega, y.2⟩]
      · rw [if_neg y, if_neg]
        rintro ⟨q1, q2⟩
        rcases Nat.eq_or_lt_of_le (Nat.le_of_lt_succ q1) with e | e
        · rw [e, hw] at q2
          exact z (by rw [e, q2])
        · exact y ⟨e, q2⟩
theorem sp_tallyUp {F : Nat → Int32} {t : Tl} (hn : n ≤ 6) (C : NC I 43 n N) (hF : ∀ k, k < n → I 53 k = F (k + 1)) (hv : ∀ k, F k = nI (nv (F k)) ∧ nv (F k) ≤ 99) (hT : tlC I t) : Rt L X (runM (d + 2) nX0_tallyUp [.ref 31, .ref 43, .ref 52] (mm L X I J)) none (fun I'' J' => (Fr [(33, 0)] I I'' ∧ tlC I'' (tlA n F t)) ∧ J' = J) := by
  have h0 : oc0 31 := .inl rfl
  have h1 : oc3 43 := .inl rfl
  rw [e_X0_tallyUp]
  (first | refine rt_eq (q_X0_tallyUp_0 (by first | assumption | rfl | exact .inl rfl | exact .inr rfl) (by first | assumption | rfl | exact .inl rfl | exact .inr rfl)) ?_ | refine rt_eq (q_X0_tallyUp_2 (by first | assumption | rfl | exact .inl rfl | exact .inr rfl) (by first | assumption | rfl | exact .inl rfl | exact .inr rfl)) ?_ | refine rt_eq (q_X0_tallyUp_44 (by first | assumption | rfl | exact .inl rfl | exact .inr rfl) (by first | assumption | rfl | exact .inl rfl | exact .inr rfl)) ?_ | refine rt_eq (q_X0_tallyUp_49 (by first | assumption | rfl | exact .inl rfl | exact .inr rfl) (by first | assumption | rfl | exact .inl rfl | exact .inr rfl)) ?_)
  refine lp_tally hn C hF hv n 0 I _ (by omega) fr_rfl ?_
  intro i v hi hvv
  rw [hT i v hi hvv]
  unfold tlA
  rw [if_neg (fun q => absurd q.1 (Nat.not_lt_zero i))]
theorem lp_fl36 {r : Option Value} {Q : MI32 → MI64 → Prop} {sf : Nat × Int32} {tf : Tl} (ok : HOK h) (W : wfC cd nL 0 0) (R : NR (h 0 0) n N) (z29 : N 29 = nI (nv (N 29)) ∧ nv (N 29) ≤ 99) (C : LX I h nL cd n N bk) (hp : p < n) (go : ∀ I' x4, Fr fLk I I' → I' 31 3 = nI sf.1 → I' 31 4 = sf.2 → tlC I' tf → Rt L X (c_X0_findLeaks_20 (d + 4) L X I' J 31 43 (nI (p + 1)) x4) r Q) : ∀ q b I' s t, b + q = 31 → 1 ≤ b → Fr fLk I I' → I' 52 5 = nI p → I' 31 3 = nI s.1 → I' 31 4 = s.2 → tlC I' t → s.1 < 1000 + b → accF (lkS h nL cd n N bk p) q b s = sf → accF (tlS h nL cd n N bk p) q b t = tf → Rt L X (c_X0_findLeaks_36 (d + 4) L X I' J 31 43 (nI p) (nI b)) r Q
  | 0, b, I', s, t, hb, hb1, hf, e5, e3, e4, hT, hs, hes, het => by
    have h0 : oc0 31 := .inl rfl
    have h1 : oc3 43 := .inl rfl
    have hn := R.1.1
    have a1 : s = sf := hes
    have a2 : t = tf := het
    subst a1 a2
    (first | refine rt_eq (q_X0_findLeaks_0 (by first | assumption | rfl | exact .inl rfl | exact .inr rfl) (by first | assumption | rfl | exact .inl rfl | exact .inr rfl)) ?_ | refine rt_eq (q_X0_findLeaks_18 (by first | assumption | rfl | exact .inl rfl | exact .inr rfl) (by first | assumption | rfl | exact .inl rfl | exact .inr rfl)) ?_ | refine rt_eq (q_X0_findLeaks_20 (by first | assumption | rfl | exact .inl rfl | exact .inr rfl) (by first | assumption | rfl | exact .inl rfl | exact .inr rfl)) ?_ | refine rt_eq (q_X0_findLeaks_36 (by first | assumption | rfl | exact .inl rfl | exact .inr rfl) (by first | assumption | rfl | exact .inl rfl | exact .inr rfl)) ?_ | refine rt_eq (q_X0_findLeaks_58 (by first | assumption | rfl | exact .inl rfl | exact .inr rfl) (by first | assumption | rfl | exact .inl rfl | exact .inr rfl)) ?_ | refine rt_eq (q_X0_findLeaks_65 (by first | assumption | rfl | exact .inl rfl | exact .inr rfl) (by first | assumption | rfl | exact .inl rfl | exact .inr rfl)) ?_ | refine rt_eq (q_X0_findLeaks_109 (by first | assumption | rfl | exact .inl rfl | exact .inr rfl) (by first | assumption | rfl | exact .inl rfl | exact .inr rfl)) ?_ | refine rt_eq (q_X0_findLeaks_90 (by first | assumption | rfl | exact .inl rfl | exact .inr rfl) (by first | assumption | rfl | exact .inl rfl | exact .inr rfl)) ?_)
    refine rt_t (by (try simp (disch := omega) only [nI_leI, nI_ltI, nI_eq, nI_add, pk_mul, n_0add, Nat.zero_add, nI_clamp]) <;> omega) ?_
    rw [nI_add]
    exact go I' _ hf e3 e4 hT
  | q + 1, b, I', s, t, hb, hb1, hf, e5, e3, e4, hT, hs, hes, het => by
    have ih := lp_fl36 ok W R z29 C hp go q (b + 1)
    have h0 : oc0 31 := .inl rfl
    have h1 : oc3 43 := .inl rfl
    have hn := R.1.1
    have hv := flK_le (h := h) (nL := nL) (cd := cd) (p := p) (b := b) (by omega) z29
    have hes' : accF (lkS h nL cd n N bk p) q (b + 1) (lkS h nL cd n N bk p b s) = sf := hes
    have het' : accF (tlS h nL cd n N bk p) q (b + 1) (tlS h nL cd n N bk p b t) = tf := het
    (first | refine rt_eq (q_X0_findLeaks_0 (by first | assumption | rfl | exact .inl rfl | exact .inr rfl) (by first | assumption | rfl | exact .inl rfl | exact .inr rfl)) ?_ | refine rt_eq (q_X0_findLeaks_18 (by first | assumption | rfl | exact .inl rfl | exact .inr rfl) (by first | assumption | rfl | exact .inl rfl | exact .inr rfl)) ?_ | refine rt_eq (q_X0_findLeaks_20 (by first | assumption | rfl | exact .inl rfl | exact .inr rfl) (by first | assumption | rfl | exact .inl rfl | exact .inr rfl)) ?_ | refine rt_eq (q_X0_findLeaks_36 (by first | assumption | rfl | exact .inl rfl | exact .inr rfl) (by first | assumption | rfl | exact .inl rfl | exact .inr rfl)) ?_ | refine rt_eq (q_X0_findLeaks_58 (by first | assumption | rfl | exact .inl rfl | exact .inr rfl) (by first | assumption | rfl | exact .inl rfl | exact .inr rfl)) ?_ | refine rt_eq (q_X0_findLeaks_65 (by first | assumption | rfl | exact .inl rfl | exact .inr rfl) (by first | assumption | rfl | exact .inl rfl | exact .inr rfl)) ?_ | refine rt_eq (q_X0_findLeaks_109 (by first | assumption | rfl | exact .inl rfl | exact .inr rfl) (by first | assumption | rfl | exact .inl rfl | exact .inr rfl)) ?_ | refine rt_eq (q_X0_findLeaks_90 (by first | assumption | rfl | exact .inl rfl | exact .inr rfl) (by first | assumption | rfl | exact .inl rfl | exact .inr rfl)) ?_)
    refine rt_f (by (try simp (disch := omega) only [nI_leI, nI_ltI, nI_eq, nI_add, pk_mul, n_0add, Nat.zero_add, nI_clamp]) <;> omega) ?_
    generalize hI1 : up2 I' 52 6 (nI b) = I1
    have f1 : Fr fLk I I1 := by rw [← hI1]; exact fr_up hf rfl
    have a6 : I1 52 6 = nI b := by rw [← hI1, up2_s]
    have g1 : Fr [(52, 7)] I' I1 := by rw [← hI1]; exact fr_up fr_rfl rfl
    clear hI1
    have C1 := LX_f C f1
    have a5 : I1 52 5 = nI p := by rw [g1 52 5 rfl, e5]
    rw [NC_hope C1.2.2.1]
    refine rt_bnd (sp_arrK ok W R C1 a5 a6) ?_
    rintro I2 J2 ⟨⟨f2, l2⟩, rfl⟩
    have f2' : Fr fLk I I2 := fr_tr f1 (fr_mono f2 (by decide))
    have C2 := LX_f C f2'
    (first | refine rt_eq (q_X0_findLeaks_0 (by first | assumption | rfl | exact .inl rfl | exact .inr rfl) (by first | assumption | rfl | exact .inl rfl | exact .inr rfl)) ?_ | refine rt_eq (q_X0_findLeaks_18 (by first | assumption | rfl | exact .inl rfl | exact .inr rfl) (by first | assumption | rfl | exact .inl rfl | exact .inr rfl)) ?_ | refine rt_eq (q_X0_findLeaks_20 (by first | assumption | rfl | exact .inl rfl | exact .inr rfl) (by first | assumption | rfl | exact .inl rfl | exact .inr rfl)) ?_ | refine rt_eq (q_X0_findLeaks_36 (by first | assumption | rfl | exact .inl rfl | exact .inr rfl) (by first | assumption | rfl | exact .inl rfl | exact .inr rfl)) ?_ | refine rt_eq (q_X0_findLeaks_58 (by first | assumption | rfl | exact .inl rfl | exact .inr rfl) (by first | assumption | rfl | exact .inl rfl | exact .inr rfl)) ?_ | refine rt_eq (q_X0_findLeaks_65 (by first | assumption | rfl | exact .inl rfl | exact .inr rfl) (by first | assumption | rfl | exact .inl rfl | exact .inr rfl)) ?_ | refine rt_eq (q_X0_findLeaks_109 (by first | assumption | rfl | exact .inl rfl | exact .inr rfl) (by first | assumption | rfl | exact .inl rfl | exact .inr rfl)) ?_ | refine rt_eq (q_X0_findLeaks_90 (by first | assumption | rfl | exact .inl rfl | exact .inr rfl) (by first | assumption | rfl | exact .inl rfl | exact .inr rfl)) ?_)
    refine rt_be (sp_right hn C2.2.2.1 C2.2.2.2.2.2 l2) ?_
    (first | refine rt_eq (q_X0_findLeaks_0 (by first | assumption | rfl | exact .inl rfl | exact .inr rfl) (by first | assumption | rfl | exact .inl rfl | exact .inr rfl)) ?_ | refine rt_eq (q_X0_findLeaks_18 (by first | assumption | rfl | exact .inl rfl | exact .inr rfl) (by first | assumption | rfl | exact .inl rfl | exact .inr rfl)) ?_ | refine rt_eq (q_X0_findLeaks_20 (by first | assumption | rfl | exact .inl rfl | exact .inr rfl) (by first | assumption | rfl | exact .inl rfl | exact .inr rfl)) ?_ | refine rt_eq (q_X0_findLeaks_36 (by first | assumption | rfl | exact .inl rfl | exact .inr rfl) (by first | assumption | rfl | exact .inl rfl | exact .inr rfl)) ?_ | refine rt_eq (q_X0_findLeaks_58 (by first | assumption | rfl | exact .inl rfl | exact .inr rfl) (by first | assumption | rfl | exact .inl rfl | exact .inr rfl)) ?_ | refine rt_eq (q_X0_findLeaks_65 (by first | assumption | rfl | exact .inl rfl | exact .inr rfl) (by first | assumption | rfl | exact .inl rfl | exact .inr rfl)) ?_ | refine rt_eq (q_X0_findLeaks_109 (by first | assumption | rfl | exact .inl rfl | exact .inr rfl) (by first | assumption | rfl | exact .inl rfl | exact .inr rfl)) ?_ | refine rt_eq (q_X0_findLeaks_90 (by first | assumption | rfl | exact .inl rfl | exact .inr rfl) (by first | assumption | rfl | exact .inl rfl | exact .inr rfl)) ?_)
    have t2 : tlC I2 t := fun i v hi hvv => by rw [f2 33 _ rfl, g1 33 _ rfl]; exact hT i v hi hvv
    have e32 : I2 31 3 = nI s.1 := by rw [f2 31 3 rfl, g1 31 3 rfl, e3]
    have e42 : I2 31 4 = s.2 := by rw [f2 31 4 rfl, g1 31 4 rfl, e4]
    have e52 : I2 52 5 = nI p := by rw [f2 52 5 rfl, a5]
    by_cases z : rgt bk n (flK h nL cd N p b) = true
    · rw [z]
      refine rt_f (by decide) ?_
      have es : lkS h nL cd n N bk p b s = (s.1 + 1, if s.1 = 0 then nI (100 * p + b) else s.2) := if_pos z
      have et : tlS h nL cd n N bk p b t = tlA n (flK h nL cd N p b) t := if_pos z
      rw [es] at hes'
      rw [et] at het'
      have tail : ∀ y, y = (if s.1 = 0 then nI (100 * p + b) else s.2) → Rt L X (runI (runM (d + 4)) iX0_findLeaks (90, [some (.ref 31), some (.ref 43), some (.ref 52), some (.int (nI p)), some (.int (nI b))], [.int y, .ref 31], mm L X I2 J2)) r Q := by
        intro y hy
        (first | refine rt_eq (q_X0_findLeaks_0 (by first | assumption | rfl | exact .inl rfl | exact .inr rfl) (by first | assumption | rfl | exact .inl rfl | exact .inr rfl)) ?_ | refine rt_eq (q_X0_findLeaks_18 (by first | assumption | rfl | exact .inl rfl | exact .inr rfl) (by first | assumption | rfl | exact .inl rfl | exact .inr rfl)) ?_ | refine rt_eq (q_X0_findLeaks_20 (by first | assumption | rfl | exact .inl rfl | exact .inr rfl) (by first | assumption | rfl | exact .inl rfl | exact .inr rfl)) ?_ | refine rt_eq (q_X0_findLeaks_36 (by first | assumption | rfl | exact .inl rfl | exact .inr rfl) (by first | assumption | rfl | exact .inl rfl | exact .inr rfl)) ?_ | refine rt_eq (q_X0_findLeaks_58 (by first | assumption | rfl | exact .inl rfl | exact .inr rfl) (by first | assumption | rfl | exact .inl rfl | exact .inr rfl)) ?_ | refine rt_eq (q_X0_findLeaks_65 (by first | assumption | rfl | exact .inl rfl | exact .inr rfl) (by first | assumption | rfl | exact .inl rfl | exact .inr rfl)) ?_ | refine rt_eq (q_X0_findLeaks_109 (by first | assumption | rfl | exact .inl rfl | exact .inr rfl) (by first | assumption | rfl | exact .inl rfl | exact .inr rfl)) ?_ | refine rt_eq (q_X0_findLeaks_90 (by first | assumption | rfl | exact .inl rfl | exact .inr rfl) (by first | assumption | rfl | exact .inl rfl | exact .inr rfl)) ?_)
        rw [up2_k (show ¬ 3 = 4 by decide), e32, nI_add]
        generalize hI3 : up2 (up2 I2 31 4 y) 31 3 (nI (s.1 + 1)) = I3
        have f3 : Fr fLk I I3 := by rw [← hI3]; exact fr_up (fr_up f2' rfl) rfl
        have g3 : Fr [(31, 4), (31, 5)] I2 I3 := by rw [← hI3]; exact fr_up (fr_up fr_rfl rfl) rfl
        have e33 : I3 31 3 = nI (s.1 + 1) := by rw [← hI3, up2_s]
        have e43 : I3 31 4 = y := by rw [← hI3, up2_k (by decide), up2_s]
        clear hI3
        have C3 := LX_f C f3
        refine rt_bnd (sp_tallyUp hn C3.2.2.1 (fun k hk => by rw [g3 53 k rfl]; exact l2 k hk) hv (fun i v hi hvv => by rw [g3 33 _ rfl]; exact t2 i v hi hvv)) ?_
        rintro I4 J4 ⟨⟨f4, t4⟩, rfl⟩
        (first | refine rt_eq (q_X0_findLeaks_0 (by first | assumption | rfl | exact .inl rfl | exact .inr rfl) (by first | assumption | rfl | exact .inl rfl | exact .inr rfl)) ?_ | refine rt_eq (q_X0_findLeaks_18 (by first | assumption | rfl | exact .inl rfl | exact .inr rfl) (by first | assumption | rfl | exact .inl rfl | exact .inr rfl)) ?_ | refine rt_eq (q_X0_findLeaks_20 (by first | assumption | rfl | exact .inl rfl | exact .inr rfl) (by first | assumption | rfl | exact .inl rfl | exact .inr rfl)) ?_ | refine rt_eq (q_X0_findLeaks_36 (by first | assumption | rfl | exact .inl rfl | exact .inr rfl) (by first | assumption | rfl | exact .inl rfl | exact .inr rfl)) ?_ | refine rt_eq (q_X0_findLeaks_58 (by first | assumption | rfl | exact .inl rfl | exact .inr rfl) (by first | assumption | rfl | exact .inl rfl | exact .inr rfl)) ?_ | refine rt_eq (q_X0_findLeaks_65 (by first | assumption | rfl | exact .inl rfl | exact .inr rfl) (by first | assumption | rfl | exact .inl rfl | exact .inr rfl)) ?_ | refine rt_eq (q_X0_findLeaks_109 (by first | assumption | rfl | exact .inl rfl | exact .inr rfl) (by first | assumption | rfl | exact .inl rfl | exact .inr rfl)) ?_ | refine rt_eq (q_X0_findLeaks_90 (by first | assumption | rfl | exact .inl rfl | exact .inr rfl) (by first | assumption | rfl | exact .inl rfl | exact .inr rfl)) ?_)
        rw [nI_add]
        refine ih I4 _ _ (by omega) (by omega) (fr_tr f3 (fr_mono f4 (by decide))) (by rw [f4 52 5 rfl, g3 52 5 rfl, e52]) (by rw [f4 31 3 rfl, e33]) (by rw [f4 31 4 rfl, e43, hy]) t4 ?_ hes' het'
        show s.1 + 1 < 1000 + (b + 1)
        omega
      rw [e32, e42]
      by_cases y : s.1 = 0
      · refine rt_t (congrArg nI y) ?_
        rw [pk_mul, nI_add]
        exact tail _ (by rw [if_pos y])
      · refine rt_f (by rw [nI_eq (by omega) (by decide)]; exact y) ?_
        exact tail _ (by rw [if_neg y])
    · have es : lkS h nL cd n N bk p b s = s := if_neg z
      have et : tlS h nL cd n N bk p b t = t := if_neg z
      rw [es] at hes'
      rw [et] at het'
      rw [Bool.not_eq_true] at z
      rw [z]
      refine rt_t bI_f ?_
      (first | refine rt_eq (q_X0_findLeaks_0 (by first | assumption | rfl | exact .inl rfl | exact .inr rfl) (by first | assumption | rfl | exact .inl rfl | exact .inr rfl)) ?_ | refine rt_eq (q_X0_findLeaks_18 (by first | assumption | rfl | exact .inl rfl | exact .inr rfl) (by first | assumption | rfl | exact .inl rfl | exact .inr rfl)) ?_ | refine rt_eq (q_X0_findLeaks_20 (by first | assumption | rfl | exact .inl rfl | exact .inr rfl) (by first | assumption | rfl | exact .inl rfl | exact .inr rfl)) ?_ | refine rt_eq (q_X0_findLeaks_36 (by first | assumption | rfl | exact .inl rfl | exact .inr rfl) (by first | assumption | rfl | exact .inl rfl | exact .inr rfl)) ?_ | refine rt_eq (q_X0_findLeaks_58 (by first | assumption | rfl | exact .inl rfl | exact .inr rfl) (by first | assumption | rfl | exact .inl rfl | exact .inr rfl)) ?_ | refine rt_eq (q_X0_findLeaks_65 (by first | assumption | rfl | exact .inl rfl | exact .inr rfl) (by first | assumption | rfl | exact .inl rfl | exact .inr rfl)) ?_ | refine rt_eq (q_X0_findLeaks_109 (by first | assumption | rfl | exact .inl rfl | exact .inr rfl) (by first | assumption | rfl | exact .inl rfl | exact .inr rfl)) ?_ | refine rt_eq (q_X0_findLeaks_90 (by first | assumption | rfl | exact .inl rfl | exact .inr rfl) (by first | assumption | rfl | exact .inl rfl | exact .inr rfl)) ?_)
      rw [nI_add]
      exact ih I2 s t (by omega) (by omega) f2' e52 e32 e42 t2 (by omega) hes' het'
theorem lk_bnd : ∀ q b s, (accF (lkS h nL cd n N bk p) q b s).1 ≤ s.1 + q
  | 0, b, s => Nat.le_refl _
  | q + 1, b, s => by
    have ih := lk_bnd q (b + 1) (lkS h nL cd n N bk p b s)
    have : (lkS h nL cd n N bk p b s).1 ≤ s.1 + 1 := by
      unfold lkS
      by_cases z : rgt bk n (flK h nL cd N p b) = true
      · rw [if_pos z]
        exact Nat.le_refl _
      · rw [if_neg z]
        omega
    show (accF (lkS h nL cd n N bk p) q (b + 1) (lkS h nL cd n N bk p b s)).1 ≤ _
    omega
theorem lp_fl20 (ok : HOK h) (W : wfC cd nL 0 0) (R : NR (h 0 0) n N) (z29 : N 29 = nI (nv (N 29)) ∧ nv (N 29) ≤ 99) (C : LX I h nL cd n N bk) : ∀ q p I' s t x4, p + q = n → Fr fLk I I' → I' 31 3 = nI s.1 → I' 31 4 = s.2 → tlC I' t → s.1 ≤ 30 * p → accF (fun p s => accF (lkS h nL cd n N bk p) 30 1 s) q p s = lkR h nL cd n N bk → accF (fun p s => accF (tlS h nL cd n N bk p) 30 1 s) q p t = tlR h nL cd n N bk → Rt L X (c_X0_findLeaks_20 (d + 4) L X I' J 31 43 (nI p) x4) none (fun I'' J' => (Fr fLk I I'' ∧ I'' 52 5 = -1 ∧ I'' 31 3 = nI (lkR h nL cd n N bk).1 ∧ I'' 31 4 = (lkR h nL cd n N bk).2 ∧ tlC I'' (tlR h nL cd n N bk)) ∧ J' = J)
  | 0, p, I', s, t, x4, hp, hf, e3, e4, hT, hs, hes, het => by
    have h0 : oc0 31 := .inl rfl
    have h1 : oc3 43 := .inl rfl
    have hn := R.1.1
    have C' := LX_f C hf
    have a1 : s = lkR h nL cd n N bk := hes
    have a2 : t = tlR h nL cd n N bk := het
    (first | refine rt_eq (q_X0_findLeaks_0 (by first | assumption | rfl | exact .inl rfl | exact .inr rfl) (by first | assumption | rfl | exact .inl rfl | exact .inr rfl)) ?_ | refine rt_eq (q_X0_findLeaks_18 (by first | assumption | rfl | exact .inl rfl | exact .inr rfl) (by first | assumption | rfl | exact .inl rfl | exact .inr rfl)) ?_ | refine rt_eq (q_X0_findLeaks_20 (by first | assumption | rfl | exact .inl rfl | exact .inr rfl) (by first | assumption | rfl | exact .inl rfl | exact .inr rfl)) ?_ | refine rt_eq (q_X0_findLeaks_36 (by first | assumption | rfl | exact .inl rfl | exact .inr rfl) (by first | assumption | rfl | exact .inl rfl | exact .inr rfl)) ?_ | refine rt_eq (q_X0_findLeaks_58 (by first | assumption | rfl | exact .inl rfl | exact .inr rfl) (by first | assumption | rfl | exact .inl rfl | exact .inr rfl)) ?_ | refine rt_eq (q_X0_findLeaks_65 (by first | assumption | rfl | exact .inl rfl | exact .inr rfl) (by first | assumption | rfl | exact .inl rfl | exact .inr rfl)) ?_ | refine rt_eq (q_X0_findLeaks_109 (by first | assumption | rfl | exact .inl rfl | exact .inr rfl) (by first | assumption | rfl | exact .inl rfl | exact .inr rfl)) ?_ | refine rt_eq (q_X0_findLeaks_90 (by first | assumption | rfl | exact .inl rfl | exact .inr rfl) (by first | assumption | rfl | exact .inl rfl | exact .inr rfl)) ?_)
    rw [C'.2.2.1.1]
    refine rt_t (by (try simp (disch := omega) only [nI_leI, nI_ltI, nI_eq, nI_add, pk_mul, n_0add, Nat.zero_add, nI_clamp]) <;> omega) ?_
    refine rt_ret ⟨⟨fr_up hf rfl, up2_s, ?_, ?_, ?_⟩, rfl⟩
    · rw [up2_n (by decide), e3, a1]
    · rw [up2_n (by decide), e4, a1]
    · intro i v hi hvv
      rw [up2_n (by decide), hT i v hi hvv, a2]
  | q + 1, p, I', s, t, x4, hp, hf, e3, e4, hT, hs, hes, het => by
    have ih := lp_fl20 ok W R z29 C q (p + 1)
    have h0 : oc0 31 := .inl rfl
    have h1 : oc3 43 := .inl rfl
    have hn := R.1.1
    have C' := LX_f C hf
    (first | refine rt_eq (q_X0_findLeaks_0 (by first | assumption | rfl | exact .inl rfl | exact .inr rfl) (by first | assumption | rfl | exact .inl rfl | exact .inr rfl)) ?_ | refine rt_eq (q_X0_findLeaks_18 (by first | assumption | rfl | exact .inl rfl | exact .inr rfl) (by first | assumption | rfl | exact .inl rfl | exact .inr rfl)) ?_ | refine rt_eq (q_X0_findLeaks_20 (by first | assumption | rfl | exact .inl rfl | exact .inr rfl) (by first | assumption | rfl | exact .inl rfl | exact .inr rfl)) ?_ | refine rt_eq (q_X0_findLeaks_36 (by first | assumption | rfl | exact .inl rfl | exact .inr rfl) (by first | assumption | rfl | exact .inl rfl | exact .inr rfl)) ?_ | refine rt_eq (q_X0_findLeaks_58 (by first | assumption | rfl | exact .inl rfl | exact .inr rfl) (by first | assumption | rfl | exact .inl rfl | exact .inr rfl)) ?_ | refine rt_eq (q_X0_findLeaks_65 (by first | assumption | rfl | exact .inl rfl | exact .inr rfl) (by first | assumption | rfl | exact .inl rfl | exact .inr rfl)) ?_ | refine rt_eq (q_X0_findLeaks_109 (by first | assumption | rfl | exact .inl rfl | exact .inr rfl) (by first | assumption | rfl | exact .inl rfl | exact .inr rfl)) ?_ | refine rt_eq (q_X0_findLeaks_90 (by first | assumption | rfl | exact .inl rfl | exact .inr rfl) (by first | assumption | rfl | exact .inl rfl | exact .inr rfl)) ?_)
    rw [C'.2.2.1.1]
    refine rt_f (by (try simp (disch := omega) only [nI_leI, nI_ltI, nI_eq, nI_add, pk_mul, n_0add, Nat.zero_add, nI_clamp]) <;> omega) ?_
    have f1 : Fr fLk I (up2 I' 52 5 (nI p)) := fr_up hf rfl
    have C1 := LX_f C f1
    refine lp_fl36 (sf := accF (lkS h nL cd n N bk p) 30 1 s) (tf := accF (tlS h nL cd n N bk p) 30 1 t) ok W R z29 C1 (by omega) (fun I2 x4 f2 a3 a4 a5 => ?_) 30 1 _ s t (by omega) (by omega) fr_rfl up2_s (by rw [up2_n (by decide)]; exact e3) (by rw [up2_n (by decide)]; exact e4) (fun i v hi hvv => by rw [up2_n (by decide)]; exact hT i v hi hvv) (by omega) rfl rfl
    have hb := lk_bnd (h := h) (nL := nL) (cd := cd) (n := n) (N := N) (bk := bk) (p := p) 30 1 s
    exact ih I2 _ _ x4 (by omega) (fr_tr f1 f2) a3 a4 a5 (by omega) hes het
theorem sp_findLeaks (ok : HOK h) (W : wfC cd nL 0 0) (R : NR (h 0 0) n N) (z29 : N 29 = nI (nv (N 29)) ∧ nv (N 29) ≤ 99) (C : LX I h nL cd n N bk) : Rt L X (runM (d + 5) nX0_findLeaks [.ref 31, .ref 43, .ref 52] (mm L X I J)) none (fun I'' J' => (Fr fLk I I'' ∧ I'' 52 5 = -1 ∧ I'' 31 3 = nI (lkR h nL cd n N bk).1 ∧ I'' 31 4 = (lkR h nL cd n N bk).2 ∧ tlC I'' (tlR h nL cd n N bk)) ∧ J' = J) := by
  have h0 : oc0 31 := .inl rfl
  have h1 : oc3 43 := .inl rfl
  rw [e_X0_findLeaks]
  (first | refine rt_eq (q_X0_findLeaks_0 (by first | assumption | rfl | exact .inl rfl | exact .inr rfl) (by first | assumption | rfl | exact .inl rfl | exact .inr rfl)) ?_ | refine rt_eq (q_X0_findLeaks_18 (by first | assumption | rfl | exact .inl rfl | exact .inr rfl) (by first | assumption | rfl | exact .inl rfl | exact .inr rfl)) ?_ | refine rt_eq (q_X0_findLeaks_20 (by first | assumption | rfl | exact .inl rfl | exact .inr rfl) (by first | assumption | rfl | exact .inl rfl | exact .inr rfl)) ?_ | refine rt_eq (q_X0_findLeaks_36 (by first | assumption | rfl | exact .inl rfl | exact .inr rfl) (by first | assumption | rfl | exact .inl rfl | exact .inr rfl)) ?_ | refine rt_eq (q_X0_findLeaks_58 (by first | assumption | rfl | exact .inl rfl | exact .inr rfl) (by first | assumption | rfl | exact .inl rfl | exact .inr rfl)) ?_ | refine rt_eq (q_X0_findLeaks_65 (by first | assumption | rfl | exact .inl rfl | exact .inr rfl) (by first | assumption | rfl | exact .inl rfl | exact .inr rfl)) ?_ | refine rt_eq (q_X0_findLeaks_109 (by first | assumption | rfl | exact .inl rfl | exact .inr rfl) (by first | assumption | rfl | exact .inl rfl | exact .inr rfl)) ?_ | refine rt_eq (q_X0_findLeaks_90 (by first | assumption | rfl | exact .inl rfl | exact .inr rfl) (by first | assumption | rfl | exact .inl rfl | exact .inr rfl)) ?_)
  refine rt_bndN (sp_fillI ka_33 (by decide)) ?_
  rintro I1 J1 ⟨⟨f1, z1⟩, rfl⟩
  (first | refine rt_eq (q_X0_findLeaks_0 (by first | assumption | rfl | exact .inl rfl | exact .inr rfl) (by first | assumption | rfl | exact .inl rfl | exact .inr rfl)) ?_ | refine rt_eq (q_X0_findLeaks_18 (by first | assumption | rfl | exact .inl rfl | exact .inr rfl) (by first | assumption | rfl | exact .inl rfl | exact .inr rfl)) ?_ | refine rt_eq (q_X0_findLeaks_20 (by first | assumption | rfl | exact .inl rfl | exact .inr rfl) (by first | assumption | rfl | exact .inl rfl | exact .inr rfl)) ?_ | refine rt_eq (q_X0_findLeaks_36 (by first | assumption | rfl | exact .inl rfl | exact .inr rfl) (by first | assumption | rfl | exact .inl rfl | exact .inr rfl)) ?_ | refine rt_eq (q_X0_findLeaks_58 (by first | assumption | rfl | exact .inl rfl | exact .inr rfl) (by first | assumption | rfl | exact .inl rfl | exact .inr rfl)) ?_ | refine rt_eq (q_X0_findLeaks_65 (by first | assumption | rfl | exact .inl rfl | exact .inr rfl) (by first | assumption | rfl | exact .inl rfl | exact .inr rfl)) ?_ | refine rt_eq (q_X0_findLeaks_109 (by first | assumption | rfl | exact .inl rfl | exact .inr rfl) (by first | assumption | rfl | exact .inl rfl | exact .inr rfl)) ?_ | refine rt_eq (q_X0_findLeaks_90 (by first | assumption | rfl | exact .inl rfl | exact .inr rfl) (by first | assumption | rfl | exact .inl rfl | exact .inr rfl)) ?_)
  exact lp_fl20 ok W R z29 C n 0 I1 (0, -1) (fun _ _ => 0) _ (by omega) (fr_tr (fr_up (fr_up fr_rfl rfl) rfl) (fr_mono f1 (by decide))) (by rw [f1 31 3 rfl, up2_k (by decide), up2_s]) (by rw [f1 31 4 rfl, up2_s]) (fun i v hi hv => z1 _ (by omega)) (by omega) rfl rfl
end LK
