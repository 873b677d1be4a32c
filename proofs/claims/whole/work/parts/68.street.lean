/-! STREET: the words, the class -/
def bdl (g t k : Nat) : Int32 := (if k = g then nI 1 else nI 0) + (if k = t then -1 else nI 0)
/-- what arrives, the street having bent g, the house t -/
def cmF (h : Hs) (nL : Nat) (cd : Cd) (N : Nt) (g t j : Nat) : Int32 := flN h nL cd N (N 29) (fun k => bdN N k + bdl g t k) (bsN N) noL j
def cmN (h : Hs) (nL : Nat) (cd : Cd) (n : Nat) (N : Nt) (g t : Nat) : Nat := nv (cmF h nL cd N g t n)
def ctk (n : Nat) (N : Nt) (t : Nat) : Bool := decide (t = n) || decide (nI 0 < N (12 + nv (N t)))
def pdN (n w g : Nat) : Nat := if g = n then 0 else w
def atN (n g : Nat) : Nat := if g = n then 8 else g
def badR (h : Hs) (nL : Nat) (cd : Cd) (n : Nat) (N : Nt) (w g t o : Nat) : Bool := !decide (cmN h nL cd n N g t + pdN n w g ≤ cmN h nL cd n N o t + pdN n w o) || (ctk n N o && !decide (cmN h nL cd n N g o + pdN n w t ≤ cmN h nL cd n N g t + pdN n w o))
def rstN (h : Hs) (nL : Nat) (cd : Cd) (n : Nat) (N : Nt) (w g t : Nat) : Bool := !(fndF (badR h nL cd n N w g t) (n + 1) 0).isSome
abbrev Sts : Type := Nat × Int32 × Nat
def stS (h : Hs) (nL : Nat) (cd : Cd) (n : Nat) (N : Nt) (w g t : Nat) (z : Sts) : Sts := if (ctk n N t && rstN h nL cd n N w g t) = true then (z.1 + 1, if z.1 = 0 then nI (10 * atN n g + atN n t) else z.2.1, if z.1 = 0 then pdN n w g + pdN n w t else z.2.2) else z
def stR (h : Hs) (nL : Nat) (cd : Cd) (n : Nat) (N : Nt) (w : Nat) : Sts := accF (fun g z => accF (stS h nL cd n N w g) (n + 1) 0 z) (n + 1) 0 (0, -1, 0)
def stV (v : Nat) (z : Sts) (k : Nat) : Int32 := if k = 0 then nI z.1 else if k = 1 then z.2.1 else if z.1 = 0 then nI 0 else nI v - nI z.2.2
theorem cs_sub {v a b : Nat} (hv : v < 2 ^ 30) (ha : a < 2 ^ 30) (hb : b < 2 ^ 30) : nI v - nI a ≤ nI v - nI b ↔ b ≤ a := by
  rw [Int32.le_iff_toInt_le, pk_sub_toInt hv ha, pk_sub_toInt hv hb]
  omega
theorem cs_sub2 {a b p q : Nat} (ha : a < 2 ^ 30) (hb : b < 2 ^ 30) (hp : p < 2 ^ 30) (hq : q < 2 ^ 30) : nI a - nI p ≤ nI b - nI q ↔ a + q ≤ b + p := by
  rw [Int32.le_iff_toInt_le, pk_sub_toInt ha hp, pk_sub_toInt hb hq]
  omega
theorem neg_sub2 {a p : Nat} : -(nI a) - nI p = nI 0 - nI (a + p) := by
  rw [← nI_add, nI_0, Int32.zero_sub, Int32.neg_add]
theorem sub_sub2 {v a p : Nat} : nI v - nI a - nI p = nI v - nI (a + p) := by
  rw [← nI_add, Int32.sub_sub]
def fSt : Fls := [(25, 0), (26, 0), (53, 0), (54, 0), (64, 0), (65, 0)]
section ST
variable {d L X : Nat} {I : MI32} {J : MI64} {h : Hs} {nL n : Nat} {cd : Cd} {N : Nt} {w g t : Nat}
theorem cmF_le (z29 : N 29 = nI (nv (N 29)) ∧ nv (N 29) ≤ 99) : cmF h nL cd N g t n = nI (cmN h nL cd n N g t) ∧ cmN h nL cd n N g t ≤ 99 := by
  have key : ∃ v, v ≤ 99 ∧ cmF h nL cd N g t n = nI v := by
    rcases n with _ | j
    · exact ⟨_, z29.2, z29.1⟩
    · exact lwl_le
  obtain ⟨v, v1, v2⟩ := key
  unfold cmN
  rw [v2, nv_n (by omega)]
  exact ⟨rfl, v1⟩
/-- what the class's street needs -/
def TX (I : MI32) (h : Hs) (nL : Nat) (cd : Cd) (n : Nat) (N : Nt) (w : Nat) : Prop := HC I h (h 0 1) ∧ LawC I nL cd ∧ NC I 43 n N ∧ (∀ k, k < 6 → I 55 k = nI 0) ∧ I 52 5 = -1 ∧ I 64 2 = nI n ∧ I 64 3 = nI w
def fS0 : Fls := [(25, 0), (26, 0), (53, 0), (54, 0), (65, 0), (64, 5), (64, 6), (64, 7)]
theorem TX_f {I' : MI32} (C : TX I h nL cd n N w) (g : Fr fS0 I I') : TX I' h nL cd n N w := ⟨HC_fr C.1 (ag_of g (by decide)), LawC_fr C.2.1 (ag_of g (by decide)), NC_fr C.2.2.1 (ag_of g (by decide)), fun k hk => by rw [g 55 k rfl]; exact C.2.2.2.1 k hk, by rw [g 52 5 rfl]; exact C.2.2.2.2.1, by rw [g 64 2 rfl]; exact C.2.2.2.2.2.1, by rw [g 64 3 rfl]; exact C.2.2.2.2.2.2⟩
theorem sp_canTake (C : TX I h nL cd n N w) (R : NR (h 0 0) n N) (ht : t ≤ n) : runM (d + 2) nX6_canTake [.ref 64, .ref 43, .int (nI t)] (mm L X I J) = rB (ctk n N t) (mm L X I J) := by
  have h1 : oc3 43 := .inl rfl
  obtain ⟨⟨n6, np6⟩, r2, -, -, -⟩ := R
  rw [e_X6_canTake]
  (first | refine Eq.trans (q_X6_canTake_0 (by first | assumption | rfl | exact .inl rfl | exact .inr rfl)) ?_ | refine Eq.trans (q_X6_canTake_20 (by first | assumption | rfl | exact .inl rfl | exact .inr rfl)) ?_ | refine Eq.trans (q_X6_canTake_23) ?_)
  rw [C.2.2.2.2.2.1]
  unfold ctk
  by_cases z : t = n
  · rw [if_pos (congrArg nI z), decide_eq_true z]
    rfl
  · rw [if_neg (by rw [nI_eq (by omega) (by omega)]; exact z), decide_eq_false z]
    obtain ⟨w1, w2⟩ := r2 t (by omega)
    refine (bndN_e (sp_pick ka_44 (by decide))).trans ?_
    rw [pk_n (by omega) (by decide), show I 44 t = N t from C.2.2.1.2.1 t (by omega), w1]
    (first | refine Eq.trans (q_X6_canTake_0 (by first | assumption | rfl | exact .inl rfl | exact .inr rfl)) ?_ | refine Eq.trans (q_X6_canTake_20 (by first | assumption | rfl | exact .inl rfl | exact .inr rfl)) ?_ | refine Eq.trans (q_X6_canTake_23) ?_)
    refine (bndN_e (sp_pick ka_45 (by decide))).trans ?_
    rw [pk_n (by omega) (by decide), show I 45 (nv (N t)) = N (12 + nv (N t)) from C.2.2.1.2.2.1 _ (by omega), nv_n (by omega)]
    (first | refine Eq.trans (q_X6_canTake_0 (by first | assumption | rfl | exact .inl rfl | exact .inr rfl)) ?_ | refine Eq.trans (q_X6_canTake_20 (by first | assumption | rfl | exact .inl rfl | exact .inr rfl)) ?_ | refine Eq.trans (q_X6_canTake_23) ?_)
    by_cases y : nI 0 < N (12 + nv (N t))
    · rw [if_neg (Int32.not_le.mpr y), decide_eq_true y]
      rfl
    · rw [if_pos (Int32.not_lt.mp y), decide_eq_false y]
      rfl
theorem sp_bendMore {x : Int32} (hg : g < 2 ^ 31) : runM (d + 2) nX6_bendMore [.ref 64, .int (nI g), .int x] (mm L X I J) = rV (mm L X (pt I 54 6 (nI g) (pk (I 54) 6 (nI g) + x)) J) := by
  rw [e_X6_bendMore]
  (first | refine Eq.trans (q_X6_bendMore_0) ?_ | refine Eq.trans (q_X6_bendMore_19) ?_ | refine Eq.trans (q_X6_bendMore_24) ?_)
  refine (bndN_e (sp_pick ka_54 (by decide))).trans ?_
  (first | refine Eq.trans (q_X6_bendMore_0) ?_ | refine Eq.trans (q_X6_bendMore_19) ?_ | refine Eq.trans (q_X6_bendMore_24) ?_)
  refine (bndN_e (sp_put ka_54 (by decide))).trans ?_
  exact q_X6_bendMore_24
/-- bending: all but one place is as it was -/
theorem bend_at {x : Int32} {k : Nat} (hg : g < 2 ^ 31) (hk : k < 6) : (pt I 54 6 (nI g) (pk (I 54) 6 (nI g) + x)) 54 k = if k = g then I 54 k + x else I 54 k := by
  rcases Nat.lt_or_ge g 6 with z | z
  · rw [pt_n z (by decide), pk_n z (by decide), up2_at]
    by_cases y : k = g
    · rw [if_pos y, if_pos y, y]
    · rw [if_neg y, if_neg y]
  · rw [pt_out z hg, if_neg (by omega)]
theorem bend_fr {x : Int32} {l : Fls} {I0 : MI32} (hf : Fr l I0 I) (hl : ∀ j, inF l 54 j = true) : Fr l I0 (pt I 54 6 (nI g) x) := by
  unfold pt
  by_cases z : inb (nI g) 6 = true
  · rw [if_pos z]
    exact fr_up hf (hl _)
  · rw [if_neg z]
    exact hf
def arT (I : MI32) (h : Hs) (nL : Nat) (cd : Cd) (n : Nat) (N : Nt) (g t : Nat) : Prop := ∀ g' t', g' ≤ n → t' ≤ n → (g' < g ∨ (g' = g ∧ t' < t)) → ctk n N t' = true → I 65 (g' * 7 + t') = cmF h nL cd N g' t' n
def fFa : Fls := [(25, 0), (26, 0), (53, 0), (54, 0), (65, 0)]
theorem TX_a {I' : MI32} (C : TX I h nL cd n N w) (g : Fr fFa I I') : TX I' h nL cd n N w := TX_f C (fr_mono g (by decide))
theorem lp_fa12 {r : Option Value} {Q : MI32 → MI64 → Prop} (ok : HOK h) (W : wfC cd nL 0 0) (R : NR (h 0 0) n N) (C : TX I h nL cd n N w) (hg : g ≤ n) (go : ∀ I' u3, Fr fFa I I' → (∀ k, k < 6 → I' 54 k = nI 0) → arT I' h nL cd n N (g + 1) 0 → Rt L X (c_X6_fillArrives_2 (d + 4) L X I' J 43 (nI (g + 1)) u3) r Q) : ∀ q t I', t + q = n + 1 → Fr fFa I I' → (∀ k, k < 6 → I' 54 k = nI 0) → arT I' h nL cd n N g t → Rt L X (c_X6_fillArrives_12 (d + 4) L X I' J 43 (nI g) (nI t)) r Q
  | 0, t, I', ht, hf, h0, hA => by
    have h1 : oc3 43 := .inl rfl
    have n6 := R.1.1
    have C' := TX_a C hf
    (first | refine rt_eq (q_X6_fillArrives_0 (by first | assumption | rfl | exact .inl rfl | exact .inr rfl)) ?_ | refine rt_eq (q_X6_fillArrives_2 (by first | assumption | rfl | exact .inl rfl | exact .inr rfl)) ?_ | refine rt_eq (q_X6_fillArrives_12 (by first | assumption | rfl | exact .inl rfl | exact .inr rfl)) ?_ | refine rt_eq (q_X6_fillArrives_26 (by first | assumption | rfl | exact .inl rfl | exact .inr rfl)) ?_ | refine rt_eq (q_X6_fillArrives_78 (by first | assumption | rfl | exact .inl rfl | exact .inr rfl)) ?_ | refine rt_eq (q_X6_fillArrives_35 (by first | assumption | rfl | exact .inl rfl | exact .inr rfl)) ?_ | refine rt_eq (q_X6_fillArrives_41 (by first | assumption | rfl | exact .inl rfl | exact .inr rfl)) ?_ | refine rt_eq (q_X6_fillArrives_63 (by first | assumption | rfl | exact .inl rfl | exact .inr rfl)) ?_ | refine rt_eq (q_X6_fillArrives_66 (by first | assumption | rfl | exact .inl rfl | exact .inr rfl)) ?_ | refine rt_eq (q_X6_fillArrives_72 (by first | assumption | rfl | exact .inl rfl | exact .inr rfl)) ?_)
    rw [C'.2.2.2.2.2.1]
    refine rt_t (by (try simp (disch := omega) only [nI_leI, nI_ltI, nI_eq, nI_add, pk_mul, n_0add, Nat.zero_add, nI_clamp]) <;> omega) ?_
    rw [nI_add]
    refine go I' _ hf h0 ?_
    intro g' t' a1 a2 a3 a4
    exact hA g' t' a1 a2 (by omega) a4
  | q + 1, t, I', ht, hf, h0, hA => by
    have ih := lp_fa12 ok W R C hg go q (t + 1)
    have h1 : oc3 43 := .inl rfl
    have n6 := R.1.1
    have C' := TX_a C hf
    (first | refine rt_eq (q_X6_fillArrives_0 (by first | assumption | rfl | exact .inl rfl | exact .inr rfl)) ?_ | refine rt_eq (q_X6_fillArrives_2 (by first | assumption | rfl | exact .inl rfl | exact .inr rfl)) ?_ | refine rt_eq (q_X6_fillArrives_12 (by first | assumption | rfl | exact .inl rfl | exact .inr rfl)) ?_ | refine rt_eq (q_X6_fillArrives_26 (by first | assumption | rfl | exact .inl rfl | exact .inr rfl)) ?_ | refine rt_eq (q_X6_fillArrives_78 (by first | assumption | rfl | exact .inl rfl | exact .inr rfl)) ?_ | refine rt_eq (q_X6_fillArrives_35 (by first | assumption | rfl | exact .inl rfl | exact .inr rfl)) ?_ | refine rt_eq (q_X6_fillArrives_41 (by first | assumption | rfl | exact .inl rfl | exact .inr rfl)) ?_ | refine rt_eq (q_X6_fillArrives_63 (by first | assumption | rfl | exact .inl rfl | exact .inr rfl)) ?_ | refine rt_eq (q_X6_fillArrives_66 (by first | assumption | rfl | exact .inl rfl | exact .inr rfl)) ?_ | refine rt_eq (q_X6_fillArrives_72 (by first | assumption | rfl | exact .inl rfl | exact .inr rfl)) ?_)
    rw [C'.2.2.2.2.2.1]
    refine rt_f (by (try simp (disch := omega) only [nI_leI, nI_ltI, nI_eq, nI_add, pk_mul, n_0add, Nat.zero_add, nI_clamp]) <;> omega) ?_
    refine rt_be (sp_canTake C' R (by omega)) ?_
    (first | refine rt_eq (q_X6_fillArrives_0 (by first | assumption | rfl | exact .inl rfl | exact .inr rfl)) ?_ | refine rt_eq (q_X6_fillArrives_2 (by first | assumption | rfl | exact .inl rfl | exact .inr rfl)) ?_ | refine rt_eq (q_X6_fillArrives_12 (by first | assumption | rfl | exact .inl rfl | exact .inr rfl)) ?_ | refine rt_eq (q_X6_fillArrives_26 (by first | assumption | rfl | exact .inl rfl | exact .inr rfl)) ?_ | refine rt_eq (q_X6_fillArrives_78 (by first | assumption | rfl | exact .inl rfl | exact .inr rfl)) ?_ | refine rt_eq (q_X6_fillArrives_35 (by first | assumption | rfl | exact .inl rfl | exact .inr rfl)) ?_ | refine rt_eq (q_X6_fillArrives_41 (by first | assumption | rfl | exact .inl rfl | exact .inr rfl)) ?_ | refine rt_eq (q_X6_fillArrives_63 (by first | assumption | rfl | exact .inl rfl | exact .inr rfl)) ?_ | refine rt_eq (q_X6_fillArrives_66 (by first | assumption | rfl | exact .inl rfl | exact .inr rfl)) ?_ | refine rt_eq (q_X6_fillArrives_72 (by first | assumption | rfl | exact .inl rfl | exact .inr rfl)) ?_)
    by_cases z : ctk n N t = true
    · rw [z]
      refine rt_f (by decide) ?_
      refine rt_be (sp_bendMore (by omega)) ?_
      generalize hI1 : pt I' 54 6 (nI g) (pk (I' 54) 6 (nI g) + nI 1) = I1
      have b1 : ∀ k, k < 6 → I1 54 k = if k = g then I' 54 k + nI 1 else I' 54 k := fun k hk => by rw [← hI1]; exact bend_at (by omega) hk
      have f1 : Fr fFa I I1 := by rw [← hI1]; exact bend_fr hf (fun j => rfl)
      have g1 : Fr [(54, 0)] I' I1 := by rw [← hI1]; exact bend_fr fr_rfl (fun j => rfl)
      clear hI1
      (first | refine rt_eq (q_X6_fillArrives_0 (by first | assumption | rfl | exact .inl rfl | exact .inr rfl)) ?_ | refine rt_eq (q_X6_fillArrives_2 (by first | assumption | rfl | exact .inl rfl | exact .inr rfl)) ?_ | refine rt_eq (q_X6_fillArrives_12 (by first | assumption | rfl | exact .inl rfl | exact .inr rfl)) ?_ | refine rt_eq (q_X6_fillArrives_26 (by first | assumption | rfl | exact .inl rfl | exact .inr rfl)) ?_ | refine rt_eq (q_X6_fillArrives_78 (by first | assumption | rfl | exact .inl rfl | exact .inr rfl)) ?_ | refine rt_eq (q_X6_fillArrives_35 (by first | assumption | rfl | exact .inl rfl | exact .inr rfl)) ?_ | refine rt_eq (q_X6_fillArrives_41 (by first | assumption | rfl | exact .inl rfl | exact .inr rfl)) ?_ | refine rt_eq (q_X6_fillArrives_63 (by first | assumption | rfl | exact .inl rfl | exact .inr rfl)) ?_ | refine rt_eq (q_X6_fillArrives_66 (by first | assumption | rfl | exact .inl rfl | exact .inr rfl)) ?_ | refine rt_eq (q_X6_fillArrives_72 (by first | assumption | rfl | exact .inl rfl | exact .inr rfl)) ?_)
      refine rt_be (sp_bendMore (by omega)) ?_
      generalize hI2 : pt I1 54 6 (nI t) (pk (I1 54) 6 (nI t) + (-1)) = I2
      have b2 : ∀ k, k < 6 → I2 54 k = if k = t then I1 54 k + (-1) else I1 54 k := fun k hk => by rw [← hI2]; exact bend_at (by omega) hk
      have f2 : Fr fFa I I2 := by rw [← hI2]; exact bend_fr f1 (fun j => rfl)
      have g2 : Fr [(54, 0)] I1 I2 := by rw [← hI2]; exact bend_fr fr_rfl (fun j => rfl)
      clear hI2
      have C2 := TX_a C f2
      (first | refine rt_eq (q_X6_fillArrives_0 (by first | assumption | rfl | exact .inl rfl | exact .inr rfl)) ?_ | refine rt_eq (q_X6_fillArrives_2 (by first | assumption | rfl | exact .inl rfl | exact .inr rfl)) ?_ | refine rt_eq (q_X6_fillArrives_12 (by first | assumption | rfl | exact .inl rfl | exact .inr rfl)) ?_ | refine rt_eq (q_X6_fillArrives_26 (by first | assumption | rfl | exact .inl rfl | exact .inr rfl)) ?_ | refine rt_eq (q_X6_fillArrives_78 (by first | assumption | rfl | exact .inl rfl | exact .inr rfl)) ?_ | refine rt_eq (q_X6_fillArrives_35 (by first | assumption | rfl | exact .inl rfl | exact .inr rfl)) ?_ | refine rt_eq (q_X6_fillArrives_41 (by first | assumption | rfl | exact .inl rfl | exact .inr rfl)) ?_ | refine rt_eq (q_X6_fillArrives_63 (by first | assumption | rfl | exact .inl rfl | exact .inr rfl)) ?_ | refine rt_eq (q_X6_fillArrives_66 (by first | assumption | rfl | exact .inl rfl | exact .inr rfl)) ?_ | refine rt_eq (q_X6_fillArrives_72 (by first | assumption | rfl | exact .inl rfl | exact .inr rfl)) ?_)
      rw [NC_hope C2.2.2.1]
      have q1 := sp_arriving (d := d) (L := L) (X := X) (J := J) (x2 := N 29) (.inl rfl) C2.2.2.1 R C2.1 ok C2.2.1 W
      have e54 : ∀ k, k < 6 → I2 54 k = bdl g t k := by
        intro k hk
        rw [b2 k hk, b1 k hk, h0 k hk]
        unfold bdl
        by_cases y1 : k = g
        · rw [if_pos y1, if_pos y1]
          by_cases y2 : k = t
          · rw [if_pos y2, if_pos y2, n_0add]
          · rw [if_neg y2, if_neg y2, n_0add, add_n0]
        · rw [if_neg y1, if_neg y1]
          by_cases y2 : k = t
          · rw [if_pos y2, if_pos y2]
          · rw [if_neg y2, if_neg y2, add_n0]
      have efl : flN h nL cd N (N 29) (fun k => bdN N k + I2 54 k) (fun k => bsN N k + I2 55 k) (lkL (I2 52 5) (I2 52 6)) n = cmF h nL cd N g t n := by
        refine flN_congr n (fun i hi => ⟨rfl, rfl, ?_, ?_, fun x => ?_⟩)
        · show bdN N i + I2 54 i = bdN N i + bdl g t i
          rw [e54 i (by omega)]
        · show bsN N i + I2 55 i = bsN N i
          rw [C2.2.2.2.1 i (by omega), add_n0]
        · rw [C2.2.2.2.2.1]
          exact lkL_m1 (by omega)
      rw [efl] at q1
      refine rt_bnd q1 ?_
      rintro I3 J3 ⟨⟨f3, -⟩, rfl⟩
      have fr3 : Fr fFa I I3 := fr_tr f2 (fr_mono f3 (by decide))
      rw [pk_mul, nI_add]
      (first | refine rt_eq (q_X6_fillArrives_0 (by first | assumption | rfl | exact .inl rfl | exact .inr rfl)) ?_ | refine rt_eq (q_X6_fillArrives_2 (by first | assumption | rfl | exact .inl rfl | exact .inr rfl)) ?_ | refine rt_eq (q_X6_fillArrives_12 (by first | assumption | rfl | exact .inl rfl | exact .inr rfl)) ?_ | refine rt_eq (q_X6_fillArrives_26 (by first | assumption | rfl | exact .inl rfl | exact .inr rfl)) ?_ | refine rt_eq (q_X6_fillArrives_78 (by first | assumption | rfl | exact .inl rfl | exact .inr rfl)) ?_ | refine rt_eq (q_X6_fillArrives_35 (by first | assumption | rfl | exact .inl rfl | exact .inr rfl)) ?_ | refine rt_eq (q_X6_fillArrives_41 (by first | assumption | rfl | exact .inl rfl | exact .inr rfl)) ?_ | refine rt_eq (q_X6_fillArrives_63 (by first | assumption | rfl | exact .inl rfl | exact .inr rfl)) ?_ | refine rt_eq (q_X6_fillArrives_66 (by first | assumption | rfl | exact .inl rfl | exact .inr rfl)) ?_ | refine rt_eq (q_X6_fillArrives_72 (by first | assumption | rfl | exact .inl rfl | exact .inr rfl)) ?_)
      refine rt_bne (sp_put ka_65 (by decide)) ?_
      rw [pt_n (by omega) (by decide)]
      generalize hI4 : up2 I3 65 (g * 7 + t) (cmF h nL cd N g t n) = I4
      have fr4 : Fr fFa I I4 := by rw [← hI4]; exact fr_up fr3 rfl
      have g4 : ∀ k, I4 54 k = I2 54 k := fun k => by rw [← hI4, up2_n (by decide), f3 54 k rfl]
      have a4 : ∀ c, I4 65 c = if c = g * 7 + t then cmF h nL cd N g t n else I' 65 c := by
        intro c
        rw [← hI4, up2_at]
        by_cases y : c = g * 7 + t
        · rw [if_pos y, if_pos y]
        · rw [if_neg y, if_neg y, f3 65 c rfl, g2 65 c rfl, g1 65 c rfl]
      clear hI4
      (first | refine rt_eq (q_X6_fillArrives_0 (by first | assumption | rfl | exact .inl rfl | exact .inr rfl)) ?_ | refine rt_eq (q_X6_fillArrives_2 (by first | assumption | rfl | exact .inl rfl | exact .inr rfl)) ?_ | refine rt_eq (q_X6_fillArrives_12 (by first | assumption | rfl | exact .inl rfl | exact .inr rfl)) ?_ | refine rt_eq (q_X6_fillArrives_26 (by first | assumption | rfl | exact .inl rfl | exact .inr rfl)) ?_ | refine rt_eq (q_X6_fillArrives_78 (by first | assumption | rfl | exact .inl rfl | exact .inr rfl)) ?_ | refine rt_eq (q_X6_fillArrives_35 (by first | assumption | rfl | exact .inl rfl | exact .inr rfl)) ?_ | refine rt_eq (q_X6_fillArrives_41 (by first | assumption | rfl | exact .inl rfl | exact .inr rfl)) ?_ | refine rt_eq (q_X6_fillArrives_63 (by first | assumption | rfl | exact .inl rfl | exact .inr rfl)) ?_ | refine rt_eq (q_X6_fillArrives_66 (by first | assumption | rfl | exact .inl rfl | exact .inr rfl)) ?_ | refine rt_eq (q_X6_fillArrives_72 (by first | assumption | rfl | exact .inl rfl | exact .inr rfl)) ?_)
      refine rt_be (sp_bendMore (by omega)) ?_
      generalize hI5 : pt I4 54 6 (nI g) (pk (I4 54) 6 (nI g) + (-1)) = I5
      have b5 : ∀ k, k < 6 → I5 54 k = if k = g then I4 54 k + (-1) else I4 54 k := fun k hk => by rw [← hI5]; exact bend_at (by omega) hk
      have f5 : Fr fFa I I5 := by rw [← hI5]; exact bend_fr fr4 (fun j => rfl)
      have g5 : Fr [(54, 0)] I4 I5 := by rw [← hI5]; exact bend_fr fr_rfl (fun j => rfl)
      clear hI5
      (first | refine rt_eq (q_X6_fillArrives_0 (by first | assumption | rfl | exact .inl rfl | exact .inr rfl)) ?_ | refine rt_eq (q_X6_fillArrives_2 (by first | assumption | rfl | exact .inl rfl | exact .inr rfl)) ?_ | refine rt_eq (q_X6_fillArrives_12 (by first | assumption | rfl | exact .inl rfl | exact .inr rfl)) ?_ | refine rt_eq (q_X6_fillArrives_26 (by first | assumption | rfl | exact .inl rfl | exact .inr rfl)) ?_ | refine rt_eq (q_X6_fillArrives_78 (by first | assumption | rfl | exact .inl rfl | exact .inr rfl)) ?_ | refine rt_eq (q_X6_fillArrives_35 (by first | assumption | rfl | exact .inl rfl | exact .inr rfl)) ?_ | refine rt_eq (q_X6_fillArrives_41 (by first | assumption | rfl | exact .inl rfl | exact .inr rfl)) ?_ | refine rt_eq (q_X6_fillArrives_63 (by first | assumption | rfl | exact .inl rfl | exact .inr rfl)) ?_ | refine rt_eq (q_X6_fillArrives_66 (by first | assumption | rfl | exact .inl rfl | exact .inr rfl)) ?_ | refine rt_eq (q_X6_fillArrives_72 (by first | assumption | rfl | exact .inl rfl | exact .inr rfl)) ?_)
      refine rt_be (sp_bendMore (by omega)) ?_
      generalize hI6 : pt I5 54 6 (nI t) (pk (I5 54) 6 (nI t) + nI 1) = I6
      have b6 : ∀ k, k < 6 → I6 54 k = if k = t then I5 54 k + nI 1 else I5 54 k := fun k hk => by rw [← hI6]; exact bend_at (by omega) hk
      have f6 : Fr fFa I I6 := by rw [← hI6]; exact bend_fr f5 (fun j => rfl)
      have g6 : Fr [(54, 0)] I5 I6 := by rw [← hI6]; exact bend_fr fr_rfl (fun j => rfl)
      clear hI6
      (first | refine rt_eq (q_X6_fillArrives_0 (by first | assumption | rfl | exact .inl rfl | exact .inr rfl)) ?_ | refine rt_eq (q_X6_fillArrives_2 (by first | assumption | rfl | exact .inl rfl | exact .inr rfl)) ?_ | refine rt_eq (q_X6_fillArrives_12 (by first | assumption | rfl | exact .inl rfl | exact .inr rfl)) ?_ | refine rt_eq (q_X6_fillArrives_26 (by first | assumption | rfl | exact .inl rfl | exact .inr rfl)) ?_ | refine rt_eq (q_X6_fillArrives_78 (by first | assumption | rfl | exact .inl rfl | exact .inr rfl)) ?_ | refine rt_eq (q_X6_fillArrives_35 (by first | assumption | rfl | exact .inl rfl | exact .inr rfl)) ?_ | refine rt_eq (q_X6_fillArrives_41 (by first | assumption | rfl | exact .inl rfl | exact .inr rfl)) ?_ | refine rt_eq (q_X6_fillArrives_63 (by first | assumption | rfl | exact .inl rfl | exact .inr rfl)) ?_ | refine rt_eq (q_X6_fillArrives_66 (by first | assumption | rfl | exact .inl rfl | exact .inr rfl)) ?_ | refine rt_eq (q_X6_fillArrives_72 (by first | assumption | rfl | exact .inl rfl | exact .inr rfl)) ?_)
      rw [nI_add]
      refine ih I6 (by omega) f6 ?_ ?_
      · intro k hk
        rw [b6 k hk, b5 k hk, g4, e54 k hk]
        unfold bdl
        by_cases y1 : k = g
        · rw [if_pos y1, if_pos y1]
          by_cases y2 : k = t
          · rw [if_pos y2, if_pos y2]
            decide
          · rw [if_neg y2, if_neg y2]
            decide
        · rw [if_neg y1, if_neg y1]
          by_cases y2 : k = t
          · rw [if_pos y2, if_pos y2]
            decide
          · rw [if_neg y2, if_neg y2]
            decide
      · intro g' t' c1 c2 c3 c4
        rw [g6 65 _ rfl, g5 65 _ rfl, a4]
        by_cases y : g' * 7 + t' = g * 7 + t
        · have e1 : g' = g := by omega
          have e2 : t' = t := by omega
          rw [if_pos y, e1, e2]
        · rw [if_neg y]
          exact hA g' t' c1 c2 (by omega) c4
    · have z' : ctk n N t = false := by simpa using z
      rw [z']
      refine rt_t bI_f ?_
      (first | refine rt_eq (q_X6_fillArrives_0 (by first | assumption | rfl | exact .inl rfl | exact .inr rfl)) ?_ | refine rt_eq (q_X6_fillArrives_2 (by first | assumption | rfl | exact .inl rfl | exact .inr rfl)) ?_ | refine rt_eq (q_X6_fillArrives_12 (by first | assumption | rfl | exact .inl rfl | exact .inr rfl)) ?_ | refine rt_eq (q_X6_fillArrives_26 (by first | assumption | rfl | exact .inl rfl | exact .inr rfl)) ?_ | refine rt_eq (q_X6_fillArrives_78 (by first | assumption | rfl | exact .inl rfl | exact .inr rfl)) ?_ | refine rt_eq (q_X6_fillArrives_35 (by first | assumption | rfl | exact .inl rfl | exact .inr rfl)) ?_ | refine rt_eq (q_X6_fillArrives_41 (by first | assumption | rfl | exact .inl rfl | exact .inr rfl)) ?_ | refine rt_eq (q_X6_fillArrives_63 (by first | assumption | rfl | exact .inl rfl | exact .inr rfl)) ?_ | refine rt_eq (q_X6_fillArrives_66 (by first | assumption | rfl | exact .inl rfl | exact .inr rfl)) ?_ | refine rt_eq (q_X6_fillArrives_72 (by first | assumption | rfl | exact .inl rfl | exact .inr rfl)) ?_)
      rw [nI_add]
      refine ih I' (by omega) hf h0 ?_
      intro g' t' c1 c2 c3 c4
      by_cases y : g' = g ∧ t' = t
      · rw [y.2, z'] at c4
        cases c4
      · exact hA g' t' c1 c2 (by omega) c4
theorem lp_fa2 (ok : HOK h) (W : wfC cd nL 0 0) (R : NR (h 0 0) n N) (C : TX I h nL cd n N w) : ∀ q g I' u3, g + q = n + 1 → Fr fFa I I' → (∀ k, k < 6 → I' 54 k = nI 0) → arT I' h nL cd n N g 0 → Rt L X (c_X6_fillArrives_2 (d + 4) L X I' J 43 (nI g) u3) none (fun I'' J' => (Fr fFa I I'' ∧ (∀ k, k < 6 → I'' 54 k = nI 0) ∧ arT I'' h nL cd n N (n + 1) 0) ∧ J' = J)
  | 0, g, I', u3, hg, hf, h0, hA => by
    have h1 : oc3 43 := .inl rfl
    have n6 := R.1.1
    have C' := TX_a C hf
    have e : g = n + 1 := by omega
    subst e
    (first | refine rt_eq (q_X6_fillArrives_0 (by first | assumption | rfl | exact .inl rfl | exact .inr rfl)) ?_ | refine rt_eq (q_X6_fillArrives_2 (by first | assumption | rfl | exact .inl rfl | exact .inr rfl)) ?_ | refine rt_eq (q_X6_fillArrives_12 (by first | assumption | rfl | exact .inl rfl | exact .inr rfl)) ?_ | refine rt_eq (q_X6_fillArrives_26 (by first | assumption | rfl | exact .inl rfl | exact .inr rfl)) ?_ | refine rt_eq (q_X6_fillArrives_78 (by first | assumption | rfl | exact .inl rfl | exact .inr rfl)) ?_ | refine rt_eq (q_X6_fillArrives_35 (by first | assumption | rfl | exact .inl rfl | exact .inr rfl)) ?_ | refine rt_eq (q_X6_fillArrives_41 (by first | assumption | rfl | exact .inl rfl | exact .inr rfl)) ?_ | refine rt_eq (q_X6_fillArrives_63 (by first | assumption | rfl | exact .inl rfl | exact .inr rfl)) ?_ | refine rt_eq (q_X6_fillArrives_66 (by first | assumption | rfl | exact .inl rfl | exact .inr rfl)) ?_ | refine rt_eq (q_X6_fillArrives_72 (by first | assumption | rfl | exact .inl rfl | exact .inr rfl)) ?_)
    rw [C'.2.2.2.2.2.1]
    refine rt_t (by (try simp (disch := omega) only [nI_leI, nI_ltI, nI_eq, nI_add, pk_mul, n_0add, Nat.zero_add, nI_clamp]) <;> omega) ?_
    exact rt_ret ⟨⟨hf, h0, hA⟩, rfl⟩
  | q + 1, g, I', u3, hg, hf, h0, hA => by
    have ih := lp_fa2 ok W R C q (g + 1)
    have h1 : oc3 43 := .inl rfl
    have n6 := R.1.1
    have C' := TX_a C hf
    (first | refine rt_eq (q_X6_fillArrives_0 (by first | assumption | rfl | exact .inl rfl | exact .inr rfl)) ?_ | refine rt_eq (q_X6_fillArrives_2 (by first | assumption | rfl | exact .inl rfl | exact .inr rfl)) ?_ | refine rt_eq (q_X6_fillArrives_12 (by first | assumption | rfl | exact .inl rfl | exact .inr rfl)) ?_ | refine rt_eq (q_X6_fillArrives_26 (by first | assumption | rfl | exact .inl rfl | exact .inr rfl)) ?_ | refine rt_eq (q_X6_fillArrives_78 (by first | assumption | rfl | exact .inl rfl | exact .inr rfl)) ?_ | refine rt_eq (q_X6_fillArrives_35 (by first | assumption | rfl | exact .inl rfl | exact .inr rfl)) ?_ | refine rt_eq (q_X6_fillArrives_41 (by first | assumption | rfl | exact .inl rfl | exact .inr rfl)) ?_ | refine rt_eq (q_X6_fillArrives_63 (by first | assumption | rfl | exact .inl rfl | exact .inr rfl)) ?_ | refine rt_eq (q_X6_fillArrives_66 (by first | assumption | rfl | exact .inl rfl | exact .inr rfl)) ?_ | refine rt_eq (q_X6_fillArrives_72 (by first | assumption | rfl | exact .inl rfl | exact .inr rfl)) ?_)
    rw [C'.2.2.2.2.2.1]
    refine rt_f (by (try simp (disch := omega) only [nI_leI, nI_ltI, nI_eq, nI_add, pk_mul, n_0add, Nat.zero_add, nI_clamp]) <;> omega) ?_
    refine lp_fa12 ok W R C' (by omega) (fun I2 u3 f2 z2 A2 => ?_) (n + 1) 0 I' (by omega) fr_rfl h0 hA
    exact ih I2 u3 (by omega) (fr_tr hf f2) z2 A2
/-! rests -/
theorem ar_at (A : arT I h nL cd n N (n + 1) 0) (hg : g ≤ n) (ht : t ≤ n) (hc : ctk n N t = true) : I 65 (g * 7 + t) = cmF h nL cd N g t n := A g t hg ht (by omega) hc
theorem sp_paid (C : TX I h nL cd n N w) (n6 : n ≤ 6) (hg : g ≤ n) : runM (d + 1) nX6_paid [.ref 64, .int (nI g)] (mm L X I J) = rI (nI (pdN n w g)) (mm L X I J) := by
  rw [e_X6_paid]
  (first | refine Eq.trans (q_X6_paid_0) ?_)
  rw [C.2.2.2.2.2.1, C.2.2.2.2.2.2]
  unfold pdN
  by_cases z : g = n
  · rw [if_pos (congrArg nI z), if_pos z]
  · rw [if_neg (by rw [nI_eq (by omega) (by omega)]; exact z), if_neg z]
theorem sp_streetHas (C : TX I h nL cd n N w) (n6 : n ≤ 6) (z29 : N 29 = nI (nv (N 29)) ∧ nv (N 29) ≤ 99) (A : arT I h nL cd n N (n + 1) 0) (hg : g ≤ n) (ht : t ≤ n) (hc : ctk n N t = true) : runM (d + 2) nX6_streetHas [.ref 64, .int (nI g), .int (nI t)] (mm L X I J) = rI (nI 0 - nI (cmN h nL cd n N g t + pdN n w g)) (mm L X I J) := by
  rw [e_X6_streetHas]
  (first | refine Eq.trans (q_X6_streetHas_0) ?_ | refine Eq.trans (q_X6_streetHas_13) ?_ | refine Eq.trans (q_X6_streetHas_19) ?_)
  rw [pk_mul, nI_add]
  refine (bndN_e (sp_pick ka_65 (by decide))).trans ?_
  rw [pk_n (by omega) (by decide), ar_at A hg ht hc, (cmF_le z29).1]
  (first | refine Eq.trans (q_X6_streetHas_0) ?_ | refine Eq.trans (q_X6_streetHas_13) ?_ | refine Eq.trans (q_X6_streetHas_19) ?_)
  refine (bnd_e (sp_paid C n6 hg)).trans ?_
  (first | refine Eq.trans (q_X6_streetHas_0) ?_ | refine Eq.trans (q_X6_streetHas_13) ?_ | refine Eq.trans (q_X6_streetHas_19) ?_)
  rw [neg_sub2]
theorem sp_houseHas (C : TX I h nL cd n N w) (n6 : n ≤ 6) (z29 : N 29 = nI (nv (N 29)) ∧ nv (N 29) ≤ 99) (A : arT I h nL cd n N (n + 1) 0) (hg : g ≤ n) (ht : t ≤ n) (hc : ctk n N t = true) : runM (d + 2) nX6_houseHas [.ref 64, .int (nI g), .int (nI t)] (mm L X I J) = rI (nI (cmN h nL cd n N g t) - nI (pdN n w t)) (mm L X I J) := by
  rw [e_X6_houseHas]
  (first | refine Eq.trans (q_X6_houseHas_0) ?_ | refine Eq.trans (q_X6_houseHas_13) ?_ | refine Eq.trans (q_X6_houseHas_18) ?_)
  rw [pk_mul, nI_add]
  refine (bndN_e (sp_pick ka_65 (by decide))).trans ?_
  rw [pk_n (by omega) (by decide), ar_at A hg ht hc, (cmF_le z29).1]
  (first | refine Eq.trans (q_X6_houseHas_0) ?_ | refine Eq.trans (q_X6_houseHas_13) ?_ | refine Eq.trans (q_X6_houseHas_18) ?_)
  refine (bnd_e (sp_paid C n6 ht)).trans ?_
  (first | refine Eq.trans (q_X6_houseHas_0) ?_ | refine Eq.trans (q_X6_houseHas_13) ?_ | refine Eq.trans (q_X6_houseHas_18) ?_)
  rfl
theorem pd_le (hw : w ≤ 9) : pdN n w g ≤ 9 := by
  unfold pdN
  by_cases z : g = n
  · rw [if_pos z]; omega
  · rw [if_neg z]; exact hw
theorem lp_rest (C : TX I h nL cd n N w) (R : NR (h 0 0) n N) (hw : w ≤ 9) (z29 : N 29 = nI (nv (N 29)) ∧ nv (N 29) ≤ 99) (A : arT I h nL cd n N (n + 1) 0) (hg : g ≤ n) (ht : t ≤ n) (hc : ctk n N t = true) : ∀ q o, o + q = n + 1 → c_X6_isRest_3 (d + 2) L X I J 43 (nI g) (nI t) (nI o) = rB (!(fndF (badR h nL cd n N w g t) q o).isSome) (mm L X I J)
  | 0, o, ho => by
    have h1 : oc3 43 := .inl rfl
    have n6 := R.1.1
    (first | refine Eq.trans (q_X6_isRest_0 (by first | assumption | rfl | exact .inl rfl | exact .inr rfl)) ?_ | refine Eq.trans (q_X6_isRest_3 (by first | assumption | rfl | exact .inl rfl | exact .inr rfl)) ?_ | refine Eq.trans (q_X6_isRest_19 (by first | assumption | rfl | exact .inl rfl | exact .inr rfl)) ?_ | refine Eq.trans (q_X6_isRest_25 (by first | assumption | rfl | exact .inl rfl | exact .inr rfl)) ?_ | refine Eq.trans (q_X6_isRest_37 (by first | assumption | rfl | exact .inl rfl | exact .inr rfl)) ?_ | refine Eq.trans (q_X6_isRest_58 (by first | assumption | rfl | exact .inl rfl | exact .inr rfl)) ?_ | refine Eq.trans (q_X6_isRest_47 (by first | assumption | rfl | exact .inl rfl | exact .inr rfl)) ?_ | refine Eq.trans (q_X6_isRest_53 (by first | assumption | rfl | exact .inl rfl | exact .inr rfl)) ?_)
    rw [C.2.2.2.2.2.1, if_pos (by (try simp (disch := omega) only [nI_leI, nI_ltI, nI_eq, nI_add, pk_mul, n_0add, Nat.zero_add, nI_clamp]) <;> omega)]
    rfl
  | q + 1, o, ho => by
    have ih := lp_rest C R hw z29 A hg ht hc q (o + 1) (by omega)
    have h1 : oc3 43 := .inl rfl
    have n6 := R.1.1
    have a1 := (cmF_le (h := h) (nL := nL) (cd := cd) (n := n) (g := g) (t := t) z29).2
    have a2 := (cmF_le (h := h) (nL := nL) (cd := cd) (n := n) (g := o) (t := t) z29).2
    have a3 := (cmF_le (h := h) (nL := nL) (cd := cd) (n := n) (g := g) (t := o) z29).2
    have p1 := pd_le (n := n) (g := g) hw
    have p2 := pd_le (n := n) (g := o) hw
    have p3 := pd_le (n := n) (g := t) hw
    have next : badR h nL cd n N w g t o = false → runI (runM (d + 2)) iX6_isRest (58, [some (.ref 64), some (.ref 43), some (.int (nI g)), some (.int (nI t)), some (.int (nI o))], [], mm L X I J) = rB (!(fndF (badR h nL cd n N w g t) (q + 1) o).isSome) (mm L X I J) := by
      intro hb
      (first | refine Eq.trans (q_X6_isRest_0 (by first | assumption | rfl | exact .inl rfl | exact .inr rfl)) ?_ | refine Eq.trans (q_X6_isRest_3 (by first | assumption | rfl | exact .inl rfl | exact .inr rfl)) ?_ | refine Eq.trans (q_X6_isRest_19 (by first | assumption | rfl | exact .inl rfl | exact .inr rfl)) ?_ | refine Eq.trans (q_X6_isRest_25 (by first | assumption | rfl | exact .inl rfl | exact .inr rfl)) ?_ | refine Eq.trans (q_X6_isRest_37 (by first | assumption | rfl | exact .inl rfl | exact .inr rfl)) ?_ | refine Eq.trans (q_X6_isRest_58 (by first | assumption | rfl | exact .inl rfl | exact .inr rfl)) ?_ | refine Eq.trans (q_X6_isRest_47 (by first | assumption | rfl | exact .inl rfl | exact .inr rfl)) ?_ | refine Eq.trans (q_X6_isRest_53 (by first | assumption | rfl | exact .inl rfl | exact .inr rfl)) ?_)
      rw [nI_add]
      unfold fndF
      rw [if_neg (by rw [hb]; decide)]
      exact ih
    have fail : badR h nL cd n N w g t o = true → rI (nI 0) (mm L X I J) = rB (!(fndF (badR h nL cd n N w g t) (q + 1) o).isSome) (mm L X I J) := by
      intro hb
      unfold fndF
      rw [if_pos hb]
      rfl
    (first | refine Eq.trans (q_X6_isRest_0 (by first | assumption | rfl | exact .inl rfl | exact .inr rfl)) ?_ | refine Eq.trans (q_X6_isRest_3 (by first | assumption | rfl | exact .inl rfl | exact .inr rfl)) ?_ | refine Eq.trans (q_X6_isRest_19 (by first | assumption | rfl | exact .inl rfl | exact .inr rfl)) ?_ | refine Eq.trans (q_X6_isRest_25 (by first | assumption | rfl | exact .inl rfl | exact .inr rfl)) ?_ | refine Eq.trans (q_X6_isRest_37 (by first | assumption | rfl | exact .inl rfl | exact .inr rfl)) ?_ | refine Eq.trans (q_X6_isRest_58 (by first | assumption | rfl | exact .inl rfl | exact .inr rfl)) ?_ | refine Eq.trans (q_X6_isRest_47 (by first | assumption | rfl | exact .inl rfl | exact .inr rfl)) ?_ | refine Eq.trans (q_X6_isRest_53 (by first | assumption | rfl | exact .inl rfl | exact .inr rfl)) ?_)
    rw [C.2.2.2.2.2.1, if_neg (by (try simp (disch := omega) only [nI_leI, nI_ltI, nI_eq, nI_add, pk_mul, n_0add, Nat.zero_add, nI_clamp]) <;> omega)]
    refine (bnd_e (sp_streetHas C n6 z29 A (by omega) ht hc)).trans ?_
    (first | refine Eq.trans (q_X6_isRest_0 (by first | assumption | rfl | exact .inl rfl | exact .inr rfl)) ?_ | refine Eq.trans (q_X6_isRest_3 (by first | assumption | rfl | exact .inl rfl | exact .inr rfl)) ?_ | refine Eq.trans (q_X6_isRest_19 (by first | assumption | rfl | exact .inl rfl | exact .inr rfl)) ?_ | refine Eq.trans (q_X6_isRest_25 (by first | assumption | rfl | exact .inl rfl | exact .inr rfl)) ?_ | refine Eq.trans (q_X6_isRest_37 (by first | assumption | rfl | exact .inl rfl | exact .inr rfl)) ?_ | refine Eq.trans (q_X6_isRest_58 (by first | assumption | rfl | exact .inl rfl | exact .inr rfl)) ?_ | refine Eq.trans (q_X6_isRest_47 (by first | assumption | rfl | exact .inl rfl | exact .inr rfl)) ?_ | refine Eq.trans (q_X6_isRest_53 (by first | assumption | rfl | exact .inl rfl | exact .inr rfl)) ?_)
    refine (bnd_e (sp_streetHas C n6 z29 A hg ht hc)).trans ?_
    (first | refine Eq.trans (q_X6_isRest_0 (by first | assumption | rfl | exact .inl rfl | exact .inr rfl)) ?_ | refine Eq.trans (q_X6_isRest_3 (by first | assumption | rfl | exact .inl rfl | exact .inr rfl)) ?_ | refine Eq.trans (q_X6_isRest_19 (by first | assumption | rfl | exact .inl rfl | exact .inr rfl)) ?_ | refine Eq.trans (q_X6_isRest_25 (by first | assumption | rfl | exact .inl rfl | exact .inr rfl)) ?_ | refine Eq.trans (q_X6_isRest_37 (by first | assumption | rfl | exact .inl rfl | exact .inr rfl)) ?_ | refine Eq.trans (q_X6_isRest_58 (by first | assumption | rfl | exact .inl rfl | exact .inr rfl)) ?_ | refine Eq.trans (q_X6_isRest_47 (by first | assumption | rfl | exact .inl rfl | exact .inr rfl)) ?_ | refine Eq.trans (q_X6_isRest_53 (by first | assumption | rfl | exact .inl rfl | exact .inr rfl)) ?_)
    by_cases y1 : cmN h nL cd n N g t + pdN n w g ≤ cmN h nL cd n N o t + pdN n w o
    · rw [if_pos ((cs_sub (by decide) (by omega) (by omega)).mpr y1)]
      refine (bnd_e (sp_canTake C R (by omega))).trans ?_
      (first | refine Eq.trans (q_X6_isRest_0 (by first | assumption | rfl | exact .inl rfl | exact .inr rfl)) ?_ | refine Eq.trans (q_X6_isRest_3 (by first | assumption | rfl | exact .inl rfl | exact .inr rfl)) ?_ | refine Eq.trans (q_X6_isRest_19 (by first | assumption | rfl | exact .inl rfl | exact .inr rfl)) ?_ | refine Eq.trans (q_X6_isRest_25 (by first | assumption | rfl | exact .inl rfl | exact .inr rfl)) ?_ | refine Eq.trans (q_X6_isRest_37 (by first | assumption | rfl | exact .inl rfl | exact .inr rfl)) ?_ | refine Eq.trans (q_X6_isRest_58 (by first | assumption | rfl | exact .inl rfl | exact .inr rfl)) ?_ | refine Eq.trans (q_X6_isRest_47 (by first | assumption | rfl | exact .inl rfl | exact .inr rfl)) ?_ | refine Eq.trans (q_X6_isRest_53 (by first | assumption | rfl | exact .inl rfl | exact .inr rfl)) ?_)
      by_cases y2 : ctk n N o = true
      · rw [y2, if_neg (by decide)]
        refine (bnd_e (sp_houseHas C n6 z29 A hg (by omega) y2)).trans ?_
        (first | refine Eq.trans (q_X6_isRest_0 (by first | assumption | rfl | exact .inl rfl | exact .inr rfl)) ?_ | refine Eq.trans (q_X6_isRest_3 (by first | assumption | rfl | exact .inl rfl | exact .inr rfl)) ?_ | refine Eq.trans (q_X6_isRest_19 (by first | assumption | rfl | exact .inl rfl | exact .inr rfl)) ?_ | refine Eq.trans (q_X6_isRest_25 (by first | assumption | rfl | exact .inl rfl | exact .inr rfl)) ?_ | refine Eq.trans (q_X6_isRest_37 (by first | assumption | rfl | exact .inl rfl | exact .inr rfl)) ?_ | refine Eq.trans (q_X6_isRest_58 (by first | assumption | rfl | exact .inl rfl | exact .inr rfl)) ?_ | refine Eq.trans (q_X6_isRest_47 (by first | assumption | rfl | exact .inl rfl | exact .inr rfl)) ?_ | refine Eq.trans (q_X6_isRest_53 (by first | assumption | rfl | exact .inl rfl | exact .inr rfl)) ?_)
        refine (bnd_e (sp_houseHas C n6 z29 A hg ht hc)).trans ?_
        (first | refine Eq.trans (q_X6_isRest_0 (by first | assumption | rfl | exact .inl rfl | exact .inr rfl)) ?_ | refine Eq.trans (q_X6_isRest_3 (by first | assumption | rfl | exact .inl rfl | exact .inr rfl)) ?_ | refine Eq.trans (q_X6_isRest_19 (by first | assumption | rfl | exact .inl rfl | exact .inr rfl)) ?_ | refine Eq.trans (q_X6_isRest_25 (by first | assumption | rfl | exact .inl rfl | exact .inr rfl)) ?_ | refine Eq.trans (q_X6_isRest_37 (by first | assumption | rfl | exact .inl rfl | exact .inr rfl)) ?_ | refine Eq.trans (q_X6_isRest_58 (by first | assumption | rfl | exact .inl rfl | exact .inr rfl)) ?_ | refine Eq.trans (q_X6_isRest_47 (by first | assumption | rfl | exact .inl rfl | exact .inr rfl)) ?_ | refine Eq.trans (q_X6_isRest_53 (by first | assumption | rfl | exact .inl rfl | exact .inr rfl)) ?_)
        by_cases y3 : cmN h nL cd n N g o + pdN n w t ≤ cmN h nL cd n N g t + pdN n w o
        · rw [if_pos ((cs_sub2 (by omega) (by omega) (by omega) (by omega)).mpr y3)]
          refine next ?_
          unfold badR
          rw [decide_eq_true y1, decide_eq_true y3]
          simp
        · rw [if_neg (fun q => y3 ((cs_sub2 (by omega) (by omega) (by omega) (by omega)).mp q))]
          refine fail ?_
          unfold badR
          rw [decide_eq_false y3, y2]
          simp
      · have y2' : ctk n N o = false := by simpa using y2
        rw [y2', if_pos bI_f]
        refine next ?_
        unfold badR
        rw [decide_eq_true y1, y2']
        simp
    · rw [if_neg (fun q => y1 ((cs_sub (by decide) (by omega) (by omega)).mp q))]
      refine fail ?_
      unfold badR
      rw [decide_eq_false y1]
      rfl
theorem sp_isRestC (C : TX I h nL cd n N w) (R : NR (h 0 0) n N) (hw : w ≤ 9) (z29 : N 29 = nI (nv (N 29)) ∧ nv (N 29) ≤ 99) (A : arT I h nL cd n N (n + 1) 0) (hg : g ≤ n) (ht : t ≤ n) (hc : ctk n N t = true) : runM (d + 3) nX6_isRest [.ref 64, .ref 43, .int (nI g), .int (nI t)] (mm L X I J) = rB (rstN h nL cd n N w g t) (mm L X I J) := by
  have h1 : oc3 43 := .inl rfl
  rw [e_X6_isRest]
  (first | refine Eq.trans (q_X6_isRest_0 (by first | assumption | rfl | exact .inl rfl | exact .inr rfl)) ?_ | refine Eq.trans (q_X6_isRest_3 (by first | assumption | rfl | exact .inl rfl | exact .inr rfl)) ?_ | refine Eq.trans (q_X6_isRest_19 (by first | assumption | rfl | exact .inl rfl | exact .inr rfl)) ?_ | refine Eq.trans (q_X6_isRest_25 (by first | assumption | rfl | exact .inl rfl | exact .inr rfl)) ?_ | refine Eq.trans (q_X6_isRest_37 (by first | assumption | rfl | exact .inl rfl | exact .inr rfl)) ?_ | refine Eq.trans (q_X6_isRest_58 (by first | assumption | rfl | exact .inl rfl | exact .inr rfl)) ?_ | refine Eq.trans (q_X6_isRest_47 (by first | assumption | rfl | exact .inl rfl | exact .inr rfl)) ?_ | refine Eq.trans (q_X6_isRest_53 (by first | assumption | rfl | exact .inl rfl | exact .inr rfl)) ?_)
  exact lp_rest C R hw z29 A hg ht hc (n + 1) 0 (by omega)
theorem sp_asTold (C : TX I h nL cd n N w) (n6 : n ≤ 6) (hg : g ≤ n) : runM (d + 1) nX6_asTold [.ref 64, .int (nI g)] (mm L X I J) = rI (nI (atN n g)) (mm L X I J) := by
  rw [e_X6_asTold]
  (first | refine Eq.trans (q_X6_asTold_0) ?_)
  rw [C.2.2.2.2.2.1]
  unfold atN
  by_cases z : g = n
  · rw [if_pos (congrArg nI z), if_pos z]
  · rw [if_neg (by rw [nI_eq (by omega) (by omega)]; exact z), if_neg z]
/-- rests so far, as the class holds them -/
def stC (I : MI32) (z : Sts) : Prop := I 64 4 = nI z.1 ∧ I 64 5 = z.2.1 ∧ (0 < z.1 → I 64 6 = nI z.2.2) ∧ z.1 ≤ 49
theorem sp_noteRest {z : Sts} (C : TX I h nL cd n N w) (n6 : n ≤ 6) (hg : g ≤ n) (ht : t ≤ n) (hz : stC I z) : Rt L X (runM (d + 2) nX6_noteRest [.ref 64, .int (nI g), .int (nI t)] (mm L X I J)) none (fun I' J' => (Fr [(64, 5), (64, 6), (64, 7)] I I' ∧ I' 64 4 = nI (z.1 + 1) ∧ I' 64 5 = (if z.1 = 0 then nI (10 * atN n g + atN n t) else z.2.1) ∧ I' 64 6 = nI (if z.1 = 0 then pdN n w g + pdN n w t else z.2.2)) ∧ J' = J) := by
  obtain ⟨z1, z2, z3, z4⟩ := hz
  rw [e_X6_noteRest]
  (first | refine rt_eq (q_X6_noteRest_0) ?_ | refine rt_eq (q_X6_noteRest_40) ?_ | refine rt_eq (q_X6_noteRest_15) ?_ | refine rt_eq (q_X6_noteRest_21) ?_ | refine rt_eq (q_X6_noteRest_31) ?_ | refine rt_eq (q_X6_noteRest_36) ?_)
  rw [z1]
  by_cases y : z.1 = 0
  · refine rt_t (congrArg nI y) ?_
    refine rt_be (sp_asTold C n6 hg) ?_
    (first | refine rt_eq (q_X6_noteRest_0) ?_ | refine rt_eq (q_X6_noteRest_40) ?_ | refine rt_eq (q_X6_noteRest_15) ?_ | refine rt_eq (q_X6_noteRest_21) ?_ | refine rt_eq (q_X6_noteRest_31) ?_ | refine rt_eq (q_X6_noteRest_36) ?_)
    refine rt_be (sp_asTold C n6 ht) ?_
    (first | refine rt_eq (q_X6_noteRest_0) ?_ | refine rt_eq (q_X6_noteRest_40) ?_ | refine rt_eq (q_X6_noteRest_15) ?_ | refine rt_eq (q_X6_noteRest_21) ?_ | refine rt_eq (q_X6_noteRest_31) ?_ | refine rt_eq (q_X6_noteRest_36) ?_)
    rw [pk_mul, nI_add]
    have f1 : Fr fS0 I (up2 I 64 5 (nI (10 * atN n g + atN n t))) := fr_up fr_rfl rfl
    have C1 := TX_f C f1
    refine rt_be (sp_paid C1 n6 hg) ?_
    (first | refine rt_eq (q_X6_noteRest_0) ?_ | refine rt_eq (q_X6_noteRest_40) ?_ | refine rt_eq (q_X6_noteRest_15) ?_ | refine rt_eq (q_X6_noteRest_21) ?_ | refine rt_eq (q_X6_noteRest_31) ?_ | refine rt_eq (q_X6_noteRest_36) ?_)
    refine rt_be (sp_paid C1 n6 ht) ?_
    (first | refine rt_eq (q_X6_noteRest_0) ?_ | refine rt_eq (q_X6_noteRest_40) ?_ | refine rt_eq (q_X6_noteRest_15) ?_ | refine rt_eq (q_X6_noteRest_21) ?_ | refine rt_eq (q_X6_noteRest_31) ?_ | refine rt_eq (q_X6_noteRest_36) ?_)
    rw [nI_add]
    (first | refine rt_eq (q_X6_noteRest_0) ?_ | refine rt_eq (q_X6_noteRest_40) ?_ | refine rt_eq (q_X6_noteRest_15) ?_ | refine rt_eq (q_X6_noteRest_21) ?_ | refine rt_eq (q_X6_noteRest_31) ?_ | refine rt_eq (q_X6_noteRest_36) ?_)
    refine rt_ret ⟨⟨fr_up (fr_up (fr_up fr_rfl rfl) rfl) rfl, ?_, ?_, ?_⟩, rfl⟩
    · rw [up2_s, up2_k (by decide), up2_k (by decide), z1, nI_add]
    · rw [up2_k (by decide), up2_k (by decide), up2_s, if_pos y]
    · rw [up2_k (by decide), up2_s, if_pos y]
  · refine rt_f (by rw [nI_eq (by omega) (by decide)]; exact y) ?_
    (first | refine rt_eq (q_X6_noteRest_0) ?_ | refine rt_eq (q_X6_noteRest_40) ?_ | refine rt_eq (q_X6_noteRest_15) ?_ | refine rt_eq (q_X6_noteRest_21) ?_ | refine rt_eq (q_X6_noteRest_31) ?_ | refine rt_eq (q_X6_noteRest_36) ?_)
    refine rt_ret ⟨⟨fr_up fr_rfl rfl, ?_, ?_, ?_⟩, rfl⟩
    · rw [up2_s, z1, nI_add]
    · rw [up2_k (by decide), if_neg y]
      exact z2
    · rw [up2_k (by decide), if_neg y]
      exact z3 (by omega)
end ST
