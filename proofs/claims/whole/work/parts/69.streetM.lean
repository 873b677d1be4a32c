/-! STREET: the class's rests; the model -/
def fRs : Fls := [(64, 5), (64, 6), (64, 7)]
section SR2
variable {d L X : Nat} {I : MI32} {J : MI64} {h : Hs} {nL n : Nat} {cd : Cd} {N : Nt} {w g t v k : Nat}
theorem TX_r {I' : MI32} (C : TX I h nL cd n N w) (g : Fr fRs I I') : TX I' h nL cd n N w := TX_f C (fr_mono g (by decide))
theorem arT_r {I' : MI32} {a b : Nat} (A : arT I h nL cd n N a b) (g : Fr fRs I I') : arT I' h nL cd n N a b := fun g' t' c1 c2 c3 c4 => by rw [g 65 _ rfl]; exact A g' t' c1 c2 c3 c4
theorem lp_fr41 {r : Option Value} {Q : MI32 → MI64 → Prop} {zf : Sts} {u2 : Option Value} (hu2 : okv u2 = true) (R : NR (h 0 0) n N) (hw : w ≤ 9) (z29 : N 29 = nI (nv (N 29)) ∧ nv (N 29) ≤ 99) (C : TX I h nL cd n N w) (A : arT I h nL cd n N (n + 1) 0) (hg : g ≤ n) (go : ∀ I' u4, Fr fRs I I' → stC I' zf → Rt L X (c_X6_findRests_30 (d + 3) L X I' J 43 u2 (nI (g + 1)) u4) r Q) : ∀ q t I' z, t + q = n + 1 → Fr fRs I I' → stC I' z → z.1 ≤ 7 * g + t → accF (stS h nL cd n N w g) q t z = zf → Rt L X (c_X6_findRests_41 (d + 3) L X I' J 43 u2 (nI g) (nI t)) r Q
  | 0, t, I', z, ht, hf, hz, hb, he => by
    have h1 : oc3 43 := .inl rfl
    have n6 := R.1.1
    have C' := TX_r C hf
    have e : z = zf := he
    subst e
    (first | refine rt_eq (q_X6_findRests_0 (by first | assumption | rfl | exact .inl rfl | exact .inr rfl)) ?_ | refine rt_eq (q_X6_findRests_23 (by first | assumption | rfl | exact .inl rfl | exact .inr rfl)) ?_ | refine rt_eq (q_X6_findRests_28 (by first | assumption | rfl | exact .inl rfl | exact .inr rfl) (by first | assumption | rfl | exact .inl rfl | exact .inr rfl)) ?_ | refine rt_eq (q_X6_findRests_30 (by first | assumption | rfl | exact .inl rfl | exact .inr rfl)) ?_ | refine rt_eq (q_X6_findRests_41 (by first | assumption | rfl | exact .inl rfl | exact .inr rfl) (by first | assumption | rfl | exact .inl rfl | exact .inr rfl)) ?_ | refine rt_eq (q_X6_findRests_57 (by first | assumption | rfl | exact .inl rfl | exact .inr rfl)) ?_ | refine rt_eq (q_X6_findRests_78 (by first | assumption | rfl | exact .inl rfl | exact .inr rfl)) ?_ | refine rt_eq (q_X6_findRests_68 (by first | assumption | rfl | exact .inl rfl | exact .inr rfl)) ?_)
    rw [C'.2.2.2.2.2.1]
    refine rt_t (by (try simp (disch := omega) only [nI_leI, nI_ltI, nI_eq, nI_add, pk_mul, n_0add, Nat.zero_add, nI_clamp]) <;> omega) ?_
    rw [nI_add]
    exact go I' _ hf hz
  | q + 1, t, I', z, ht, hf, hz, hb, he => by
    have ih := lp_fr41 hu2 R hw z29 C A hg go q (t + 1)
    have h1 : oc3 43 := .inl rfl
    have n6 := R.1.1
    have C' := TX_r C hf
    have A' := arT_r A hf
    have he' : accF (stS h nL cd n N w g) q (t + 1) (stS h nL cd n N w g t z) = zf := he
    have skip : (ctk n N t && rstN h nL cd n N w g t) = false → ∀ I2, I2 = I' → Rt L X (runI (runM (d + 3)) iX6_findRests (78, [some (.ref 64), some (.ref 43), u2, some (.int (nI g)), some (.int (nI t))], [], mm L X I2 J)) r Q := by
      intro hn I2 hI2
      subst hI2
      have es : stS h nL cd n N w g t z = z := if_neg (by rw [hn]; decide)
      rw [es] at he'
      (first | refine rt_eq (q_X6_findRests_0 (by first | assumption | rfl | exact .inl rfl | exact .inr rfl)) ?_ | refine rt_eq (q_X6_findRests_23 (by first | assumption | rfl | exact .inl rfl | exact .inr rfl)) ?_ | refine rt_eq (q_X6_findRests_28 (by first | assumption | rfl | exact .inl rfl | exact .inr rfl) (by first | assumption | rfl | exact .inl rfl | exact .inr rfl)) ?_ | refine rt_eq (q_X6_findRests_30 (by first | assumption | rfl | exact .inl rfl | exact .inr rfl)) ?_ | refine rt_eq (q_X6_findRests_41 (by first | assumption | rfl | exact .inl rfl | exact .inr rfl) (by first | assumption | rfl | exact .inl rfl | exact .inr rfl)) ?_ | refine rt_eq (q_X6_findRests_57 (by first | assumption | rfl | exact .inl rfl | exact .inr rfl)) ?_ | refine rt_eq (q_X6_findRests_78 (by first | assumption | rfl | exact .inl rfl | exact .inr rfl)) ?_ | refine rt_eq (q_X6_findRests_68 (by first | assumption | rfl | exact .inl rfl | exact .inr rfl)) ?_)
      rw [nI_add]
      exact ih I2 z (by omega) hf hz (by omega) he'
    (first | refine rt_eq (q_X6_findRests_0 (by first | assumption | rfl | exact .inl rfl | exact .inr rfl)) ?_ | refine rt_eq (q_X6_findRests_23 (by first | assumption | rfl | exact .inl rfl | exact .inr rfl)) ?_ | refine rt_eq (q_X6_findRests_28 (by first | assumption | rfl | exact .inl rfl | exact .inr rfl) (by first | assumption | rfl | exact .inl rfl | exact .inr rfl)) ?_ | refine rt_eq (q_X6_findRests_30 (by first | assumption | rfl | exact .inl rfl | exact .inr rfl)) ?_ | refine rt_eq (q_X6_findRests_41 (by first | assumption | rfl | exact .inl rfl | exact .inr rfl) (by first | assumption | rfl | exact .inl rfl | exact .inr rfl)) ?_ | refine rt_eq (q_X6_findRests_57 (by first | assumption | rfl | exact .inl rfl | exact .inr rfl)) ?_ | refine rt_eq (q_X6_findRests_78 (by first | assumption | rfl | exact .inl rfl | exact .inr rfl)) ?_ | refine rt_eq (q_X6_findRests_68 (by first | assumption | rfl | exact .inl rfl | exact .inr rfl)) ?_)
    rw [C'.2.2.2.2.2.1]
    refine rt_f (by (try simp (disch := omega) only [nI_leI, nI_ltI, nI_eq, nI_add, pk_mul, n_0add, Nat.zero_add, nI_clamp]) <;> omega) ?_
    refine rt_be (sp_canTake C' R (by omega)) ?_
    (first | refine rt_eq (q_X6_findRests_0 (by first | assumption | rfl | exact .inl rfl | exact .inr rfl)) ?_ | refine rt_eq (q_X6_findRests_23 (by first | assumption | rfl | exact .inl rfl | exact .inr rfl)) ?_ | refine rt_eq (q_X6_findRests_28 (by first | assumption | rfl | exact .inl rfl | exact .inr rfl) (by first | assumption | rfl | exact .inl rfl | exact .inr rfl)) ?_ | refine rt_eq (q_X6_findRests_30 (by first | assumption | rfl | exact .inl rfl | exact .inr rfl)) ?_ | refine rt_eq (q_X6_findRests_41 (by first | assumption | rfl | exact .inl rfl | exact .inr rfl) (by first | assumption | rfl | exact .inl rfl | exact .inr rfl)) ?_ | refine rt_eq (q_X6_findRests_57 (by first | assumption | rfl | exact .inl rfl | exact .inr rfl)) ?_ | refine rt_eq (q_X6_findRests_78 (by first | assumption | rfl | exact .inl rfl | exact .inr rfl)) ?_ | refine rt_eq (q_X6_findRests_68 (by first | assumption | rfl | exact .inl rfl | exact .inr rfl)) ?_)
    by_cases y1 : ctk n N t = true
    · rw [y1]
      refine rt_f (by decide) ?_
      refine rt_be (sp_isRestC C' R hw z29 A' hg (by omega) y1) ?_
      (first | refine rt_eq (q_X6_findRests_0 (by first | assumption | rfl | exact .inl rfl | exact .inr rfl)) ?_ | refine rt_eq (q_X6_findRests_23 (by first | assumption | rfl | exact .inl rfl | exact .inr rfl)) ?_ | refine rt_eq (q_X6_findRests_28 (by first | assumption | rfl | exact .inl rfl | exact .inr rfl) (by first | assumption | rfl | exact .inl rfl | exact .inr rfl)) ?_ | refine rt_eq (q_X6_findRests_30 (by first | assumption | rfl | exact .inl rfl | exact .inr rfl)) ?_ | refine rt_eq (q_X6_findRests_41 (by first | assumption | rfl | exact .inl rfl | exact .inr rfl) (by first | assumption | rfl | exact .inl rfl | exact .inr rfl)) ?_ | refine rt_eq (q_X6_findRests_57 (by first | assumption | rfl | exact .inl rfl | exact .inr rfl)) ?_ | refine rt_eq (q_X6_findRests_78 (by first | assumption | rfl | exact .inl rfl | exact .inr rfl)) ?_ | refine rt_eq (q_X6_findRests_68 (by first | assumption | rfl | exact .inl rfl | exact .inr rfl)) ?_)
      by_cases y2 : rstN h nL cd n N w g t = true
      · rw [y2]
        refine rt_f (by decide) ?_
        have es : stS h nL cd n N w g t z = (z.1 + 1, if z.1 = 0 then nI (10 * atN n g + atN n t) else z.2.1, if z.1 = 0 then pdN n w g + pdN n w t else z.2.2) := if_pos (by rw [y1, y2]; rfl)
        rw [es] at he'
        refine rt_bnd (sp_noteRest C' n6 hg (by omega) hz) ?_
        rintro I2 J2 ⟨⟨f2, a4, a5, a6⟩, rfl⟩
        (first | refine rt_eq (q_X6_findRests_0 (by first | assumption | rfl | exact .inl rfl | exact .inr rfl)) ?_ | refine rt_eq (q_X6_findRests_23 (by first | assumption | rfl | exact .inl rfl | exact .inr rfl)) ?_ | refine rt_eq (q_X6_findRests_28 (by first | assumption | rfl | exact .inl rfl | exact .inr rfl) (by first | assumption | rfl | exact .inl rfl | exact .inr rfl)) ?_ | refine rt_eq (q_X6_findRests_30 (by first | assumption | rfl | exact .inl rfl | exact .inr rfl)) ?_ | refine rt_eq (q_X6_findRests_41 (by first | assumption | rfl | exact .inl rfl | exact .inr rfl) (by first | assumption | rfl | exact .inl rfl | exact .inr rfl)) ?_ | refine rt_eq (q_X6_findRests_57 (by first | assumption | rfl | exact .inl rfl | exact .inr rfl)) ?_ | refine rt_eq (q_X6_findRests_78 (by first | assumption | rfl | exact .inl rfl | exact .inr rfl)) ?_ | refine rt_eq (q_X6_findRests_68 (by first | assumption | rfl | exact .inl rfl | exact .inr rfl)) ?_)
        rw [nI_add]
        exact ih I2 _ (by omega) (fr_tr hf f2) ⟨a4, a5, fun _ => a6, by show z.1 + 1 ≤ 49; omega⟩ (by show z.1 + 1 ≤ _; omega) he'
      · have y2' : rstN h nL cd n N w g t = false := by simpa using y2
        rw [y2']
        refine rt_t bI_f ?_
        exact skip (by rw [y2', Bool.and_false]) I' rfl
    · have y1' : ctk n N t = false := by simpa using y1
      rw [y1']
      refine rt_t bI_f ?_
      exact skip (by rw [y1', Bool.false_and]) I' rfl
theorem st_bnd : ∀ q t z, (accF (stS h nL cd n N w g) q t z).1 ≤ z.1 + q
  | 0, t, z => Nat.le_refl _
  | q + 1, t, z => by
    have ih := st_bnd q (t + 1) (stS h nL cd n N w g t z)
    have : (stS h nL cd n N w g t z).1 ≤ z.1 + 1 := by
      unfold stS
      by_cases y : (ctk n N t && rstN h nL cd n N w g t) = true
      · rw [if_pos y]
        exact Nat.le_refl _
      · rw [if_neg y]
        omega
    show (accF (stS h nL cd n N w g) q (t + 1) (stS h nL cd n N w g t z)).1 ≤ _
    omega
theorem lp_fr30 {u2 : Option Value} (hu2 : okv u2 = true) (R : NR (h 0 0) n N) (hw : w ≤ 9) (z29 : N 29 = nI (nv (N 29)) ∧ nv (N 29) ≤ 99) (C : TX I h nL cd n N w) (A : arT I h nL cd n N (n + 1) 0) : ∀ q g I' z u4, g + q = n + 1 → Fr fRs I I' → stC I' z → z.1 ≤ 7 * g → accF (fun g z => accF (stS h nL cd n N w g) (n + 1) 0 z) q g z = stR h nL cd n N w → Rt L X (c_X6_findRests_30 (d + 3) L X I' J 43 u2 (nI g) u4) none (fun I'' J' => (Fr fRs I I'' ∧ stC I'' (stR h nL cd n N w)) ∧ J' = J)
  | 0, g, I', z, u4, hg, hf, hz, hb, he => by
    have h1 : oc3 43 := .inl rfl
    have n6 := R.1.1
    have C' := TX_r C hf
    have e : z = stR h nL cd n N w := he
    subst e
    (first | refine rt_eq (q_X6_findRests_0 (by first | assumption | rfl | exact .inl rfl | exact .inr rfl)) ?_ | refine rt_eq (q_X6_findRests_23 (by first | assumption | rfl | exact .inl rfl | exact .inr rfl)) ?_ | refine rt_eq (q_X6_findRests_28 (by first | assumption | rfl | exact .inl rfl | exact .inr rfl) (by first | assumption | rfl | exact .inl rfl | exact .inr rfl)) ?_ | refine rt_eq (q_X6_findRests_30 (by first | assumption | rfl | exact .inl rfl | exact .inr rfl)) ?_ | refine rt_eq (q_X6_findRests_41 (by first | assumption | rfl | exact .inl rfl | exact .inr rfl) (by first | assumption | rfl | exact .inl rfl | exact .inr rfl)) ?_ | refine rt_eq (q_X6_findRests_57 (by first | assumption | rfl | exact .inl rfl | exact .inr rfl)) ?_ | refine rt_eq (q_X6_findRests_78 (by first | assumption | rfl | exact .inl rfl | exact .inr rfl)) ?_ | refine rt_eq (q_X6_findRests_68 (by first | assumption | rfl | exact .inl rfl | exact .inr rfl)) ?_)
    rw [C'.2.2.2.2.2.1]
    refine rt_t (by (try simp (disch := omega) only [nI_leI, nI_ltI, nI_eq, nI_add, pk_mul, n_0add, Nat.zero_add, nI_clamp]) <;> omega) ?_
    exact rt_ret ⟨⟨hf, hz⟩, rfl⟩
  | q + 1, g, I', z, u4, hg, hf, hz, hb, he => by
    have ih := lp_fr30 hu2 R hw z29 C A q (g + 1)
    have h1 : oc3 43 := .inl rfl
    have n6 := R.1.1
    have C' := TX_r C hf
    have A' := arT_r A hf
    (first | refine rt_eq (q_X6_findRests_0 (by first | assumption | rfl | exact .inl rfl | exact .inr rfl)) ?_ | refine rt_eq (q_X6_findRests_23 (by first | assumption | rfl | exact .inl rfl | exact .inr rfl)) ?_ | refine rt_eq (q_X6_findRests_28 (by first | assumption | rfl | exact .inl rfl | exact .inr rfl) (by first | assumption | rfl | exact .inl rfl | exact .inr rfl)) ?_ | refine rt_eq (q_X6_findRests_30 (by first | assumption | rfl | exact .inl rfl | exact .inr rfl)) ?_ | refine rt_eq (q_X6_findRests_41 (by first | assumption | rfl | exact .inl rfl | exact .inr rfl) (by first | assumption | rfl | exact .inl rfl | exact .inr rfl)) ?_ | refine rt_eq (q_X6_findRests_57 (by first | assumption | rfl | exact .inl rfl | exact .inr rfl)) ?_ | refine rt_eq (q_X6_findRests_78 (by first | assumption | rfl | exact .inl rfl | exact .inr rfl)) ?_ | refine rt_eq (q_X6_findRests_68 (by first | assumption | rfl | exact .inl rfl | exact .inr rfl)) ?_)
    rw [C'.2.2.2.2.2.1]
    refine rt_f (by (try simp (disch := omega) only [nI_leI, nI_ltI, nI_eq, nI_add, pk_mul, n_0add, Nat.zero_add, nI_clamp]) <;> omega) ?_
    have hsb := st_bnd (h := h) (nL := nL) (cd := cd) (n := n) (N := N) (w := w) (g := g) (n + 1) 0 z
    refine lp_fr41 (zf := accF (stS h nL cd n N w g) (n + 1) 0 z) hu2 R hw z29 C' A' (by omega) (fun I2 u4 f2 z2 => ?_) (n + 1) 0 I' z (by omega) fr_rfl hz (by omega) rfl
    exact ih I2 _ u4 (by omega) (fr_tr hf f2) z2 (by omega) he
theorem c_street (V : CS I h nL cd n N) (hv : v ≤ 99) (hw : w ≤ 9) (hk : k ≤ 2) : Rt L X (runM (d + 7) nX11_street [.ref 0, .int (nI v), .int (nI w), .int (nI k)] (mm L X I J)) (some (.int (stV v (stR h nL cd n N w) k))) (fun I' _ => Fr fQ2 I I' ∧ Calm I') := by
  obtain ⟨ok, W, ⟨K, LC, Q⟩, C, R, Z⟩ := V
  have h1 : oc3 43 := .inl rfl
  have z29 := Z.2.2.2.2
  have n6 := R.1.1
  have hfr : Rt L X (runM (d + 6) nX6_findRests [.ref 64, .ref 43, .int (nI w)] (mm L X I J)) none (fun I' J' => (Fr fSt I I' ∧ (∀ k, k < 6 → I' 54 k = nI 0) ∧ stC I' (stR h nL cd n N w)) ∧ J' = J) := by
    rw [e_X6_findRests]
    (first | refine rt_eq (q_X6_findRests_0 (by first | assumption | rfl | exact .inl rfl | exact .inr rfl)) ?_ | refine rt_eq (q_X6_findRests_23 (by first | assumption | rfl | exact .inl rfl | exact .inr rfl)) ?_ | refine rt_eq (q_X6_findRests_28 (by first | assumption | rfl | exact .inl rfl | exact .inr rfl) (by first | assumption | rfl | exact .inl rfl | exact .inr rfl)) ?_ | refine rt_eq (q_X6_findRests_30 (by first | assumption | rfl | exact .inl rfl | exact .inr rfl)) ?_ | refine rt_eq (q_X6_findRests_41 (by first | assumption | rfl | exact .inl rfl | exact .inr rfl) (by first | assumption | rfl | exact .inl rfl | exact .inr rfl)) ?_ | refine rt_eq (q_X6_findRests_57 (by first | assumption | rfl | exact .inl rfl | exact .inr rfl)) ?_ | refine rt_eq (q_X6_findRests_78 (by first | assumption | rfl | exact .inl rfl | exact .inr rfl)) ?_ | refine rt_eq (q_X6_findRests_68 (by first | assumption | rfl | exact .inl rfl | exact .inr rfl)) ?_)
    rw [C.1]
    generalize hI1 : up2 (up2 (up2 (up2 I 64 2 (nI n)) 64 3 (nI w)) 64 4 (nI 0)) 64 5 (-1) = I1
    have f1 : Fr [(64, 0)] I I1 := by rw [← hI1]; exact fr_up (fr_up (fr_up (fr_up fr_rfl rfl) rfl) rfl) rfl
    have e2 : I1 64 2 = nI n := by rw [← hI1, up2_k (by decide), up2_k (by decide), up2_k (by decide), up2_s]
    have e3 : I1 64 3 = nI w := by rw [← hI1, up2_k (by decide), up2_k (by decide), up2_s]
    have e4 : I1 64 4 = nI 0 := by rw [← hI1, up2_k (by decide), up2_s]
    have e5 : I1 64 5 = -1 := by rw [← hI1, up2_s]
    clear hI1
    have C1 : TX I1 h nL cd n N w := ⟨HC_fr K (ag_of f1 (by decide)), LawC_fr LC (ag_of f1 (by decide)), NC_fr C (ag_of f1 (by decide)), fun k hk => by rw [f1 55 k rfl]; exact Q.2.2 k hk, by rw [f1 52 5 rfl]; exact Q.1, e2, e3⟩
    (first | refine rt_eq (q_X6_findRests_0 (by first | assumption | rfl | exact .inl rfl | exact .inr rfl)) ?_ | refine rt_eq (q_X6_findRests_23 (by first | assumption | rfl | exact .inl rfl | exact .inr rfl)) ?_ | refine rt_eq (q_X6_findRests_28 (by first | assumption | rfl | exact .inl rfl | exact .inr rfl) (by first | assumption | rfl | exact .inl rfl | exact .inr rfl)) ?_ | refine rt_eq (q_X6_findRests_30 (by first | assumption | rfl | exact .inl rfl | exact .inr rfl)) ?_ | refine rt_eq (q_X6_findRests_41 (by first | assumption | rfl | exact .inl rfl | exact .inr rfl) (by first | assumption | rfl | exact .inl rfl | exact .inr rfl)) ?_ | refine rt_eq (q_X6_findRests_57 (by first | assumption | rfl | exact .inl rfl | exact .inr rfl)) ?_ | refine rt_eq (q_X6_findRests_78 (by first | assumption | rfl | exact .inl rfl | exact .inr rfl)) ?_ | refine rt_eq (q_X6_findRests_68 (by first | assumption | rfl | exact .inl rfl | exact .inr rfl)) ?_)
    have hfa : Rt L X (runM (d + 5) nX6_fillArrives [.ref 64, .ref 43] (mm L X I1 J)) none (fun I'' J' => (Fr fFa I1 I'' ∧ (∀ k, k < 6 → I'' 54 k = nI 0) ∧ arT I'' h nL cd n N (n + 1) 0) ∧ J' = J) := by
      rw [e_X6_fillArrives]
      (first | refine rt_eq (q_X6_fillArrives_0 (by first | assumption | rfl | exact .inl rfl | exact .inr rfl)) ?_ | refine rt_eq (q_X6_fillArrives_2 (by first | assumption | rfl | exact .inl rfl | exact .inr rfl)) ?_ | refine rt_eq (q_X6_fillArrives_12 (by first | assumption | rfl | exact .inl rfl | exact .inr rfl)) ?_ | refine rt_eq (q_X6_fillArrives_26 (by first | assumption | rfl | exact .inl rfl | exact .inr rfl)) ?_ | refine rt_eq (q_X6_fillArrives_78 (by first | assumption | rfl | exact .inl rfl | exact .inr rfl)) ?_ | refine rt_eq (q_X6_fillArrives_35 (by first | assumption | rfl | exact .inl rfl | exact .inr rfl)) ?_ | refine rt_eq (q_X6_fillArrives_41 (by first | assumption | rfl | exact .inl rfl | exact .inr rfl)) ?_ | refine rt_eq (q_X6_fillArrives_63 (by first | assumption | rfl | exact .inl rfl | exact .inr rfl)) ?_ | refine rt_eq (q_X6_fillArrives_66 (by first | assumption | rfl | exact .inl rfl | exact .inr rfl)) ?_ | refine rt_eq (q_X6_fillArrives_72 (by first | assumption | rfl | exact .inl rfl | exact .inr rfl)) ?_)
      exact lp_fa2 ok W R C1 (n + 1) 0 I1 _ (by omega) fr_rfl (fun k hk => by rw [f1 54 k rfl]; exact Q.2.1 k hk) (fun g' t' c1 c2 c3 c4 => by omega)
    refine rt_bnd hfa ?_
    rintro I2 J2 ⟨⟨f2, z2, A2⟩, rfl⟩
    have C2 := TX_a C1 f2
    (first | refine rt_eq (q_X6_findRests_0 (by first | assumption | rfl | exact .inl rfl | exact .inr rfl)) ?_ | refine rt_eq (q_X6_findRests_23 (by first | assumption | rfl | exact .inl rfl | exact .inr rfl)) ?_ | refine rt_eq (q_X6_findRests_28 (by first | assumption | rfl | exact .inl rfl | exact .inr rfl) (by first | assumption | rfl | exact .inl rfl | exact .inr rfl)) ?_ | refine rt_eq (q_X6_findRests_30 (by first | assumption | rfl | exact .inl rfl | exact .inr rfl)) ?_ | refine rt_eq (q_X6_findRests_41 (by first | assumption | rfl | exact .inl rfl | exact .inr rfl) (by first | assumption | rfl | exact .inl rfl | exact .inr rfl)) ?_ | refine rt_eq (q_X6_findRests_57 (by first | assumption | rfl | exact .inl rfl | exact .inr rfl)) ?_ | refine rt_eq (q_X6_findRests_78 (by first | assumption | rfl | exact .inl rfl | exact .inr rfl)) ?_ | refine rt_eq (q_X6_findRests_68 (by first | assumption | rfl | exact .inl rfl | exact .inr rfl)) ?_)
    refine rt_mono (lp_fr30 (d := d + 2) rfl R hw z29 C2 A2 (n + 1) 0 I2 (0, -1, 0) _ (by omega) fr_rfl ⟨by rw [f2 64 4 rfl]; exact e4, by rw [f2 64 5 rfl]; exact e5, fun q => absurd q (Nat.lt_irrefl 0), Nat.zero_le _⟩ (Nat.zero_le _) rfl) ?_
    rintro I3 J3 ⟨⟨f3, z3⟩, rfl⟩
    exact ⟨⟨fr_tr (fr_mono f1 (by decide)) (fr_tr (fr_mono f2 (by decide)) (fr_mono f3 (by decide))), fun k hk => by rw [f3 54 k rfl]; exact z2 k hk, z3⟩, rfl⟩
  rw [e_X11_street]
  (first | refine rt_eq (q_X11_street_0) ?_ | refine rt_eq (q_X11_street_8) ?_ | refine rt_eq (q_X11_street_34) ?_ | refine rt_eq (q_X11_street_18) ?_ | refine rt_eq (q_X11_street_35) ?_ | refine rt_eq (q_X11_street_27) ?_ | refine rt_eq (q_X11_street_38) ?_ | refine rt_eq (q_X11_street_50) ?_ | refine rt_eq (q_X11_street_51) ?_ | refine rt_eq (q_X11_street_76) ?_ | refine rt_eq (q_X11_street_84) ?_ | refine rt_eq (q_X11_street_92) ?_)
  refine rt_bne (wi_t (by (try simp (disch := omega) only [nI_leI, nI_ltI, nI_eq, nI_add, pk_mul, n_0add, Nat.zero_add, nI_clamp]) <;> omega) (by (try simp (disch := omega) only [nI_leI, nI_ltI, nI_eq, nI_add, pk_mul, n_0add, Nat.zero_add, nI_clamp]) <;> omega)) ?_
  (first | refine rt_eq (q_X11_street_0) ?_ | refine rt_eq (q_X11_street_8) ?_ | refine rt_eq (q_X11_street_34) ?_ | refine rt_eq (q_X11_street_18) ?_ | refine rt_eq (q_X11_street_35) ?_ | refine rt_eq (q_X11_street_27) ?_ | refine rt_eq (q_X11_street_38) ?_ | refine rt_eq (q_X11_street_50) ?_ | refine rt_eq (q_X11_street_51) ?_ | refine rt_eq (q_X11_street_76) ?_ | refine rt_eq (q_X11_street_84) ?_ | refine rt_eq (q_X11_street_92) ?_)
  repeat (first | refine rt_t (by decide) ?_ | refine rt_f (by decide) ?_)
  refine rt_bne (wi_t (by (try simp (disch := omega) only [nI_leI, nI_ltI, nI_eq, nI_add, pk_mul, n_0add, Nat.zero_add, nI_clamp]) <;> omega) (by (try simp (disch := omega) only [nI_leI, nI_ltI, nI_eq, nI_add, pk_mul, n_0add, Nat.zero_add, nI_clamp]) <;> omega)) ?_
  (first | refine rt_eq (q_X11_street_0) ?_ | refine rt_eq (q_X11_street_8) ?_ | refine rt_eq (q_X11_street_34) ?_ | refine rt_eq (q_X11_street_18) ?_ | refine rt_eq (q_X11_street_35) ?_ | refine rt_eq (q_X11_street_27) ?_ | refine rt_eq (q_X11_street_38) ?_ | refine rt_eq (q_X11_street_50) ?_ | refine rt_eq (q_X11_street_51) ?_ | refine rt_eq (q_X11_street_76) ?_ | refine rt_eq (q_X11_street_84) ?_ | refine rt_eq (q_X11_street_92) ?_)
  repeat (first | refine rt_t (by decide) ?_ | refine rt_f (by decide) ?_)
  refine rt_bne (wi_t (by (try simp (disch := omega) only [nI_leI, nI_ltI, nI_eq, nI_add, pk_mul, n_0add, Nat.zero_add, nI_clamp]) <;> omega) (by (try simp (disch := omega) only [nI_leI, nI_ltI, nI_eq, nI_add, pk_mul, n_0add, Nat.zero_add, nI_clamp]) <;> omega)) ?_
  (first | refine rt_eq (q_X11_street_0) ?_ | refine rt_eq (q_X11_street_8) ?_ | refine rt_eq (q_X11_street_34) ?_ | refine rt_eq (q_X11_street_18) ?_ | refine rt_eq (q_X11_street_35) ?_ | refine rt_eq (q_X11_street_27) ?_ | refine rt_eq (q_X11_street_38) ?_ | refine rt_eq (q_X11_street_50) ?_ | refine rt_eq (q_X11_street_51) ?_ | refine rt_eq (q_X11_street_76) ?_ | refine rt_eq (q_X11_street_84) ?_ | refine rt_eq (q_X11_street_92) ?_)
  repeat (first | refine rt_t (by decide) ?_ | refine rt_f (by decide) ?_)
  (first | refine rt_eq (q_X11_street_0) ?_ | refine rt_eq (q_X11_street_8) ?_ | refine rt_eq (q_X11_street_34) ?_ | refine rt_eq (q_X11_street_18) ?_ | refine rt_eq (q_X11_street_35) ?_ | refine rt_eq (q_X11_street_27) ?_ | refine rt_eq (q_X11_street_38) ?_ | refine rt_eq (q_X11_street_50) ?_ | refine rt_eq (q_X11_street_51) ?_ | refine rt_eq (q_X11_street_76) ?_ | refine rt_eq (q_X11_street_84) ?_ | refine rt_eq (q_X11_street_92) ?_)
  refine rt_be ex_t ?_
  (first | refine rt_eq (q_X11_street_0) ?_ | refine rt_eq (q_X11_street_8) ?_ | refine rt_eq (q_X11_street_34) ?_ | refine rt_eq (q_X11_street_18) ?_ | refine rt_eq (q_X11_street_35) ?_ | refine rt_eq (q_X11_street_27) ?_ | refine rt_eq (q_X11_street_38) ?_ | refine rt_eq (q_X11_street_50) ?_ | refine rt_eq (q_X11_street_51) ?_ | refine rt_eq (q_X11_street_76) ?_ | refine rt_eq (q_X11_street_84) ?_ | refine rt_eq (q_X11_street_92) ?_)
  refine rt_bnd hfr ?_
  rintro I1 J1 ⟨⟨f1, z1, a1, a2, a3, a4⟩, rfl⟩
  have post : Fr fQ2 I I1 ∧ Calm I1 := ⟨fr_mono f1 (by decide +kernel), by rw [f1 52 5 rfl]; exact Q.1, z1, fun k hk => by rw [f1 55 k rfl]; exact Q.2.2 k hk⟩
  (first | refine rt_eq (q_X11_street_0) ?_ | refine rt_eq (q_X11_street_8) ?_ | refine rt_eq (q_X11_street_34) ?_ | refine rt_eq (q_X11_street_18) ?_ | refine rt_eq (q_X11_street_35) ?_ | refine rt_eq (q_X11_street_27) ?_ | refine rt_eq (q_X11_street_38) ?_ | refine rt_eq (q_X11_street_50) ?_ | refine rt_eq (q_X11_street_51) ?_ | refine rt_eq (q_X11_street_76) ?_ | refine rt_eq (q_X11_street_84) ?_ | refine rt_eq (q_X11_street_92) ?_)
  (first | refine rt_eq (q_X11_street_0) ?_ | refine rt_eq (q_X11_street_8) ?_ | refine rt_eq (q_X11_street_34) ?_ | refine rt_eq (q_X11_street_18) ?_ | refine rt_eq (q_X11_street_35) ?_ | refine rt_eq (q_X11_street_27) ?_ | refine rt_eq (q_X11_street_38) ?_ | refine rt_eq (q_X11_street_50) ?_ | refine rt_eq (q_X11_street_51) ?_ | refine rt_eq (q_X11_street_76) ?_ | refine rt_eq (q_X11_street_84) ?_ | refine rt_eq (q_X11_street_92) ?_)
  unfold stV
  have : k = 0 ∨ k = 1 ∨ k = 2 := by omega
  rcases this with rfl | rfl | rfl
  all_goals repeat (first | refine rt_t (by decide) ?_ | refine rt_f (by decide) ?_)
  all_goals (first | refine rt_eq (q_X11_street_0) ?_ | refine rt_eq (q_X11_street_8) ?_ | refine rt_eq (q_X11_street_34) ?_ | refine rt_eq (q_X11_street_18) ?_ | refine rt_eq (q_X11_street_35) ?_ | refine rt_eq (q_X11_street_27) ?_ | refine rt_eq (q_X11_street_38) ?_ | refine rt_eq (q_X11_street_50) ?_ | refine rt_eq (q_X11_street_51) ?_ | refine rt_eq (q_X11_street_76) ?_ | refine rt_eq (q_X11_street_84) ?_ | refine rt_eq (q_X11_street_92) ?_)
  · exact rt_v (rt_ret post) (by rw [a1, if_pos rfl])
  · exact rt_v (rt_ret post) (by rw [a2, if_neg (by decide), if_pos rfl])
  · by_cases y : (stR h nL cd n N w).1 = 0
    · refine rt_t (by rw [a1, y]) ?_
      exact rt_v (rt_ret post) (by rw [if_neg (by decide), if_neg (by decide), if_pos y])
    · refine rt_f (by rw [a1, nI_eq (by omega) (by decide)]; exact y) ?_
      exact rt_v (rt_ret post) (by rw [a3 (by omega), if_neg (by decide), if_neg (by decide), if_neg y])
end SR2
