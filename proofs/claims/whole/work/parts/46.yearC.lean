/-! YEARS ARE LIVED, BY BOTH -/
section YL
variable {d L X : Nat} {I : MI32} {J : MI64} {n nL : Nat} {N : Nt} {h : Hs} {m q : Nat} {cd : Cd}
theorem SC_yc {I' : MI32} (S : SC I h m nL cd) (g : Fr fYC I I') : SC I' h m nL cd := SC_fr S g (by decide) (by decide) (by decide)
theorem lp_live {hours : Nat} (ok : HOK h) (W : wfC cd nL 0 0) (hq : q ≤ 16) (hh : hours < 2 ^ 31) (S : SC I h m nL cd) : ∀ r j I' y b u1 u2, j + r = hours → Fr fYC I I' → NC I' 67 y.2.1 y.2.2 → I' 66 4 = y.1 → I' 66 3 = b → wlY h y → Rt L X (c_X10_live_21 (d + 6) L X I' J u1 u2 (nI hours) (nI q) (nI j)) none (fun I'' J' => (Fr fYC I I'' ∧ NC I'' 67 (accF (yrZ h m nL cd q) r j (y, b)).1.2.1 (accF (yrZ h m nL cd q) r j (y, b)).1.2.2 ∧ I'' 66 3 = (accF (yrZ h m nL cd q) r j (y, b)).2) ∧ J' = J)
  | 0, j, I', y, b, u1, u2, hj, hf, C, h4, h3, w => by
    (first | refine rt_eq (q_X10_live_0 (by first | assumption | rfl | exact .inl rfl | exact .inr rfl)) ?_ | refine rt_eq (q_X10_live_8) ?_ | refine rt_eq (q_X10_live_21) ?_ | refine rt_eq (q_X10_live_43) ?_ | refine rt_eq (q_X10_live_63) ?_ | refine rt_eq (q_X10_live_66) ?_)
    refine rt_t (by (try simp (disch := omega) only [nI_leI, nI_ltI, nI_eq, nI_add, pk_mul, n_0add, Nat.zero_add, nI_clamp]) <;> omega) ?_
    exact rt_ret ⟨⟨hf, C, h3⟩, rfl⟩
  | r + 1, j, I', y, b, u1, u2, hj, hf, C, h4, h3, w => by
    have ih := lp_live (hours := hours) ok W hq hh S r (j + 1)
    have S1 := SC_yc S hf
    have h6 := ok.1
    have wD := wl_D (m := m) (nL := nL) (cd := cd) (q := q) ok w
    have tail : ∀ I2, Fr fYC I I2 → NC I2 67 (yrD h m nL cd q y).2.1 (yrD h m nL cd q y).2.2 → I2 66 4 = (yrD h m nL cd q y).1 → I2 66 3 = b → Rt L X (runI (runM (d + 6)) iX10_live (43, [some (.ref 66), u1, u2, some (.int (nI hours)), some (.int (nI q)), some (.int (nI j))], [], mm L X I2 J)) none (fun I'' J' => (Fr fYC I I'' ∧ NC I'' 67 (accF (yrZ h m nL cd q) (r + 1) j (y, b)).1.2.1 (accF (yrZ h m nL cd q) (r + 1) j (y, b)).1.2.2 ∧ I'' 66 3 = (accF (yrZ h m nL cd q) (r + 1) j (y, b)).2) ∧ J' = J) := by
      intro I2 b1 b2 b3 b4
      have S2 := SC_yc S b1
      (first | refine rt_eq (q_X10_live_0 (by first | assumption | rfl | exact .inl rfl | exact .inr rfl)) ?_ | refine rt_eq (q_X10_live_8) ?_ | refine rt_eq (q_X10_live_21) ?_ | refine rt_eq (q_X10_live_43) ?_ | refine rt_eq (q_X10_live_63) ?_ | refine rt_eq (q_X10_live_66) ?_)
      refine rt_bnd (sp_reachedBits (.inr rfl) b2 wD.1 S2.1 ok S2.2.1 W S2.2.2) ?_
      rintro I3 J3 ⟨f3, rfl⟩
      (first | refine rt_eq (q_X10_live_0 (by first | assumption | rfl | exact .inl rfl | exact .inr rfl)) ?_ | refine rt_eq (q_X10_live_8) ?_ | refine rt_eq (q_X10_live_21) ?_ | refine rt_eq (q_X10_live_43) ?_ | refine rt_eq (q_X10_live_63) ?_ | refine rt_eq (q_X10_live_66) ?_)
      have C3 := NC_fr b2 (ag_of f3 (by decide))
      refine rt_bnd (sp_passHour (.inr rfl) C3 wD.1.1.1 ok.2.2.1 wD.2.2.2.2.1) ?_
      rintro I4 J4 ⟨⟨f4, C4⟩, rfl⟩
      (first | refine rt_eq (q_X10_live_0 (by first | assumption | rfl | exact .inl rfl | exact .inr rfl)) ?_ | refine rt_eq (q_X10_live_8) ?_ | refine rt_eq (q_X10_live_21) ?_ | refine rt_eq (q_X10_live_43) ?_ | refine rt_eq (q_X10_live_63) ?_ | refine rt_eq (q_X10_live_66) ?_)
      rw [nI_add]
      have f5 : Fr fYC I I4 := fr_tr b1 (fr_tr (fr_mono f3 (by decide)) (fr_mono f4 (by decide)))
      have e4 : I4 66 4 = I2 66 4 := (f4 66 4 rfl).trans (f3 66 4 rfl)
      refine ih _ (yrH h m nL cd q y) (yrP h m nL cd q y b) _ _ (by omega) (fr_up f5 rfl) (NC_66 C4 rfl) ?_ ?_ (wl_H ok w)
      · rw [up2_k (by decide), e4, b3]
        rfl
      · rw [up2_s, b4]
        unfold yrP
        rw [← putO_add, add_n0]
    (first | refine rt_eq (q_X10_live_0 (by first | assumption | rfl | exact .inl rfl | exact .inr rfl)) ?_ | refine rt_eq (q_X10_live_8) ?_ | refine rt_eq (q_X10_live_21) ?_ | refine rt_eq (q_X10_live_43) ?_ | refine rt_eq (q_X10_live_63) ?_ | refine rt_eq (q_X10_live_66) ?_)
    refine rt_f (by (try simp (disch := omega) only [nI_leI, nI_ltI, nI_eq, nI_add, pk_mul, n_0add, Nat.zero_add, nI_clamp]) <;> omega) ?_
    rw [S1.1.1]
    by_cases e : h 0 0 = 0
    · refine rt_t (by (try simp (disch := omega) only [nI_leI, nI_ltI, nI_eq, nI_add, pk_mul, n_0add, Nat.zero_add, nI_clamp]) <;> omega) ?_
      have eD : yrD h m nL cd q y = y := if_pos e
      rw [eD] at tail
      exact tail I' hf C h4 h3
    · refine rt_f (by (try simp (disch := omega) only [nI_leI, nI_ltI, nI_eq, nI_add, pk_mul, n_0add, Nat.zero_add, nI_clamp]) <;> omega) ?_
      have hy4 : (I' 66 4, y.2.1, y.2.2) = y := by rw [h4]
      have eD : yrD h m nL cd q y = yrL h m nL cd q (yrA h m nL cd y) := if_neg e
      refine rt_bnd (sp_doDrawn ok (by omega) hq S1 C (by rw [hy4]; exact w) _ _ rfl rfl) ?_
      rintro I2 J2 ⟨⟨f1, f2, f3, f4⟩, rfl⟩
      rw [hy4, ← eD] at f2 f3
      exact tail I2 (fr_tr hf f1) f2 f3 (f4.trans h3)
theorem sp_live {hours : Nat} {s : Int32} (ok : HOK h) (W : wfC cd nL 0 0) (hq : q ≤ 16) (hh : hours < 2 ^ 31) (S : SC I h m nL cd) (C : NC I 43 n N) (R : NR (h 0 0) n N) (Z : NX (h 0 0) (h 0 2) N) : Rt L X (runM (d + 7) nX10_live [.ref 66, .ref 43, .int s, .int (nI hours), .int (nI q)] (mm L X I J)) none (fun I' J' => (Fr fYC I I' ∧ NC I' 67 (yrs h m nL cd q hours s n N).1.2.1 (yrs h m nL cd q hours s n N).1.2.2 ∧ I' 66 3 = (yrs h m nL cd q hours s n N).2) ∧ J' = J) := by
  rw [e_X10_live]
  (first | refine rt_eq (q_X10_live_0 (by first | assumption | rfl | exact .inl rfl | exact .inr rfl)) ?_ | refine rt_eq (q_X10_live_8) ?_ | refine rt_eq (q_X10_live_21) ?_ | refine rt_eq (q_X10_live_43) ?_ | refine rt_eq (q_X10_live_63) ?_ | refine rt_eq (q_X10_live_66) ?_)
  refine rt_bnd (sp_becomeC C R.1.1) ?_
  rintro I1 J1 ⟨⟨f1, C1⟩, rfl⟩
  (first | refine rt_eq (q_X10_live_0 (by first | assumption | rfl | exact .inl rfl | exact .inr rfl)) ?_ | refine rt_eq (q_X10_live_8) ?_ | refine rt_eq (q_X10_live_21) ?_ | refine rt_eq (q_X10_live_43) ?_ | refine rt_eq (q_X10_live_63) ?_ | refine rt_eq (q_X10_live_66) ?_)
  have f2 : Fr fYC I I1 := fr_mono f1 fyc1
  exact lp_live ok W hq hh S hours 0 _ (s, n, N) (nI 0) _ _ (by omega) (fr_up (fr_up f2 rfl) rfl) (NC_66 (NC_66 C1 rfl) rfl) (by rw [up2_k (by decide), up2_s]) (by rw [up2_s]) ⟨R, Z⟩
/-! hours alone go by -/
theorem bits_r {T : Nat → Bool} {nf : Nat} : bitsN T nf < 2 ^ nf := bitsN_lt nf
/-- k hours from N on, what is reached being always the same -/
def hrs (R : Nat → Bool) (nf : Nat) (k : Nat) (N : Nt) : Nt := accF (fun _ M => hourN R nf M) k 0 N
theorem hrs_s {R : Nat → Bool} {nf k : Nat} : hrs R nf (k + 1) N = hourN R nf (hrs R nf k N) := accF_last
theorem hrs_lo {R : Nat → Bool} {nf k i : Nat} (hi : i < 24 ∨ i = 29) (h5 : nf ≤ 5) : hrs R nf k N i = N i := by
  induction k with
  | zero => rfl
  | succ k ih => rw [hrs_s, hourN_lo hi h5, ih]
theorem NX_hrs {R : Nat → Bool} {nf np k : Nat} (Z : NX np nf N) (h5 : nf ≤ 5) : NX np nf (hrs R nf k N) := by
  induction k with
  | zero => exact Z
  | succ k ih => rw [hrs_s]; exact NX_hour ih h5
theorem NR_hrs {R : Nat → Bool} {nf np k : Nat} (Q : NR np n N) (h5 : nf ≤ 5) : NR np n (hrs R nf k N) := NR_congr Q (fun i hi => hrs_lo (.inl (by omega)) h5)
theorem lp_outAfter {hours : Nat} {R : Nat → Bool} {nf : Nat} (hn : n ≤ 6) (h5 : nf ≤ 5) (hh : hours < 2 ^ 31) (Z : ∀ k f, nf ≤ f → f < 5 → hrs R nf k N (24 + f) = -1) : ∀ r j I' u1, j + r = hours → Fr (sNC 67) I I' → NC I' 67 n (hrs R nf j N) → Rt L X (c_X10_outAfter_23 (d + 2) L X I' J u1 (nI hours) (nI (bitsN R nf)) (nI j)) (some (.int (nI (bitsN (outP (hrs R nf hours N)) 5)))) (fun I'' J' => Fr (sNC 67) I I'' ∧ J' = J)
  | 0, j, I', u1, hj, hf, C => by
    have e : j = hours := by omega
    subst e
    (first | refine rt_eq (q_X10_outAfter_0 (by first | assumption | rfl | exact .inl rfl | exact .inr rfl)) ?_ | refine rt_eq (q_X10_outAfter_8) ?_ | refine rt_eq (q_X10_outAfter_19) ?_ | refine rt_eq (q_X10_outAfter_23) ?_ | refine rt_eq (q_X10_outAfter_51) ?_ | refine rt_eq (q_X10_outAfter_37) ?_)
    refine rt_t (by (try simp (disch := omega) only [nI_leI, nI_ltI, nI_eq, nI_add, pk_mul, n_0add, Nat.zero_add, nI_clamp]) <;> omega) ?_
    refine rt_be (sp_outBits (.inr rfl) C) ?_
    (first | refine rt_eq (q_X10_outAfter_0 (by first | assumption | rfl | exact .inl rfl | exact .inr rfl)) ?_ | refine rt_eq (q_X10_outAfter_8) ?_ | refine rt_eq (q_X10_outAfter_19) ?_ | refine rt_eq (q_X10_outAfter_23) ?_ | refine rt_eq (q_X10_outAfter_51) ?_ | refine rt_eq (q_X10_outAfter_37) ?_)
    exact rt_ret ⟨hf, rfl⟩
  | r + 1, j, I', u1, hj, hf, C => by
    have ih := lp_outAfter (hours := hours) (R := R) (nf := nf) hn h5 hh Z r (j + 1)
    (first | refine rt_eq (q_X10_outAfter_0 (by first | assumption | rfl | exact .inl rfl | exact .inr rfl)) ?_ | refine rt_eq (q_X10_outAfter_8) ?_ | refine rt_eq (q_X10_outAfter_19) ?_ | refine rt_eq (q_X10_outAfter_23) ?_ | refine rt_eq (q_X10_outAfter_51) ?_ | refine rt_eq (q_X10_outAfter_37) ?_)
    refine rt_f (by (try simp (disch := omega) only [nI_leI, nI_ltI, nI_eq, nI_add, pk_mul, n_0add, Nat.zero_add, nI_clamp]) <;> omega) ?_
    refine rt_bnd (sp_passHour (.inr rfl) C hn h5 (Z j)) ?_
    rintro I4 J4 ⟨⟨f4, C4⟩, rfl⟩
    (first | refine rt_eq (q_X10_outAfter_0 (by first | assumption | rfl | exact .inl rfl | exact .inr rfl)) ?_ | refine rt_eq (q_X10_outAfter_8) ?_ | refine rt_eq (q_X10_outAfter_19) ?_ | refine rt_eq (q_X10_outAfter_23) ?_ | refine rt_eq (q_X10_outAfter_51) ?_ | refine rt_eq (q_X10_outAfter_37) ?_)
    rw [nI_add]
    exact ih I4 _ (by omega) (fr_tr hf (fr_mono f4 (by decide))) (by rw [hrs_s]; exact C4)
theorem sp_outAfter {hours : Nat} (ok : HOK h) (W : wfC cd nL 0 0) (hh : hours < 2 ^ 31) (S : SC I h m nL cd) (C : NC I 43 n N) (R : NR (h 0 0) n N) (Z : NX (h 0 0) (h 0 2) N) : Rt L X (runM (d + 6) nX10_outAfter [.ref 66, .ref 43, .int (nI hours)] (mm L X I J)) (some (.int (nI (bitsN (outP (hrs (rchd h nL cd N n) (h 0 2) hours N)) 5)))) (fun I' J' => Fr (fS 67) I I' ∧ J' = J) := by
  rw [e_X10_outAfter]
  (first | refine rt_eq (q_X10_outAfter_0 (by first | assumption | rfl | exact .inl rfl | exact .inr rfl)) ?_ | refine rt_eq (q_X10_outAfter_8) ?_ | refine rt_eq (q_X10_outAfter_19) ?_ | refine rt_eq (q_X10_outAfter_23) ?_ | refine rt_eq (q_X10_outAfter_51) ?_ | refine rt_eq (q_X10_outAfter_37) ?_)
  refine rt_bnd (sp_becomeC C R.1.1) ?_
  rintro I1 J1 ⟨⟨f1, C1⟩, rfl⟩
  (first | refine rt_eq (q_X10_outAfter_0 (by first | assumption | rfl | exact .inl rfl | exact .inr rfl)) ?_ | refine rt_eq (q_X10_outAfter_8) ?_ | refine rt_eq (q_X10_outAfter_19) ?_ | refine rt_eq (q_X10_outAfter_23) ?_ | refine rt_eq (q_X10_outAfter_51) ?_ | refine rt_eq (q_X10_outAfter_37) ?_)
  have S1 := SC_fr S f1 (by decide) (by decide) (by decide)
  refine rt_bnd (sp_reachedBits (.inr rfl) C1 R S1.1 ok S1.2.1 W S1.2.2) ?_
  rintro I2 J2 ⟨f2, rfl⟩
  (first | refine rt_eq (q_X10_outAfter_0 (by first | assumption | rfl | exact .inl rfl | exact .inr rfl)) ?_ | refine rt_eq (q_X10_outAfter_8) ?_ | refine rt_eq (q_X10_outAfter_19) ?_ | refine rt_eq (q_X10_outAfter_23) ?_ | refine rt_eq (q_X10_outAfter_51) ?_ | refine rt_eq (q_X10_outAfter_37) ?_)
  have C2 := NC_fr C1 (ag_of f2 (by decide))
  refine rt_mono (lp_outAfter (I := I2) (N := N) R.1.1 ok.2.2.1 hh (fun k => (NX_hrs Z ok.2.2.1).2.2.2.1) hours 0 I2 _ (by omega) fr_rfl C2) ?_
  rintro I3 J3 ⟨f3, rfl⟩
  exact ⟨fr_tr (fr_mono f1 fS2) (fr_tr (fr_mono f2 fS1) (fr_mono f3 fS2)), rfl⟩
/-! the model -/
def SM (I : MI32) (h : Hs) (m nL : Nat) (cd : Cd) : Prop := HM I h m ∧ LawM I nL cd
theorem SM_fr {I I' : MI32} {l : Fls} (S : SM I h m nL cd) (ok : HOK h) (g : Fr l I I') (d1 : dj l sHM = true) (d2 : dj l sLM = true) : SM I' h m nL cd := ⟨HM_fr S.1 ok (ag_of g d1), LawM_fr S.2 (ag_of g d2)⟩
theorem SM_ym {I' : MI32} (S : SM I h m nL cd) (ok : HOK h) (g : Fr fYM I I') : SM I' h m nL cd := SM_fr S ok g (by decide +kernel) (by decide +kernel)
theorem sp_acts {k p : Nat} (H : HM I h m) (ok : HOK h) (R : NR (h 0 0) n (I 534)) (Z : NX (h 0 0) (h 0 2) (I 534)) (hk : k < 4) (hp : p < h 0 0) : Rt L X (runM (d + 4) nX12_acts [.ref 72, .ref 534, .int (nI p), .int (nI k)] (mm L X I J)) none (fun I' J' => (Fr [(534, 0)] I I' ∧ I' 534 = st2N h m nL cd (kdY k) p 0 n (I 534)) ∧ J' = J) := by
  have h6 := ok.1
  have hr : om 534 := .inr rfl
  have k1 := ka_534
  rw [e_X12_acts]
  (first | refine rt_eq (q_X12_acts_0 (by first | assumption | rfl | exact .inl rfl | exact .inr rfl)) ?_ | refine rt_eq (q_X12_acts_1 (by first | assumption | rfl | exact .inl rfl | exact .inr rfl)) ?_ | refine rt_eq (q_X12_acts_28 (by first | assumption | rfl | exact .inl rfl | exact .inr rfl)) ?_ | refine rt_eq (q_X12_acts_38 (by first | assumption | rfl | exact .inl rfl | exact .inr rfl)) ?_ | refine rt_eq (q_X12_acts_48 (by first | assumption | rfl | exact .inl rfl | exact .inr rfl)) ?_ | refine rt_eq (q_X12_acts_34) ?_ | refine rt_eq (q_X12_acts_44) ?_ | refine rt_eq (q_X12_acts_60 (by first | assumption | rfl | exact .inl rfl | exact .inr rfl)) ?_ | refine rt_eq (q_X12_acts_63) ?_)
  (first | refine rt_eq (q_X12_acts_0 (by first | assumption | rfl | exact .inl rfl | exact .inr rfl)) ?_ | refine rt_eq (q_X12_acts_1 (by first | assumption | rfl | exact .inl rfl | exact .inr rfl)) ?_ | refine rt_eq (q_X12_acts_28 (by first | assumption | rfl | exact .inl rfl | exact .inr rfl)) ?_ | refine rt_eq (q_X12_acts_38 (by first | assumption | rfl | exact .inl rfl | exact .inr rfl)) ?_ | refine rt_eq (q_X12_acts_48 (by first | assumption | rfl | exact .inl rfl | exact .inr rfl)) ?_ | refine rt_eq (q_X12_acts_34) ?_ | refine rt_eq (q_X12_acts_44) ?_ | refine rt_eq (q_X12_acts_60 (by first | assumption | rfl | exact .inl rfl | exact .inr rfl)) ?_ | refine rt_eq (q_X12_acts_63) ?_)
  have : k = 0 ∨ k = 1 ∨ k = 2 ∨ k = 3 := by omega
  rcases this with rfl | rfl | rfl | rfl
  · refine rt_t rfl ?_
    (first | refine rt_eq (q_X12_acts_0 (by first | assumption | rfl | exact .inl rfl | exact .inr rfl)) ?_ | refine rt_eq (q_X12_acts_1 (by first | assumption | rfl | exact .inl rfl | exact .inr rfl)) ?_ | refine rt_eq (q_X12_acts_28 (by first | assumption | rfl | exact .inl rfl | exact .inr rfl)) ?_ | refine rt_eq (q_X12_acts_38 (by first | assumption | rfl | exact .inl rfl | exact .inr rfl)) ?_ | refine rt_eq (q_X12_acts_48 (by first | assumption | rfl | exact .inl rfl | exact .inr rfl)) ?_ | refine rt_eq (q_X12_acts_34) ?_ | refine rt_eq (q_X12_acts_44) ?_ | refine rt_eq (q_X12_acts_60 (by first | assumption | rfl | exact .inl rfl | exact .inr rfl)) ?_ | refine rt_eq (q_X12_acts_63) ?_)
    refine rt_bnd (sp_layM hr H ok R hp) ?_
    rintro I4 J4 ⟨⟨f1, f2⟩, rfl⟩
    (first | refine rt_eq (q_X12_acts_0 (by first | assumption | rfl | exact .inl rfl | exact .inr rfl)) ?_ | refine rt_eq (q_X12_acts_1 (by first | assumption | rfl | exact .inl rfl | exact .inr rfl)) ?_ | refine rt_eq (q_X12_acts_28 (by first | assumption | rfl | exact .inl rfl | exact .inr rfl)) ?_ | refine rt_eq (q_X12_acts_38 (by first | assumption | rfl | exact .inl rfl | exact .inr rfl)) ?_ | refine rt_eq (q_X12_acts_48 (by first | assumption | rfl | exact .inl rfl | exact .inr rfl)) ?_ | refine rt_eq (q_X12_acts_34) ?_ | refine rt_eq (q_X12_acts_44) ?_ | refine rt_eq (q_X12_acts_60 (by first | assumption | rfl | exact .inl rfl | exact .inr rfl)) ?_ | refine rt_eq (q_X12_acts_63) ?_)
    exact rt_ret ⟨⟨f1, f2⟩, rfl⟩
  · refine rt_f (by decide) (rt_t rfl ?_)
    (first | refine rt_eq (q_X12_acts_0 (by first | assumption | rfl | exact .inl rfl | exact .inr rfl)) ?_ | refine rt_eq (q_X12_acts_1 (by first | assumption | rfl | exact .inl rfl | exact .inr rfl)) ?_ | refine rt_eq (q_X12_acts_28 (by first | assumption | rfl | exact .inl rfl | exact .inr rfl)) ?_ | refine rt_eq (q_X12_acts_38 (by first | assumption | rfl | exact .inl rfl | exact .inr rfl)) ?_ | refine rt_eq (q_X12_acts_48 (by first | assumption | rfl | exact .inl rfl | exact .inr rfl)) ?_ | refine rt_eq (q_X12_acts_34) ?_ | refine rt_eq (q_X12_acts_44) ?_ | refine rt_eq (q_X12_acts_60 (by first | assumption | rfl | exact .inl rfl | exact .inr rfl)) ?_ | refine rt_eq (q_X12_acts_63) ?_)
    refine rt_bnd (sp_turnM hr R (by omega)) ?_
    rintro I4 J4 ⟨⟨f1, f2⟩, rfl⟩
    (first | refine rt_eq (q_X12_acts_0 (by first | assumption | rfl | exact .inl rfl | exact .inr rfl)) ?_ | refine rt_eq (q_X12_acts_1 (by first | assumption | rfl | exact .inl rfl | exact .inr rfl)) ?_ | refine rt_eq (q_X12_acts_28 (by first | assumption | rfl | exact .inl rfl | exact .inr rfl)) ?_ | refine rt_eq (q_X12_acts_38 (by first | assumption | rfl | exact .inl rfl | exact .inr rfl)) ?_ | refine rt_eq (q_X12_acts_48 (by first | assumption | rfl | exact .inl rfl | exact .inr rfl)) ?_ | refine rt_eq (q_X12_acts_34) ?_ | refine rt_eq (q_X12_acts_44) ?_ | refine rt_eq (q_X12_acts_60 (by first | assumption | rfl | exact .inl rfl | exact .inr rfl)) ?_ | refine rt_eq (q_X12_acts_63) ?_)
    exact rt_ret ⟨⟨f1, f2⟩, rfl⟩
  · refine rt_f (by decide) (rt_f (by decide) ?_)
    (first | refine rt_eq (q_X12_acts_0 (by first | assumption | rfl | exact .inl rfl | exact .inr rfl)) ?_ | refine rt_eq (q_X12_acts_1 (by first | assumption | rfl | exact .inl rfl | exact .inr rfl)) ?_ | refine rt_eq (q_X12_acts_28 (by first | assumption | rfl | exact .inl rfl | exact .inr rfl)) ?_ | refine rt_eq (q_X12_acts_38 (by first | assumption | rfl | exact .inl rfl | exact .inr rfl)) ?_ | refine rt_eq (q_X12_acts_48 (by first | assumption | rfl | exact .inl rfl | exact .inr rfl)) ?_ | refine rt_eq (q_X12_acts_34) ?_ | refine rt_eq (q_X12_acts_44) ?_ | refine rt_eq (q_X12_acts_60 (by first | assumption | rfl | exact .inl rfl | exact .inr rfl)) ?_ | refine rt_eq (q_X12_acts_63) ?_)
    refine rt_t rfl ?_
    (first | refine rt_eq (q_X12_acts_0 (by first | assumption | rfl | exact .inl rfl | exact .inr rfl)) ?_ | refine rt_eq (q_X12_acts_1 (by first | assumption | rfl | exact .inl rfl | exact .inr rfl)) ?_ | refine rt_eq (q_X12_acts_28 (by first | assumption | rfl | exact .inl rfl | exact .inr rfl)) ?_ | refine rt_eq (q_X12_acts_38 (by first | assumption | rfl | exact .inl rfl | exact .inr rfl)) ?_ | refine rt_eq (q_X12_acts_48 (by first | assumption | rfl | exact .inl rfl | exact .inr rfl)) ?_ | refine rt_eq (q_X12_acts_34) ?_ | refine rt_eq (q_X12_acts_44) ?_ | refine rt_eq (q_X12_acts_60 (by first | assumption | rfl | exact .inl rfl | exact .inr rfl)) ?_ | refine rt_eq (q_X12_acts_63) ?_)
    refine rt_bndN (sp_burstM hr (by omega) (Z.2.1 p (by omega))) ?_
    rintro I4 J4 ⟨⟨f1, f2⟩, rfl⟩
    (first | refine rt_eq (q_X12_acts_0 (by first | assumption | rfl | exact .inl rfl | exact .inr rfl)) ?_ | refine rt_eq (q_X12_acts_1 (by first | assumption | rfl | exact .inl rfl | exact .inr rfl)) ?_ | refine rt_eq (q_X12_acts_28 (by first | assumption | rfl | exact .inl rfl | exact .inr rfl)) ?_ | refine rt_eq (q_X12_acts_38 (by first | assumption | rfl | exact .inl rfl | exact .inr rfl)) ?_ | refine rt_eq (q_X12_acts_48 (by first | assumption | rfl | exact .inl rfl | exact .inr rfl)) ?_ | refine rt_eq (q_X12_acts_34) ?_ | refine rt_eq (q_X12_acts_44) ?_ | refine rt_eq (q_X12_acts_60 (by first | assumption | rfl | exact .inl rfl | exact .inr rfl)) ?_ | refine rt_eq (q_X12_acts_63) ?_)
    exact rt_ret ⟨⟨f1, f2⟩, rfl⟩
  · refine rt_f (by decide) (rt_f (by decide) ?_)
    (first | refine rt_eq (q_X12_acts_0 (by first | assumption | rfl | exact .inl rfl | exact .inr rfl)) ?_ | refine rt_eq (q_X12_acts_1 (by first | assumption | rfl | exact .inl rfl | exact .inr rfl)) ?_ | refine rt_eq (q_X12_acts_28 (by first | assumption | rfl | exact .inl rfl | exact .inr rfl)) ?_ | refine rt_eq (q_X12_acts_38 (by first | assumption | rfl | exact .inl rfl | exact .inr rfl)) ?_ | refine rt_eq (q_X12_acts_48 (by first | assumption | rfl | exact .inl rfl | exact .inr rfl)) ?_ | refine rt_eq (q_X12_acts_34) ?_ | refine rt_eq (q_X12_acts_44) ?_ | refine rt_eq (q_X12_acts_60 (by first | assumption | rfl | exact .inl rfl | exact .inr rfl)) ?_ | refine rt_eq (q_X12_acts_63) ?_)
    refine rt_f (by decide) ?_
    (first | refine rt_eq (q_X12_acts_0 (by first | assumption | rfl | exact .inl rfl | exact .inr rfl)) ?_ | refine rt_eq (q_X12_acts_1 (by first | assumption | rfl | exact .inl rfl | exact .inr rfl)) ?_ | refine rt_eq (q_X12_acts_28 (by first | assumption | rfl | exact .inl rfl | exact .inr rfl)) ?_ | refine rt_eq (q_X12_acts_38 (by first | assumption | rfl | exact .inl rfl | exact .inr rfl)) ?_ | refine rt_eq (q_X12_acts_48 (by first | assumption | rfl | exact .inl rfl | exact .inr rfl)) ?_ | refine rt_eq (q_X12_acts_34) ?_ | refine rt_eq (q_X12_acts_44) ?_ | refine rt_eq (q_X12_acts_60 (by first | assumption | rfl | exact .inl rfl | exact .inr rfl)) ?_ | refine rt_eq (q_X12_acts_63) ?_)
    refine rt_bndN (sp_patchM hr (by omega) (Z.2.1 p (by omega))) ?_
    rintro I4 J4 ⟨⟨f1, f2⟩, rfl⟩
    (first | refine rt_eq (q_X12_acts_0 (by first | assumption | rfl | exact .inl rfl | exact .inr rfl)) ?_ | refine rt_eq (q_X12_acts_1 (by first | assumption | rfl | exact .inl rfl | exact .inr rfl)) ?_ | refine rt_eq (q_X12_acts_28 (by first | assumption | rfl | exact .inl rfl | exact .inr rfl)) ?_ | refine rt_eq (q_X12_acts_38 (by first | assumption | rfl | exact .inl rfl | exact .inr rfl)) ?_ | refine rt_eq (q_X12_acts_48 (by first | assumption | rfl | exact .inl rfl | exact .inr rfl)) ?_ | refine rt_eq (q_X12_acts_34) ?_ | refine rt_eq (q_X12_acts_44) ?_ | refine rt_eq (q_X12_acts_60 (by first | assumption | rfl | exact .inl rfl | exact .inr rfl)) ?_ | refine rt_eq (q_X12_acts_63) ?_)
    exact rt_ret ⟨⟨f1, f2⟩, rfl⟩
theorem lp_yearBy {hours : Nat} (ok : HOK h) (W : wfC cd nL 0 0) (hq : q ≤ 16) (hh : hours < 2 ^ 31) (S : SM I h m nL cd) : ∀ r j I' y b u1 u5, j + r = hours → Fr fYM I I' → I' 534 = y.2.2 → I' 72 50 = y.1 → I' 72 40 = b → wlY h y → Rt L X (c_X12_yearBy_24 (d + 9) L X I' J u1 (nI hours) (nI q) (nI j) u5) none (fun I'' J' => (Fr fYM I I'' ∧ I'' 534 = (accF (yrZ h m nL cd q) r j (y, b)).1.2.2 ∧ I'' 72 40 = (accF (yrZ h m nL cd q) r j (y, b)).2 ∧ wlY h (accF (yrZ h m nL cd q) r j (y, b)).1) ∧ J' = J)
  | 0, j, I', y, b, u1, u5, hj, hf, C, h4, h3, w => by
    (first | refine rt_eq (q_X12_yearBy_0) ?_ | refine rt_eq (q_X12_yearBy_11) ?_ | refine rt_eq (q_X12_yearBy_24) ?_ | refine rt_eq (q_X12_yearBy_84) ?_ | refine rt_eq (q_X12_yearBy_49) ?_ | refine rt_eq (q_X12_yearBy_92) ?_ | refine rt_eq (q_X12_yearBy_63) ?_ | refine rt_eq (q_X12_yearBy_66) ?_ | refine rt_eq (q_X12_yearBy_72) ?_ | refine rt_eq (q_X12_yearBy_83) ?_)
    refine rt_t (by (try simp (disch := omega) only [nI_leI, nI_ltI, nI_eq, nI_add, pk_mul, n_0add, Nat.zero_add, nI_clamp]) <;> omega) ?_
    exact rt_ret ⟨⟨hf, C, h3, w⟩, rfl⟩
  | r + 1, j, I', y, b, u1, u5, hj, hf, C, h4, h3, w => by
    have ih := lp_yearBy (hours := hours) ok W hq hh S r (j + 1)
    have S1 := SM_ym S ok hf
    have h6 := ok.1
    have hr : om 534 := .inr rfl
    have wD := wl_D (m := m) (nL := nL) (cd := cd) (q := q) ok w
    have tail : ∀ I2 u5, Fr fYM I I2 → I2 534 = (yrD h m nL cd q y).2.2 → I2 72 50 = (yrD h m nL cd q y).1 → I2 72 40 = b → Rt L X (runI (runM (d + 9)) iX12_yearBy (84, [some (.ref 72), u1, some (.int (nI hours)), some (.int (nI q)), some (.int (nI j)), u5], [], mm L X I2 J)) none (fun I'' J' => (Fr fYM I I'' ∧ I'' 534 = (accF (yrZ h m nL cd q) (r + 1) j (y, b)).1.2.2 ∧ I'' 72 40 = (accF (yrZ h m nL cd q) (r + 1) j (y, b)).2 ∧ wlY h (accF (yrZ h m nL cd q) (r + 1) j (y, b)).1) ∧ J' = J) := by
      intro I2 u5 b1 b2 b3 b4
      have S2 := SM_ym S ok b1
      have wD1 := wD.1
      rw [← b2] at wD1
      (first | refine rt_eq (q_X12_yearBy_0) ?_ | refine rt_eq (q_X12_yearBy_11) ?_ | refine rt_eq (q_X12_yearBy_24) ?_ | refine rt_eq (q_X12_yearBy_84) ?_ | refine rt_eq (q_X12_yearBy_49) ?_ | refine rt_eq (q_X12_yearBy_92) ?_ | refine rt_eq (q_X12_yearBy_63) ?_ | refine rt_eq (q_X12_yearBy_66) ?_ | refine rt_eq (q_X12_yearBy_72) ?_ | refine rt_eq (q_X12_yearBy_83) ?_)
      refine rt_bnd (sp_hourEnds hr S2.1 ok wD1 S2.2 W) ?_
      rintro I3 J3 ⟨⟨f3, f4, f5⟩, rfl⟩
      (first | refine rt_eq (q_X12_yearBy_0) ?_ | refine rt_eq (q_X12_yearBy_11) ?_ | refine rt_eq (q_X12_yearBy_24) ?_ | refine rt_eq (q_X12_yearBy_84) ?_ | refine rt_eq (q_X12_yearBy_49) ?_ | refine rt_eq (q_X12_yearBy_92) ?_ | refine rt_eq (q_X12_yearBy_63) ?_ | refine rt_eq (q_X12_yearBy_66) ?_ | refine rt_eq (q_X12_yearBy_72) ?_ | refine rt_eq (q_X12_yearBy_83) ?_)
      rw [nI_add]
      refine ih _ (yrH h m nL cd q y) (yrP h m nL cd q y b) _ _ (by omega) (fr_tr b1 (fr_mono f3 (by decide))) ?_ ?_ ?_ (wl_H ok w)
      · rw [f4, b2]
        rfl
      · rw [f3 72 50 rfl, b3]
        rfl
      · rw [f5, b4, b2]
        rfl
    (first | refine rt_eq (q_X12_yearBy_0) ?_ | refine rt_eq (q_X12_yearBy_11) ?_ | refine rt_eq (q_X12_yearBy_24) ?_ | refine rt_eq (q_X12_yearBy_84) ?_ | refine rt_eq (q_X12_yearBy_49) ?_ | refine rt_eq (q_X12_yearBy_92) ?_ | refine rt_eq (q_X12_yearBy_63) ?_ | refine rt_eq (q_X12_yearBy_66) ?_ | refine rt_eq (q_X12_yearBy_72) ?_ | refine rt_eq (q_X12_yearBy_83) ?_)
    refine rt_f (by (try simp (disch := omega) only [nI_leI, nI_ltI, nI_eq, nI_add, pk_mul, n_0add, Nat.zero_add, nI_clamp]) <;> omega) ?_
    rw [S1.1.1]
    by_cases e : h 0 0 = 0
    · refine rt_t (by (try simp (disch := omega) only [nI_leI, nI_ltI, nI_eq, nI_add, pk_mul, n_0add, Nat.zero_add, nI_clamp]) <;> omega) ?_
      have eD : yrD h m nL cd q y = y := if_pos e
      rw [eD] at tail
      exact tail I' _ hf C h4 h3
    · refine rt_f (by (try simp (disch := omega) only [nI_leI, nI_ltI, nI_eq, nI_add, pk_mul, n_0add, Nat.zero_add, nI_clamp]) <;> omega) ?_
      have hp : 0 < h 0 0 := by omega
      have eD : yrD h m nL cd q y = yrL h m nL cd q (yrA h m nL cd y) := if_neg e
      have wA := wl_A (m := m) (nL := nL) (cd := cd) ok hp w
      have hR := w.1
      have hZ := w.2
      rw [← C] at hR hZ
      refine rt_be (sp_drawM hp (by omega)) ?_
      (first | refine rt_eq (q_X12_yearBy_0) ?_ | refine rt_eq (q_X12_yearBy_11) ?_ | refine rt_eq (q_X12_yearBy_24) ?_ | refine rt_eq (q_X12_yearBy_84) ?_ | refine rt_eq (q_X12_yearBy_49) ?_ | refine rt_eq (q_X12_yearBy_92) ?_ | refine rt_eq (q_X12_yearBy_63) ?_ | refine rt_eq (q_X12_yearBy_66) ?_ | refine rt_eq (q_X12_yearBy_72) ?_ | refine rt_eq (q_X12_yearBy_83) ?_)
      refine rt_be (sp_drawM (by decide) (by decide)) ?_
      rw [up2_s, h4]
      generalize hI1 : up2 (up2 I' 72 50 (rnd y.1)) 72 50 (rnd (rnd y.1)) = I1
      have g1 : Fr fYM I I1 := by rw [← hI1]; exact fr_up (fr_up hf rfl) rfl
      have n1 : I1 534 = I' 534 := by rw [← hI1, up2_n (by decide), up2_n (by decide)]
      have s1 : I1 72 50 = rnd (rnd y.1) := by rw [← hI1, up2_s]
      have p1 : I1 72 40 = I' 72 40 := by rw [← hI1, up2_k (by decide), up2_k (by decide)]
      clear hI1
      have S2 := SM_ym S ok g1
      rw [← n1] at hR hZ
      (first | refine rt_eq (q_X12_yearBy_0) ?_ | refine rt_eq (q_X12_yearBy_11) ?_ | refine rt_eq (q_X12_yearBy_24) ?_ | refine rt_eq (q_X12_yearBy_84) ?_ | refine rt_eq (q_X12_yearBy_49) ?_ | refine rt_eq (q_X12_yearBy_92) ?_ | refine rt_eq (q_X12_yearBy_63) ?_ | refine rt_eq (q_X12_yearBy_66) ?_ | refine rt_eq (q_X12_yearBy_72) ?_ | refine rt_eq (q_X12_yearBy_83) ?_)
      refine rt_bnd (sp_acts (nL := nL) (cd := cd) S2.1 ok hR hZ (Nat.mod_lt _ (by decide)) (Nat.mod_lt _ hp)) ?_
      rintro I2 J2 ⟨⟨f1, f2⟩, rfl⟩
      have eA : I2 534 = (yrA h m nL cd y).2.2 := by
        rw [f2, n1, C]
        rfl
      have sA : I2 72 50 = (yrA h m nL cd y).1 := by
        rw [f1 72 50 rfl, s1]
        rfl
      have g2 : Fr fYM I I2 := fr_tr g1 (fr_mono f1 (by decide))
      have p2 : I2 72 40 = b := by rw [f1 72 40 rfl, p1, h3]
      (first | refine rt_eq (q_X12_yearBy_0) ?_ | refine rt_eq (q_X12_yearBy_11) ?_ | refine rt_eq (q_X12_yearBy_24) ?_ | refine rt_eq (q_X12_yearBy_84) ?_ | refine rt_eq (q_X12_yearBy_49) ?_ | refine rt_eq (q_X12_yearBy_92) ?_ | refine rt_eq (q_X12_yearBy_63) ?_ | refine rt_eq (q_X12_yearBy_66) ?_ | refine rt_eq (q_X12_yearBy_72) ?_ | refine rt_eq (q_X12_yearBy_83) ?_)
      refine rt_be (sp_drawM (by decide) (by decide)) ?_
      rw [sA]
      generalize hI3 : up2 I2 72 50 (rnd (yrA h m nL cd y).1) = I3
      have g3 : Fr fYM I I3 := by rw [← hI3]; exact fr_up g2 rfl
      have n3 : I3 534 = (yrA h m nL cd y).2.2 := by rw [← hI3, up2_n (by decide), eA]
      have s3 : I3 72 50 = rnd (yrA h m nL cd y).1 := by rw [← hI3, up2_s]
      have p3 : I3 72 40 = b := by rw [← hI3, up2_k (by decide), p2]
      clear hI3
      (first | refine rt_eq (q_X12_yearBy_0) ?_ | refine rt_eq (q_X12_yearBy_11) ?_ | refine rt_eq (q_X12_yearBy_24) ?_ | refine rt_eq (q_X12_yearBy_84) ?_ | refine rt_eq (q_X12_yearBy_49) ?_ | refine rt_eq (q_X12_yearBy_92) ?_ | refine rt_eq (q_X12_yearBy_63) ?_ | refine rt_eq (q_X12_yearBy_66) ?_ | refine rt_eq (q_X12_yearBy_72) ?_ | refine rt_eq (q_X12_yearBy_83) ?_)
      have hm16 : rv (rnd (yrA h m nL cd y).1) % 16 < 16 := Nat.mod_lt _ (by decide)
      by_cases e2 : rv (rnd (yrA h m nL cd y).1) % 16 < q
      · refine rt_f (by (try simp (disch := omega) only [nI_leI, nI_ltI, nI_eq, nI_add, pk_mul, n_0add, Nat.zero_add, nI_clamp]) <;> omega) ?_
        have hR3 := wA.1
        rw [← n3] at hR3
        have eL : yrL h m nL cd q (yrA h m nL cd y) = (rnd (yrA h m nL cd y).1, st2n h m 2 0 0 (yrA h m nL cd y).2.1 (yrA h m nL cd y).2.2, st2N h m nL cd 2 0 0 (yrA h m nL cd y).2.1 (yrA h m nL cd y).2.2) := if_pos e2
        refine rt_bndN (sp_liftM hr hR3) ?_
        rintro I4 J4 ⟨⟨f3, f4⟩, rfl⟩
        (first | refine rt_eq (q_X12_yearBy_0) ?_ | refine rt_eq (q_X12_yearBy_11) ?_ | refine rt_eq (q_X12_yearBy_24) ?_ | refine rt_eq (q_X12_yearBy_84) ?_ | refine rt_eq (q_X12_yearBy_49) ?_ | refine rt_eq (q_X12_yearBy_92) ?_ | refine rt_eq (q_X12_yearBy_63) ?_ | refine rt_eq (q_X12_yearBy_66) ?_ | refine rt_eq (q_X12_yearBy_72) ?_ | refine rt_eq (q_X12_yearBy_83) ?_)
        refine tail I4 _ (fr_tr g3 (fr_mono f3 (by decide))) ?_ ?_ (by rw [f3 72 40 rfl, p3])
        · rw [f4, n3, eD, eL]
          rfl
        · rw [f3 72 50 rfl, s3, eD, eL]
      · refine rt_t (by (try simp (disch := omega) only [nI_leI, nI_ltI, nI_eq, nI_add, pk_mul, n_0add, Nat.zero_add, nI_clamp]) <;> omega) ?_
        have eL : yrL h m nL cd q (yrA h m nL cd y) = (rnd (yrA h m nL cd y).1, (yrA h m nL cd y).2) := if_neg e2
        exact tail I3 _ g3 (by rw [n3, eD, eL]) (by rw [s3, eD, eL]) p3
theorem sp_yearBy {hours : Nat} {s : Int32} (ok : HOK h) (W : wfC cd nL 0 0) (hq : q ≤ 16) (hh : hours < 2 ^ 31) (S : SM I h m nL cd) (hN : N = cpN I 533 534) (R : NR (h 0 0) n (I 533)) (Z : NX (h 0 0) (h 0 2) (I 533)) : Rt L X (runM (d + 10) nX12_yearBy [.ref 72, .int s, .int (nI hours), .int (nI q)] (mm L X I J)) none (fun I' J' => (Fr fYM I I' ∧ I' 534 = (yrs h m nL cd q hours s n N).1.2.2 ∧ I' 72 40 = (yrs h m nL cd q hours s n N).2 ∧ wlY h (yrs h m nL cd q hours s n N).1) ∧ J' = J) := by
  rw [e_X12_yearBy]
  (first | refine rt_eq (q_X12_yearBy_0) ?_ | refine rt_eq (q_X12_yearBy_11) ?_ | refine rt_eq (q_X12_yearBy_24) ?_ | refine rt_eq (q_X12_yearBy_84) ?_ | refine rt_eq (q_X12_yearBy_49) ?_ | refine rt_eq (q_X12_yearBy_92) ?_ | refine rt_eq (q_X12_yearBy_63) ?_ | refine rt_eq (q_X12_yearBy_66) ?_ | refine rt_eq (q_X12_yearBy_72) ?_ | refine rt_eq (q_X12_yearBy_83) ?_)
  refine rt_bndN (sp_copies ka_533 ka_534 (by decide) (by decide) (by decide) (by decide) (by decide)) ?_
  rintro I1 J1 ⟨⟨f1, f2⟩, rfl⟩
  rw [← hN] at f2
  have hc : ∀ i, i < 31 → N i = I 533 i := fun i hi => by rw [hN]; exact if_pos hi
  (first | refine rt_eq (q_X12_yearBy_0) ?_ | refine rt_eq (q_X12_yearBy_11) ?_ | refine rt_eq (q_X12_yearBy_24) ?_ | refine rt_eq (q_X12_yearBy_84) ?_ | refine rt_eq (q_X12_yearBy_49) ?_ | refine rt_eq (q_X12_yearBy_92) ?_ | refine rt_eq (q_X12_yearBy_63) ?_ | refine rt_eq (q_X12_yearBy_66) ?_ | refine rt_eq (q_X12_yearBy_72) ?_ | refine rt_eq (q_X12_yearBy_83) ?_)
  exact lp_yearBy ok W hq hh S hours 0 _ (s, n, N) (nI 0) _ _ (by omega) (fr_up (fr_up (fr_mono f1 (by decide)) rfl) rfl) (by rw [up2_n (by decide), up2_n (by decide), f2]) (by rw [up2_k (by decide), up2_s]) (by rw [up2_s]) ⟨NR_congr R (fun i hi => hc i (by omega)), NX_congr Z hc⟩
end YL
