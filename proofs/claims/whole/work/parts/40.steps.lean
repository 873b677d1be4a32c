/-! WHAT A STEP DOES TO A NIGHT, BY BOTH -/
theorem NR_congr {np n : Nat} {N N' : Nt} (R : NR np n N) (q : ∀ i, i < 12 → N' i = N i) : NR np n N' := by
  obtain ⟨h1, h2, h3, h4, h5⟩ := R
  refine ⟨h1, fun k hk => ?_, fun k hk hk2 => ?_, fun i j hij hj => ?_, fun p hp => ?_⟩
  · rw [q k (by omega)]; exact h2 k hk
  · rw [q k (by omega)]; exact h3 k hk hk2
  · rw [q i (by omega), q j (by omega)]; exact h4 i j hij hj
  · rw [q (6 + p) (by omega)]; exact h5 p hp
theorem lenN_congr {h : Hs} {n : Nat} {N N' : Nt} (q : ∀ i, i < n → N' i = N i) : lenN h N' n = lenN h N n := by
  unfold lenN
  refine accF_congr n 0 0 (fun k h1 h2 x => ?_)
  unfold lenA
  rw [q k (by omega)]
theorem arN_congr {h : Hs} {nL np n : Nat} {cd : Cd} {N N' : Nt} (R : NR np n N) (q : ∀ i, i < 24 → N' i = N i) (q2 : N' 29 = N 29) : arN h nL cd N' n = arN h nL cd N n := by
  unfold arN
  rw [q2]
  refine (flN_congr n (fun k hk => ?_)).symm
  obtain ⟨w1, -, -, -⟩ := NR_wy R hk
  have h1 := R.1.1
  have h2 := R.1.2
  refine ⟨(q k (by omega)).symm, (q _ (by omega)).symm, ?_, ?_, fun x => rfl⟩
  · unfold bdN
    rw [q k (by omega), q _ (by omega)]
  · unfold bsN
    rw [q k (by omega), q _ (by omega)]
theorem rchd_congr {h : Hs} {nL np n f : Nat} {cd : Cd} {N N' : Nt} (R : NR np n N) (q : ∀ i, i < 24 → N' i = N i) (q2 : N' 29 = N 29) : rchd h nL cd N' n f = rchd h nL cd N n f := by
  unfold rchd
  rw [arN_congr R q q2, lenN_congr (fun i hi => q i (by have := R.1.1; omega))]
/-- an hour goes by, R telling which fires are reached -/
def hourF (R : Nat → Bool) (N : Nt) (f : Nat) : Int32 := if R f = true then N 30 else if N (24 + f) = -1 then -1 else if N 30 - N (24 + f) < nI 9 then N (24 + f) else -1
def hourJ (R : Nat → Bool) (j : Nat) (N : Nt) : Nt := fun i => if 24 ≤ i ∧ i < 24 + j then hourF R N (i - 24) else N i
def hourN (R : Nat → Bool) (nf : Nat) (N : Nt) : Nt := upd (hourJ R nf N) 30 (N 30 + nI 1)
def putO (R : Nat → Bool) (N : Nt) (f : Nat) (b : Int32) : Int32 := if R f = true then b + (if N (24 + f) = -1 then nI 1 else nI 0) else b
/-- the rest of a night: bends, bursts, out, hope -/
def NX (np nf : Nat) (N : Nt) : Prop := (∀ p, p < 6 → N (12 + p) = nI (nv (N (12 + p))) ∧ nv (N (12 + p)) ≤ 9) ∧ (∀ p, p < 6 → N (18 + p) = nI (nv (N (18 + p))) ∧ nv (N (18 + p)) ≤ 9) ∧ (∀ p, np ≤ p → p < 6 → N (18 + p) = nI 0) ∧ (∀ f, nf ≤ f → f < 5 → N (24 + f) = -1) ∧ N 29 = nI (nv (N 29)) ∧ nv (N 29) ≤ 99
theorem upd_s {f : Nat → Int32} {k : Nat} {x : Int32} : upd f k x k = x := pk_us
theorem upd_n {f : Nat → Int32} {k j : Nat} {x : Int32} (h : ¬ j = k) : upd f k x j = f j := pk_un h
theorem u2upd {I : MI32} {r k : Nat} {x : Int32} : up2 I r k x r = upd (I r) k x := by
  funext j
  rw [up2_at]
  rfl
theorem hourJ_0 {R : Nat → Bool} {N : Nt} : hourJ R 0 N = N := by
  funext i
  exact if_neg (by omega)
theorem hourJ_s {R : Nat → Bool} {N : Nt} {j : Nat} : upd (hourJ R j N) (24 + j) (hourF R N j) = hourJ R (j + 1) N := by
  funext i
  by_cases e : i = 24 + j
  · rw [e, upd_s]
    unfold hourJ
    rw [if_pos (by omega), Nat.add_sub_cancel_left]
  · rw [upd_n e]
    unfold hourJ
    by_cases q : 24 ≤ i ∧ i < 24 + j
    · rw [if_pos q, if_pos (by omega)]
    · rw [if_neg q, if_neg (by omega)]
theorem hourJ_lo {R : Nat → Bool} {N : Nt} {j i : Nat} (h : i < 24 + 0 ∨ 24 + j ≤ i) : hourJ R j N i = N i := if_neg (by omega)
section HR
variable {d L X : Nat} {I : MI32} {J : MI64} {a n np nL : Nat} {N : Nt} {h : Hs} {m r p t : Nat} {cd : Cd}
def fH (r : Nat) : Fls := [(450, 0), (451, 0), (535, 0), (72, 41), (r, 0)]
theorem fH_HM (hr : om r) : dj (fH r) sHM = true := by rcases hr with rfl | rfl <;> decide +kernel
theorem fH_LM (hr : om r) : dj (fH r) sLM = true := by rcases hr with rfl | rfl <;> decide +kernel
theorem fH_in {k : Nat} : inF (fH r) r k = true := by
  rw [inF_t]
  exact ⟨(r, 0), by simp [fH], rfl, .inl rfl⟩
theorem fH_sb : sbF [(450, 0), (451, 0), (535, 0)] (fH r) = true := by
  simp [fH, sbF]
theorem lp_hourEnds (hr : om r) (H : HM I h m) (ok : HOK h) (R : NR (h 0 0) n (I r)) (LM : LawM I nL cd) (W : wfC cd nL 0 0) : ∀ q j I' u3, j + q = h 0 2 → Fr (fH r) I I' → I' r = hourJ (rchd h nL cd (I r) n) j (I r) → Rt L X (c_X12_hourEnds_2 (d + 8) L X I' J r (nI j) u3) none (fun I'' J' => (Fr (fH r) I I'' ∧ I'' r = hourN (rchd h nL cd (I r) n) (h 0 2) (I r) ∧ I'' 72 40 = accF (putO (rchd h nL cd (I r) n) (I r)) q j (I' 72 40)) ∧ J' = J)
  | 0, j, I', u3, hj, hf, hl => by
    have k1 := om_ka hr
    have h5 := ok.2.2.1
    have H' : HM I' h m := HM_fr H ok (ag_of hf (fH_HM hr))
    have e : j = h 0 2 := by omega
    (first | refine rt_eq (q_X12_hourEnds_0 (by first | assumption | rfl | exact .inl rfl | exact .inr rfl)) ?_ | refine rt_eq (q_X12_hourEnds_2 (by first | assumption | rfl | exact .inl rfl | exact .inr rfl)) ?_ | refine rt_eq (q_X12_hourEnds_25 (by first | assumption | rfl | exact .inl rfl | exact .inr rfl)) ?_ | refine rt_eq (q_X12_hourEnds_83 (by first | assumption | rfl | exact .inl rfl | exact .inr rfl)) ?_ | refine rt_eq (q_X12_hourEnds_43 (by first | assumption | rfl | exact .inl rfl | exact .inr rfl)) ?_)
    refine rt_t (by rw [H'.2.2.1]; ((try simp (disch := omega) only [nI_leI, nI_ltI, nI_eq, nI_add, pk_mul, n_0add, Nat.zero_add, nI_clamp]) <;> omega)) (rt_gd (by decide) ?_)
    rw [show (nI 30).toNatClampNeg = 30 by decide]
    refine rt_ret ⟨⟨fr_up hf fH_in, ?_, ?_⟩, rfl⟩
    · rw [u2upd, hl, hourJ_lo (by omega), e]
      rfl
    · rw [up2_n (by rcases hr with rfl | rfl <;> decide)]
      rfl
  | q + 1, j, I', u3, hj, hf, hl => by
    have ih := lp_hourEnds hr H ok R LM W q (j + 1)
    have k1 := om_ka hr
    have h5 := ok.2.2.1
    have H' : HM I' h m := HM_fr H ok (ag_of hf (fH_HM hr))
    have LM' : LawM I' nL cd := LawM_fr LM (ag_of hf (fH_LM hr))
    have hlo : ∀ i, i < 24 → I' r i = I r i := fun i hi => by rw [hl, hourJ_lo (by omega)]
    have h29 : I' r 29 = I r 29 := by rw [hl, hourJ_lo (by omega)]
    have h30 : I' r 30 = I r 30 := by rw [hl, hourJ_lo (by omega)]
    have hoj : I' r (24 + j) = I r (24 + j) := by rw [hl, hourJ_lo (by omega)]
    have R' : NR (h 0 0) n (I' r) := NR_congr R (fun i hi => hlo i (by omega))
    have hne : ¬ (72 : Nat) = r := by rcases hr with rfl | rfl <;> decide
    (first | refine rt_eq (q_X12_hourEnds_0 (by first | assumption | rfl | exact .inl rfl | exact .inr rfl)) ?_ | refine rt_eq (q_X12_hourEnds_2 (by first | assumption | rfl | exact .inl rfl | exact .inr rfl)) ?_ | refine rt_eq (q_X12_hourEnds_25 (by first | assumption | rfl | exact .inl rfl | exact .inr rfl)) ?_ | refine rt_eq (q_X12_hourEnds_83 (by first | assumption | rfl | exact .inl rfl | exact .inr rfl)) ?_ | refine rt_eq (q_X12_hourEnds_43 (by first | assumption | rfl | exact .inl rfl | exact .inr rfl)) ?_)
    refine rt_f (by rw [H'.2.2.1]; ((try simp (disch := omega) only [nI_leI, nI_ltI, nI_eq, nI_add, pk_mul, n_0add, Nat.zero_add, nI_clamp]) <;> omega)) ?_
    rw [nI_add]
    refine rt_gd (inb_n (by omega) (by decide)) ?_
    rw [nI_clamp (by omega), hoj]
    refine rt_bnd (sp_isReached hr H' ok R' LM' W (by omega)) ?_
    rintro I2 J2 ⟨g1, rfl⟩
    rw [rchd_congr R hlo h29]
    have hf2 : Fr (fH r) I I2 := fr_tr hf (fr_mono g1 fH_sb)
    have hI2 : I2 r = hourJ (rchd h nL cd (I r) n) j (I r) := by
      rw [← hl]
      exact funext fun k => g1 r k (om_f hr)
    have h40 : I2 72 40 = I' 72 40 := g1 72 40 rfl
    have h30b : I2 r 30 = I r 30 := by rw [hI2, hourJ_lo (by omega)]
    have tail : ∀ I3 u3, Fr (fH r) I I3 → I3 r = hourJ (rchd h nL cd (I r) n) (j + 1) (I r) → I3 72 40 = putO (rchd h nL cd (I r) n) (I r) j (I' 72 40) → Rt L X (runI (runM (d + 8)) iX12_hourEnds (83, [some (.ref 72), some (.ref r), some (.int (nI j)), u3], [], mm L X I3 J2)) none (fun I'' J' => (Fr (fH r) I I'' ∧ I'' r = hourN (rchd h nL cd (I r) n) (h 0 2) (I r) ∧ I'' 72 40 = accF (putO (rchd h nL cd (I r) n) (I r)) (q + 1) j (I' 72 40)) ∧ J' = J2) := by
      intro I3 u3 b1 b2 b3
      (first | refine rt_eq (q_X12_hourEnds_0 (by first | assumption | rfl | exact .inl rfl | exact .inr rfl)) ?_ | refine rt_eq (q_X12_hourEnds_2 (by first | assumption | rfl | exact .inl rfl | exact .inr rfl)) ?_ | refine rt_eq (q_X12_hourEnds_25 (by first | assumption | rfl | exact .inl rfl | exact .inr rfl)) ?_ | refine rt_eq (q_X12_hourEnds_83 (by first | assumption | rfl | exact .inl rfl | exact .inr rfl)) ?_ | refine rt_eq (q_X12_hourEnds_43 (by first | assumption | rfl | exact .inl rfl | exact .inr rfl)) ?_)
      rw [nI_add]
      refine rt_mono (ih I3 u3 (by omega) b1 b2) ?_
      rintro I4 J4 ⟨⟨e1, e2, e3⟩, rfl⟩
      refine ⟨⟨e1, e2, ?_⟩, rfl⟩
      rw [e3, b3]
      rfl
    (first | refine rt_eq (q_X12_hourEnds_0 (by first | assumption | rfl | exact .inl rfl | exact .inr rfl)) ?_ | refine rt_eq (q_X12_hourEnds_2 (by first | assumption | rfl | exact .inl rfl | exact .inr rfl)) ?_ | refine rt_eq (q_X12_hourEnds_25 (by first | assumption | rfl | exact .inl rfl | exact .inr rfl)) ?_ | refine rt_eq (q_X12_hourEnds_83 (by first | assumption | rfl | exact .inl rfl | exact .inr rfl)) ?_ | refine rt_eq (q_X12_hourEnds_43 (by first | assumption | rfl | exact .inl rfl | exact .inr rfl)) ?_)
    by_cases hR : rchd h nL cd (I r) n j = true
    · rw [hR]
      refine rt_f (by decide) ?_
      have fin : ∀ s : Int32, s = (if I r (24 + j) = -1 then nI 1 else nI 0) → Rt L X (runI (runM (d + 8)) iX12_hourEnds (43, [some (.ref 72), some (.ref r), some (.int (nI j)), some (.int (I r (24 + j)))], [.int s, .int (I2 72 40), .ref 72], mm L X I2 J2)) none (fun I'' J' => (Fr (fH r) I I'' ∧ I'' r = hourN (rchd h nL cd (I r) n) (h 0 2) (I r) ∧ I'' 72 40 = accF (putO (rchd h nL cd (I r) n) (I r)) (q + 1) j (I' 72 40)) ∧ J' = J2) := by
        intro s hs
        (first | refine rt_eq (q_X12_hourEnds_0 (by first | assumption | rfl | exact .inl rfl | exact .inr rfl)) ?_ | refine rt_eq (q_X12_hourEnds_2 (by first | assumption | rfl | exact .inl rfl | exact .inr rfl)) ?_ | refine rt_eq (q_X12_hourEnds_25 (by first | assumption | rfl | exact .inl rfl | exact .inr rfl)) ?_ | refine rt_eq (q_X12_hourEnds_83 (by first | assumption | rfl | exact .inl rfl | exact .inr rfl)) ?_ | refine rt_eq (q_X12_hourEnds_43 (by first | assumption | rfl | exact .inl rfl | exact .inr rfl)) ?_)
        refine rt_gd (by decide) ?_
        rw [nI_add]
        refine rt_gd (inb_n (by omega) (by decide)) ?_
        rw [nI_clamp (by omega), show (nI 30).toNatClampNeg = 30 by decide]
        refine tail _ _ (fr_up (fr_up hf2 rfl) fH_in) ?_ ?_
        · rw [u2upd, up2_n (fun e => hne e.symm), h30b, hI2, ← hourJ_s]
          congr 1
          unfold hourF
          rw [if_pos hR]
        · rw [up2_n hne, up2_s, h40]
          unfold putO
          rw [if_pos hR, hs]
      by_cases ho : I r (24 + j) = -1
      · refine rt_t ho ?_
        exact fin _ (by rw [if_pos ho])
      · refine rt_f ho ?_
        exact fin _ (by rw [if_neg ho])
    · rw [Bool.not_eq_true] at hR
      rw [hR]
      refine rt_t rfl ?_
      have hp : putO (rchd h nL cd (I r) n) (I r) j (I' 72 40) = I' 72 40 := if_neg (by rw [hR]; decide)
      have hFv : hourF (rchd h nL cd (I r) n) (I r) j = if I r (24 + j) = -1 then -1 else if I r 30 - I r (24 + j) < nI 9 then I r (24 + j) else -1 := by
        unfold hourF
        rw [if_neg (by rw [hR]; decide)]
      have same : hourF (rchd h nL cd (I r) n) (I r) j = I r (24 + j) → I2 r = hourJ (rchd h nL cd (I r) n) (j + 1) (I r) := by
        intro e
        rw [hI2, ← hourJ_s, e]
        funext i
        by_cases q : i = 24 + j
        · rw [q, upd_s, hourJ_lo (by omega)]
        · rw [upd_n q]
      by_cases ho : I r (24 + j) = -1
      · refine rt_t ho ?_
        exact tail _ _ hf2 (same (by rw [hFv, if_pos ho, ho])) (by rw [h40, hp])
      · refine rt_f ho (rt_gd (by decide) ?_)
        rw [show (nI 30).toNatClampNeg = 30 by decide, h30b]
        by_cases h9 : I r 30 - I r (24 + j) < nI 9
        · refine rt_t h9 ?_
          exact tail _ _ hf2 (same (by rw [hFv, if_neg ho, if_pos h9])) (by rw [h40, hp])
        · refine rt_f h9 ?_
          rw [nI_add]
          refine rt_gd (inb_n (by omega) (by decide)) ?_
          rw [nI_clamp (by omega)]
          refine tail _ _ (fr_up hf2 fH_in) ?_ (by rw [up2_n hne, h40, hp])
          rw [u2upd, hI2, ← hourJ_s, hFv, if_neg ho, if_neg h9]
theorem sp_hourEnds (hr : om r) (H : HM I h m) (ok : HOK h) (R : NR (h 0 0) n (I r)) (LM : LawM I nL cd) (W : wfC cd nL 0 0) : Rt L X (runM (d + 9) nX12_hourEnds [.ref 72, .ref r] (mm L X I J)) none (fun I'' J' => (Fr (fH r) I I'' ∧ I'' r = hourN (rchd h nL cd (I r) n) (h 0 2) (I r) ∧ I'' 72 40 = accF (putO (rchd h nL cd (I r) n) (I r)) (h 0 2) 0 (I 72 40)) ∧ J' = J) := by
  have k1 := om_ka hr
  rw [e_X12_hourEnds]
  (first | refine rt_eq (q_X12_hourEnds_0 (by first | assumption | rfl | exact .inl rfl | exact .inr rfl)) ?_ | refine rt_eq (q_X12_hourEnds_2 (by first | assumption | rfl | exact .inl rfl | exact .inr rfl)) ?_ | refine rt_eq (q_X12_hourEnds_25 (by first | assumption | rfl | exact .inl rfl | exact .inr rfl)) ?_ | refine rt_eq (q_X12_hourEnds_83 (by first | assumption | rfl | exact .inl rfl | exact .inr rfl)) ?_ | refine rt_eq (q_X12_hourEnds_43 (by first | assumption | rfl | exact .inl rfl | exact .inr rfl)) ?_)
  exact lp_hourEnds hr H ok R LM W (h 0 2) 0 I _ (by omega) fr_rfl hourJ_0.symm
/-! the class's hour -/
theorem lp_passHour (h0 : oc3 a) (C : NC I a n N) {T : Nat} {P : Nat → Bool} (hT : T < 2 ^ 31) (hP : ∀ f, f < 5 → tb T f = if P f = true then 1 else 0) : ∀ q j I' b, j + q = 5 → Fr [(a, 7), (a + 4, 0)] I I' → I' a 6 = I a 6 → (∀ f, f < 5 → I' (a + 4) f = hourJ P j N (24 + f)) → Rt L X (c_X3_passHour_4 (d + 1) L X I' J a (nI T) b (nI j)) (some (.int (accF (putO P N) q j b))) (fun I'' J' => (Fr [(a, 7), (a + 4, 0)] I I'' ∧ I'' a 6 = N 30 + nI 1 ∧ ∀ f, f < 5 → I'' (a + 4) f = hourJ P 5 N (24 + f)) ∧ J' = J)
  | 0, j, I', b, hj, hf, h6, hl => by
    have e : j = 5 := by omega
    subst e
    have hg : inF [(a, 7), (a + 4, 0)] a 6 = true := by rcases h0 with rfl | rfl <;> rfl
    have c7 := C.2.2.2.2.2.2.1
    (first | refine rt_eq (q_X3_passHour_0 (by first | assumption | rfl | exact .inl rfl | exact .inr rfl)) ?_ | refine rt_eq (q_X3_passHour_4 (by first | assumption | rfl | exact .inl rfl | exact .inr rfl)) ?_ | refine rt_eq (q_X3_passHour_14 (by first | assumption | rfl | exact .inl rfl | exact .inr rfl)) ?_ | refine rt_eq (q_X3_passHour_82 (by first | assumption | rfl | exact .inl rfl | exact .inr rfl)) ?_ | refine rt_eq (q_X3_passHour_34 (by first | assumption | rfl | exact .inl rfl | exact .inr rfl)) ?_)
    refine rt_t (by (try simp (disch := omega) only [nI_leI, nI_ltI, nI_eq, nI_add, pk_mul, n_0add, Nat.zero_add, nI_clamp]) <;> omega) ?_
    refine rt_ret ⟨⟨fr_up hf hg, ?_, fun f hf5 => ?_⟩, rfl⟩
    · rw [up2_s, h6, c7]
    · rw [up2_n (by omega)]
      exact hl f hf5
  | q + 1, j, I', b, hj, hf, h6, hl => by
    have ih := lp_passHour h0 C hT hP q (j + 1)
    have hg : inF [(a, 7), (a + 4, 0)] (a + 4) j = true := by rcases h0 with rfl | rfl <;> rfl
    have c7 := C.2.2.2.2.2.2.1
    have hoj : I' (a + 4) j = N (24 + j) := by rw [hl j (by omega), hourJ_lo (by omega)]
    have tail : ∀ I3 b', Fr [(a, 7), (a + 4, 0)] I I3 → I3 a 6 = I a 6 → (∀ f, f < 5 → I3 (a + 4) f = hourJ P (j + 1) N (24 + f)) → b' = putO P N j b → Rt L X (runI (runM (d + 1)) iX3_passHour (82, [some (.ref a), some (.int (nI T)), some (.int b'), some (.int (nI j))], [], mm L X I3 J)) (some (.int (accF (putO P N) (q + 1) j b))) (fun I'' J' => (Fr [(a, 7), (a + 4, 0)] I I'' ∧ I'' a 6 = N 30 + nI 1 ∧ ∀ f, f < 5 → I'' (a + 4) f = hourJ P 5 N (24 + f)) ∧ J' = J) := by
      intro I3 b' e1 e2 e3 e4
      (first | refine rt_eq (q_X3_passHour_0 (by first | assumption | rfl | exact .inl rfl | exact .inr rfl)) ?_ | refine rt_eq (q_X3_passHour_4 (by first | assumption | rfl | exact .inl rfl | exact .inr rfl)) ?_ | refine rt_eq (q_X3_passHour_14 (by first | assumption | rfl | exact .inl rfl | exact .inr rfl)) ?_ | refine rt_eq (q_X3_passHour_82 (by first | assumption | rfl | exact .inl rfl | exact .inr rfl)) ?_ | refine rt_eq (q_X3_passHour_34 (by first | assumption | rfl | exact .inl rfl | exact .inr rfl)) ?_)
      rw [nI_add, e4]
      exact ih I3 _ (by omega) e1 e2 e3
    have setv : ∀ v, v = hourF P N j → (∀ f, f < 5 → up2 I' (a + 4) j v (a + 4) f = hourJ P (j + 1) N (24 + f)) := by
      intro v hv f hf5
      rw [up2_at, ← hourJ_s]
      by_cases e : f = j
      · rw [if_pos e, e, upd_s, hv]
      · rw [if_neg e, upd_n (by omega), hl f hf5]
    have same : hourF P N j = N (24 + j) → (∀ f, f < 5 → I' (a + 4) f = hourJ P (j + 1) N (24 + f)) := by
      intro e f hf5
      rw [hl f hf5, ← hourJ_s, e]
      by_cases q : f = j
      · rw [q, upd_s, hourJ_lo (by omega)]
      · rw [upd_n (by omega)]
    (first | refine rt_eq (q_X3_passHour_0 (by first | assumption | rfl | exact .inl rfl | exact .inr rfl)) ?_ | refine rt_eq (q_X3_passHour_4 (by first | assumption | rfl | exact .inl rfl | exact .inr rfl)) ?_ | refine rt_eq (q_X3_passHour_14 (by first | assumption | rfl | exact .inl rfl | exact .inr rfl)) ?_ | refine rt_eq (q_X3_passHour_82 (by first | assumption | rfl | exact .inl rfl | exact .inr rfl)) ?_ | refine rt_eq (q_X3_passHour_34 (by first | assumption | rfl | exact .inl rfl | exact .inr rfl)) ?_)
    refine rt_f (by (try simp (disch := omega) only [nI_leI, nI_ltI, nI_eq, nI_add, pk_mul, n_0add, Nat.zero_add, nI_clamp]) <;> omega) ?_
    refine rt_bne sp_bit ?_
    rw [n_bit hT (by omega), hP j (by omega)]
    (first | refine rt_eq (q_X3_passHour_0 (by first | assumption | rfl | exact .inl rfl | exact .inr rfl)) ?_ | refine rt_eq (q_X3_passHour_4 (by first | assumption | rfl | exact .inl rfl | exact .inr rfl)) ?_ | refine rt_eq (q_X3_passHour_14 (by first | assumption | rfl | exact .inl rfl | exact .inr rfl)) ?_ | refine rt_eq (q_X3_passHour_82 (by first | assumption | rfl | exact .inl rfl | exact .inr rfl)) ?_ | refine rt_eq (q_X3_passHour_34 (by first | assumption | rfl | exact .inl rfl | exact .inr rfl)) ?_)
    by_cases hR : P j = true
    · rw [if_pos hR]
      refine rt_t rfl (rt_gd (inb_n (by omega) (by decide)) ?_)
      rw [nI_clamp (by omega), hoj]
      have fin : ∀ s : Int32, s = (if N (24 + j) = -1 then nI 1 else nI 0) → Rt L X (runI (runM (d + 1)) iX3_passHour (34, [some (.ref a), some (.int (nI T)), some (.int b), some (.int (nI j))], [.int s, .int b], mm L X I' J)) (some (.int (accF (putO P N) (q + 1) j b))) (fun I'' J' => (Fr [(a, 7), (a + 4, 0)] I I'' ∧ I'' a 6 = N 30 + nI 1 ∧ ∀ f, f < 5 → I'' (a + 4) f = hourJ P 5 N (24 + f)) ∧ J' = J) := by
        intro s hs
        (first | refine rt_eq (q_X3_passHour_0 (by first | assumption | rfl | exact .inl rfl | exact .inr rfl)) ?_ | refine rt_eq (q_X3_passHour_4 (by first | assumption | rfl | exact .inl rfl | exact .inr rfl)) ?_ | refine rt_eq (q_X3_passHour_14 (by first | assumption | rfl | exact .inl rfl | exact .inr rfl)) ?_ | refine rt_eq (q_X3_passHour_82 (by first | assumption | rfl | exact .inl rfl | exact .inr rfl)) ?_ | refine rt_eq (q_X3_passHour_34 (by first | assumption | rfl | exact .inl rfl | exact .inr rfl)) ?_)
        refine rt_gd (inb_n (by omega) (by decide)) ?_
        rw [nI_clamp (by omega)]
        refine tail _ _ (fr_up hf hg) ?_ (setv _ ?_) ?_
        · rw [up2_n (by omega), h6]
        · rw [h6, c7, hourF, if_pos hR]
        · rw [putO, if_pos hR, hs]
      by_cases ho : N (24 + j) = -1
      · refine rt_t ho ?_
        exact fin _ (by rw [if_pos ho])
      · refine rt_f ho ?_
        exact fin _ (by rw [if_neg ho])
    · rw [if_neg hR]
      refine rt_f (by decide) (rt_gd (inb_n (by omega) (by decide)) ?_)
      rw [nI_clamp (by omega), hoj]
      have hp : b = putO P N j b := (if_neg hR).symm
      have hFv : hourF P N j = if N (24 + j) = -1 then -1 else if N 30 - N (24 + j) < nI 9 then N (24 + j) else -1 := if_neg hR
      by_cases ho : N (24 + j) = -1
      · refine rt_t ho ?_
        exact tail _ _ hf h6 (same (by rw [hFv, if_pos ho, ho])) hp
      · refine rt_f ho ?_
        rw [h6, c7]
        by_cases h9 : N 30 - N (24 + j) < nI 9
        · refine rt_t h9 ?_
          exact tail _ _ hf h6 (same (by rw [hFv, if_neg ho, if_pos h9])) hp
        · refine rt_f h9 ?_
          refine tail _ _ (fr_up hf hg) (by rw [up2_n (by omega), h6]) (setv _ ?_) hp
          rw [hFv, if_neg ho, if_neg h9]
theorem hourN_ext {P R : Nat → Bool} {nf : Nat} (hf : nf ≤ 5) (hPR : ∀ f, f < nf → P f = R f) (hP0 : ∀ f, nf ≤ f → f < 5 → P f = false) (hN : ∀ f, nf ≤ f → f < 5 → N (24 + f) = -1) : hourJ P 5 N = hourJ R nf N := by
  funext i
  unfold hourJ
  by_cases q : 24 ≤ i ∧ i < 24 + nf
  · rw [if_pos q, if_pos (by omega)]
    unfold hourF
    rw [hPR _ (by omega)]
  · rw [if_neg q]
    by_cases q2 : 24 ≤ i ∧ i < 24 + 5
    · rw [if_pos q2]
      unfold hourF
      have e : 24 + (i - 24) = i := by omega
      have := hN (i - 24) (by omega) (by omega)
      rw [hP0 _ (by omega) (by omega), if_neg (by decide), e] at *
      rw [if_pos this, this]
    · rw [if_neg q2]
theorem putO_ext {P R : Nat → Bool} {nf : Nat} {b : Int32} (hf : nf ≤ 5) (hPR : ∀ f, f < nf → P f = R f) (hP0 : ∀ f, nf ≤ f → f < 5 → P f = false) : accF (putO P N) 5 0 b = accF (putO R N) nf 0 b := by
  have e : 5 = nf + (5 - nf) := by omega
  rw [e, accF_app, accF_id (f := putO P N) (5 - nf) (0 + nf) (fun k h1 h2 => if_neg (by rw [hP0 k (by omega) (by omega)]; decide))]
  refine accF_congr nf 0 b (fun k h1 h2 x => ?_)
  unfold putO
  rw [hPR k (by omega)]
theorem sp_passHour (h0 : oc3 a) (C : NC I a n N) (hn : n ≤ 6) {R : Nat → Bool} {nf : Nat} (h5 : nf ≤ 5) (X0 : ∀ f, nf ≤ f → f < 5 → N (24 + f) = -1) : Rt L X (runM (d + 2) nX3_passHour [.ref a, .int (nI (bitsN R nf))] (mm L X I J)) (some (.int (accF (putO R N) nf 0 (nI 0)))) (fun I'' J' => (Fr [(a, 7), (a + 4, 0)] I I'' ∧ NC I'' a n (hourN R nf N)) ∧ J' = J) := by
  have hlt : bitsN R nf < 2 ^ 31 := Nat.lt_of_lt_of_le (bitsN_lt nf) (Nat.pow_le_pow_right (by decide) (by omega))
  have hP : ∀ f, f < 5 → tb (bitsN R nf) f = if (fun f => decide (f < nf) && R f) f = true then 1 else 0 := fun f _ => by rw [tb_eq, bitsN_test]
  have e1 : ∀ f, f < nf → (fun f => decide (f < nf) && R f) f = R f := fun f hf => by simp [hf]
  have e2 : ∀ f, nf ≤ f → f < 5 → (fun f => decide (f < nf) && R f) f = false := fun f hf _ => by simp [Nat.not_lt.mpr hf]
  rw [e_X3_passHour]
  (first | refine rt_eq (q_X3_passHour_0 (by first | assumption | rfl | exact .inl rfl | exact .inr rfl)) ?_ | refine rt_eq (q_X3_passHour_4 (by first | assumption | rfl | exact .inl rfl | exact .inr rfl)) ?_ | refine rt_eq (q_X3_passHour_14 (by first | assumption | rfl | exact .inl rfl | exact .inr rfl)) ?_ | refine rt_eq (q_X3_passHour_82 (by first | assumption | rfl | exact .inl rfl | exact .inr rfl)) ?_ | refine rt_eq (q_X3_passHour_34 (by first | assumption | rfl | exact .inl rfl | exact .inr rfl)) ?_)
  rw [← putO_ext h5 e1 e2]
  refine rt_mono (lp_passHour h0 C hlt hP 5 0 I (nI 0) (by omega) fr_rfl rfl (fun f hf => by rw [hourJ_0]; exact C.2.2.2.2.1 f hf)) ?_
  rintro I2 J2 ⟨⟨g1, g2, g3⟩, rfl⟩
  refine ⟨⟨g1, ?_⟩, rfl⟩
  have hx : ∀ f, f < 5 → I2 (a + 4) f = hourJ R nf N (24 + f) := fun f hf => by rw [g3 f hf, hourN_ext h5 e1 e2 X0]
  obtain ⟨c1, c2, c3, c4, c5, c6, c7, T, c8, c9, c10⟩ := C
  have hk : ∀ b k, (b = a ∧ k ≠ 6) ∨ b = a + 1 ∨ b = a + 2 ∨ b = a + 3 → I2 b k = I b k := by
    intro b k hb
    refine g1 b k ?_
    rw [Bool.eq_false_iff]
    intro q
    rw [inF_t] at q
    obtain ⟨e, q1, q2, q3⟩ := q
    simp only [List.mem_cons, List.not_mem_nil, or_false] at q1
    rcases q1 with rfl | rfl <;> simp only at q2 q3 <;> omega
  have hlo : ∀ i, i < 24 → hourN R nf N i = N i := fun i hi => by rw [hourN, upd_n (by omega), hourJ_lo (by omega)]
  refine ⟨by rw [hk _ _ (.inl ⟨rfl, by decide⟩), c1], fun k hk1 => ?_, fun p hp => by rw [hk _ _ (by omega), c3 p hp, hlo _ (by omega)], fun p hp => by rw [hk _ _ (by omega), c4 p hp, hlo _ (by omega)], fun f hf => by rw [hx f hf, hourN, upd_n (by omega)], by rw [hk _ _ (.inl ⟨rfl, by decide⟩), c6, hourN, upd_n (by decide), hourJ_lo (by omega)], by rw [g2, hourN, upd_s], T, c8, by rw [hk _ _ (.inl ⟨rfl, by decide⟩), c9], fun p hp => by rw [hlo _ (by omega)]; exact c10 p hp⟩
  rw [hk _ _ (by omega), c2 k hk1]
  rw [hlo k (by omega)]
end HR
