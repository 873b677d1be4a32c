/-! ASKED: ahead, next, worst, needed, kin -/
section AC
variable {d L X : Nat} {I : MI32} {J : MI64} {x x1 x2 : Int32} {p f w k : Nat} {h : Hs} {nL n : Nat} {cd : Cd} {N : Nt}
/-! ahead -/
theorem outP_congr {N N' : Nt} {q : Nat} (e : ∀ i, i < 31 → N' i = N i) (hq : q ≤ 5) : bitsN (outP N') q = bitsN (outP N) q := by
  refine bitsN_congr (fun k hk => ?_)
  unfold outP
  rw [e _ (by omega)]
theorem hourN_congr {R R' : Nat → Bool} {nf : Nat} {N N' : Nt} (eR : ∀ f, f < nf → R' f = R f) (h5 : nf ≤ 5) (e : ∀ i, i < 31 → N' i = N i) : ∀ i, i < 31 → hourN R' nf N' i = hourN R nf N i := by
  intro i hi
  unfold hourN upd
  by_cases z : i = 30
  · rw [if_pos z, if_pos z, e 30 (by decide)]
  · rw [if_neg z, if_neg z]
    unfold hourJ
    by_cases y : 24 ≤ i ∧ i < 24 + nf
    · rw [if_pos y, if_pos y]
      unfold hourF
      rw [eR _ (by omega), e 30 (by decide), e _ (by omega)]
    · rw [if_neg y, if_neg y]
      exact e i hi
theorem hrs_congr {R R' : Nat → Bool} {nf k : Nat} {N N' : Nt} (eR : ∀ f, f < nf → R' f = R f) (h5 : nf ≤ 5) (e : ∀ i, i < 31 → N' i = N i) : ∀ i, i < 31 → hrs R' nf k N' i = hrs R nf k N i := by
  induction k with
  | zero => exact e
  | succ k ih =>
    intro i hi
    rw [hrs_s, hrs_s]
    exact hourN_congr eR h5 ih i hi
def aheadA (h : Hs) (nL : Nat) (cd : Cd) (n : Nat) (N : Nt) (k : Nat) : Int32 := nI (bitsN (outP (hrs (rchd h nL cd N n) (h 0 2) k N)) (h 0 2))
theorem c_ahead (V : CS I h nL cd n N) (hk : k ≤ 99) : Rt L X (runM (d + 8) nX11_ahead [.ref 0, .int (nI k)] (mm L X I J)) (some (.int (aheadA h nL cd n N k))) (fun I' _ => Fr fQC I I') := by
  obtain ⟨ok, W, S, C, R, Z⟩ := V
  rw [e_X11_ahead]
  (first | refine rt_eq (q_X11_ahead_0) ?_ | refine rt_eq (q_X11_ahead_8) ?_ | refine rt_eq (q_X11_ahead_11) ?_ | refine rt_eq (q_X11_ahead_23) ?_)
  refine rt_bne (wi_t (by (try simp (disch := omega) only [nI_leI, nI_ltI, nI_eq, nI_add, pk_mul, n_0add, Nat.zero_add, nI_clamp]) <;> omega) (by (try simp (disch := omega) only [nI_leI, nI_ltI, nI_eq, nI_add, pk_mul, n_0add, Nat.zero_add, nI_clamp]) <;> omega)) ?_
  (first | refine rt_eq (q_X11_ahead_0) ?_ | refine rt_eq (q_X11_ahead_8) ?_ | refine rt_eq (q_X11_ahead_11) ?_ | refine rt_eq (q_X11_ahead_23) ?_)
  refine rt_be ex_t ?_
  (first | refine rt_eq (q_X11_ahead_0) ?_ | refine rt_eq (q_X11_ahead_8) ?_ | refine rt_eq (q_X11_ahead_11) ?_ | refine rt_eq (q_X11_ahead_23) ?_)
  refine rt_bnd (sp_outAfter ok W (by omega) S C R Z) ?_
  rintro I1 J1 ⟨f1, rfl⟩
  (first | refine rt_eq (q_X11_ahead_0) ?_ | refine rt_eq (q_X11_ahead_8) ?_ | refine rt_eq (q_X11_ahead_11) ?_ | refine rt_eq (q_X11_ahead_23) ?_)
  exact rt_v (rt_ret (fr_mono f1 fq_S)) (congrArg nI (out5 (NX_hrs Z ok.2.2.1) ok.2.2.1))
theorem x_ahead (hx : ¬ ∃ p, p ≤ 99 ∧ x = nI p) : runM (d + 2) nX11_ahead [.ref 0, .int x] (mm L X I J) = some (.inr 1, mm L (X + 1) (ex1 I) J) := by
  rw [e_X11_ahead]
  (first | refine Eq.trans (q_X11_ahead_0) ?_ | refine Eq.trans (q_X11_ahead_8) ?_ | refine Eq.trans (q_X11_ahead_11) ?_ | refine Eq.trans (q_X11_ahead_23) ?_)
  refine (bndN_e (wi_f (fun q => hx ((in_M (by decide)).mp q)))).trans ?_
  (first | refine Eq.trans (q_X11_ahead_0) ?_ | refine Eq.trans (q_X11_ahead_8) ?_ | refine Eq.trans (q_X11_ahead_11) ?_ | refine Eq.trans (q_X11_ahead_23) ?_)
  exact bnd_x ex_f
theorem b_ahead (hx : ¬ ∃ p, p ≤ 99 ∧ x = nI p) : runM (d + 2) nX12_ahead [.ref 72, .int x] (mm L X I J) = rI (nI 0) (mm L X (bdM I 1 1) J) := by
  rw [e_X12_ahead]
  (first | refine Eq.trans (q_X12_ahead_0) ?_ | refine Eq.trans (q_X12_ahead_13) ?_ | refine Eq.trans (q_X12_ahead_21) ?_ | refine Eq.trans (q_X12_ahead_26) ?_ | refine Eq.trans (q_X12_ahead_42) ?_ | refine Eq.trans (q_X12_ahead_44) ?_ | refine Eq.trans (q_X12_ahead_71) ?_ | refine Eq.trans (q_X12_ahead_57) ?_)
  refine (bndN_e (in_f (fun q => hx ((in_M (by decide)).mp q)))).trans ?_
  (first | refine Eq.trans (q_X12_ahead_0) ?_ | refine Eq.trans (q_X12_ahead_13) ?_ | refine Eq.trans (q_X12_ahead_21) ?_ | refine Eq.trans (q_X12_ahead_26) ?_ | refine Eq.trans (q_X12_ahead_42) ?_ | refine Eq.trans (q_X12_ahead_44) ?_ | refine Eq.trans (q_X12_ahead_71) ?_ | refine Eq.trans (q_X12_ahead_57) ?_)
  rw [if_pos rfl]
  (first | refine Eq.trans (q_X12_ahead_0) ?_ | refine Eq.trans (q_X12_ahead_13) ?_ | refine Eq.trans (q_X12_ahead_21) ?_ | refine Eq.trans (q_X12_ahead_26) ?_ | refine Eq.trans (q_X12_ahead_42) ?_ | refine Eq.trans (q_X12_ahead_44) ?_ | refine Eq.trans (q_X12_ahead_71) ?_ | refine Eq.trans (q_X12_ahead_57) ?_)
  refine (bnd_e (bad_t (by decide) (by decide) (by decide))).trans ?_
  (first | refine Eq.trans (q_X12_ahead_0) ?_ | refine Eq.trans (q_X12_ahead_13) ?_ | refine Eq.trans (q_X12_ahead_21) ?_ | refine Eq.trans (q_X12_ahead_26) ?_ | refine Eq.trans (q_X12_ahead_42) ?_ | refine Eq.trans (q_X12_ahead_44) ?_ | refine Eq.trans (q_X12_ahead_71) ?_ | refine Eq.trans (q_X12_ahead_57) ?_)
  rw [if_neg (by decide)]
theorem lp_aheadM {M : Nt} (ok : HOK h) (W : wfC cd nL 0 0) (hk : k ≤ 99) (S : SM I h (h 0 1) nL cd) (R : NR (h 0 0) n M) : ∀ q j I', j + q = k → Fr (fH 534) I I' → I' 534 = hrs (rchd h nL cd M n) (h 0 2) j M → Rt L X (c_X12_ahead_44 (d + 9) L X I' J (nI k) (nI j)) (some (.int (aheadA h nL cd n M k))) (fun I'' J' => Fr (fH 534) I I'' ∧ J' = J)
  | 0, j, I', hj, hf, e => by
    have ej : j = k := by omega
    subst ej
    have S' := SM_fr S ok hf (fH_HM (.inr rfl)) (fH_LM (.inr rfl))
    (first | refine rt_eq (q_X12_ahead_0) ?_ | refine rt_eq (q_X12_ahead_13) ?_ | refine rt_eq (q_X12_ahead_21) ?_ | refine rt_eq (q_X12_ahead_26) ?_ | refine rt_eq (q_X12_ahead_42) ?_ | refine rt_eq (q_X12_ahead_44) ?_ | refine rt_eq (q_X12_ahead_71) ?_ | refine rt_eq (q_X12_ahead_57) ?_)
    refine rt_t (by (try simp (disch := omega) only [nI_leI, nI_ltI, nI_eq, nI_add, pk_mul, n_0add, Nat.zero_add, nI_clamp]) <;> omega) ?_
    refine rt_be (sp_outIn ka_534 S'.1.2.2.1 ok.2.2.1) ?_
    (first | refine rt_eq (q_X12_ahead_0) ?_ | refine rt_eq (q_X12_ahead_13) ?_ | refine rt_eq (q_X12_ahead_21) ?_ | refine rt_eq (q_X12_ahead_26) ?_ | refine rt_eq (q_X12_ahead_42) ?_ | refine rt_eq (q_X12_ahead_44) ?_ | refine rt_eq (q_X12_ahead_71) ?_ | refine rt_eq (q_X12_ahead_57) ?_)
    exact rt_v (rt_ret ⟨hf, rfl⟩) (by rw [e]; rfl)
  | q + 1, j, I', hj, hf, e => by
    have ih := lp_aheadM ok W hk S R q (j + 1)
    have S' := SM_fr S ok hf (fH_HM (.inr rfl)) (fH_LM (.inr rfl))
    have R' : NR (h 0 0) n (I' 534) := by rw [e]; exact NR_hrs R ok.2.2.1
    (first | refine rt_eq (q_X12_ahead_0) ?_ | refine rt_eq (q_X12_ahead_13) ?_ | refine rt_eq (q_X12_ahead_21) ?_ | refine rt_eq (q_X12_ahead_26) ?_ | refine rt_eq (q_X12_ahead_42) ?_ | refine rt_eq (q_X12_ahead_44) ?_ | refine rt_eq (q_X12_ahead_71) ?_ | refine rt_eq (q_X12_ahead_57) ?_)
    refine rt_f (by (try simp (disch := omega) only [nI_leI, nI_ltI, nI_eq, nI_add, pk_mul, n_0add, Nat.zero_add, nI_clamp]) <;> omega) ?_
    refine rt_bnd (sp_hourEnds (.inr rfl) S'.1 ok R' S'.2 W) ?_
    rintro I2 J2 ⟨⟨f2, f3, -⟩, rfl⟩
    (first | refine rt_eq (q_X12_ahead_0) ?_ | refine rt_eq (q_X12_ahead_13) ?_ | refine rt_eq (q_X12_ahead_21) ?_ | refine rt_eq (q_X12_ahead_26) ?_ | refine rt_eq (q_X12_ahead_42) ?_ | refine rt_eq (q_X12_ahead_44) ?_ | refine rt_eq (q_X12_ahead_71) ?_ | refine rt_eq (q_X12_ahead_57) ?_)
    rw [nI_add]
    refine ih I2 (by omega) (fr_tr hf f2) ?_
    rw [f3, hrs_s, ← e]
    have er : rchd h nL cd (I' 534) n = rchd h nL cd M n := by
      funext f
      rw [e]
      exact rchd_congr R (fun i hi => hrs_lo (.inl hi) ok.2.2.1) (hrs_lo (.inr rfl) ok.2.2.1)
    rw [er]
theorem m_ahead (V : MS I h nL cd n N) (hk : k ≤ 99) : Rt L X (runM (d + 10) nX12_ahead [.ref 72, .int (nI k)] (mm L X I J)) (some (.int (aheadA h nL cd n N k))) (fun I' J' => (Fr fQM I I' ∧ I' 72 0 = nI 0) ∧ J' = J) := by
  rw [e_X12_ahead]
  (first | refine rt_eq (q_X12_ahead_0) ?_ | refine rt_eq (q_X12_ahead_13) ?_ | refine rt_eq (q_X12_ahead_21) ?_ | refine rt_eq (q_X12_ahead_26) ?_ | refine rt_eq (q_X12_ahead_42) ?_ | refine rt_eq (q_X12_ahead_44) ?_ | refine rt_eq (q_X12_ahead_71) ?_ | refine rt_eq (q_X12_ahead_57) ?_)
  have V0 := MS0 V; generalize hI0 : up2 I 72 0 (nI 0) = I0 at V0 ⊢; have f0 : Fr fQM I I0 := by rw [← hI0]; exact fr_up fr_rfl rfl
  have t0 : I0 72 0 = nI 0 := by rw [← hI0, up2_s]
  clear hI0
  obtain ⟨ok, W, S, e, R, Z⟩ := V0
  subst e
  refine rt_bne (in_t (by (try simp (disch := omega) only [nI_leI, nI_ltI, nI_eq, nI_add, pk_mul, n_0add, Nat.zero_add, nI_clamp]) <;> omega) (by (try simp (disch := omega) only [nI_leI, nI_ltI, nI_eq, nI_add, pk_mul, n_0add, Nat.zero_add, nI_clamp]) <;> omega)) ?_
  (first | refine rt_eq (q_X12_ahead_0) ?_ | refine rt_eq (q_X12_ahead_13) ?_ | refine rt_eq (q_X12_ahead_21) ?_ | refine rt_eq (q_X12_ahead_26) ?_ | refine rt_eq (q_X12_ahead_42) ?_ | refine rt_eq (q_X12_ahead_44) ?_ | refine rt_eq (q_X12_ahead_71) ?_ | refine rt_eq (q_X12_ahead_57) ?_)
  repeat (first | refine rt_t (by decide) ?_ | refine rt_f (by decide) ?_)
  (first | refine rt_eq (q_X12_ahead_0) ?_ | refine rt_eq (q_X12_ahead_13) ?_ | refine rt_eq (q_X12_ahead_21) ?_ | refine rt_eq (q_X12_ahead_26) ?_ | refine rt_eq (q_X12_ahead_42) ?_ | refine rt_eq (q_X12_ahead_44) ?_ | refine rt_eq (q_X12_ahead_71) ?_ | refine rt_eq (q_X12_ahead_57) ?_)
  refine rt_be (bad_f t0) ?_
  (first | refine rt_eq (q_X12_ahead_0) ?_ | refine rt_eq (q_X12_ahead_13) ?_ | refine rt_eq (q_X12_ahead_21) ?_ | refine rt_eq (q_X12_ahead_26) ?_ | refine rt_eq (q_X12_ahead_42) ?_ | refine rt_eq (q_X12_ahead_44) ?_ | refine rt_eq (q_X12_ahead_71) ?_ | refine rt_eq (q_X12_ahead_57) ?_)
  repeat (first | refine rt_t (by decide) ?_ | refine rt_f (by decide) ?_)
  refine rt_bndN (sp_copies ka_533 ka_534 (by decide) (by decide) (by decide) (by decide) (by decide)) ?_
  rintro I1 J1 ⟨⟨f1, f2⟩, rfl⟩
  have hc : ∀ i, i < 31 → cpN I0 533 534 i = I0 533 i := fun i hi => if_pos hi
  (first | refine rt_eq (q_X12_ahead_0) ?_ | refine rt_eq (q_X12_ahead_13) ?_ | refine rt_eq (q_X12_ahead_21) ?_ | refine rt_eq (q_X12_ahead_26) ?_ | refine rt_eq (q_X12_ahead_42) ?_ | refine rt_eq (q_X12_ahead_44) ?_ | refine rt_eq (q_X12_ahead_71) ?_ | refine rt_eq (q_X12_ahead_57) ?_)
  have S1 := SM_fr S ok f1 (by decide +kernel) (by decide +kernel)
  have R1 : NR (h 0 0) n (cpN I0 533 534) := NR_congr R (fun i hi => hc i (by omega))
  refine rt_v (rt_mono (lp_aheadM ok W hk S1 R1 k 0 I1 (by omega) fr_rfl f2) ?_) ?_
  · rintro I2 J2 ⟨f3, rfl⟩
    exact ⟨⟨fr_tr f0 (fr_tr (fr_mono f1 fm_T) (fr_mono f3 fm_H)), by rw [f3 72 0 rfl, f1 72 0 rfl]; exact t0⟩, rfl⟩
  · unfold aheadA
    have h5 := ok.2.2.1
    refine congrArg nI (outP_congr (hrs_congr (fun f _ => ?_) h5 hc) h5)
    exact rchd_congr R (fun i hi => hc i (by omega)) (hc 29 (by decide))
/-! next -/
def nextA (h : Hs) (n : Nat) (N : Nt) (w p : Nat) : Bool := canL h (h 0 1) n N (2 * p + (if w = 0 then nv (N (6 + p)) else 1 - nv (N (6 + p))))
theorem lp_nextC (V : CS I h nL cd n N) (hw : w ≤ 1) : ∀ q j b, j + q = h 0 0 → c_X11_next_14 (d + 4) L X I J (nI w) (nI b) (nI j) = rI (nI (accF (bitA (nextA h n N w)) q j b)) (mm L X I J)
  | 0, j, b, hj => by
    obtain ⟨ok, W, ⟨K, LC, Q⟩, C, R, Z⟩ := V
    have h6 := ok.1
    (first | refine Eq.trans (q_X11_next_0) ?_ | refine Eq.trans (q_X11_next_7) ?_ | refine Eq.trans (q_X11_next_10) ?_ | refine Eq.trans (q_X11_next_14) ?_ | refine Eq.trans (q_X11_next_41) ?_ | refine Eq.trans (q_X11_next_46) ?_ | refine Eq.trans (q_X11_next_55) ?_)
    rw [K.1, if_pos (by (try simp (disch := omega) only [nI_leI, nI_ltI, nI_eq, nI_add, pk_mul, n_0add, Nat.zero_add, nI_clamp]) <;> omega)]
    rfl
  | q + 1, j, b, hj => by
    have ih := lp_nextC V hw q (j + 1)
    obtain ⟨ok, W, ⟨K, LC, Q⟩, C, R, Z⟩ := V
    have h6 := ok.1
    obtain ⟨t1, t2⟩ := R.2.2.2.2 j (by omega)
    (first | refine Eq.trans (q_X11_next_0) ?_ | refine Eq.trans (q_X11_next_7) ?_ | refine Eq.trans (q_X11_next_10) ?_ | refine Eq.trans (q_X11_next_14) ?_ | refine Eq.trans (q_X11_next_41) ?_ | refine Eq.trans (q_X11_next_46) ?_ | refine Eq.trans (q_X11_next_55) ?_)
    rw [K.1, if_neg (by (try simp (disch := omega) only [nI_leI, nI_ltI, nI_eq, nI_add, pk_mul, n_0add, Nat.zero_add, nI_clamp]) <;> omega)]
    refine (bnd_e (sp_wayOf (.inl rfl) C (by omega))).trans ?_
    (first | refine Eq.trans (q_X11_next_0) ?_ | refine Eq.trans (q_X11_next_7) ?_ | refine Eq.trans (q_X11_next_10) ?_ | refine Eq.trans (q_X11_next_14) ?_ | refine Eq.trans (q_X11_next_41) ?_ | refine Eq.trans (q_X11_next_46) ?_ | refine Eq.trans (q_X11_next_55) ?_)
    have ex : nI (2 * j + nv (N (6 + j))) ^^^ nI w = nI (2 * j + (if w = 0 then nv (N (6 + j)) else 1 - nv (N (6 + j)))) := by
      rw [n_xor]
      generalize nv (N (6 + j)) = t at t2
      have key : ∀ j, j < 6 → ∀ t, t ≤ 1 → ∀ w, w ≤ 1 → (2 * j + t) ^^^ w = 2 * j + (if w = 0 then t else 1 - t) := by decide
      rw [key j (by omega) t t2 w hw]
    rw [ex]
    have hx : (2 * j + (if w = 0 then nv (N (6 + j)) else 1 - nv (N (6 + j)))) / 2 = j := by
      refine wy_div ?_
      by_cases z : w = 0
      · rw [if_pos z]; exact t2
      · rw [if_neg z]; omega
    refine (bnd_e (sp_canLayC (.inl rfl) C R K ok (by rw [hx]; omega))).trans ?_
    (first | refine Eq.trans (q_X11_next_0) ?_ | refine Eq.trans (q_X11_next_7) ?_ | refine Eq.trans (q_X11_next_10) ?_ | refine Eq.trans (q_X11_next_14) ?_ | refine Eq.trans (q_X11_next_41) ?_ | refine Eq.trans (q_X11_next_46) ?_ | refine Eq.trans (q_X11_next_55) ?_)
    show _ = rI (nI (accF (bitA (nextA h n N w)) q (j + 1) (bitA (nextA h n N w) j b))) _
    by_cases z : nextA h n N w j = true
    · rw [show canL h (h 0 1) n N (2 * j + (if w = 0 then nv (N (6 + j)) else 1 - nv (N (6 + j)))) = true from z, if_neg (by decide)]
      (first | refine Eq.trans (q_X11_next_0) ?_ | refine Eq.trans (q_X11_next_7) ?_ | refine Eq.trans (q_X11_next_10) ?_ | refine Eq.trans (q_X11_next_14) ?_ | refine Eq.trans (q_X11_next_41) ?_ | refine Eq.trans (q_X11_next_46) ?_ | refine Eq.trans (q_X11_next_55) ?_)
      rw [nI_add, n_pow (by omega), n_or]
      have e : bitA (nextA h n N w) j b = b ||| 2 ^ j := if_pos z
      rw [e]
      exact ih _ (by omega)
    · rw [Bool.not_eq_true] at z
      rw [show canL h (h 0 1) n N (2 * j + (if w = 0 then nv (N (6 + j)) else 1 - nv (N (6 + j)))) = false from z, if_pos bI_f]
      (first | refine Eq.trans (q_X11_next_0) ?_ | refine Eq.trans (q_X11_next_7) ?_ | refine Eq.trans (q_X11_next_10) ?_ | refine Eq.trans (q_X11_next_14) ?_ | refine Eq.trans (q_X11_next_41) ?_ | refine Eq.trans (q_X11_next_46) ?_ | refine Eq.trans (q_X11_next_55) ?_)
      rw [nI_add]
      have e : bitA (nextA h n N w) j b = b := if_neg (by rw [z]; decide)
      rw [e]
      exact ih _ (by omega)
theorem c_next (V : CS I h nL cd n N) (hw : w ≤ 1) : Rt L X (runM (d + 5) nX11_next [.ref 0, .int (nI w)] (mm L X I J)) (some (.int (nI (bitsN (nextA h n N w) (h 0 0))))) (fun I' _ => Fr fQC I I') := by
  rw [e_X11_next]
  (first | refine rt_eq (q_X11_next_0) ?_ | refine rt_eq (q_X11_next_7) ?_ | refine rt_eq (q_X11_next_10) ?_ | refine rt_eq (q_X11_next_14) ?_ | refine rt_eq (q_X11_next_41) ?_ | refine rt_eq (q_X11_next_46) ?_ | refine rt_eq (q_X11_next_55) ?_)
  refine rt_bne (wi_t (by (try simp (disch := omega) only [nI_leI, nI_ltI, nI_eq, nI_add, pk_mul, n_0add, Nat.zero_add, nI_clamp]) <;> omega) (by (try simp (disch := omega) only [nI_leI, nI_ltI, nI_eq, nI_add, pk_mul, n_0add, Nat.zero_add, nI_clamp]) <;> omega)) ?_
  (first | refine rt_eq (q_X11_next_0) ?_ | refine rt_eq (q_X11_next_7) ?_ | refine rt_eq (q_X11_next_10) ?_ | refine rt_eq (q_X11_next_14) ?_ | refine rt_eq (q_X11_next_41) ?_ | refine rt_eq (q_X11_next_46) ?_ | refine rt_eq (q_X11_next_55) ?_)
  refine rt_be ex_t ?_
  (first | refine rt_eq (q_X11_next_0) ?_ | refine rt_eq (q_X11_next_7) ?_ | refine rt_eq (q_X11_next_10) ?_ | refine rt_eq (q_X11_next_14) ?_ | refine rt_eq (q_X11_next_41) ?_ | refine rt_eq (q_X11_next_46) ?_ | refine rt_eq (q_X11_next_55) ?_)
  exact rt_end (lp_nextC V hw (h 0 0) 0 0 (by omega)) fr_rfl
theorem lp_nextM (V : MS I h nL cd n N) (hw : w ≤ 1) : ∀ q j b, j + q = h 0 0 → c_X12_next_34 (d + 2) L X I J (nI w) (nI b) (nI j) = rI (nI (accF (bitA (nextA h n N w)) q j b)) (mm L X I J)
  | 0, j, b, hj => by
    obtain ⟨ok, W, ⟨H, LM⟩, e, R, Z⟩ := V
    have h6 := ok.1
    (first | refine Eq.trans (q_X12_next_0) ?_ | refine Eq.trans (q_X12_next_12) ?_ | refine Eq.trans (q_X12_next_20) ?_ | refine Eq.trans (q_X12_next_25) ?_ | refine Eq.trans (q_X12_next_34) ?_ | refine Eq.trans (q_X12_next_78) ?_ | refine Eq.trans (q_X12_next_81) ?_ | refine Eq.trans (q_X12_next_91) ?_)
    rw [H.1, if_pos (by (try simp (disch := omega) only [nI_leI, nI_ltI, nI_eq, nI_add, pk_mul, n_0add, Nat.zero_add, nI_clamp]) <;> omega)]
    rfl
  | q + 1, j, b, hj => by
    have ih := lp_nextM V hw q (j + 1)
    obtain ⟨ok, W, ⟨H, LM⟩, e, R, Z⟩ := V
    subst e
    have h6 := ok.1
    obtain ⟨t1, t2⟩ := R.2.2.2.2 j (by omega)
    have tail : ∀ t, t = (if w = 0 then nv (I 533 (6 + j)) else 1 - nv (I 533 (6 + j))) → t ≤ 1 → runI (runM (d + 2)) iX12_next (78, [some (.ref 72), some (.int (nI w)), some (.int (nI b)), some (.int (nI j))], [.int (nI t), .int (nI j), .ref 533, .ref 72, .int (nI b)], mm L X I J) = rI (nI (accF (bitA (nextA h n (I 533) w)) q (j + 1) (bitA (nextA h n (I 533) w) j b))) (mm L X I J) := by
      intro t ht t1
      (first | refine Eq.trans (q_X12_next_0) ?_ | refine Eq.trans (q_X12_next_12) ?_ | refine Eq.trans (q_X12_next_20) ?_ | refine Eq.trans (q_X12_next_25) ?_ | refine Eq.trans (q_X12_next_34) ?_ | refine Eq.trans (q_X12_next_78) ?_ | refine Eq.trans (q_X12_next_81) ?_ | refine Eq.trans (q_X12_next_91) ?_)
      refine (bnd_e (sp_canLayM ka_533 H ok R (by omega) t1)).trans ?_
      (first | refine Eq.trans (q_X12_next_0) ?_ | refine Eq.trans (q_X12_next_12) ?_ | refine Eq.trans (q_X12_next_20) ?_ | refine Eq.trans (q_X12_next_25) ?_ | refine Eq.trans (q_X12_next_34) ?_ | refine Eq.trans (q_X12_next_78) ?_ | refine Eq.trans (q_X12_next_81) ?_ | refine Eq.trans (q_X12_next_91) ?_)
      have en : canL h (h 0 1) n (I 533) (2 * j + t) = nextA h n (I 533) w j := by rw [ht]; rfl
      rw [en]
      by_cases z : nextA h n (I 533) w j = true
      · rw [z, if_neg (by decide)]
        (first | refine Eq.trans (q_X12_next_0) ?_ | refine Eq.trans (q_X12_next_12) ?_ | refine Eq.trans (q_X12_next_20) ?_ | refine Eq.trans (q_X12_next_25) ?_ | refine Eq.trans (q_X12_next_34) ?_ | refine Eq.trans (q_X12_next_78) ?_ | refine Eq.trans (q_X12_next_81) ?_ | refine Eq.trans (q_X12_next_91) ?_)
        rw [nI_add, n_pow (by omega), n_or]
        have e : bitA (nextA h n (I 533) w) j b = b ||| 2 ^ j := if_pos z
        rw [e]
        exact ih _ (by omega)
      · rw [Bool.not_eq_true] at z
        rw [z, if_pos bI_f]
        (first | refine Eq.trans (q_X12_next_0) ?_ | refine Eq.trans (q_X12_next_12) ?_ | refine Eq.trans (q_X12_next_20) ?_ | refine Eq.trans (q_X12_next_25) ?_ | refine Eq.trans (q_X12_next_34) ?_ | refine Eq.trans (q_X12_next_78) ?_ | refine Eq.trans (q_X12_next_81) ?_ | refine Eq.trans (q_X12_next_91) ?_)
        rw [nI_add, n_or, Nat.or_zero]
        have e : bitA (nextA h n (I 533) w) j b = b := if_neg (by rw [z]; decide)
        rw [e]
        exact ih _ (by omega)
    (first | refine Eq.trans (q_X12_next_0) ?_ | refine Eq.trans (q_X12_next_12) ?_ | refine Eq.trans (q_X12_next_20) ?_ | refine Eq.trans (q_X12_next_25) ?_ | refine Eq.trans (q_X12_next_34) ?_ | refine Eq.trans (q_X12_next_78) ?_ | refine Eq.trans (q_X12_next_81) ?_ | refine Eq.trans (q_X12_next_91) ?_)
    rw [H.1, if_neg (by (try simp (disch := omega) only [nI_leI, nI_ltI, nI_eq, nI_add, pk_mul, n_0add, Nat.zero_add, nI_clamp]) <;> omega), nI_add, gd_t (inb_n (by omega) (by decide)), nI_clamp (by omega)]
    show _ = rI (nI (accF (bitA (nextA h n (I 533) w)) q (j + 1) (bitA (nextA h n (I 533) w) j b))) _
    by_cases z : w = 0
    · rw [if_pos (congrArg nI z)]
      have q := tail (nv (I 533 (6 + j))) (by rw [if_pos z]) t2
      rw [← t1] at q
      exact q
    · rw [if_neg (by rw [nI_eq (by omega) (by decide)]; exact z), gd_t (inb_n (by omega) (by decide))]
      have q := tail (1 - nv (I 533 (6 + j))) (by rw [if_neg z]) (by omega)
      rw [← pk_sub t2, ← t1] at q
      exact q
theorem m_next (V : MS I h nL cd n N) (hw : w ≤ 1) : Rt L X (runM (d + 4) nX12_next [.ref 72, .int (nI w)] (mm L X I J)) (some (.int (nI (bitsN (nextA h n N w) (h 0 0))))) (fun I' J' => (Fr fQM I I' ∧ I' 72 0 = nI 0) ∧ J' = J) := by
  rw [e_X12_next]
  (first | refine rt_eq (q_X12_next_0) ?_ | refine rt_eq (q_X12_next_12) ?_ | refine rt_eq (q_X12_next_20) ?_ | refine rt_eq (q_X12_next_25) ?_ | refine rt_eq (q_X12_next_34) ?_ | refine rt_eq (q_X12_next_78) ?_ | refine rt_eq (q_X12_next_81) ?_ | refine rt_eq (q_X12_next_91) ?_)
  have V0 := MS0 V; generalize hI0 : up2 I 72 0 (nI 0) = I0 at V0 ⊢; have f0 : Fr fQM I I0 := by rw [← hI0]; exact fr_up fr_rfl rfl
  have t0 : I0 72 0 = nI 0 := by rw [← hI0, up2_s]
  clear hI0
  refine rt_bne (in_t (by (try simp (disch := omega) only [nI_leI, nI_ltI, nI_eq, nI_add, pk_mul, n_0add, Nat.zero_add, nI_clamp]) <;> omega) (by (try simp (disch := omega) only [nI_leI, nI_ltI, nI_eq, nI_add, pk_mul, n_0add, Nat.zero_add, nI_clamp]) <;> omega)) ?_
  (first | refine rt_eq (q_X12_next_0) ?_ | refine rt_eq (q_X12_next_12) ?_ | refine rt_eq (q_X12_next_20) ?_ | refine rt_eq (q_X12_next_25) ?_ | refine rt_eq (q_X12_next_34) ?_ | refine rt_eq (q_X12_next_78) ?_ | refine rt_eq (q_X12_next_81) ?_ | refine rt_eq (q_X12_next_91) ?_)
  repeat (first | refine rt_t (by decide) ?_ | refine rt_f (by decide) ?_)
  (first | refine rt_eq (q_X12_next_0) ?_ | refine rt_eq (q_X12_next_12) ?_ | refine rt_eq (q_X12_next_20) ?_ | refine rt_eq (q_X12_next_25) ?_ | refine rt_eq (q_X12_next_34) ?_ | refine rt_eq (q_X12_next_78) ?_ | refine rt_eq (q_X12_next_81) ?_ | refine rt_eq (q_X12_next_91) ?_)
  refine rt_be (bad_f t0) ?_
  (first | refine rt_eq (q_X12_next_0) ?_ | refine rt_eq (q_X12_next_12) ?_ | refine rt_eq (q_X12_next_20) ?_ | refine rt_eq (q_X12_next_25) ?_ | refine rt_eq (q_X12_next_34) ?_ | refine rt_eq (q_X12_next_78) ?_ | refine rt_eq (q_X12_next_81) ?_ | refine rt_eq (q_X12_next_91) ?_)
  repeat (first | refine rt_t (by decide) ?_ | refine rt_f (by decide) ?_)
  exact rt_end (lp_nextM V0 hw (h 0 0) 0 0 (by omega)) ⟨⟨f0, t0⟩, rfl⟩
theorem x_next (hx : ¬ ∃ p, p ≤ 1 ∧ x = nI p) : runM (d + 2) nX11_next [.ref 0, .int x] (mm L X I J) = some (.inr 1, mm L (X + 1) (ex1 I) J) := by
  rw [e_X11_next]
  (first | refine Eq.trans (q_X11_next_0) ?_ | refine Eq.trans (q_X11_next_7) ?_ | refine Eq.trans (q_X11_next_10) ?_ | refine Eq.trans (q_X11_next_14) ?_ | refine Eq.trans (q_X11_next_41) ?_ | refine Eq.trans (q_X11_next_46) ?_ | refine Eq.trans (q_X11_next_55) ?_)
  refine (bndN_e (wi_f (fun q => hx ((in_M (by decide)).mp q)))).trans ?_
  (first | refine Eq.trans (q_X11_next_0) ?_ | refine Eq.trans (q_X11_next_7) ?_ | refine Eq.trans (q_X11_next_10) ?_ | refine Eq.trans (q_X11_next_14) ?_ | refine Eq.trans (q_X11_next_41) ?_ | refine Eq.trans (q_X11_next_46) ?_ | refine Eq.trans (q_X11_next_55) ?_)
  exact bnd_x ex_f
theorem b_next (hx : ¬ ∃ p, p ≤ 1 ∧ x = nI p) : runM (d + 2) nX12_next [.ref 72, .int x] (mm L X I J) = rI (nI 0) (mm L X (bdM I 1 1) J) := by
  rw [e_X12_next]
  (first | refine Eq.trans (q_X12_next_0) ?_ | refine Eq.trans (q_X12_next_12) ?_ | refine Eq.trans (q_X12_next_20) ?_ | refine Eq.trans (q_X12_next_25) ?_ | refine Eq.trans (q_X12_next_34) ?_ | refine Eq.trans (q_X12_next_78) ?_ | refine Eq.trans (q_X12_next_81) ?_ | refine Eq.trans (q_X12_next_91) ?_)
  refine (bndN_e (in_f (fun q => hx ((in_M (by decide)).mp q)))).trans ?_
  (first | refine Eq.trans (q_X12_next_0) ?_ | refine Eq.trans (q_X12_next_12) ?_ | refine Eq.trans (q_X12_next_20) ?_ | refine Eq.trans (q_X12_next_25) ?_ | refine Eq.trans (q_X12_next_34) ?_ | refine Eq.trans (q_X12_next_78) ?_ | refine Eq.trans (q_X12_next_81) ?_ | refine Eq.trans (q_X12_next_91) ?_)
  rw [if_pos rfl]
  (first | refine Eq.trans (q_X12_next_0) ?_ | refine Eq.trans (q_X12_next_12) ?_ | refine Eq.trans (q_X12_next_20) ?_ | refine Eq.trans (q_X12_next_25) ?_ | refine Eq.trans (q_X12_next_34) ?_ | refine Eq.trans (q_X12_next_78) ?_ | refine Eq.trans (q_X12_next_81) ?_ | refine Eq.trans (q_X12_next_91) ?_)
  refine (bnd_e (bad_t (by decide) (by decide) (by decide))).trans ?_
  (first | refine Eq.trans (q_X12_next_0) ?_ | refine Eq.trans (q_X12_next_12) ?_ | refine Eq.trans (q_X12_next_20) ?_ | refine Eq.trans (q_X12_next_25) ?_ | refine Eq.trans (q_X12_next_34) ?_ | refine Eq.trans (q_X12_next_78) ?_ | refine Eq.trans (q_X12_next_81) ?_ | refine Eq.trans (q_X12_next_91) ?_)
  rw [if_neg (by decide)]
/-! worst -/
def lostN (h : Hs) (nL : Nat) (cd : Cd) (N : Nt) (k : Nat) : Int32 := (if k = 0 then N 29 else arN h nL cd N k) - arN h nL cd N (k + 1)
def worA (h : Hs) (nL : Nat) (cd : Cd) (N : Nt) (k : Nat) (b : Option Nat) : Option Nat := match b with
  | none => some k
  | some j => if lostN h nL cd N k ≤ lostN h nL cd N j then some j else some k
theorem sp_lostAt (C : NC I 43 n N) (hl : ∀ k, k < n → I 53 k = arN h nL cd N (k + 1)) (hn : n ≤ 6) (hk : k < n) : runM (d + 2) nX8_lostAt [.ref 52, .ref 43, .int (nI k)] (mm L X I J) = rI (lostN h nL cd N k) (mm L X I J) := by
  have h1 : oc3 43 := .inl rfl
  rw [e_X8_lostAt]
  (first | refine Eq.trans (q_X8_lostAt_0 (by first | assumption | rfl | exact .inl rfl | exact .inr rfl)) ?_ | refine Eq.trans (q_X8_lostAt_21) ?_ | refine Eq.trans (q_X8_lostAt_31) ?_)
  unfold lostN
  by_cases z : k = 0
  · rw [if_pos (congrArg nI z), if_pos z, NC_hope C]
    (first | refine Eq.trans (q_X8_lostAt_0 (by first | assumption | rfl | exact .inl rfl | exact .inr rfl)) ?_ | refine Eq.trans (q_X8_lostAt_21) ?_ | refine Eq.trans (q_X8_lostAt_31) ?_)
    refine (bndN_e (sp_pick ka_53 (by decide))).trans ?_
    rw [pk_n (by omega) (by decide), hl k hk]
    (first | refine Eq.trans (q_X8_lostAt_0 (by first | assumption | rfl | exact .inl rfl | exact .inr rfl)) ?_ | refine Eq.trans (q_X8_lostAt_21) ?_ | refine Eq.trans (q_X8_lostAt_31) ?_)
    rfl
  · rw [if_neg (by rw [nI_eq (by omega) (by decide)]; exact z), if_neg z]
    obtain ⟨j, rfl⟩ : ∃ j, k = j + 1 := ⟨k - 1, by omega⟩
    rw [n_sub1]
    refine (bndN_e (sp_pick ka_53 (by decide))).trans ?_
    rw [pk_n (by omega) (by decide), hl j (by omega)]
    (first | refine Eq.trans (q_X8_lostAt_0 (by first | assumption | rfl | exact .inl rfl | exact .inr rfl)) ?_ | refine Eq.trans (q_X8_lostAt_21) ?_ | refine Eq.trans (q_X8_lostAt_31) ?_)
    refine (bndN_e (sp_pick ka_53 (by decide))).trans ?_
    rw [pk_n (by omega) (by decide), hl (j + 1) hk]
    (first | refine Eq.trans (q_X8_lostAt_0 (by first | assumption | rfl | exact .inl rfl | exact .inr rfl)) ?_ | refine Eq.trans (q_X8_lostAt_21) ?_ | refine Eq.trans (q_X8_lostAt_31) ?_)
    rfl
theorem lp_worC (C : NC I 43 n N) (hl : ∀ k, k < n → I 53 k = arN h nL cd N (k + 1)) (hn : n ≤ 6) : ∀ q j b, j + q = n → (∀ i, b = some i → i < n) → c_X8_worstPlace_14 (d + 2) L X I J 43 (o2i b) (nI j) = rI (o2i (accF (worA h nL cd N) q j b)) (mm L X I J)
  | 0, j, b, hj, hb => by
    have h1 : oc3 43 := .inl rfl
    (first | refine Eq.trans (q_X8_worstPlace_0 (by first | assumption | rfl | exact .inl rfl | exact .inr rfl)) ?_ | refine Eq.trans (q_X8_worstPlace_9 (by first | assumption | rfl | exact .inl rfl | exact .inr rfl)) ?_ | refine Eq.trans (q_X8_worstPlace_14 (by first | assumption | rfl | exact .inl rfl | exact .inr rfl)) ?_ | refine Eq.trans (q_X8_worstPlace_48 (by first | assumption | rfl | exact .inl rfl | exact .inr rfl)) ?_ | refine Eq.trans (q_X8_worstPlace_39 (by first | assumption | rfl | exact .inl rfl | exact .inr rfl)) ?_ | refine Eq.trans (q_X8_worstPlace_50 (by first | assumption | rfl | exact .inl rfl | exact .inr rfl)) ?_ | refine Eq.trans (q_X8_worstPlace_45 (by first | assumption | rfl | exact .inl rfl | exact .inr rfl)) ?_)
    rw [C.1, if_pos (by (try simp (disch := omega) only [nI_leI, nI_ltI, nI_eq, nI_add, pk_mul, n_0add, Nat.zero_add, nI_clamp]) <;> omega)]
    rfl
  | q + 1, j, b, hj, hb => by
    have ih := lp_worC C hl hn q (j + 1)
    have h1 : oc3 43 := .inl rfl
    (first | refine Eq.trans (q_X8_worstPlace_0 (by first | assumption | rfl | exact .inl rfl | exact .inr rfl)) ?_ | refine Eq.trans (q_X8_worstPlace_9 (by first | assumption | rfl | exact .inl rfl | exact .inr rfl)) ?_ | refine Eq.trans (q_X8_worstPlace_14 (by first | assumption | rfl | exact .inl rfl | exact .inr rfl)) ?_ | refine Eq.trans (q_X8_worstPlace_48 (by first | assumption | rfl | exact .inl rfl | exact .inr rfl)) ?_ | refine Eq.trans (q_X8_worstPlace_39 (by first | assumption | rfl | exact .inl rfl | exact .inr rfl)) ?_ | refine Eq.trans (q_X8_worstPlace_50 (by first | assumption | rfl | exact .inl rfl | exact .inr rfl)) ?_ | refine Eq.trans (q_X8_worstPlace_45 (by first | assumption | rfl | exact .inl rfl | exact .inr rfl)) ?_)
    rw [C.1, if_neg (by (try simp (disch := omega) only [nI_leI, nI_ltI, nI_eq, nI_add, pk_mul, n_0add, Nat.zero_add, nI_clamp]) <;> omega), if_neg (by (try simp (disch := omega) only [nI_leI, nI_ltI, nI_eq, nI_add, pk_mul, n_0add, Nat.zero_add, nI_clamp]) <;> omega)]
    show _ = rI (o2i (accF (worA h nL cd N) q (j + 1) (worA h nL cd N j b))) _
    have t48 : ∀ x, runI (runM (d + 2)) iX8_worstPlace (48, [some (.ref 52), some (.ref 43), x, some (.int (nI j))], [], mm L X I J) = rI (o2i (accF (worA h nL cd N) q (j + 1) (some j))) (mm L X I J) := by
      intro x
      (first | refine Eq.trans (q_X8_worstPlace_0 (by first | assumption | rfl | exact .inl rfl | exact .inr rfl)) ?_ | refine Eq.trans (q_X8_worstPlace_9 (by first | assumption | rfl | exact .inl rfl | exact .inr rfl)) ?_ | refine Eq.trans (q_X8_worstPlace_14 (by first | assumption | rfl | exact .inl rfl | exact .inr rfl)) ?_ | refine Eq.trans (q_X8_worstPlace_48 (by first | assumption | rfl | exact .inl rfl | exact .inr rfl)) ?_ | refine Eq.trans (q_X8_worstPlace_39 (by first | assumption | rfl | exact .inl rfl | exact .inr rfl)) ?_ | refine Eq.trans (q_X8_worstPlace_50 (by first | assumption | rfl | exact .inl rfl | exact .inr rfl)) ?_ | refine Eq.trans (q_X8_worstPlace_45 (by first | assumption | rfl | exact .inl rfl | exact .inr rfl)) ?_)
      (first | refine Eq.trans (q_X8_worstPlace_0 (by first | assumption | rfl | exact .inl rfl | exact .inr rfl)) ?_ | refine Eq.trans (q_X8_worstPlace_9 (by first | assumption | rfl | exact .inl rfl | exact .inr rfl)) ?_ | refine Eq.trans (q_X8_worstPlace_14 (by first | assumption | rfl | exact .inl rfl | exact .inr rfl)) ?_ | refine Eq.trans (q_X8_worstPlace_48 (by first | assumption | rfl | exact .inl rfl | exact .inr rfl)) ?_ | refine Eq.trans (q_X8_worstPlace_39 (by first | assumption | rfl | exact .inl rfl | exact .inr rfl)) ?_ | refine Eq.trans (q_X8_worstPlace_50 (by first | assumption | rfl | exact .inl rfl | exact .inr rfl)) ?_ | refine Eq.trans (q_X8_worstPlace_45 (by first | assumption | rfl | exact .inl rfl | exact .inr rfl)) ?_)
      rw [nI_add]
      exact ih (some j) (by omega) (fun i e => by cases e; omega)
    rcases b with _ | i
    · rw [if_pos (show o2i none = -1 from rfl)]
      exact t48 _
    · have hi := hb i rfl
      rw [if_neg (show ¬ o2i (some i) = -1 from nI_m1 i (by omega))]
      refine (bnd_e (sp_lostAt (d := d) C hl hn (by omega))).trans ?_
      (first | refine Eq.trans (q_X8_worstPlace_0 (by first | assumption | rfl | exact .inl rfl | exact .inr rfl)) ?_ | refine Eq.trans (q_X8_worstPlace_9 (by first | assumption | rfl | exact .inl rfl | exact .inr rfl)) ?_ | refine Eq.trans (q_X8_worstPlace_14 (by first | assumption | rfl | exact .inl rfl | exact .inr rfl)) ?_ | refine Eq.trans (q_X8_worstPlace_48 (by first | assumption | rfl | exact .inl rfl | exact .inr rfl)) ?_ | refine Eq.trans (q_X8_worstPlace_39 (by first | assumption | rfl | exact .inl rfl | exact .inr rfl)) ?_ | refine Eq.trans (q_X8_worstPlace_50 (by first | assumption | rfl | exact .inl rfl | exact .inr rfl)) ?_ | refine Eq.trans (q_X8_worstPlace_45 (by first | assumption | rfl | exact .inl rfl | exact .inr rfl)) ?_)
      refine (bnd_e (sp_lostAt (d := d) C hl hn hi)).trans ?_
      (first | refine Eq.trans (q_X8_worstPlace_0 (by first | assumption | rfl | exact .inl rfl | exact .inr rfl)) ?_ | refine Eq.trans (q_X8_worstPlace_9 (by first | assumption | rfl | exact .inl rfl | exact .inr rfl)) ?_ | refine Eq.trans (q_X8_worstPlace_14 (by first | assumption | rfl | exact .inl rfl | exact .inr rfl)) ?_ | refine Eq.trans (q_X8_worstPlace_48 (by first | assumption | rfl | exact .inl rfl | exact .inr rfl)) ?_ | refine Eq.trans (q_X8_worstPlace_39 (by first | assumption | rfl | exact .inl rfl | exact .inr rfl)) ?_ | refine Eq.trans (q_X8_worstPlace_50 (by first | assumption | rfl | exact .inl rfl | exact .inr rfl)) ?_ | refine Eq.trans (q_X8_worstPlace_45 (by first | assumption | rfl | exact .inl rfl | exact .inr rfl)) ?_)
      have e : worA h nL cd N j (some i) = if lostN h nL cd N j ≤ lostN h nL cd N i then some i else some j := rfl
      rw [e]
      by_cases z : lostN h nL cd N j ≤ lostN h nL cd N i
      · rw [if_pos z, if_pos z]
        (first | refine Eq.trans (q_X8_worstPlace_0 (by first | assumption | rfl | exact .inl rfl | exact .inr rfl)) ?_ | refine Eq.trans (q_X8_worstPlace_9 (by first | assumption | rfl | exact .inl rfl | exact .inr rfl)) ?_ | refine Eq.trans (q_X8_worstPlace_14 (by first | assumption | rfl | exact .inl rfl | exact .inr rfl)) ?_ | refine Eq.trans (q_X8_worstPlace_48 (by first | assumption | rfl | exact .inl rfl | exact .inr rfl)) ?_ | refine Eq.trans (q_X8_worstPlace_39 (by first | assumption | rfl | exact .inl rfl | exact .inr rfl)) ?_ | refine Eq.trans (q_X8_worstPlace_50 (by first | assumption | rfl | exact .inl rfl | exact .inr rfl)) ?_ | refine Eq.trans (q_X8_worstPlace_45 (by first | assumption | rfl | exact .inl rfl | exact .inr rfl)) ?_)
        rw [nI_add]
        exact ih (some i) (by omega) hb
      · rw [if_neg z, if_neg z]
        exact t48 _
def worR (h : Hs) (nL : Nat) (cd : Cd) (n : Nat) (N : Nt) : Option Nat := accF (worA h nL cd N) n 0 none
def worV (h : Hs) (nL : Nat) (cd : Cd) (N : Nt) (b : Option Nat) : Int32 := match b with
  | none => nI 0
  | some k => lostN h nL cd N k
theorem wor_lt {n : Nat} : ∀ q j b, j + q ≤ n → (∀ i, b = some i → i < n) → ∀ i, accF (worA h nL cd N) q j b = some i → i < n
  | 0, j, b, hj, hb, i, e => hb i e
  | q + 1, j, b, hj, hb, i, e => by
    refine wor_lt q (j + 1) (worA h nL cd N j b) (by omega) ?_ i e
    intro i' e'
    rcases b with _ | k
    · cases e'
      omega
    · unfold worA at e'
      simp only at e'
      by_cases z : lostN h nL cd N j ≤ lostN h nL cd N k
      · rw [if_pos z] at e'
        cases e'
        exact hb _ rfl
      · rw [if_neg z] at e'
        cases e'
        omega
theorem c_worst (V : CS I h nL cd n N) (hw : w ≤ 1) : Rt L X (runM (d + 7) nX11_worst [.ref 0, .int (nI w)] (mm L X I J)) (some (.int (if w = 0 then o2i (worR h nL cd n N) else worV h nL cd N (worR h nL cd n N)))) (fun I' _ => Fr fQC I I') := by
  obtain ⟨ok, W, ⟨K, LC, Q⟩, C, R, Z⟩ := V
  have h1 : oc3 43 := .inl rfl
  rw [e_X11_worst]
  (first | refine rt_eq (q_X11_worst_0) ?_ | refine rt_eq (q_X11_worst_7) ?_ | refine rt_eq (q_X11_worst_10) ?_ | refine rt_eq (q_X11_worst_21) ?_ | refine rt_eq (q_X11_worst_48) ?_)
  refine rt_bne (wi_t (by (try simp (disch := omega) only [nI_leI, nI_ltI, nI_eq, nI_add, pk_mul, n_0add, Nat.zero_add, nI_clamp]) <;> omega) (by (try simp (disch := omega) only [nI_leI, nI_ltI, nI_eq, nI_add, pk_mul, n_0add, Nat.zero_add, nI_clamp]) <;> omega)) ?_
  (first | refine rt_eq (q_X11_worst_0) ?_ | refine rt_eq (q_X11_worst_7) ?_ | refine rt_eq (q_X11_worst_10) ?_ | refine rt_eq (q_X11_worst_21) ?_ | refine rt_eq (q_X11_worst_48) ?_)
  refine rt_be ex_t ?_
  (first | refine rt_eq (q_X11_worst_0) ?_ | refine rt_eq (q_X11_worst_7) ?_ | refine rt_eq (q_X11_worst_10) ?_ | refine rt_eq (q_X11_worst_21) ?_ | refine rt_eq (q_X11_worst_48) ?_)
  have wp : Rt L X (runM (d + 6) nX8_worstPlace [.ref 52, .ref 43] (mm L X I J)) (some (.int (o2i (worR h nL cd n N)))) (fun I' J' => (Fr fW I I' ∧ ∀ k, k < n → I' 53 k = arN h nL cd N (k + 1)) ∧ J' = J) := by
    rw [e_X8_worstPlace]
    (first | refine rt_eq (q_X8_worstPlace_0 (by first | assumption | rfl | exact .inl rfl | exact .inr rfl)) ?_ | refine rt_eq (q_X8_worstPlace_9 (by first | assumption | rfl | exact .inl rfl | exact .inr rfl)) ?_ | refine rt_eq (q_X8_worstPlace_14 (by first | assumption | rfl | exact .inl rfl | exact .inr rfl)) ?_ | refine rt_eq (q_X8_worstPlace_48 (by first | assumption | rfl | exact .inl rfl | exact .inr rfl)) ?_ | refine rt_eq (q_X8_worstPlace_39 (by first | assumption | rfl | exact .inl rfl | exact .inr rfl)) ?_ | refine rt_eq (q_X8_worstPlace_50 (by first | assumption | rfl | exact .inl rfl | exact .inr rfl)) ?_ | refine rt_eq (q_X8_worstPlace_45 (by first | assumption | rfl | exact .inl rfl | exact .inr rfl)) ?_)
    rw [NC_hope C]
    refine rt_bnd (sp_arrC h1 C R K ok LC W Q) ?_
    rintro I1 J1 ⟨⟨f1, f2⟩, rfl⟩
    (first | refine rt_eq (q_X8_worstPlace_0 (by first | assumption | rfl | exact .inl rfl | exact .inr rfl)) ?_ | refine rt_eq (q_X8_worstPlace_9 (by first | assumption | rfl | exact .inl rfl | exact .inr rfl)) ?_ | refine rt_eq (q_X8_worstPlace_14 (by first | assumption | rfl | exact .inl rfl | exact .inr rfl)) ?_ | refine rt_eq (q_X8_worstPlace_48 (by first | assumption | rfl | exact .inl rfl | exact .inr rfl)) ?_ | refine rt_eq (q_X8_worstPlace_39 (by first | assumption | rfl | exact .inl rfl | exact .inr rfl)) ?_ | refine rt_eq (q_X8_worstPlace_50 (by first | assumption | rfl | exact .inl rfl | exact .inr rfl)) ?_ | refine rt_eq (q_X8_worstPlace_45 (by first | assumption | rfl | exact .inl rfl | exact .inr rfl)) ?_)
    exact rt_end (lp_worC (d := d + 3) (NC_fr C (ag_of f1 (by decide))) f2 R.1.1 n 0 none (by omega) (fun i e => by cases e)) ⟨⟨f1, f2⟩, rfl⟩
  refine rt_bnd wp ?_
  rintro I1 J1 ⟨⟨f1, f2⟩, rfl⟩
  (first | refine rt_eq (q_X11_worst_0) ?_ | refine rt_eq (q_X11_worst_7) ?_ | refine rt_eq (q_X11_worst_10) ?_ | refine rt_eq (q_X11_worst_21) ?_ | refine rt_eq (q_X11_worst_48) ?_)
  have : w = 0 ∨ w = 1 := by omega
  rcases this with rfl | rfl
  · refine rt_t rfl ?_
    exact rt_v (rt_ret (fr_mono f1 fq_W)) rfl
  · refine rt_f (by decide) ?_
    have hlt := wor_lt (h := h) (nL := nL) (cd := cd) (N := N) (n := n) n 0 none (by omega) (fun i e => by cases e)
    rcases hr : worR h nL cd n N with _ | k
    · refine rt_f (by decide) ?_
      exact rt_v (rt_ret (fr_mono f1 fq_W)) rfl
    · have hk := hlt k hr
      have hn6 := R.1.1
      refine rt_t (show nI 0 ≤ nI k from (by (try simp (disch := omega) only [nI_leI, nI_ltI, nI_eq, nI_add, pk_mul, n_0add, Nat.zero_add, nI_clamp]) <;> omega)) ?_
      refine rt_be (sp_lostAt (d := d + 4) (NC_fr C (ag_of f1 (by decide))) f2 R.1.1 hk) ?_
      (first | refine rt_eq (q_X11_worst_0) ?_ | refine rt_eq (q_X11_worst_7) ?_ | refine rt_eq (q_X11_worst_10) ?_ | refine rt_eq (q_X11_worst_21) ?_ | refine rt_eq (q_X11_worst_48) ?_)
      exact rt_v (rt_ret (fr_mono f1 fq_W)) rfl
theorem lp_worM (e : I 533 = N) (R : NR (h 0 0) n N) (hl : ∀ k, k < n → I 535 k = arN h nL cd N (k + 1)) (hw : w ≤ 1) : ∀ q j b u5, j + q = n → (∀ i, b = some i → i < n) → c_X12_worst_46 (d + 1) L X I J (nI w) (o2i b) (worV h nL cd N b) (nI j) u5 = rI (if w = 0 then o2i (accF (worA h nL cd N) q j b) else worV h nL cd N (accF (worA h nL cd N) q j b)) (mm L X I J)
  | 0, j, b, u5, hj, hb => by
    have hn := R.1.1
    have R' := R
    rw [← e] at R'
    (first | refine Eq.trans (q_X12_worst_0) ?_ | refine Eq.trans (q_X12_worst_12) ?_ | refine Eq.trans (q_X12_worst_20) ?_ | refine Eq.trans (q_X12_worst_25) ?_ | refine Eq.trans (q_X12_worst_42) ?_ | refine Eq.trans (q_X12_worst_46) ?_ | refine Eq.trans (q_X12_worst_55) ?_ | refine Eq.trans (q_X12_worst_82) ?_ | refine Eq.trans (q_X12_worst_106) ?_ | refine Eq.trans (q_X12_worst_112) ?_)
    refine (bndN_e (sp_manyIn ka_533 R')).trans ?_
    (first | refine Eq.trans (q_X12_worst_0) ?_ | refine Eq.trans (q_X12_worst_12) ?_ | refine Eq.trans (q_X12_worst_20) ?_ | refine Eq.trans (q_X12_worst_25) ?_ | refine Eq.trans (q_X12_worst_42) ?_ | refine Eq.trans (q_X12_worst_46) ?_ | refine Eq.trans (q_X12_worst_55) ?_ | refine Eq.trans (q_X12_worst_82) ?_ | refine Eq.trans (q_X12_worst_106) ?_ | refine Eq.trans (q_X12_worst_112) ?_)
    rw [if_pos (by (try simp (disch := omega) only [nI_leI, nI_ltI, nI_eq, nI_add, pk_mul, n_0add, Nat.zero_add, nI_clamp]) <;> omega)]
    by_cases z : w = 0
    · rw [if_pos (congrArg nI z), if_pos z]
      rfl
    · rw [if_neg (by rw [nI_eq (by omega) (by decide)]; exact z), if_neg z]
      rfl
  | q + 1, j, b, u5, hj, hb => by
    have ih := lp_worM e R hl hw q (j + 1)
    have hn := R.1.1
    have R' := R
    rw [← e] at R'
    show _ = rI (if w = 0 then o2i (accF (worA h nL cd N) q (j + 1) (worA h nL cd N j b)) else worV h nL cd N (accF (worA h nL cd N) q (j + 1) (worA h nL cd N j b))) _
    have tail : runI (runM (d + 1)) iX12_worst (82, [some (.ref 72), some (.int (nI w)), some (.int (o2i b)), some (.int (worV h nL cd N b)), some (.int (nI j)), u5], [.int (if j = 0 then N 29 else arN h nL cd N j)], mm L X I J) = rI (if w = 0 then o2i (accF (worA h nL cd N) q (j + 1) (worA h nL cd N j b)) else worV h nL cd N (accF (worA h nL cd N) q (j + 1) (worA h nL cd N j b))) (mm L X I J) := by
      (first | refine Eq.trans (q_X12_worst_0) ?_ | refine Eq.trans (q_X12_worst_12) ?_ | refine Eq.trans (q_X12_worst_20) ?_ | refine Eq.trans (q_X12_worst_25) ?_ | refine Eq.trans (q_X12_worst_42) ?_ | refine Eq.trans (q_X12_worst_46) ?_ | refine Eq.trans (q_X12_worst_55) ?_ | refine Eq.trans (q_X12_worst_82) ?_ | refine Eq.trans (q_X12_worst_106) ?_ | refine Eq.trans (q_X12_worst_112) ?_)
      rw [gd_t (inb_n (by omega) (by decide)), nI_clamp (by omega), hl j (by omega)]
      show (if _ then runI (runM (d + 1)) iX12_worst (106, [_, _, _, _, _, some (.int (lostN h nL cd N j))], [], _) else if _ < lostN h nL cd N j then runI (runM (d + 1)) iX12_worst (106, [_, _, _, _, _, some (.int (lostN h nL cd N j))], [], _) else runI (runM (d + 1)) iX12_worst (112, [_, _, _, _, _, some (.int (lostN h nL cd N j))], [], _)) = _
      have t106 : ∀ u2 u3, runI (runM (d + 1)) iX12_worst (106, [some (.ref 72), some (.int (nI w)), u2, u3, some (.int (nI j)), some (.int (lostN h nL cd N j))], [], mm L X I J) = rI (if w = 0 then o2i (accF (worA h nL cd N) q (j + 1) (some j)) else worV h nL cd N (accF (worA h nL cd N) q (j + 1) (some j))) (mm L X I J) := by
        intro u2 u3
        (first | refine Eq.trans (q_X12_worst_0) ?_ | refine Eq.trans (q_X12_worst_12) ?_ | refine Eq.trans (q_X12_worst_20) ?_ | refine Eq.trans (q_X12_worst_25) ?_ | refine Eq.trans (q_X12_worst_42) ?_ | refine Eq.trans (q_X12_worst_46) ?_ | refine Eq.trans (q_X12_worst_55) ?_ | refine Eq.trans (q_X12_worst_82) ?_ | refine Eq.trans (q_X12_worst_106) ?_ | refine Eq.trans (q_X12_worst_112) ?_)
        (first | refine Eq.trans (q_X12_worst_0) ?_ | refine Eq.trans (q_X12_worst_12) ?_ | refine Eq.trans (q_X12_worst_20) ?_ | refine Eq.trans (q_X12_worst_25) ?_ | refine Eq.trans (q_X12_worst_42) ?_ | refine Eq.trans (q_X12_worst_46) ?_ | refine Eq.trans (q_X12_worst_55) ?_ | refine Eq.trans (q_X12_worst_82) ?_ | refine Eq.trans (q_X12_worst_106) ?_ | refine Eq.trans (q_X12_worst_112) ?_)
        rw [nI_add]
        exact ih (some j) _ (by omega) (fun i e => by cases e; omega)
      rcases b with _ | i
      · rw [if_pos (show o2i none = -1 from rfl)]
        exact t106 _ _
      · have hi := hb i rfl
        rw [if_neg (show ¬ o2i (some i) = -1 from nI_m1 i (by omega))]
        have ew : worA h nL cd N j (some i) = if lostN h nL cd N j ≤ lostN h nL cd N i then some i else some j := rfl
        rw [ew]
        by_cases z : lostN h nL cd N j ≤ lostN h nL cd N i
        · rw [if_neg (show ¬ worV h nL cd N (some i) < lostN h nL cd N j from Int32.not_lt.mpr z), if_pos z]
          (first | refine Eq.trans (q_X12_worst_0) ?_ | refine Eq.trans (q_X12_worst_12) ?_ | refine Eq.trans (q_X12_worst_20) ?_ | refine Eq.trans (q_X12_worst_25) ?_ | refine Eq.trans (q_X12_worst_42) ?_ | refine Eq.trans (q_X12_worst_46) ?_ | refine Eq.trans (q_X12_worst_55) ?_ | refine Eq.trans (q_X12_worst_82) ?_ | refine Eq.trans (q_X12_worst_106) ?_ | refine Eq.trans (q_X12_worst_112) ?_)
          rw [nI_add]
          exact ih (some i) _ (by omega) hb
        · rw [if_pos (show worV h nL cd N (some i) < lostN h nL cd N j from Int32.not_le.mp z), if_neg z]
          exact t106 _ _
    (first | refine Eq.trans (q_X12_worst_0) ?_ | refine Eq.trans (q_X12_worst_12) ?_ | refine Eq.trans (q_X12_worst_20) ?_ | refine Eq.trans (q_X12_worst_25) ?_ | refine Eq.trans (q_X12_worst_42) ?_ | refine Eq.trans (q_X12_worst_46) ?_ | refine Eq.trans (q_X12_worst_55) ?_ | refine Eq.trans (q_X12_worst_82) ?_ | refine Eq.trans (q_X12_worst_106) ?_ | refine Eq.trans (q_X12_worst_112) ?_)
    refine (bndN_e (sp_manyIn ka_533 R')).trans ?_
    (first | refine Eq.trans (q_X12_worst_0) ?_ | refine Eq.trans (q_X12_worst_12) ?_ | refine Eq.trans (q_X12_worst_20) ?_ | refine Eq.trans (q_X12_worst_25) ?_ | refine Eq.trans (q_X12_worst_42) ?_ | refine Eq.trans (q_X12_worst_46) ?_ | refine Eq.trans (q_X12_worst_55) ?_ | refine Eq.trans (q_X12_worst_82) ?_ | refine Eq.trans (q_X12_worst_106) ?_ | refine Eq.trans (q_X12_worst_112) ?_)
    rw [if_neg (by (try simp (disch := omega) only [nI_leI, nI_ltI, nI_eq, nI_add, pk_mul, n_0add, Nat.zero_add, nI_clamp]) <;> omega)]
    by_cases z : j = 0
    · rw [if_pos (congrArg nI z), e]
      rw [if_pos z] at tail
      exact tail
    · rw [if_neg (by rw [nI_eq (by omega) (by decide)]; exact z)]
      rw [if_neg z] at tail
      obtain ⟨i, rfl⟩ : ∃ i, j = i + 1 := ⟨j - 1, by omega⟩
      rw [n_sub1, gd_t (inb_n (by omega) (by decide)), nI_clamp (by omega), hl i (by omega)]
      exact tail
theorem m_worst (V : MS I h nL cd n N) (hw : w ≤ 1) : Rt L X (runM (d + 9) nX12_worst [.ref 72, .int (nI w)] (mm L X I J)) (some (.int (if w = 0 then o2i (worR h nL cd n N) else worV h nL cd N (worR h nL cd n N)))) (fun I' J' => (Fr fQM I I' ∧ I' 72 0 = nI 0) ∧ J' = J) := by
  rw [e_X12_worst]
  (first | refine rt_eq (q_X12_worst_0) ?_ | refine rt_eq (q_X12_worst_12) ?_ | refine rt_eq (q_X12_worst_20) ?_ | refine rt_eq (q_X12_worst_25) ?_ | refine rt_eq (q_X12_worst_42) ?_ | refine rt_eq (q_X12_worst_46) ?_ | refine rt_eq (q_X12_worst_55) ?_ | refine rt_eq (q_X12_worst_82) ?_ | refine rt_eq (q_X12_worst_106) ?_ | refine rt_eq (q_X12_worst_112) ?_)
  have V0 := MS0 V; generalize hI0 : up2 I 72 0 (nI 0) = I0 at V0 ⊢; have f0 : Fr fQM I I0 := by rw [← hI0]; exact fr_up fr_rfl rfl
  have t0 : I0 72 0 = nI 0 := by rw [← hI0, up2_s]
  clear hI0
  obtain ⟨ok, W, S, e, R, Z⟩ := V0
  refine rt_bne (in_t (by (try simp (disch := omega) only [nI_leI, nI_ltI, nI_eq, nI_add, pk_mul, n_0add, Nat.zero_add, nI_clamp]) <;> omega) (by (try simp (disch := omega) only [nI_leI, nI_ltI, nI_eq, nI_add, pk_mul, n_0add, Nat.zero_add, nI_clamp]) <;> omega)) ?_
  (first | refine rt_eq (q_X12_worst_0) ?_ | refine rt_eq (q_X12_worst_12) ?_ | refine rt_eq (q_X12_worst_20) ?_ | refine rt_eq (q_X12_worst_25) ?_ | refine rt_eq (q_X12_worst_42) ?_ | refine rt_eq (q_X12_worst_46) ?_ | refine rt_eq (q_X12_worst_55) ?_ | refine rt_eq (q_X12_worst_82) ?_ | refine rt_eq (q_X12_worst_106) ?_ | refine rt_eq (q_X12_worst_112) ?_)
  repeat (first | refine rt_t (by decide) ?_ | refine rt_f (by decide) ?_)
  (first | refine rt_eq (q_X12_worst_0) ?_ | refine rt_eq (q_X12_worst_12) ?_ | refine rt_eq (q_X12_worst_20) ?_ | refine rt_eq (q_X12_worst_25) ?_ | refine rt_eq (q_X12_worst_42) ?_ | refine rt_eq (q_X12_worst_46) ?_ | refine rt_eq (q_X12_worst_55) ?_ | refine rt_eq (q_X12_worst_82) ?_ | refine rt_eq (q_X12_worst_106) ?_ | refine rt_eq (q_X12_worst_112) ?_)
  refine rt_be (bad_f t0) ?_
  (first | refine rt_eq (q_X12_worst_0) ?_ | refine rt_eq (q_X12_worst_12) ?_ | refine rt_eq (q_X12_worst_20) ?_ | refine rt_eq (q_X12_worst_25) ?_ | refine rt_eq (q_X12_worst_42) ?_ | refine rt_eq (q_X12_worst_46) ?_ | refine rt_eq (q_X12_worst_55) ?_ | refine rt_eq (q_X12_worst_82) ?_ | refine rt_eq (q_X12_worst_106) ?_ | refine rt_eq (q_X12_worst_112) ?_)
  repeat (first | refine rt_t (by decide) ?_ | refine rt_f (by decide) ?_)
  have R' := R
  rw [← e] at R'
  refine rt_bnd (sp_arrives (.inl rfl) S.1 ok R' S.2 W) ?_
  rintro I1 J1 ⟨⟨f1, f2⟩, rfl⟩
  rw [e] at f2
  (first | refine rt_eq (q_X12_worst_0) ?_ | refine rt_eq (q_X12_worst_12) ?_ | refine rt_eq (q_X12_worst_20) ?_ | refine rt_eq (q_X12_worst_25) ?_ | refine rt_eq (q_X12_worst_42) ?_ | refine rt_eq (q_X12_worst_46) ?_ | refine rt_eq (q_X12_worst_55) ?_ | refine rt_eq (q_X12_worst_82) ?_ | refine rt_eq (q_X12_worst_106) ?_ | refine rt_eq (q_X12_worst_112) ?_)
  exact rt_end (lp_worM (d := d + 7) ((funext fun i => f1 533 i rfl).trans e) R f2 hw n 0 none _ (by omega) (fun i e => by cases e)) ⟨⟨fr_tr f0 (fr_mono f1 fm_W), (f1 72 0 rfl).trans t0⟩, rfl⟩
theorem x_worst (hx : ¬ ∃ p, p ≤ 1 ∧ x = nI p) : runM (d + 2) nX11_worst [.ref 0, .int x] (mm L X I J) = some (.inr 1, mm L (X + 1) (ex1 I) J) := by
  rw [e_X11_worst]
  (first | refine Eq.trans (q_X11_worst_0) ?_ | refine Eq.trans (q_X11_worst_7) ?_ | refine Eq.trans (q_X11_worst_10) ?_ | refine Eq.trans (q_X11_worst_21) ?_ | refine Eq.trans (q_X11_worst_48) ?_)
  refine (bndN_e (wi_f (fun q => hx ((in_M (by decide)).mp q)))).trans ?_
  (first | refine Eq.trans (q_X11_worst_0) ?_ | refine Eq.trans (q_X11_worst_7) ?_ | refine Eq.trans (q_X11_worst_10) ?_ | refine Eq.trans (q_X11_worst_21) ?_ | refine Eq.trans (q_X11_worst_48) ?_)
  exact bnd_x ex_f
theorem b_worst (hx : ¬ ∃ p, p ≤ 1 ∧ x = nI p) : runM (d + 2) nX12_worst [.ref 72, .int x] (mm L X I J) = rI (nI 0) (mm L X (bdM I 1 1) J) := by
  rw [e_X12_worst]
  (first | refine Eq.trans (q_X12_worst_0) ?_ | refine Eq.trans (q_X12_worst_12) ?_ | refine Eq.trans (q_X12_worst_20) ?_ | refine Eq.trans (q_X12_worst_25) ?_ | refine Eq.trans (q_X12_worst_42) ?_ | refine Eq.trans (q_X12_worst_46) ?_ | refine Eq.trans (q_X12_worst_55) ?_ | refine Eq.trans (q_X12_worst_82) ?_ | refine Eq.trans (q_X12_worst_106) ?_ | refine Eq.trans (q_X12_worst_112) ?_)
  refine (bndN_e (in_f (fun q => hx ((in_M (by decide)).mp q)))).trans ?_
  (first | refine Eq.trans (q_X12_worst_0) ?_ | refine Eq.trans (q_X12_worst_12) ?_ | refine Eq.trans (q_X12_worst_20) ?_ | refine Eq.trans (q_X12_worst_25) ?_ | refine Eq.trans (q_X12_worst_42) ?_ | refine Eq.trans (q_X12_worst_46) ?_ | refine Eq.trans (q_X12_worst_55) ?_ | refine Eq.trans (q_X12_worst_82) ?_ | refine Eq.trans (q_X12_worst_106) ?_ | refine Eq.trans (q_X12_worst_112) ?_)
  rw [if_pos rfl]
  (first | refine Eq.trans (q_X12_worst_0) ?_ | refine Eq.trans (q_X12_worst_12) ?_ | refine Eq.trans (q_X12_worst_20) ?_ | refine Eq.trans (q_X12_worst_25) ?_ | refine Eq.trans (q_X12_worst_42) ?_ | refine Eq.trans (q_X12_worst_46) ?_ | refine Eq.trans (q_X12_worst_55) ?_ | refine Eq.trans (q_X12_worst_82) ?_ | refine Eq.trans (q_X12_worst_106) ?_ | refine Eq.trans (q_X12_worst_112) ?_)
  refine (bnd_e (bad_t (by decide) (by decide) (by decide))).trans ?_
  (first | refine Eq.trans (q_X12_worst_0) ?_ | refine Eq.trans (q_X12_worst_12) ?_ | refine Eq.trans (q_X12_worst_20) ?_ | refine Eq.trans (q_X12_worst_25) ?_ | refine Eq.trans (q_X12_worst_42) ?_ | refine Eq.trans (q_X12_worst_46) ?_ | refine Eq.trans (q_X12_worst_55) ?_ | refine Eq.trans (q_X12_worst_82) ?_ | refine Eq.trans (q_X12_worst_106) ?_ | refine Eq.trans (q_X12_worst_112) ?_)
  rw [if_neg (by decide)]
/-! kin -/
theorem c_kin {t : Nat} (V : CS I h nL cd n N) (ht : t ≤ 9) : Rt L X (runM (d + 4) nX11_kin [.ref 0, .int (nI t)] (mm L X I J)) (some (.int (nI (bitsN (jn h (h 0 1) t) 10)))) (fun I' _ => Fr fQC I I') := by
  obtain ⟨ok, W, ⟨K, LC, Q⟩, C, R, Z⟩ := V
  rw [e_X11_kin]
  (first | refine rt_eq (q_X11_kin_0) ?_ | refine rt_eq (q_X11_kin_5) ?_ | refine rt_eq (q_X11_kin_16) ?_)
  refine rt_be (xt_t ht) ?_
  (first | refine rt_eq (q_X11_kin_0) ?_ | refine rt_eq (q_X11_kin_5) ?_ | refine rt_eq (q_X11_kin_16) ?_)
  refine rt_bne (sp_pick ka_12 (by decide)) ?_
  (first | refine rt_eq (q_X11_kin_0) ?_ | refine rt_eq (q_X11_kin_5) ?_ | refine rt_eq (q_X11_kin_16) ?_)
  exact rt_v (rt_ret fr_rfl) (by rw [pk_n (by omega) (by decide)]; exact K.2.2.2.2.2.2 t (by omega))
theorem lp_kinM {t : Nat} (H : HM I h (h 0 1)) (ht : t ≤ 9) : ∀ q j b, j + q = 10 → c_X12_kin_32 (d + 1) L X I J (nI t) (nI b) (nI j) = rI (nI (accF (bitA (jn h (h 0 1) t)) q j b)) (mm L X I J)
  | 0, j, b, hj => by
    (first | refine Eq.trans (q_X12_kin_0) ?_ | refine Eq.trans (q_X12_kin_10) ?_ | refine Eq.trans (q_X12_kin_18) ?_ | refine Eq.trans (q_X12_kin_23) ?_ | refine Eq.trans (q_X12_kin_32) ?_ | refine Eq.trans (q_X12_kin_45) ?_ | refine Eq.trans (q_X12_kin_55) ?_)
    rw [if_pos (by (try simp (disch := omega) only [nI_leI, nI_ltI, nI_eq, nI_add, pk_mul, n_0add, Nat.zero_add, nI_clamp]) <;> omega)]
    rfl
  | q + 1, j, b, hj => by
    have ih := lp_kinM H ht q (j + 1)
    (first | refine Eq.trans (q_X12_kin_0) ?_ | refine Eq.trans (q_X12_kin_10) ?_ | refine Eq.trans (q_X12_kin_18) ?_ | refine Eq.trans (q_X12_kin_23) ?_ | refine Eq.trans (q_X12_kin_32) ?_ | refine Eq.trans (q_X12_kin_45) ?_ | refine Eq.trans (q_X12_kin_55) ?_)
    rw [if_neg (by (try simp (disch := omega) only [nI_leI, nI_ltI, nI_eq, nI_add, pk_mul, n_0add, Nat.zero_add, nI_clamp]) <;> omega)]
    refine (bnd_e (sp_isJoined H (by omega) (by omega))).trans ?_
    (first | refine Eq.trans (q_X12_kin_0) ?_ | refine Eq.trans (q_X12_kin_10) ?_ | refine Eq.trans (q_X12_kin_18) ?_ | refine Eq.trans (q_X12_kin_23) ?_ | refine Eq.trans (q_X12_kin_32) ?_ | refine Eq.trans (q_X12_kin_45) ?_ | refine Eq.trans (q_X12_kin_55) ?_)
    show _ = rI (nI (accF (bitA (jn h (h 0 1) t)) q (j + 1) (bitA (jn h (h 0 1) t) j b))) _
    by_cases z : jn h (h 0 1) t j = true
    · rw [z, if_neg (by decide)]
      (first | refine Eq.trans (q_X12_kin_0) ?_ | refine Eq.trans (q_X12_kin_10) ?_ | refine Eq.trans (q_X12_kin_18) ?_ | refine Eq.trans (q_X12_kin_23) ?_ | refine Eq.trans (q_X12_kin_32) ?_ | refine Eq.trans (q_X12_kin_45) ?_ | refine Eq.trans (q_X12_kin_55) ?_)
      rw [nI_add, n_pow (by omega), n_or]
      have e : bitA (jn h (h 0 1) t) j b = b ||| 2 ^ j := if_pos z
      rw [e]
      exact ih _ (by omega)
    · rw [Bool.not_eq_true] at z
      rw [z, if_pos bI_f]
      (first | refine Eq.trans (q_X12_kin_0) ?_ | refine Eq.trans (q_X12_kin_10) ?_ | refine Eq.trans (q_X12_kin_18) ?_ | refine Eq.trans (q_X12_kin_23) ?_ | refine Eq.trans (q_X12_kin_32) ?_ | refine Eq.trans (q_X12_kin_45) ?_ | refine Eq.trans (q_X12_kin_55) ?_)
      rw [nI_add, n_or, Nat.or_zero]
      have e : bitA (jn h (h 0 1) t) j b = b := if_neg (by rw [z]; decide)
      rw [e]
      exact ih _ (by omega)
theorem m_kin {t : Nat} (V : MS I h nL cd n N) (ht : t ≤ 9) : Rt L X (runM (d + 4) nX12_kin [.ref 72, .int (nI t)] (mm L X I J)) (some (.int (nI (bitsN (jn h (h 0 1) t) 10)))) (fun I' J' => (Fr fQM I I' ∧ I' 72 0 = nI 0) ∧ J' = J) := by
  rw [e_X12_kin]
  (first | refine rt_eq (q_X12_kin_0) ?_ | refine rt_eq (q_X12_kin_10) ?_ | refine rt_eq (q_X12_kin_18) ?_ | refine rt_eq (q_X12_kin_23) ?_ | refine rt_eq (q_X12_kin_32) ?_ | refine rt_eq (q_X12_kin_45) ?_ | refine rt_eq (q_X12_kin_55) ?_)
  have V0 := MS0 V; generalize hI0 : up2 I 72 0 (nI 0) = I0 at V0 ⊢; have f0 : Fr fQM I I0 := by rw [← hI0]; exact fr_up fr_rfl rfl
  have t0 : I0 72 0 = nI 0 := by rw [← hI0, up2_s]
  clear hI0
  obtain ⟨ok, W, S, e, R, Z⟩ := V0
  refine rt_bne (it_t ht) ?_
  (first | refine rt_eq (q_X12_kin_0) ?_ | refine rt_eq (q_X12_kin_10) ?_ | refine rt_eq (q_X12_kin_18) ?_ | refine rt_eq (q_X12_kin_23) ?_ | refine rt_eq (q_X12_kin_32) ?_ | refine rt_eq (q_X12_kin_45) ?_ | refine rt_eq (q_X12_kin_55) ?_)
  repeat (first | refine rt_t (by decide) ?_ | refine rt_f (by decide) ?_)
  (first | refine rt_eq (q_X12_kin_0) ?_ | refine rt_eq (q_X12_kin_10) ?_ | refine rt_eq (q_X12_kin_18) ?_ | refine rt_eq (q_X12_kin_23) ?_ | refine rt_eq (q_X12_kin_32) ?_ | refine rt_eq (q_X12_kin_45) ?_ | refine rt_eq (q_X12_kin_55) ?_)
  refine rt_be (bad_f t0) ?_
  (first | refine rt_eq (q_X12_kin_0) ?_ | refine rt_eq (q_X12_kin_10) ?_ | refine rt_eq (q_X12_kin_18) ?_ | refine rt_eq (q_X12_kin_23) ?_ | refine rt_eq (q_X12_kin_32) ?_ | refine rt_eq (q_X12_kin_45) ?_ | refine rt_eq (q_X12_kin_55) ?_)
  repeat (first | refine rt_t (by decide) ?_ | refine rt_f (by decide) ?_)
  exact rt_end (lp_kinM S.1 ht 10 0 0 (by omega)) ⟨⟨f0, t0⟩, rfl⟩
theorem x_kin (hx : ¬ ∃ p, p ≤ 9 ∧ x = nI p) : runM (d + 3) nX11_kin [.ref 0, .int x] (mm L X I J) = some (.inr 1, mm L (X + 1) (ex1 I) J) := by
  rw [e_X11_kin]
  (first | refine Eq.trans (q_X11_kin_0) ?_ | refine Eq.trans (q_X11_kin_5) ?_ | refine Eq.trans (q_X11_kin_16) ?_)
  exact bnd_x (xt_f hx)
theorem b_kin (hx : ¬ ∃ p, p ≤ 9 ∧ x = nI p) : runM (d + 3) nX12_kin [.ref 72, .int x] (mm L X I J) = rI (nI 0) (mm L X (bdM I 1 1) J) := by
  rw [e_X12_kin]
  (first | refine Eq.trans (q_X12_kin_0) ?_ | refine Eq.trans (q_X12_kin_10) ?_ | refine Eq.trans (q_X12_kin_18) ?_ | refine Eq.trans (q_X12_kin_23) ?_ | refine Eq.trans (q_X12_kin_32) ?_ | refine Eq.trans (q_X12_kin_45) ?_ | refine Eq.trans (q_X12_kin_55) ?_)
  refine (bndN_e (it_f hx)).trans ?_
  (first | refine Eq.trans (q_X12_kin_0) ?_ | refine Eq.trans (q_X12_kin_10) ?_ | refine Eq.trans (q_X12_kin_18) ?_ | refine Eq.trans (q_X12_kin_23) ?_ | refine Eq.trans (q_X12_kin_32) ?_ | refine Eq.trans (q_X12_kin_45) ?_ | refine Eq.trans (q_X12_kin_55) ?_)
  rw [if_pos rfl]
  (first | refine Eq.trans (q_X12_kin_0) ?_ | refine Eq.trans (q_X12_kin_10) ?_ | refine Eq.trans (q_X12_kin_18) ?_ | refine Eq.trans (q_X12_kin_23) ?_ | refine Eq.trans (q_X12_kin_32) ?_ | refine Eq.trans (q_X12_kin_45) ?_ | refine Eq.trans (q_X12_kin_55) ?_)
  refine (bnd_e (bad_t (by decide) (by decide) (by decide))).trans ?_
  (first | refine Eq.trans (q_X12_kin_0) ?_ | refine Eq.trans (q_X12_kin_10) ?_ | refine Eq.trans (q_X12_kin_18) ?_ | refine Eq.trans (q_X12_kin_23) ?_ | refine Eq.trans (q_X12_kin_32) ?_ | refine Eq.trans (q_X12_kin_45) ?_ | refine Eq.trans (q_X12_kin_55) ?_)
  rw [if_neg (by decide)]
end AC
