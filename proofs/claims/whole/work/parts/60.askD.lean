/-! ASKED: needed, share -/
section AD
variable {d L X : Nat} {I : MI32} {J : MI64} {x x1 x2 x3 : Int32} {p f w k : Nat} {h : Hs} {nL n : Nat} {cd : Cd} {N : Nt}
/-! needed -/
def flH (h : Hs) (nL : Nat) (cd : Cd) (n : Nat) (N : Nt) (x : Int32) : Int32 := flN h nL cd N x (bdN N) (bsN N) noL n
theorem arN_hope {N' : Nt} {x : Int32} {np : Nat} (R : NR np n N) (e : ∀ i, i < 24 → N' i = N i) (e29 : N' 29 = x) : arN h nL cd N' n = flH h nL cd n N x := by
  unfold arN flH
  rw [e29]
  obtain ⟨⟨a1, a2⟩, h2, -, -, -⟩ := R
  refine flN_congr n (fun k hk => ?_)
  have q := (h2 k hk).2
  have ek : N' k = N k := e k (by omega)
  unfold bdN bsN
  rw [ek]
  exact ⟨rfl, e _ (by omega), e _ (by omega), e _ (by omega), fun _ => rfl⟩
def needP (h : Hs) (nL : Nat) (cd : Cd) (n : Nat) (N : Nt) (f hp : Nat) : Bool := decide (h 7 f ≤ lenN h N n) && decide (nI (h 8 f) ≤ flH h nL cd n N (nI hp))
theorem lp_needC (V : CS I h nL cd n N) (hf : f < h 0 2) (hl : h 7 f ≤ lenN h N n) : ∀ q j I', j + q = 100 → Fr fW I I' → Rt L X (c_X11_needed_34 (d + 4) L X I' J (nI f) (nI j)) (some (.int (o2i (fndF (needP h nL cd n N f) q j)))) (fun I'' _ => Fr fW I I'')
  | 0, j, I', hj, hfr => by
    have e : j = 100 := by omega
    subst e
    (first | refine rt_eq (q_X11_needed_0) ?_ | refine rt_eq (q_X11_needed_5) ?_ | refine rt_eq (q_X11_needed_16) ?_ | refine rt_eq (q_X11_needed_27) ?_ | refine rt_eq (q_X11_needed_34) ?_ | refine rt_eq (q_X11_needed_52) ?_ | refine rt_eq (q_X11_needed_63) ?_)
    refine rt_t (by decide) ?_
    exact rt_ret hfr
  | q + 1, j, I', hj, hfr => by
    have ih := lp_needC V hf hl q (j + 1)
    have V' := CS_fr V hfr (by decide) (by decide) (by decide) (by decide)
    obtain ⟨ok, W, ⟨K, LC, Q⟩, C, R, Z⟩ := V'
    have h5 := ok.2.2.1
    (first | refine rt_eq (q_X11_needed_0) ?_ | refine rt_eq (q_X11_needed_5) ?_ | refine rt_eq (q_X11_needed_16) ?_ | refine rt_eq (q_X11_needed_27) ?_ | refine rt_eq (q_X11_needed_34) ?_ | refine rt_eq (q_X11_needed_52) ?_ | refine rt_eq (q_X11_needed_63) ?_)
    refine rt_f (by (try simp (disch := omega) only [nI_leI, nI_ltI, nI_eq, nI_add, pk_mul, n_0add, Nat.zero_add, nI_clamp]) <;> omega) ?_
    refine rt_bnd (sp_arrC (.inl rfl) C R K ok LC W Q) ?_
    rintro I2 J2 ⟨⟨f2, -⟩, rfl⟩
    (first | refine rt_eq (q_X11_needed_0) ?_ | refine rt_eq (q_X11_needed_5) ?_ | refine rt_eq (q_X11_needed_16) ?_ | refine rt_eq (q_X11_needed_27) ?_ | refine rt_eq (q_X11_needed_34) ?_ | refine rt_eq (q_X11_needed_52) ?_ | refine rt_eq (q_X11_needed_63) ?_)
    refine rt_bne (sp_pick ka_11 (by decide)) ?_
    have K2 := HC_fr K (ag_of f2 (by decide))
    rw [pk_n (by omega) (by decide), (K2.2.2.2.2.2.1 f hf).2]
    (first | refine rt_eq (q_X11_needed_0) ?_ | refine rt_eq (q_X11_needed_5) ?_ | refine rt_eq (q_X11_needed_16) ?_ | refine rt_eq (q_X11_needed_27) ?_ | refine rt_eq (q_X11_needed_34) ?_ | refine rt_eq (q_X11_needed_52) ?_ | refine rt_eq (q_X11_needed_63) ?_)
    show Rt L X (if flH h nL cd n N (nI j) < nI (h 8 f) then _ else _) _ _
    unfold fndF
    have fr2 : Fr fW I I2 := fr_tr hfr f2
    by_cases z : flH h nL cd n N (nI j) < nI (h 8 f)
    · refine rt_t z ?_
      have hp : needP h nL cd n N f j = false := by
        unfold needP
        rw [decide_eq_false (fun q => absurd z (Int32.not_lt.mpr q)), Bool.and_false]
      rw [if_neg (by rw [hp]; decide), nI_add]
      exact ih I2 (by omega) fr2
    · refine rt_f z ?_
      have hp : needP h nL cd n N f j = true := by
        unfold needP
        rw [decide_eq_true (Int32.not_lt.mp z), decide_eq_true hl]
        rfl
      rw [if_pos hp]
      exact rt_ret fr2
theorem c_needed (V : CS I h nL cd n N) (hf : f < h 0 2) : Rt L X (runM (d + 5) nX11_needed [.ref 0, .int (nI f)] (mm L X I J)) (some (.int (o2i (fndF (needP h nL cd n N f) 100 0)))) (fun I' _ => Fr fQC I I') := by
  have V' := V
  obtain ⟨ok, W, ⟨K, LC, Q⟩, C, R, Z⟩ := V'
  have h5 := ok.2.2.1
  have hle := lenN_lt ok R
  have b := ok.2.2.2.2 f hf
  rw [e_X11_needed]
  (first | refine rt_eq (q_X11_needed_0) ?_ | refine rt_eq (q_X11_needed_5) ?_ | refine rt_eq (q_X11_needed_16) ?_ | refine rt_eq (q_X11_needed_27) ?_ | refine rt_eq (q_X11_needed_34) ?_ | refine rt_eq (q_X11_needed_52) ?_ | refine rt_eq (q_X11_needed_63) ?_)
  refine rt_be (xf_t K.2.2.1 (by omega) hf) ?_
  (first | refine rt_eq (q_X11_needed_0) ?_ | refine rt_eq (q_X11_needed_5) ?_ | refine rt_eq (q_X11_needed_16) ?_ | refine rt_eq (q_X11_needed_27) ?_ | refine rt_eq (q_X11_needed_34) ?_ | refine rt_eq (q_X11_needed_52) ?_ | refine rt_eq (q_X11_needed_63) ?_)
  refine rt_be (sp_longNow (.inl rfl) C R K ok) ?_
  (first | refine rt_eq (q_X11_needed_0) ?_ | refine rt_eq (q_X11_needed_5) ?_ | refine rt_eq (q_X11_needed_16) ?_ | refine rt_eq (q_X11_needed_27) ?_ | refine rt_eq (q_X11_needed_34) ?_ | refine rt_eq (q_X11_needed_52) ?_ | refine rt_eq (q_X11_needed_63) ?_)
  refine rt_bne (sp_pick ka_10 (by decide)) ?_
  rw [pk_n (by omega) (by decide), (K.2.2.2.2.2.1 f hf).1]
  (first | refine rt_eq (q_X11_needed_0) ?_ | refine rt_eq (q_X11_needed_5) ?_ | refine rt_eq (q_X11_needed_16) ?_ | refine rt_eq (q_X11_needed_27) ?_ | refine rt_eq (q_X11_needed_34) ?_ | refine rt_eq (q_X11_needed_52) ?_ | refine rt_eq (q_X11_needed_63) ?_)
  by_cases z : h 7 f ≤ lenN h N n
  · refine rt_t (by (try simp (disch := omega) only [nI_leI, nI_ltI, nI_eq, nI_add, pk_mul, n_0add, Nat.zero_add, nI_clamp]) <;> omega) ?_
    exact rt_mono (lp_needC V hf z 100 0 I (by omega) fr_rfl) (fun I' J' f1 => fr_mono f1 fq_W)
  · refine rt_f (by (try simp (disch := omega) only [nI_leI, nI_ltI, nI_eq, nI_add, pk_mul, n_0add, Nat.zero_add, nI_clamp]) <;> omega) ?_
    rw [fndF_none 100 0 (fun k _ _ => by unfold needP; rw [decide_eq_false z, Bool.false_and])]
    exact rt_ret fr_rfl
theorem x_needed (K : I 3 2 = nI (h 0 2)) (ok : HOK h) (hx : ¬ ∃ p, p < h 0 2 ∧ x1 = nI p) : runM (d + 3) nX11_needed [.ref 0, .int x1] (mm L X I J) = some (.inr 0, mm L (X + 1) (ex0 I) J) := by
  have h4 := ok.2.2.1
  rw [e_X11_needed]
  (first | refine Eq.trans (q_X11_needed_0) ?_ | refine Eq.trans (q_X11_needed_5) ?_ | refine Eq.trans (q_X11_needed_16) ?_ | refine Eq.trans (q_X11_needed_27) ?_ | refine Eq.trans (q_X11_needed_34) ?_ | refine Eq.trans (q_X11_needed_52) ?_ | refine Eq.trans (q_X11_needed_63) ?_)
  exact bnd_x (xf_f K (by omega) hx)
theorem b_needed (K : I 76 2 = nI (h 0 2)) (ok : HOK h) (hx : ¬ ∃ p, p < h 0 2 ∧ x1 = nI p) : runM (d + 3) nX12_needed [.ref 72, .int x1] (mm L X I J) = rI (nI 0) (mm L X (bdM I 1 0) J) := by
  have h4 := ok.2.2.1
  rw [e_X12_needed]
  (first | refine Eq.trans (q_X12_needed_0) ?_ | refine Eq.trans (q_X12_needed_11) ?_ | refine Eq.trans (q_X12_needed_19) ?_ | refine Eq.trans (q_X12_needed_24) ?_ | refine Eq.trans (q_X12_needed_40) ?_ | refine Eq.trans (q_X12_needed_42) ?_ | refine Eq.trans (q_X12_needed_65) ?_)
  refine (bnd_e (if_f (by rw [up2_n (by decide)]; exact K) (by omega) hx)).trans ?_
  (first | refine Eq.trans (q_X12_needed_0) ?_ | refine Eq.trans (q_X12_needed_11) ?_ | refine Eq.trans (q_X12_needed_19) ?_ | refine Eq.trans (q_X12_needed_24) ?_ | refine Eq.trans (q_X12_needed_40) ?_ | refine Eq.trans (q_X12_needed_42) ?_ | refine Eq.trans (q_X12_needed_65) ?_)
  rw [if_pos rfl]
  (first | refine Eq.trans (q_X12_needed_0) ?_ | refine Eq.trans (q_X12_needed_11) ?_ | refine Eq.trans (q_X12_needed_19) ?_ | refine Eq.trans (q_X12_needed_24) ?_ | refine Eq.trans (q_X12_needed_40) ?_ | refine Eq.trans (q_X12_needed_42) ?_ | refine Eq.trans (q_X12_needed_65) ?_)
  refine (bnd_e (bad_t (by decide) (by decide) (by decide))).trans ?_
  (first | refine Eq.trans (q_X12_needed_0) ?_ | refine Eq.trans (q_X12_needed_11) ?_ | refine Eq.trans (q_X12_needed_19) ?_ | refine Eq.trans (q_X12_needed_24) ?_ | refine Eq.trans (q_X12_needed_40) ?_ | refine Eq.trans (q_X12_needed_42) ?_ | refine Eq.trans (q_X12_needed_65) ?_)
  rw [if_neg (by decide)]
theorem lp_needM (ok : HOK h) (W : wfC cd nL 0 0) (hf : f < h 0 2) (S : SM I h (h 0 1) nL cd) (R : NR (h 0 0) n N) : ∀ q j I', j + q = 100 → Fr [(450, 0), (451, 0), (535, 0), (534, 0)] I I' → (∀ i, i < 29 → I' 534 i = N i) → Rt L X (c_X12_needed_42 (d + 8) L X I' J (nI f) (nI j)) (some (.int (o2i (fndF (needP h nL cd n N f) q j)))) (fun I'' J' => Fr [(450, 0), (451, 0), (535, 0), (534, 0)] I I'' ∧ J' = J)
  | 0, j, I', hj, hfr, hN => by
    have e : j = 100 := by omega
    subst e
    (first | refine rt_eq (q_X12_needed_0) ?_ | refine rt_eq (q_X12_needed_11) ?_ | refine rt_eq (q_X12_needed_19) ?_ | refine rt_eq (q_X12_needed_24) ?_ | refine rt_eq (q_X12_needed_40) ?_ | refine rt_eq (q_X12_needed_42) ?_ | refine rt_eq (q_X12_needed_65) ?_)
    refine rt_t (by decide) ?_
    exact rt_ret ⟨hfr, rfl⟩
  | q + 1, j, I', hj, hfr, hN => by
    have ih := lp_needM ok W hf S R q (j + 1)
    (first | refine rt_eq (q_X12_needed_0) ?_ | refine rt_eq (q_X12_needed_11) ?_ | refine rt_eq (q_X12_needed_19) ?_ | refine rt_eq (q_X12_needed_24) ?_ | refine rt_eq (q_X12_needed_40) ?_ | refine rt_eq (q_X12_needed_42) ?_ | refine rt_eq (q_X12_needed_65) ?_)
    refine rt_f (by (try simp (disch := omega) only [nI_leI, nI_ltI, nI_eq, nI_add, pk_mul, n_0add, Nat.zero_add, nI_clamp]) <;> omega) ?_
    generalize hI2 : up2 I' 534 29 (nI j) = I2
    have f2 : Fr [(450, 0), (451, 0), (535, 0), (534, 0)] I I2 := by rw [← hI2]; exact fr_up hfr rfl
    have n2 : ∀ i, i < 29 → I2 534 i = N i := fun i hi => by rw [← hI2, up2_k (by omega)]; exact hN i hi
    have e2 : I2 534 29 = nI j := by rw [← hI2, up2_s]
    clear hI2
    have S2 := SM_fr S ok f2 (by decide +kernel) (by decide +kernel)
    have R2 : NR (h 0 0) n (I2 534) := NR_congr R (fun i hi => n2 i (by omega))
    refine rt_bnd (sp_isReached (.inr rfl) S2.1 ok R2 S2.2 W hf) ?_
    rintro I3 J3 ⟨f3, rfl⟩
    have er : rchd h nL cd (I2 534) n f = needP h nL cd n N f j := by
      unfold rchd needP
      rw [lenN_congr (N := N) (fun i hi => n2 i (by have := R.1.1; omega)), arN_hope R (fun i hi => n2 i (by omega)) e2]
    rw [er]
    (first | refine rt_eq (q_X12_needed_0) ?_ | refine rt_eq (q_X12_needed_11) ?_ | refine rt_eq (q_X12_needed_19) ?_ | refine rt_eq (q_X12_needed_24) ?_ | refine rt_eq (q_X12_needed_40) ?_ | refine rt_eq (q_X12_needed_42) ?_ | refine rt_eq (q_X12_needed_65) ?_)
    have fr3 : Fr [(450, 0), (451, 0), (535, 0), (534, 0)] I I3 := fr_tr f2 (fr_mono f3 (by decide))
    unfold fndF
    by_cases z : needP h nL cd n N f j = true
    · rw [z]
      refine rt_f (by decide) ?_
      rw [if_pos rfl]
      exact rt_ret ⟨fr3, rfl⟩
    · rw [Bool.not_eq_true] at z
      rw [z]
      refine rt_t bI_f ?_
      rw [if_neg (by decide), nI_add]
      exact ih I3 (by omega) fr3 (fun i hi => by rw [f3 534 i rfl]; exact n2 i hi)
theorem m_needed (V : MS I h nL cd n N) (hf : f < h 0 2) : Rt L X (runM (d + 9) nX12_needed [.ref 72, .int (nI f)] (mm L X I J)) (some (.int (o2i (fndF (needP h nL cd n N f) 100 0)))) (fun I' J' => (Fr fQM I I' ∧ I' 72 0 = nI 0) ∧ J' = J) := by
  rw [e_X12_needed]
  (first | refine rt_eq (q_X12_needed_0) ?_ | refine rt_eq (q_X12_needed_11) ?_ | refine rt_eq (q_X12_needed_19) ?_ | refine rt_eq (q_X12_needed_24) ?_ | refine rt_eq (q_X12_needed_40) ?_ | refine rt_eq (q_X12_needed_42) ?_ | refine rt_eq (q_X12_needed_65) ?_)
  have V0 := MS0 V; generalize hI0 : up2 I 72 0 (nI 0) = I0 at V0 ⊢; have f0 : Fr fQM I I0 := by rw [← hI0]; exact fr_up fr_rfl rfl
  have t0 : I0 72 0 = nI 0 := by rw [← hI0, up2_s]
  clear hI0
  obtain ⟨ok, W, S, e, R, Z⟩ := V0
  subst e
  have h5 := ok.2.2.1
  refine rt_be (if_t S.1.2.2.1 (by omega) hf) ?_
  (first | refine rt_eq (q_X12_needed_0) ?_ | refine rt_eq (q_X12_needed_11) ?_ | refine rt_eq (q_X12_needed_19) ?_ | refine rt_eq (q_X12_needed_24) ?_ | refine rt_eq (q_X12_needed_40) ?_ | refine rt_eq (q_X12_needed_42) ?_ | refine rt_eq (q_X12_needed_65) ?_)
  repeat (first | refine rt_t (by decide) ?_ | refine rt_f (by decide) ?_)
  (first | refine rt_eq (q_X12_needed_0) ?_ | refine rt_eq (q_X12_needed_11) ?_ | refine rt_eq (q_X12_needed_19) ?_ | refine rt_eq (q_X12_needed_24) ?_ | refine rt_eq (q_X12_needed_40) ?_ | refine rt_eq (q_X12_needed_42) ?_ | refine rt_eq (q_X12_needed_65) ?_)
  refine rt_be (bad_f t0) ?_
  (first | refine rt_eq (q_X12_needed_0) ?_ | refine rt_eq (q_X12_needed_11) ?_ | refine rt_eq (q_X12_needed_19) ?_ | refine rt_eq (q_X12_needed_24) ?_ | refine rt_eq (q_X12_needed_40) ?_ | refine rt_eq (q_X12_needed_42) ?_ | refine rt_eq (q_X12_needed_65) ?_)
  repeat (first | refine rt_t (by decide) ?_ | refine rt_f (by decide) ?_)
  refine rt_bndN (sp_copies ka_533 ka_534 (by decide) (by decide) (by decide) (by decide) (by decide)) ?_
  rintro I1 J1 ⟨⟨f1, f2⟩, rfl⟩
  (first | refine rt_eq (q_X12_needed_0) ?_ | refine rt_eq (q_X12_needed_11) ?_ | refine rt_eq (q_X12_needed_19) ?_ | refine rt_eq (q_X12_needed_24) ?_ | refine rt_eq (q_X12_needed_40) ?_ | refine rt_eq (q_X12_needed_42) ?_ | refine rt_eq (q_X12_needed_65) ?_)
  have S1 := SM_fr S ok f1 (by decide +kernel) (by decide +kernel)
  refine rt_mono (lp_needM ok W hf S1 R 100 0 I1 (by omega) fr_rfl (fun i hi => by rw [f2]; exact if_pos (by omega))) ?_
  rintro I2 J2 ⟨f3, rfl⟩
  exact ⟨⟨fr_tr f0 (fr_tr (fr_mono f1 fm_T) (fr_mono f3 (by decide +kernel))), by rw [f3 72 0 rfl, f1 72 0 rfl]; exact t0⟩, rfl⟩
/-! share -/
def gvA (h : Hs) (T b f a : Nat) : Nat := a + tb T f * Nat.min b (h 8 f)
def gvN (h : Hs) (T b : Nat) : Nat := accF (gvA h T b) (h 0 2) 0 0
theorem gv_mono {T b b' : Nat} (hb : b ≤ b') : gvN h T b ≤ gvN h T b' := by
  refine sum_ge (f := fun f => tb T f * Nat.min b (h 8 f)) (g := fun f => tb T f * Nat.min b' (h 8 f)) (h 0 2) 0 0 0 (Nat.le_refl _) (fun p _ _ => ?_)
  refine Nat.mul_le_mul_left _ ?_
  exact Nat.le_min.mpr ⟨Nat.le_trans (Nat.min_le_left _ _) hb, Nat.min_le_right _ _⟩
theorem gv_le {T b : Nat} (ok : HOK h) (hb : b ≤ 99) : ∀ q j a, j + q ≤ h 0 2 → accF (gvA h T b) q j a ≤ a + 99 * q
  | 0, j, a, hj => Nat.le_refl _
  | q + 1, j, a, hj => by
    have ih := gv_le (T := T) ok hb q (j + 1) (gvA h T b j a) (by omega)
    have h1 : tb T j * Nat.min b (h 8 j) ≤ 99 := by
      have h2 := tb_lt (b := T) (k := j)
      have h3 := Nat.min_le_left b (h 8 j)
      have : tb T j = 0 ∨ tb T j = 1 := by omega
      rcases this with e | e
      · rw [e]; omega
      · rw [e, Nat.one_mul]; exact Nat.le_trans h3 hb
    have e : gvA h T b j a = a + tb T j * Nat.min b (h 8 j) := rfl
    show accF (gvA h T b) q (j + 1) (gvA h T b j a) ≤ _
    omega
def lvF (h : Hs) (T c : Nat) : Nat → Nat
  | 0 => 0
  | b + 1 => if gvN h T (b + 1) ≤ c then b + 1 else lvF h T c b
theorem lv_ok {T c : Nat} : ∀ b, lvF h T c b ≤ b ∧ (lvF h T c b = 0 ∨ gvN h T (lvF h T c b) ≤ c) ∧ ∀ i, lvF h T c b < i → i ≤ b → ¬ gvN h T i ≤ c
  | 0 => ⟨Nat.le_refl _, .inl rfl, fun i h1 h2 => by omega⟩
  | b + 1 => by
    obtain ⟨h1, h2, h3⟩ := lv_ok (T := T) (c := c) b
    unfold lvF
    by_cases z : gvN h T (b + 1) ≤ c
    · rw [if_pos z]
      exact ⟨Nat.le_refl _, .inr z, fun i i1 i2 => by omega⟩
    · rw [if_neg z]
      refine ⟨by omega, h2, fun i i1 i2 => ?_⟩
      rcases Nat.eq_or_lt_of_le i2 with e | e
      · rw [e]
        exact z
      · exact h3 i i1 (by omega)
theorem mn_n {a b : Nat} (ha : a < 2 ^ 31) (hb : b < 2 ^ 31) : (if nI b < nI a then nI b else nI a) = nI (Nat.min a b) := by
  by_cases z : b < a
  · rw [if_pos ((nI_ltI hb ha).mpr z)]
    exact congrArg nI (Nat.min_eq_right (by omega)).symm
  · rw [if_neg (fun q => z ((nI_ltI hb ha).mp q))]
    exact congrArg nI (Nat.min_eq_left (by omega)).symm
theorem lp_lev13 {T c b : Nat} {r : Option Value} {Q : MI32 → MI64 → Prop} (K : HC I h (h 0 1)) (ok : HOK h) (hT : T < 32) (hb : b ≤ 99) (go : ∀ u5, Rt L X (runI (runM (d + 1)) iX1_level (57, [some (.ref 3), some (.int (nI T)), some (.int (nI c)), some (.int (nI b)), some (.int (nI (gvN h T b))), u5], [], mm L X I J)) r Q) : ∀ q j a, j + q = h 0 2 → accF (gvA h T b) q j a = gvN h T b → Rt L X (c_X1_level_13 (d + 1) L X I J 3 (nI T) (nI c) (nI b) (nI a) (nI j)) r Q
  | 0, j, a, hj, he => by
    have h0 : oc1 3 := .inl rfl
    have h5 := ok.2.2.1
    have e : a = gvN h T b := he
    (first | refine rt_eq (q_X1_level_0 (by first | assumption | rfl | exact .inl rfl | exact .inr rfl)) ?_ | refine rt_eq (q_X1_level_3 (by first | assumption | rfl | exact .inl rfl | exact .inr rfl)) ?_ | refine rt_eq (q_X1_level_13 (by first | assumption | rfl | exact .inl rfl | exact .inr rfl)) ?_ | refine rt_eq (q_X1_level_57 (by first | assumption | rfl | exact .inl rfl | exact .inr rfl)) ?_ | refine rt_eq (q_X1_level_36 (by first | assumption | rfl | exact .inl rfl | exact .inr rfl)) ?_)
    rw [K.2.2.1, e]
    refine rt_t (by (try simp (disch := omega) only [nI_leI, nI_ltI, nI_eq, nI_add, pk_mul, n_0add, Nat.zero_add, nI_clamp]) <;> omega) ?_
    exact go _
  | q + 1, j, a, hj, he => by
    have ih := lp_lev13 K ok hT hb go q (j + 1) (gvA h T b j a) (by omega) he
    have h0 : oc1 3 := .inl rfl
    have h5 := ok.2.2.1
    have b8 := ok.2.2.2.2 j (by omega)
    (first | refine rt_eq (q_X1_level_0 (by first | assumption | rfl | exact .inl rfl | exact .inr rfl)) ?_ | refine rt_eq (q_X1_level_3 (by first | assumption | rfl | exact .inl rfl | exact .inr rfl)) ?_ | refine rt_eq (q_X1_level_13 (by first | assumption | rfl | exact .inl rfl | exact .inr rfl)) ?_ | refine rt_eq (q_X1_level_57 (by first | assumption | rfl | exact .inl rfl | exact .inr rfl)) ?_ | refine rt_eq (q_X1_level_36 (by first | assumption | rfl | exact .inl rfl | exact .inr rfl)) ?_)
    rw [K.2.2.1]
    refine rt_f (by (try simp (disch := omega) only [nI_leI, nI_ltI, nI_eq, nI_add, pk_mul, n_0add, Nat.zero_add, nI_clamp]) <;> omega) (rt_f (by (try simp (disch := omega) only [nI_leI, nI_ltI, nI_eq, nI_add, pk_mul, n_0add, Nat.zero_add, nI_clamp]) <;> omega) ?_)
    refine rt_bne sp_bit ?_
    rw [n_bit (by omega) (by omega)]
    (first | refine rt_eq (q_X1_level_0 (by first | assumption | rfl | exact .inl rfl | exact .inr rfl)) ?_ | refine rt_eq (q_X1_level_3 (by first | assumption | rfl | exact .inl rfl | exact .inr rfl)) ?_ | refine rt_eq (q_X1_level_13 (by first | assumption | rfl | exact .inl rfl | exact .inr rfl)) ?_ | refine rt_eq (q_X1_level_57 (by first | assumption | rfl | exact .inl rfl | exact .inr rfl)) ?_ | refine rt_eq (q_X1_level_36 (by first | assumption | rfl | exact .inl rfl | exact .inr rfl)) ?_)
    refine rt_gd (inb_n (by omega) (by decide)) ?_
    rw [nI_clamp (by omega), show I (3 + 8) j = nI (h 8 j) from (K.2.2.2.2.2.1 j (by omega)).2, mn_n (by omega) (by omega), pk_mul, nI_add, nI_add]
    exact ih
theorem sp_level {T c : Nat} (K : HC I h (h 0 1)) (ok : HOK h) (hT : T < 32) (hc : c ≤ 999) : Rt L X (runM (d + 2) nX1_level [.ref 3, .int (nI T), .int (nI c)] (mm L X I J)) (some (.int (nI (lvF h T c 99)))) (fun I' J' => I' = I ∧ J' = J) := by
  have h0 : oc1 3 := .inl rfl
  have h5 := ok.2.2.1
  have key : ∀ b u4 u5, b ≤ 99 → Rt L X (c_X1_level_3 (d + 1) L X I J 3 (nI T) (nI c) (nI b) u4 u5) (some (.int (nI (lvF h T c b)))) (fun I' J' => I' = I ∧ J' = J) := by
    intro b
    induction b with
    | zero =>
      intro u4 u5 _
      (first | refine rt_eq (q_X1_level_0 (by first | assumption | rfl | exact .inl rfl | exact .inr rfl)) ?_ | refine rt_eq (q_X1_level_3 (by first | assumption | rfl | exact .inl rfl | exact .inr rfl)) ?_ | refine rt_eq (q_X1_level_13 (by first | assumption | rfl | exact .inl rfl | exact .inr rfl)) ?_ | refine rt_eq (q_X1_level_57 (by first | assumption | rfl | exact .inl rfl | exact .inr rfl)) ?_ | refine rt_eq (q_X1_level_36 (by first | assumption | rfl | exact .inl rfl | exact .inr rfl)) ?_)
      refine rt_t (by decide) ?_
      exact rt_ret ⟨rfl, rfl⟩
    | succ b ih =>
      intro u4 u5 hb
      (first | refine rt_eq (q_X1_level_0 (by first | assumption | rfl | exact .inl rfl | exact .inr rfl)) ?_ | refine rt_eq (q_X1_level_3 (by first | assumption | rfl | exact .inl rfl | exact .inr rfl)) ?_ | refine rt_eq (q_X1_level_13 (by first | assumption | rfl | exact .inl rfl | exact .inr rfl)) ?_ | refine rt_eq (q_X1_level_57 (by first | assumption | rfl | exact .inl rfl | exact .inr rfl)) ?_ | refine rt_eq (q_X1_level_36 (by first | assumption | rfl | exact .inl rfl | exact .inr rfl)) ?_)
      refine rt_f (by (try simp (disch := omega) only [nI_leI, nI_ltI, nI_eq, nI_add, pk_mul, n_0add, Nat.zero_add, nI_clamp]) <;> omega) ?_
      refine lp_lev13 (b := b + 1) K ok hT hb (fun u5 => ?_) (h 0 2) 0 0 (by omega) rfl
      have hg := gv_le (T := T) ok hb (h 0 2) 0 0 (by omega)
      have hg2 : gvN h T (b + 1) ≤ 495 := by unfold gvN; omega
      (first | refine rt_eq (q_X1_level_0 (by first | assumption | rfl | exact .inl rfl | exact .inr rfl)) ?_ | refine rt_eq (q_X1_level_3 (by first | assumption | rfl | exact .inl rfl | exact .inr rfl)) ?_ | refine rt_eq (q_X1_level_13 (by first | assumption | rfl | exact .inl rfl | exact .inr rfl)) ?_ | refine rt_eq (q_X1_level_57 (by first | assumption | rfl | exact .inl rfl | exact .inr rfl)) ?_ | refine rt_eq (q_X1_level_36 (by first | assumption | rfl | exact .inl rfl | exact .inr rfl)) ?_)
      unfold lvF
      by_cases z : gvN h T (b + 1) ≤ c
      · refine rt_f (by (try simp (disch := omega) only [nI_leI, nI_ltI, nI_eq, nI_add, pk_mul, n_0add, Nat.zero_add, nI_clamp]) <;> omega) ?_
        rw [if_pos z]
        exact rt_ret ⟨rfl, rfl⟩
      · refine rt_t (by (try simp (disch := omega) only [nI_leI, nI_ltI, nI_eq, nI_add, pk_mul, n_0add, Nat.zero_add, nI_clamp]) <;> omega) ?_
        rw [if_neg z, n_addm1]
        exact ih _ _ (by omega)
  rw [e_X1_level]
  (first | refine rt_eq (q_X1_level_0 (by first | assumption | rfl | exact .inl rfl | exact .inr rfl)) ?_ | refine rt_eq (q_X1_level_3 (by first | assumption | rfl | exact .inl rfl | exact .inr rfl)) ?_ | refine rt_eq (q_X1_level_13 (by first | assumption | rfl | exact .inl rfl | exact .inr rfl)) ?_ | refine rt_eq (q_X1_level_57 (by first | assumption | rfl | exact .inl rfl | exact .inr rfl)) ?_ | refine rt_eq (q_X1_level_36 (by first | assumption | rfl | exact .inl rfl | exact .inr rfl)) ?_)
  exact key 99 _ _ (Nat.le_refl _)
def shrA (h : Hs) (f T c : Nat) : Nat := if tb T f = 0 then 0 else Nat.min (h 8 f) (lvF h T c 99)
theorem pw_sub {nf : Nat} (h5 : nf ≤ 5) : nI 1 <<< (nI nf &&& 31) - nI 1 = nI (2 ^ nf - 1) := by
  rw [n_pow (by omega), pk_sub (Nat.two_pow_pos nf)]
theorem c_share {T c : Nat} (V : CS I h nL cd n N) (hf : f < h 0 2) (hT : T ≤ 2 ^ h 0 2 - 1) (hc : c ≤ 999) : Rt L X (runM (d + 4) nX11_share [.ref 0, .int (nI f), .int (nI T), .int (nI c)] (mm L X I J)) (some (.int (nI (shrA h f T c)))) (fun I' _ => Fr fQC I I') := by
  obtain ⟨ok, W, ⟨K, LC, Q⟩, C, R, Z⟩ := V
  have h5 := ok.2.2.1
  have p5 : 2 ^ h 0 2 ≤ 2 ^ 5 := Nat.pow_le_pow_right (by decide) h5
  have p0 : 0 < 2 ^ h 0 2 := Nat.two_pow_pos _
  have b8 := ok.2.2.2.2 f hf
  have hlv := (lv_ok (h := h) (T := T) (c := c) 99).1
  rw [e_X11_share]
  (first | refine rt_eq (q_X11_share_0) ?_ | refine rt_eq (q_X11_share_5) ?_ | refine rt_eq (q_X11_share_22) ?_ | refine rt_eq (q_X11_share_40) ?_ | refine rt_eq (q_X11_share_33) ?_ | refine rt_eq (q_X11_share_41) ?_ | refine rt_eq (q_X11_share_44) ?_ | refine rt_eq (q_X11_share_49) ?_ | refine rt_eq (q_X11_share_65) ?_ | refine rt_eq (q_X11_share_74) ?_)
  refine rt_be (xf_t K.2.2.1 (by omega) hf) ?_
  (first | refine rt_eq (q_X11_share_0) ?_ | refine rt_eq (q_X11_share_5) ?_ | refine rt_eq (q_X11_share_22) ?_ | refine rt_eq (q_X11_share_40) ?_ | refine rt_eq (q_X11_share_33) ?_ | refine rt_eq (q_X11_share_41) ?_ | refine rt_eq (q_X11_share_44) ?_ | refine rt_eq (q_X11_share_49) ?_ | refine rt_eq (q_X11_share_65) ?_ | refine rt_eq (q_X11_share_74) ?_)
  rw [K.2.2.1, pw_sub h5]
  refine rt_bne (wi_t (by (try simp (disch := omega) only [nI_leI, nI_ltI, nI_eq, nI_add, pk_mul, n_0add, Nat.zero_add, nI_clamp]) <;> omega) (by (try simp (disch := omega) only [nI_leI, nI_ltI, nI_eq, nI_add, pk_mul, n_0add, Nat.zero_add, nI_clamp]) <;> omega)) ?_
  (first | refine rt_eq (q_X11_share_0) ?_ | refine rt_eq (q_X11_share_5) ?_ | refine rt_eq (q_X11_share_22) ?_ | refine rt_eq (q_X11_share_40) ?_ | refine rt_eq (q_X11_share_33) ?_ | refine rt_eq (q_X11_share_41) ?_ | refine rt_eq (q_X11_share_44) ?_ | refine rt_eq (q_X11_share_49) ?_ | refine rt_eq (q_X11_share_65) ?_ | refine rt_eq (q_X11_share_74) ?_)
  repeat (first | refine rt_t (by decide) ?_ | refine rt_f (by decide) ?_)
  refine rt_bne (wi_t (by (try simp (disch := omega) only [nI_leI, nI_ltI, nI_eq, nI_add, pk_mul, n_0add, Nat.zero_add, nI_clamp]) <;> omega) (by (try simp (disch := omega) only [nI_leI, nI_ltI, nI_eq, nI_add, pk_mul, n_0add, Nat.zero_add, nI_clamp]) <;> omega)) ?_
  (first | refine rt_eq (q_X11_share_0) ?_ | refine rt_eq (q_X11_share_5) ?_ | refine rt_eq (q_X11_share_22) ?_ | refine rt_eq (q_X11_share_40) ?_ | refine rt_eq (q_X11_share_33) ?_ | refine rt_eq (q_X11_share_41) ?_ | refine rt_eq (q_X11_share_44) ?_ | refine rt_eq (q_X11_share_49) ?_ | refine rt_eq (q_X11_share_65) ?_ | refine rt_eq (q_X11_share_74) ?_)
  repeat (first | refine rt_t (by decide) ?_ | refine rt_f (by decide) ?_)
  (first | refine rt_eq (q_X11_share_0) ?_ | refine rt_eq (q_X11_share_5) ?_ | refine rt_eq (q_X11_share_22) ?_ | refine rt_eq (q_X11_share_40) ?_ | refine rt_eq (q_X11_share_33) ?_ | refine rt_eq (q_X11_share_41) ?_ | refine rt_eq (q_X11_share_44) ?_ | refine rt_eq (q_X11_share_49) ?_ | refine rt_eq (q_X11_share_65) ?_ | refine rt_eq (q_X11_share_74) ?_)
  refine rt_be ex_t ?_
  (first | refine rt_eq (q_X11_share_0) ?_ | refine rt_eq (q_X11_share_5) ?_ | refine rt_eq (q_X11_share_22) ?_ | refine rt_eq (q_X11_share_40) ?_ | refine rt_eq (q_X11_share_33) ?_ | refine rt_eq (q_X11_share_41) ?_ | refine rt_eq (q_X11_share_44) ?_ | refine rt_eq (q_X11_share_49) ?_ | refine rt_eq (q_X11_share_65) ?_ | refine rt_eq (q_X11_share_74) ?_)
  refine rt_bne sp_bit ?_
  rw [n_bit (by omega) (by omega)]
  (first | refine rt_eq (q_X11_share_0) ?_ | refine rt_eq (q_X11_share_5) ?_ | refine rt_eq (q_X11_share_22) ?_ | refine rt_eq (q_X11_share_40) ?_ | refine rt_eq (q_X11_share_33) ?_ | refine rt_eq (q_X11_share_41) ?_ | refine rt_eq (q_X11_share_44) ?_ | refine rt_eq (q_X11_share_49) ?_ | refine rt_eq (q_X11_share_65) ?_ | refine rt_eq (q_X11_share_74) ?_)
  have ht := tb_lt (b := T) (k := f)
  unfold shrA
  by_cases z : tb T f = 0
  · refine rt_t (by (try simp (disch := omega) only [nI_leI, nI_ltI, nI_eq, nI_add, pk_mul, n_0add, Nat.zero_add, nI_clamp]) <;> omega) ?_
    rw [if_pos z]
    exact rt_ret fr_rfl
  · refine rt_f (by (try simp (disch := omega) only [nI_leI, nI_ltI, nI_eq, nI_add, pk_mul, n_0add, Nat.zero_add, nI_clamp]) <;> omega) ?_
    refine rt_bne (sp_pick ka_11 (by decide)) ?_
    rw [pk_n (by omega) (by decide), (K.2.2.2.2.2.1 f hf).2]
    (first | refine rt_eq (q_X11_share_0) ?_ | refine rt_eq (q_X11_share_5) ?_ | refine rt_eq (q_X11_share_22) ?_ | refine rt_eq (q_X11_share_40) ?_ | refine rt_eq (q_X11_share_33) ?_ | refine rt_eq (q_X11_share_41) ?_ | refine rt_eq (q_X11_share_44) ?_ | refine rt_eq (q_X11_share_49) ?_ | refine rt_eq (q_X11_share_65) ?_ | refine rt_eq (q_X11_share_74) ?_)
    refine rt_bnd (sp_level K ok (by omega) hc) ?_
    rintro I1 J1 ⟨rfl, rfl⟩
    (first | refine rt_eq (q_X11_share_0) ?_ | refine rt_eq (q_X11_share_5) ?_ | refine rt_eq (q_X11_share_22) ?_ | refine rt_eq (q_X11_share_40) ?_ | refine rt_eq (q_X11_share_33) ?_ | refine rt_eq (q_X11_share_41) ?_ | refine rt_eq (q_X11_share_44) ?_ | refine rt_eq (q_X11_share_49) ?_ | refine rt_eq (q_X11_share_65) ?_ | refine rt_eq (q_X11_share_74) ?_)
    refine rt_v (rt_ret fr_rfl) ?_
    rw [if_neg z, mn_n (by omega) (by omega)]
theorem lp_gvM {T b : Nat} (H : HM I h (h 0 1)) (ok : HOK h) (hT : T < 32) (hb : b ≤ 99) : ∀ q j a, j + q = h 0 2 → c_X12_givenBy_5 (d + 1) L X I J (nI T) (nI b) (nI a) (nI j) = rI (nI (accF (gvA h T b) q j a)) (mm L X I J)
  | 0, j, a, hj => by
    have h5 := ok.2.2.1
    (first | refine Eq.trans (q_X12_givenBy_0) ?_ | refine Eq.trans (q_X12_givenBy_5) ?_ | refine Eq.trans (q_X12_givenBy_23) ?_ | refine Eq.trans (q_X12_givenBy_43) ?_ | refine Eq.trans (q_X12_givenBy_39) ?_)
    rw [H.2.2.1, if_pos (by (try simp (disch := omega) only [nI_leI, nI_ltI, nI_eq, nI_add, pk_mul, n_0add, Nat.zero_add, nI_clamp]) <;> omega)]
    rfl
  | q + 1, j, a, hj => by
    have ih := lp_gvM H ok hT hb q (j + 1) (gvA h T b j a) (by omega)
    have h5 := ok.2.2.1
    have b8 := ok.2.2.2.2 j (by omega)
    show _ = rI (nI (accF (gvA h T b) q (j + 1) (gvA h T b j a))) _
    (first | refine Eq.trans (q_X12_givenBy_0) ?_ | refine Eq.trans (q_X12_givenBy_5) ?_ | refine Eq.trans (q_X12_givenBy_23) ?_ | refine Eq.trans (q_X12_givenBy_43) ?_ | refine Eq.trans (q_X12_givenBy_39) ?_)
    rw [H.2.2.1, if_neg (by (try simp (disch := omega) only [nI_leI, nI_ltI, nI_eq, nI_add, pk_mul, n_0add, Nat.zero_add, nI_clamp]) <;> omega)]
    refine (bndN_e (has_n (by omega) (by omega))).trans ?_
    (first | refine Eq.trans (q_X12_givenBy_0) ?_ | refine Eq.trans (q_X12_givenBy_5) ?_ | refine Eq.trans (q_X12_givenBy_23) ?_ | refine Eq.trans (q_X12_givenBy_43) ?_ | refine Eq.trans (q_X12_givenBy_39) ?_)
    have e : gvA h T b j a = a + tb T j * Nat.min b (h 8 j) := rfl
    by_cases z : T.testBit j = true
    · rw [z, if_neg (by decide), gd_t (inb_n (by omega) (by decide)), nI_clamp (by omega), (H.2.2.2.2.2.2.2 j (by omega)).2]
      refine (bndN_e sp_less).trans ?_
      rw [← mnI_alt, mn_n (by omega) (by omega)]
      (first | refine Eq.trans (q_X12_givenBy_0) ?_ | refine Eq.trans (q_X12_givenBy_5) ?_ | refine Eq.trans (q_X12_givenBy_23) ?_ | refine Eq.trans (q_X12_givenBy_43) ?_ | refine Eq.trans (q_X12_givenBy_39) ?_)
      (first | refine Eq.trans (q_X12_givenBy_0) ?_ | refine Eq.trans (q_X12_givenBy_5) ?_ | refine Eq.trans (q_X12_givenBy_23) ?_ | refine Eq.trans (q_X12_givenBy_43) ?_ | refine Eq.trans (q_X12_givenBy_39) ?_)
      rw [tb_test.mpr z, Nat.one_mul] at e
      rw [nI_add, nI_add, ← e]
      exact ih
    · rw [Bool.not_eq_true] at z
      rw [z, if_pos bI_f]
      (first | refine Eq.trans (q_X12_givenBy_0) ?_ | refine Eq.trans (q_X12_givenBy_5) ?_ | refine Eq.trans (q_X12_givenBy_23) ?_ | refine Eq.trans (q_X12_givenBy_43) ?_ | refine Eq.trans (q_X12_givenBy_39) ?_)
      rw [tb_test0.mpr z, Nat.zero_mul] at e
      rw [nI_add, nI_add, ← e]
      exact ih
theorem sp_givenBy {T b : Nat} (H : HM I h (h 0 1)) (ok : HOK h) (hT : T < 32) (hb : b ≤ 99) : runM (d + 2) nX12_givenBy [.ref 72, .int (nI T), .int (nI b)] (mm L X I J) = rI (nI (gvN h T b)) (mm L X I J) := by
  rw [e_X12_givenBy]
  (first | refine Eq.trans (q_X12_givenBy_0) ?_ | refine Eq.trans (q_X12_givenBy_5) ?_ | refine Eq.trans (q_X12_givenBy_23) ?_ | refine Eq.trans (q_X12_givenBy_43) ?_ | refine Eq.trans (q_X12_givenBy_39) ?_)
  exact lp_gvM H ok hT hb (h 0 2) 0 0 (by omega)
theorem lp_shrM {T c : Nat} (H : HM I h (h 0 1)) (ok : HOK h) (hf : f < h 0 2) (hT : T < 32) (hc : c ≤ 999) : ∀ q b, b + q = lvF h T c 99 → c_X12_share_75 (d + 2) L X I J (nI f) (nI T) (nI c) (nI b) = rI (nI (shrA h f T c)) (mm L X I J)
  | 0, b, hb => by
    obtain ⟨l1, l2, l3⟩ := lv_ok (h := h) (T := T) (c := c) 99
    have h5 := ok.2.2.1
    have b8 := ok.2.2.2.2 f hf
    have e : b = lvF h T c 99 := by omega
    have tail : runI (runM (d + 2)) iX12_share (101, [some (.ref 72), some (.int (nI f)), some (.int (nI T)), some (.int (nI c)), some (.int (nI b))], [], mm L X I J) = rI (nI (shrA h f T c)) (mm L X I J) := by
      (first | refine Eq.trans (q_X12_share_0) ?_ | refine Eq.trans (q_X12_share_11) ?_ | refine Eq.trans (q_X12_share_19) ?_ | refine Eq.trans (q_X12_share_24) ?_ | refine Eq.trans (q_X12_share_43) ?_ | refine Eq.trans (q_X12_share_57) ?_ | refine Eq.trans (q_X12_share_54) ?_ | refine Eq.trans (q_X12_share_62) ?_ | refine Eq.trans (q_X12_share_67) ?_ | refine Eq.trans (q_X12_share_75) ?_ | refine Eq.trans (q_X12_share_101) ?_ | refine Eq.trans (q_X12_share_91) ?_ | refine Eq.trans (q_X12_share_106) ?_ | refine Eq.trans (q_X12_share_122) ?_)
      refine (bndN_e (has_n (by omega) (by omega))).trans ?_
      (first | refine Eq.trans (q_X12_share_0) ?_ | refine Eq.trans (q_X12_share_11) ?_ | refine Eq.trans (q_X12_share_19) ?_ | refine Eq.trans (q_X12_share_24) ?_ | refine Eq.trans (q_X12_share_43) ?_ | refine Eq.trans (q_X12_share_57) ?_ | refine Eq.trans (q_X12_share_54) ?_ | refine Eq.trans (q_X12_share_62) ?_ | refine Eq.trans (q_X12_share_67) ?_ | refine Eq.trans (q_X12_share_75) ?_ | refine Eq.trans (q_X12_share_101) ?_ | refine Eq.trans (q_X12_share_91) ?_ | refine Eq.trans (q_X12_share_106) ?_ | refine Eq.trans (q_X12_share_122) ?_)
      unfold shrA
      by_cases z : T.testBit f = true
      · rw [z, if_neg (by decide), gd_t (inb_n (by omega) (by decide)), nI_clamp (by omega), (H.2.2.2.2.2.2.2 f hf).2, if_neg (by rw [tb_test.mpr z]; decide)]
        refine (bndN_e sp_less).trans ?_
        rw [← mnI_alt, mn_n (by omega) (by omega), ← e]
        (first | refine Eq.trans (q_X12_share_0) ?_ | refine Eq.trans (q_X12_share_11) ?_ | refine Eq.trans (q_X12_share_19) ?_ | refine Eq.trans (q_X12_share_24) ?_ | refine Eq.trans (q_X12_share_43) ?_ | refine Eq.trans (q_X12_share_57) ?_ | refine Eq.trans (q_X12_share_54) ?_ | refine Eq.trans (q_X12_share_62) ?_ | refine Eq.trans (q_X12_share_67) ?_ | refine Eq.trans (q_X12_share_75) ?_ | refine Eq.trans (q_X12_share_101) ?_ | refine Eq.trans (q_X12_share_91) ?_ | refine Eq.trans (q_X12_share_106) ?_ | refine Eq.trans (q_X12_share_122) ?_)
        rw [show Nat.min b (h 8 f) = Nat.min (h 8 f) b from Nat.min_comm _ _]
      · rw [Bool.not_eq_true] at z
        rw [z, if_pos bI_f, if_pos (tb_test0.mpr z)]
    (first | refine Eq.trans (q_X12_share_0) ?_ | refine Eq.trans (q_X12_share_11) ?_ | refine Eq.trans (q_X12_share_19) ?_ | refine Eq.trans (q_X12_share_24) ?_ | refine Eq.trans (q_X12_share_43) ?_ | refine Eq.trans (q_X12_share_57) ?_ | refine Eq.trans (q_X12_share_54) ?_ | refine Eq.trans (q_X12_share_62) ?_ | refine Eq.trans (q_X12_share_67) ?_ | refine Eq.trans (q_X12_share_75) ?_ | refine Eq.trans (q_X12_share_101) ?_ | refine Eq.trans (q_X12_share_91) ?_ | refine Eq.trans (q_X12_share_106) ?_ | refine Eq.trans (q_X12_share_122) ?_)
    by_cases y : 99 ≤ b
    · rw [if_pos (by (try simp (disch := omega) only [nI_leI, nI_ltI, nI_eq, nI_add, pk_mul, n_0add, Nat.zero_add, nI_clamp]) <;> omega)]
      exact tail
    · rw [if_neg (by (try simp (disch := omega) only [nI_leI, nI_ltI, nI_eq, nI_add, pk_mul, n_0add, Nat.zero_add, nI_clamp]) <;> omega), nI_add]
      refine (bnd_e (sp_givenBy H ok hT (by omega))).trans ?_
      (first | refine Eq.trans (q_X12_share_0) ?_ | refine Eq.trans (q_X12_share_11) ?_ | refine Eq.trans (q_X12_share_19) ?_ | refine Eq.trans (q_X12_share_24) ?_ | refine Eq.trans (q_X12_share_43) ?_ | refine Eq.trans (q_X12_share_57) ?_ | refine Eq.trans (q_X12_share_54) ?_ | refine Eq.trans (q_X12_share_62) ?_ | refine Eq.trans (q_X12_share_67) ?_ | refine Eq.trans (q_X12_share_75) ?_ | refine Eq.trans (q_X12_share_101) ?_ | refine Eq.trans (q_X12_share_91) ?_ | refine Eq.trans (q_X12_share_106) ?_ | refine Eq.trans (q_X12_share_122) ?_)
      have hg := gv_le (T := T) (b := b + 1) ok (by omega) (h 0 2) 0 0 (by omega)
      have hg2 : gvN h T (b + 1) ≤ 495 := by unfold gvN; omega
      have := l3 (b + 1) (by omega) (by omega)
      rw [if_pos (by (try simp (disch := omega) only [nI_leI, nI_ltI, nI_eq, nI_add, pk_mul, n_0add, Nat.zero_add, nI_clamp]) <;> omega)]
      exact tail
  | q + 1, b, hb => by
    have ih := lp_shrM H ok hf hT hc q (b + 1) (by omega)
    obtain ⟨l1, l2, l3⟩ := lv_ok (h := h) (T := T) (c := c) 99
    have h5 := ok.2.2.1
    (first | refine Eq.trans (q_X12_share_0) ?_ | refine Eq.trans (q_X12_share_11) ?_ | refine Eq.trans (q_X12_share_19) ?_ | refine Eq.trans (q_X12_share_24) ?_ | refine Eq.trans (q_X12_share_43) ?_ | refine Eq.trans (q_X12_share_57) ?_ | refine Eq.trans (q_X12_share_54) ?_ | refine Eq.trans (q_X12_share_62) ?_ | refine Eq.trans (q_X12_share_67) ?_ | refine Eq.trans (q_X12_share_75) ?_ | refine Eq.trans (q_X12_share_101) ?_ | refine Eq.trans (q_X12_share_91) ?_ | refine Eq.trans (q_X12_share_106) ?_ | refine Eq.trans (q_X12_share_122) ?_)
    rw [if_neg (by (try simp (disch := omega) only [nI_leI, nI_ltI, nI_eq, nI_add, pk_mul, n_0add, Nat.zero_add, nI_clamp]) <;> omega), nI_add]
    refine (bnd_e (sp_givenBy H ok hT (by omega))).trans ?_
    (first | refine Eq.trans (q_X12_share_0) ?_ | refine Eq.trans (q_X12_share_11) ?_ | refine Eq.trans (q_X12_share_19) ?_ | refine Eq.trans (q_X12_share_24) ?_ | refine Eq.trans (q_X12_share_43) ?_ | refine Eq.trans (q_X12_share_57) ?_ | refine Eq.trans (q_X12_share_54) ?_ | refine Eq.trans (q_X12_share_62) ?_ | refine Eq.trans (q_X12_share_67) ?_ | refine Eq.trans (q_X12_share_75) ?_ | refine Eq.trans (q_X12_share_101) ?_ | refine Eq.trans (q_X12_share_91) ?_ | refine Eq.trans (q_X12_share_106) ?_ | refine Eq.trans (q_X12_share_122) ?_)
    have hg := gv_le (T := T) (b := b + 1) ok (by omega) (h 0 2) 0 0 (by omega)
    have hg2 : gvN h T (b + 1) ≤ 495 := by unfold gvN; omega
    have hm := gv_mono (h := h) (T := T) (b := b + 1) (b' := lvF h T c 99) (by omega)
    have hle : gvN h T (b + 1) ≤ c := by
      rcases l2 with z | z
      · omega
      · omega
    rw [if_neg (by (try simp (disch := omega) only [nI_leI, nI_ltI, nI_eq, nI_add, pk_mul, n_0add, Nat.zero_add, nI_clamp]) <;> omega), nI_add]
    exact ih
theorem m_share {T c : Nat} (V : MS I h nL cd n N) (hf : f < h 0 2) (hT : T ≤ 2 ^ h 0 2 - 1) (hc : c ≤ 999) : Rt L X (runM (d + 4) nX12_share [.ref 72, .int (nI f), .int (nI T), .int (nI c)] (mm L X I J)) (some (.int (nI (shrA h f T c)))) (fun I' J' => (Fr fQM I I' ∧ I' 72 0 = nI 0) ∧ J' = J) := by
  rw [e_X12_share]
  (first | refine rt_eq (q_X12_share_0) ?_ | refine rt_eq (q_X12_share_11) ?_ | refine rt_eq (q_X12_share_19) ?_ | refine rt_eq (q_X12_share_24) ?_ | refine rt_eq (q_X12_share_43) ?_ | refine rt_eq (q_X12_share_57) ?_ | refine rt_eq (q_X12_share_54) ?_ | refine rt_eq (q_X12_share_62) ?_ | refine rt_eq (q_X12_share_67) ?_ | refine rt_eq (q_X12_share_75) ?_ | refine rt_eq (q_X12_share_101) ?_ | refine rt_eq (q_X12_share_91) ?_ | refine rt_eq (q_X12_share_106) ?_ | refine rt_eq (q_X12_share_122) ?_)
  have V0 := MS0 V; generalize hI0 : up2 I 72 0 (nI 0) = I0 at V0 ⊢; have f0 : Fr fQM I I0 := by rw [← hI0]; exact fr_up fr_rfl rfl
  have t0 : I0 72 0 = nI 0 := by rw [← hI0, up2_s]
  clear hI0
  obtain ⟨ok, W, S, e, R, Z⟩ := V0
  have h5 := ok.2.2.1
  have p5 : 2 ^ h 0 2 ≤ 2 ^ 5 := Nat.pow_le_pow_right (by decide) h5
  have p0 : 0 < 2 ^ h 0 2 := Nat.two_pow_pos _
  refine rt_be (if_t S.1.2.2.1 (by omega) hf) ?_
  (first | refine rt_eq (q_X12_share_0) ?_ | refine rt_eq (q_X12_share_11) ?_ | refine rt_eq (q_X12_share_19) ?_ | refine rt_eq (q_X12_share_24) ?_ | refine rt_eq (q_X12_share_43) ?_ | refine rt_eq (q_X12_share_57) ?_ | refine rt_eq (q_X12_share_54) ?_ | refine rt_eq (q_X12_share_62) ?_ | refine rt_eq (q_X12_share_67) ?_ | refine rt_eq (q_X12_share_75) ?_ | refine rt_eq (q_X12_share_101) ?_ | refine rt_eq (q_X12_share_91) ?_ | refine rt_eq (q_X12_share_106) ?_ | refine rt_eq (q_X12_share_122) ?_)
  repeat (first | refine rt_t (by decide) ?_ | refine rt_f (by decide) ?_)
  (first | refine rt_eq (q_X12_share_0) ?_ | refine rt_eq (q_X12_share_11) ?_ | refine rt_eq (q_X12_share_19) ?_ | refine rt_eq (q_X12_share_24) ?_ | refine rt_eq (q_X12_share_43) ?_ | refine rt_eq (q_X12_share_57) ?_ | refine rt_eq (q_X12_share_54) ?_ | refine rt_eq (q_X12_share_62) ?_ | refine rt_eq (q_X12_share_67) ?_ | refine rt_eq (q_X12_share_75) ?_ | refine rt_eq (q_X12_share_101) ?_ | refine rt_eq (q_X12_share_91) ?_ | refine rt_eq (q_X12_share_106) ?_ | refine rt_eq (q_X12_share_122) ?_)
  refine rt_be (bad_f t0) ?_
  (first | refine rt_eq (q_X12_share_0) ?_ | refine rt_eq (q_X12_share_11) ?_ | refine rt_eq (q_X12_share_19) ?_ | refine rt_eq (q_X12_share_24) ?_ | refine rt_eq (q_X12_share_43) ?_ | refine rt_eq (q_X12_share_57) ?_ | refine rt_eq (q_X12_share_54) ?_ | refine rt_eq (q_X12_share_62) ?_ | refine rt_eq (q_X12_share_67) ?_ | refine rt_eq (q_X12_share_75) ?_ | refine rt_eq (q_X12_share_101) ?_ | refine rt_eq (q_X12_share_91) ?_ | refine rt_eq (q_X12_share_106) ?_ | refine rt_eq (q_X12_share_122) ?_)
  repeat (first | refine rt_t (by decide) ?_ | refine rt_f (by decide) ?_)
  rw [S.1.2.2.1, pw_sub h5]
  refine rt_bne (in_t (by (try simp (disch := omega) only [nI_leI, nI_ltI, nI_eq, nI_add, pk_mul, n_0add, Nat.zero_add, nI_clamp]) <;> omega) (by (try simp (disch := omega) only [nI_leI, nI_ltI, nI_eq, nI_add, pk_mul, n_0add, Nat.zero_add, nI_clamp]) <;> omega)) ?_
  (first | refine rt_eq (q_X12_share_0) ?_ | refine rt_eq (q_X12_share_11) ?_ | refine rt_eq (q_X12_share_19) ?_ | refine rt_eq (q_X12_share_24) ?_ | refine rt_eq (q_X12_share_43) ?_ | refine rt_eq (q_X12_share_57) ?_ | refine rt_eq (q_X12_share_54) ?_ | refine rt_eq (q_X12_share_62) ?_ | refine rt_eq (q_X12_share_67) ?_ | refine rt_eq (q_X12_share_75) ?_ | refine rt_eq (q_X12_share_101) ?_ | refine rt_eq (q_X12_share_91) ?_ | refine rt_eq (q_X12_share_106) ?_ | refine rt_eq (q_X12_share_122) ?_)
  repeat (first | refine rt_t (by decide) ?_ | refine rt_f (by decide) ?_)
  refine rt_bne (in_t (by (try simp (disch := omega) only [nI_leI, nI_ltI, nI_eq, nI_add, pk_mul, n_0add, Nat.zero_add, nI_clamp]) <;> omega) (by (try simp (disch := omega) only [nI_leI, nI_ltI, nI_eq, nI_add, pk_mul, n_0add, Nat.zero_add, nI_clamp]) <;> omega)) ?_
  (first | refine rt_eq (q_X12_share_0) ?_ | refine rt_eq (q_X12_share_11) ?_ | refine rt_eq (q_X12_share_19) ?_ | refine rt_eq (q_X12_share_24) ?_ | refine rt_eq (q_X12_share_43) ?_ | refine rt_eq (q_X12_share_57) ?_ | refine rt_eq (q_X12_share_54) ?_ | refine rt_eq (q_X12_share_62) ?_ | refine rt_eq (q_X12_share_67) ?_ | refine rt_eq (q_X12_share_75) ?_ | refine rt_eq (q_X12_share_101) ?_ | refine rt_eq (q_X12_share_91) ?_ | refine rt_eq (q_X12_share_106) ?_ | refine rt_eq (q_X12_share_122) ?_)
  repeat (first | refine rt_t (by decide) ?_ | refine rt_f (by decide) ?_)
  (first | refine rt_eq (q_X12_share_0) ?_ | refine rt_eq (q_X12_share_11) ?_ | refine rt_eq (q_X12_share_19) ?_ | refine rt_eq (q_X12_share_24) ?_ | refine rt_eq (q_X12_share_43) ?_ | refine rt_eq (q_X12_share_57) ?_ | refine rt_eq (q_X12_share_54) ?_ | refine rt_eq (q_X12_share_62) ?_ | refine rt_eq (q_X12_share_67) ?_ | refine rt_eq (q_X12_share_75) ?_ | refine rt_eq (q_X12_share_101) ?_ | refine rt_eq (q_X12_share_91) ?_ | refine rt_eq (q_X12_share_106) ?_ | refine rt_eq (q_X12_share_122) ?_)
  refine rt_be (bad_f t0) ?_
  (first | refine rt_eq (q_X12_share_0) ?_ | refine rt_eq (q_X12_share_11) ?_ | refine rt_eq (q_X12_share_19) ?_ | refine rt_eq (q_X12_share_24) ?_ | refine rt_eq (q_X12_share_43) ?_ | refine rt_eq (q_X12_share_57) ?_ | refine rt_eq (q_X12_share_54) ?_ | refine rt_eq (q_X12_share_62) ?_ | refine rt_eq (q_X12_share_67) ?_ | refine rt_eq (q_X12_share_75) ?_ | refine rt_eq (q_X12_share_101) ?_ | refine rt_eq (q_X12_share_91) ?_ | refine rt_eq (q_X12_share_106) ?_ | refine rt_eq (q_X12_share_122) ?_)
  repeat (first | refine rt_t (by decide) ?_ | refine rt_f (by decide) ?_)
  exact rt_end (lp_shrM S.1 ok hf (by omega) hc (lvF h T c 99) 0 (by omega)) ⟨⟨f0, t0⟩, rfl⟩
theorem x_share0 (K : I 3 2 = nI (h 0 2)) (ok : HOK h) (hx : ¬ ∃ p, p < h 0 2 ∧ x1 = nI p) : runM (d + 3) nX11_share [.ref 0, .int x1, .int x2, .int x3] (mm L X I J) = some (.inr 0, mm L (X + 1) (ex0 I) J) := by
  have h4 := ok.2.2.1
  rw [e_X11_share]
  (first | refine Eq.trans (q_X11_share_0) ?_ | refine Eq.trans (q_X11_share_5) ?_ | refine Eq.trans (q_X11_share_22) ?_ | refine Eq.trans (q_X11_share_40) ?_ | refine Eq.trans (q_X11_share_33) ?_ | refine Eq.trans (q_X11_share_41) ?_ | refine Eq.trans (q_X11_share_44) ?_ | refine Eq.trans (q_X11_share_49) ?_ | refine Eq.trans (q_X11_share_65) ?_ | refine Eq.trans (q_X11_share_74) ?_)
  exact bnd_x (xf_f K (by omega) hx)
theorem b_share0 (K : I 76 2 = nI (h 0 2)) (ok : HOK h) (hx : ¬ ∃ p, p < h 0 2 ∧ x1 = nI p) : runM (d + 3) nX12_share [.ref 72, .int x1, .int x2, .int x3] (mm L X I J) = rI (nI 0) (mm L X (bdM I 1 0) J) := by
  have h4 := ok.2.2.1
  rw [e_X12_share]
  (first | refine Eq.trans (q_X12_share_0) ?_ | refine Eq.trans (q_X12_share_11) ?_ | refine Eq.trans (q_X12_share_19) ?_ | refine Eq.trans (q_X12_share_24) ?_ | refine Eq.trans (q_X12_share_43) ?_ | refine Eq.trans (q_X12_share_57) ?_ | refine Eq.trans (q_X12_share_54) ?_ | refine Eq.trans (q_X12_share_62) ?_ | refine Eq.trans (q_X12_share_67) ?_ | refine Eq.trans (q_X12_share_75) ?_ | refine Eq.trans (q_X12_share_101) ?_ | refine Eq.trans (q_X12_share_91) ?_ | refine Eq.trans (q_X12_share_106) ?_ | refine Eq.trans (q_X12_share_122) ?_)
  refine (bnd_e (if_f (by rw [up2_n (by decide)]; exact K) (by omega) hx)).trans ?_
  (first | refine Eq.trans (q_X12_share_0) ?_ | refine Eq.trans (q_X12_share_11) ?_ | refine Eq.trans (q_X12_share_19) ?_ | refine Eq.trans (q_X12_share_24) ?_ | refine Eq.trans (q_X12_share_43) ?_ | refine Eq.trans (q_X12_share_57) ?_ | refine Eq.trans (q_X12_share_54) ?_ | refine Eq.trans (q_X12_share_62) ?_ | refine Eq.trans (q_X12_share_67) ?_ | refine Eq.trans (q_X12_share_75) ?_ | refine Eq.trans (q_X12_share_101) ?_ | refine Eq.trans (q_X12_share_91) ?_ | refine Eq.trans (q_X12_share_106) ?_ | refine Eq.trans (q_X12_share_122) ?_)
  rw [if_pos rfl]
  (first | refine Eq.trans (q_X12_share_0) ?_ | refine Eq.trans (q_X12_share_11) ?_ | refine Eq.trans (q_X12_share_19) ?_ | refine Eq.trans (q_X12_share_24) ?_ | refine Eq.trans (q_X12_share_43) ?_ | refine Eq.trans (q_X12_share_57) ?_ | refine Eq.trans (q_X12_share_54) ?_ | refine Eq.trans (q_X12_share_62) ?_ | refine Eq.trans (q_X12_share_67) ?_ | refine Eq.trans (q_X12_share_75) ?_ | refine Eq.trans (q_X12_share_101) ?_ | refine Eq.trans (q_X12_share_91) ?_ | refine Eq.trans (q_X12_share_106) ?_ | refine Eq.trans (q_X12_share_122) ?_)
  refine (bnd_e (bad_t (by decide) (by decide) (by decide))).trans ?_
  (first | refine Eq.trans (q_X12_share_0) ?_ | refine Eq.trans (q_X12_share_11) ?_ | refine Eq.trans (q_X12_share_19) ?_ | refine Eq.trans (q_X12_share_24) ?_ | refine Eq.trans (q_X12_share_43) ?_ | refine Eq.trans (q_X12_share_57) ?_ | refine Eq.trans (q_X12_share_54) ?_ | refine Eq.trans (q_X12_share_62) ?_ | refine Eq.trans (q_X12_share_67) ?_ | refine Eq.trans (q_X12_share_75) ?_ | refine Eq.trans (q_X12_share_101) ?_ | refine Eq.trans (q_X12_share_91) ?_ | refine Eq.trans (q_X12_share_106) ?_ | refine Eq.trans (q_X12_share_122) ?_)
  rw [if_neg (by decide)]
theorem x_share1 (K : I 3 2 = nI (h 0 2)) (ok : HOK h) (hp : p < h 0 2) (hx : ¬ ((∃ T, T ≤ 2 ^ h 0 2 - 1 ∧ x2 = nI T) ∧ ∃ c, c ≤ 999 ∧ x3 = nI c)) : runM (d + 3) nX11_share [.ref 0, .int (nI p), .int x2, .int x3] (mm L X I J) = some (.inr 1, mm L (X + 1) (ex1 I) J) := by
  have h5 := ok.2.2.1
  have p5 : 2 ^ h 0 2 ≤ 2 ^ 5 := Nat.pow_le_pow_right (by decide) h5
  have tail : runI (runM (d + 2)) iX11_share (40, [some (.ref 0), some (.int (nI p)), some (.int x2), some (.int x3)], [.ref 0], mm L X I J) = some (.inr 1, mm L (X + 1) (ex1 I) J) := by
    (first | refine Eq.trans (q_X11_share_0) ?_ | refine Eq.trans (q_X11_share_5) ?_ | refine Eq.trans (q_X11_share_22) ?_ | refine Eq.trans (q_X11_share_40) ?_ | refine Eq.trans (q_X11_share_33) ?_ | refine Eq.trans (q_X11_share_41) ?_ | refine Eq.trans (q_X11_share_44) ?_ | refine Eq.trans (q_X11_share_49) ?_ | refine Eq.trans (q_X11_share_65) ?_ | refine Eq.trans (q_X11_share_74) ?_)
    (first | refine Eq.trans (q_X11_share_0) ?_ | refine Eq.trans (q_X11_share_5) ?_ | refine Eq.trans (q_X11_share_22) ?_ | refine Eq.trans (q_X11_share_40) ?_ | refine Eq.trans (q_X11_share_33) ?_ | refine Eq.trans (q_X11_share_41) ?_ | refine Eq.trans (q_X11_share_44) ?_ | refine Eq.trans (q_X11_share_49) ?_ | refine Eq.trans (q_X11_share_65) ?_ | refine Eq.trans (q_X11_share_74) ?_)
    exact bnd_x ex_f
  rw [e_X11_share]
  (first | refine Eq.trans (q_X11_share_0) ?_ | refine Eq.trans (q_X11_share_5) ?_ | refine Eq.trans (q_X11_share_22) ?_ | refine Eq.trans (q_X11_share_40) ?_ | refine Eq.trans (q_X11_share_33) ?_ | refine Eq.trans (q_X11_share_41) ?_ | refine Eq.trans (q_X11_share_44) ?_ | refine Eq.trans (q_X11_share_49) ?_ | refine Eq.trans (q_X11_share_65) ?_ | refine Eq.trans (q_X11_share_74) ?_)
  refine (bnd_e (xf_t K (by omega) hp)).trans ?_
  (first | refine Eq.trans (q_X11_share_0) ?_ | refine Eq.trans (q_X11_share_5) ?_ | refine Eq.trans (q_X11_share_22) ?_ | refine Eq.trans (q_X11_share_40) ?_ | refine Eq.trans (q_X11_share_33) ?_ | refine Eq.trans (q_X11_share_41) ?_ | refine Eq.trans (q_X11_share_44) ?_ | refine Eq.trans (q_X11_share_49) ?_ | refine Eq.trans (q_X11_share_65) ?_ | refine Eq.trans (q_X11_share_74) ?_)
  rw [K, pw_sub h5]
  by_cases c1 : nI 0 ≤ x2 ∧ x2 ≤ nI (2 ^ h 0 2 - 1)
  · refine (bndN_e (wi_t c1.1 c1.2)).trans ?_
    (first | refine Eq.trans (q_X11_share_0) ?_ | refine Eq.trans (q_X11_share_5) ?_ | refine Eq.trans (q_X11_share_22) ?_ | refine Eq.trans (q_X11_share_40) ?_ | refine Eq.trans (q_X11_share_33) ?_ | refine Eq.trans (q_X11_share_41) ?_ | refine Eq.trans (q_X11_share_44) ?_ | refine Eq.trans (q_X11_share_49) ?_ | refine Eq.trans (q_X11_share_65) ?_ | refine Eq.trans (q_X11_share_74) ?_)
    rw [if_neg (by decide)]
    refine (bndN_e (wi_f (fun q => hx ⟨(in_M (by omega)).mp c1, (in_M (by decide)).mp q⟩))).trans ?_
    (first | refine Eq.trans (q_X11_share_0) ?_ | refine Eq.trans (q_X11_share_5) ?_ | refine Eq.trans (q_X11_share_22) ?_ | refine Eq.trans (q_X11_share_40) ?_ | refine Eq.trans (q_X11_share_33) ?_ | refine Eq.trans (q_X11_share_41) ?_ | refine Eq.trans (q_X11_share_44) ?_ | refine Eq.trans (q_X11_share_49) ?_ | refine Eq.trans (q_X11_share_65) ?_ | refine Eq.trans (q_X11_share_74) ?_)
    rw [if_pos rfl]
    exact tail
  · refine (bndN_e (wi_f c1)).trans ?_
    (first | refine Eq.trans (q_X11_share_0) ?_ | refine Eq.trans (q_X11_share_5) ?_ | refine Eq.trans (q_X11_share_22) ?_ | refine Eq.trans (q_X11_share_40) ?_ | refine Eq.trans (q_X11_share_33) ?_ | refine Eq.trans (q_X11_share_41) ?_ | refine Eq.trans (q_X11_share_44) ?_ | refine Eq.trans (q_X11_share_49) ?_ | refine Eq.trans (q_X11_share_65) ?_ | refine Eq.trans (q_X11_share_74) ?_)
    rw [if_pos rfl]
    exact tail
theorem b_share1 (K : I 76 2 = nI (h 0 2)) (ok : HOK h) (hp : p < h 0 2) (hx : ¬ ((∃ T, T ≤ 2 ^ h 0 2 - 1 ∧ x2 = nI T) ∧ ∃ c, c ≤ 999 ∧ x3 = nI c)) : runM (d + 3) nX12_share [.ref 72, .int (nI p), .int x2, .int x3] (mm L X I J) = rI (nI 0) (mm L X (bdM I 2 1) J) := by
  have h5 := ok.2.2.1
  have p5 : 2 ^ h 0 2 ≤ 2 ^ 5 := Nat.pow_le_pow_right (by decide) h5
  have tail : ∀ u4, runI (runM (d + 2)) iX12_share (57, [some (.ref 72), some (.int (nI p)), some (.int x2), some (.int x3), u4], [.ref 72], mm L X (up2 I 72 0 (nI 0)) J) = rI (nI 0) (mm L X (bdM I 2 1) J) := by
    intro u4
    (first | refine Eq.trans (q_X12_share_0) ?_ | refine Eq.trans (q_X12_share_11) ?_ | refine Eq.trans (q_X12_share_19) ?_ | refine Eq.trans (q_X12_share_24) ?_ | refine Eq.trans (q_X12_share_43) ?_ | refine Eq.trans (q_X12_share_57) ?_ | refine Eq.trans (q_X12_share_54) ?_ | refine Eq.trans (q_X12_share_62) ?_ | refine Eq.trans (q_X12_share_67) ?_ | refine Eq.trans (q_X12_share_75) ?_ | refine Eq.trans (q_X12_share_101) ?_ | refine Eq.trans (q_X12_share_91) ?_ | refine Eq.trans (q_X12_share_106) ?_ | refine Eq.trans (q_X12_share_122) ?_)
    (first | refine Eq.trans (q_X12_share_0) ?_ | refine Eq.trans (q_X12_share_11) ?_ | refine Eq.trans (q_X12_share_19) ?_ | refine Eq.trans (q_X12_share_24) ?_ | refine Eq.trans (q_X12_share_43) ?_ | refine Eq.trans (q_X12_share_57) ?_ | refine Eq.trans (q_X12_share_54) ?_ | refine Eq.trans (q_X12_share_62) ?_ | refine Eq.trans (q_X12_share_67) ?_ | refine Eq.trans (q_X12_share_75) ?_ | refine Eq.trans (q_X12_share_101) ?_ | refine Eq.trans (q_X12_share_91) ?_ | refine Eq.trans (q_X12_share_106) ?_ | refine Eq.trans (q_X12_share_122) ?_)
    refine (bnd_e (bad_t (by decide) (by decide) (by decide))).trans ?_
    (first | refine Eq.trans (q_X12_share_0) ?_ | refine Eq.trans (q_X12_share_11) ?_ | refine Eq.trans (q_X12_share_19) ?_ | refine Eq.trans (q_X12_share_24) ?_ | refine Eq.trans (q_X12_share_43) ?_ | refine Eq.trans (q_X12_share_57) ?_ | refine Eq.trans (q_X12_share_54) ?_ | refine Eq.trans (q_X12_share_62) ?_ | refine Eq.trans (q_X12_share_67) ?_ | refine Eq.trans (q_X12_share_75) ?_ | refine Eq.trans (q_X12_share_101) ?_ | refine Eq.trans (q_X12_share_91) ?_ | refine Eq.trans (q_X12_share_106) ?_ | refine Eq.trans (q_X12_share_122) ?_)
    rw [if_neg (by decide)]
  rw [e_X12_share]
  (first | refine Eq.trans (q_X12_share_0) ?_ | refine Eq.trans (q_X12_share_11) ?_ | refine Eq.trans (q_X12_share_19) ?_ | refine Eq.trans (q_X12_share_24) ?_ | refine Eq.trans (q_X12_share_43) ?_ | refine Eq.trans (q_X12_share_57) ?_ | refine Eq.trans (q_X12_share_54) ?_ | refine Eq.trans (q_X12_share_62) ?_ | refine Eq.trans (q_X12_share_67) ?_ | refine Eq.trans (q_X12_share_75) ?_ | refine Eq.trans (q_X12_share_101) ?_ | refine Eq.trans (q_X12_share_91) ?_ | refine Eq.trans (q_X12_share_106) ?_ | refine Eq.trans (q_X12_share_122) ?_)
  refine (bnd_e (if_t (by rw [up2_n (by decide)]; exact K) (by omega) hp)).trans ?_
  (first | refine Eq.trans (q_X12_share_0) ?_ | refine Eq.trans (q_X12_share_11) ?_ | refine Eq.trans (q_X12_share_19) ?_ | refine Eq.trans (q_X12_share_24) ?_ | refine Eq.trans (q_X12_share_43) ?_ | refine Eq.trans (q_X12_share_57) ?_ | refine Eq.trans (q_X12_share_54) ?_ | refine Eq.trans (q_X12_share_62) ?_ | refine Eq.trans (q_X12_share_67) ?_ | refine Eq.trans (q_X12_share_75) ?_ | refine Eq.trans (q_X12_share_101) ?_ | refine Eq.trans (q_X12_share_91) ?_ | refine Eq.trans (q_X12_share_106) ?_ | refine Eq.trans (q_X12_share_122) ?_)
  rw [if_neg (by decide)]
  (first | refine Eq.trans (q_X12_share_0) ?_ | refine Eq.trans (q_X12_share_11) ?_ | refine Eq.trans (q_X12_share_19) ?_ | refine Eq.trans (q_X12_share_24) ?_ | refine Eq.trans (q_X12_share_43) ?_ | refine Eq.trans (q_X12_share_57) ?_ | refine Eq.trans (q_X12_share_54) ?_ | refine Eq.trans (q_X12_share_62) ?_ | refine Eq.trans (q_X12_share_67) ?_ | refine Eq.trans (q_X12_share_75) ?_ | refine Eq.trans (q_X12_share_101) ?_ | refine Eq.trans (q_X12_share_91) ?_ | refine Eq.trans (q_X12_share_106) ?_ | refine Eq.trans (q_X12_share_122) ?_)
  refine (bnd_e (bad_f up2_s)).trans ?_
  (first | refine Eq.trans (q_X12_share_0) ?_ | refine Eq.trans (q_X12_share_11) ?_ | refine Eq.trans (q_X12_share_19) ?_ | refine Eq.trans (q_X12_share_24) ?_ | refine Eq.trans (q_X12_share_43) ?_ | refine Eq.trans (q_X12_share_57) ?_ | refine Eq.trans (q_X12_share_54) ?_ | refine Eq.trans (q_X12_share_62) ?_ | refine Eq.trans (q_X12_share_67) ?_ | refine Eq.trans (q_X12_share_75) ?_ | refine Eq.trans (q_X12_share_101) ?_ | refine Eq.trans (q_X12_share_91) ?_ | refine Eq.trans (q_X12_share_106) ?_ | refine Eq.trans (q_X12_share_122) ?_)
  rw [if_pos rfl, show up2 I 72 0 (nI 0) 76 2 = nI (h 0 2) by rw [up2_n (by decide)]; exact K, pw_sub h5]
  by_cases c1 : nI 0 ≤ x2 ∧ x2 ≤ nI (2 ^ h 0 2 - 1)
  · refine (bndN_e (in_t c1.1 c1.2)).trans ?_
    (first | refine Eq.trans (q_X12_share_0) ?_ | refine Eq.trans (q_X12_share_11) ?_ | refine Eq.trans (q_X12_share_19) ?_ | refine Eq.trans (q_X12_share_24) ?_ | refine Eq.trans (q_X12_share_43) ?_ | refine Eq.trans (q_X12_share_57) ?_ | refine Eq.trans (q_X12_share_54) ?_ | refine Eq.trans (q_X12_share_62) ?_ | refine Eq.trans (q_X12_share_67) ?_ | refine Eq.trans (q_X12_share_75) ?_ | refine Eq.trans (q_X12_share_101) ?_ | refine Eq.trans (q_X12_share_91) ?_ | refine Eq.trans (q_X12_share_106) ?_ | refine Eq.trans (q_X12_share_122) ?_)
    rw [if_neg (by decide)]
    refine (bndN_e (in_f (fun q => hx ⟨(in_M (by omega)).mp c1, (in_M (by decide)).mp q⟩))).trans ?_
    (first | refine Eq.trans (q_X12_share_0) ?_ | refine Eq.trans (q_X12_share_11) ?_ | refine Eq.trans (q_X12_share_19) ?_ | refine Eq.trans (q_X12_share_24) ?_ | refine Eq.trans (q_X12_share_43) ?_ | refine Eq.trans (q_X12_share_57) ?_ | refine Eq.trans (q_X12_share_54) ?_ | refine Eq.trans (q_X12_share_62) ?_ | refine Eq.trans (q_X12_share_67) ?_ | refine Eq.trans (q_X12_share_75) ?_ | refine Eq.trans (q_X12_share_101) ?_ | refine Eq.trans (q_X12_share_91) ?_ | refine Eq.trans (q_X12_share_106) ?_ | refine Eq.trans (q_X12_share_122) ?_)
    rw [if_pos rfl]
    exact tail _
  · refine (bndN_e (in_f c1)).trans ?_
    (first | refine Eq.trans (q_X12_share_0) ?_ | refine Eq.trans (q_X12_share_11) ?_ | refine Eq.trans (q_X12_share_19) ?_ | refine Eq.trans (q_X12_share_24) ?_ | refine Eq.trans (q_X12_share_43) ?_ | refine Eq.trans (q_X12_share_57) ?_ | refine Eq.trans (q_X12_share_54) ?_ | refine Eq.trans (q_X12_share_62) ?_ | refine Eq.trans (q_X12_share_67) ?_ | refine Eq.trans (q_X12_share_75) ?_ | refine Eq.trans (q_X12_share_101) ?_ | refine Eq.trans (q_X12_share_91) ?_ | refine Eq.trans (q_X12_share_106) ?_ | refine Eq.trans (q_X12_share_122) ?_)
    rw [if_pos rfl]
    exact tail _
end AD
