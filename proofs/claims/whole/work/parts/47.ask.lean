/-! WHAT IS ASKED: the checks ahead of it -/
def ex0 (I : MI32) : MI32 := up2 I 0 14 (I 0 14 + nI 1)
def ex1 (I : MI32) : MI32 := up2 I 0 15 (I 0 15 + nI 1)
/-- the model's bookkeeping of a refused call -/
def bdM (I : MI32) (k r : Nat) : MI32 := up2 (up2 (up2 I 72 0 (nI 0)) 72 0 (nI k)) 74 r (I 74 r + nI 1)
/-- what asking may change: the class's cells, the model's -/
def fQC : Fls := [(25, 0), (26, 0), (33, 0), (53, 0), (57, 0), (58, 0), (61, 0), (64, 0), (65, 0), (31, 4), (31, 5), (31, 6), (31, 7), (66, 4), (66, 5)] ++ cells 67 5
def fQM : Fls := [(72, 1), (72, 41), (72, 51), (72, 46), (72, 47), (450, 0), (451, 0), (534, 0), (535, 0), (622, 0), (623, 0), (624, 0)] ++ cells 558 64 ++ cells 626 6
def CS (I : MI32) (h : Hs) (nL : Nat) (cd : Cd) (n : Nat) (N : Nt) : Prop := HOK h ∧ wfC cd nL 0 0 ∧ SC I h (h 0 1) nL cd ∧ NC I 43 n N ∧ NR (h 0 0) n N ∧ NX (h 0 0) (h 0 2) N
def MS (I : MI32) (h : Hs) (nL : Nat) (cd : Cd) (n : Nat) (N : Nt) : Prop := HOK h ∧ wfC cd nL 0 0 ∧ SM I h (h 0 1) nL cd ∧ I 533 = N ∧ NR (h 0 0) n N ∧ NX (h 0 0) (h 0 2) N
section EX
variable {d L X : Nat} {I : MI32} {J : MI64} {x x0 x1 x2 : Int32} {np p nf f : Nat} {h : Hs} {nL n : Nat} {cd : Cd} {N : Nt}
theorem CS_fr {l : Fls} {I' : MI32} (V : CS I h nL cd n N) (g : Fr l I I') (d1 : dj l sHC = true) (d2 : dj l sLC = true) (d3 : dj l [(52, 6), (54, 0), (55, 0)] = true) (d4 : dj l (sNC 43) = true) : CS I' h nL cd n N := ⟨V.1, V.2.1, SC_fr V.2.2.1 g d1 d2 d3, NC_fr V.2.2.2.1 (ag_of g d4), V.2.2.2.2.1, V.2.2.2.2.2⟩
theorem MS_fr {l : Fls} {I' : MI32} (V : MS I h nL cd n N) (g : Fr l I I') (d1 : dj l sHM = true) (d2 : dj l sLM = true) (d3 : dj l [(533, 0)] = true) : MS I' h nL cd n N := by
  have a := ag_of g d3
  have e : I' 533 = I 533 := funext fun k => a 533 k rfl
  exact ⟨V.1, V.2.1, SM_fr V.2.2.1 V.1 g d1 d2, e.trans V.2.2.2.1, V.2.2.2.2.1, V.2.2.2.2.2⟩
theorem dq1 : dj fQC sHC = true := by decide +kernel
theorem dq2 : dj fQC sLC = true := by decide +kernel
theorem dq3 : dj fQC [(52, 6), (54, 0), (55, 0)] = true := by decide +kernel
theorem dq4 : dj fQC (sNC 43) = true := by decide +kernel
theorem dm1 : dj fQM sHM = true := by decide +kernel
theorem dm2 : dj fQM sLM = true := by decide +kernel
theorem dm3 : dj fQM [(533, 0)] = true := by decide +kernel
theorem CS_q {I' : MI32} (V : CS I h nL cd n N) (g : Fr fQC I I') : CS I' h nL cd n N := CS_fr V g dq1 dq2 dq3 dq4
theorem MS_q {I' : MI32} (V : MS I h nL cd n N) (g : Fr fQM I I') : MS I' h nL cd n N := MS_fr V g dm1 dm2 dm3
theorem MS0 (V : MS I h nL cd n N) : MS (up2 I 72 0 (nI 0)) h nL cd n N := MS_q V (fr_up fr_rfl rfl)
theorem fq_W : sbF fW fQC = true := by decide +kernel
theorem fq_S : sbF (fS 67) fQC = true := by decide +kernel
theorem fq_Y : sbF fYC fQC = true := by decide +kernel
theorem fm_W : sbF [(450, 0), (451, 0), (535, 0)] fQM = true := by decide +kernel
theorem fm_L : sbF [(450, 0), (451, 0)] fQM = true := by decide +kernel
theorem fm_H : sbF (fH 534) fQM = true := by decide +kernel
theorem fm_Y : sbF fYM fQM = true := by decide +kernel
theorem fm_T : sbF [(534, 0)] fQM = true := by decide +kernel
theorem rt_v {y : Option (RS × AM)} {v v' : Int32} {Q : MI32 → MI64 → Prop} (g : Rt L X y (some (.int v)) Q) (e : v = v') : Rt L X y (some (.int v')) Q := e ▸ g
theorem ex_t : runM (d + 1) nX11_expect [.ref 0, .int (nI 1)] (mm L X I J) = rV (mm L X I J) := by
  rw [e_X11_expect, q_X11_expect_0, if_neg (by decide)]
theorem ex_f : runM (d + 1) nX11_expect [.ref 0, .int (nI 0)] (mm L X I J) = some (.inr 1, mm L (X + 1) (ex1 I) J) := by
  rw [e_X11_expect, q_X11_expect_0, if_pos rfl]
  rfl
theorem th_t : runM (d + 1) nX11_expectThere [.ref 0, .int (nI 1)] (mm L X I J) = rV (mm L X I J) := by
  rw [e_X11_expectThere, q_X11_expectThere_0, if_neg (by decide)]
theorem th_f : runM (d + 1) nX11_expectThere [.ref 0, .int (nI 0)] (mm L X I J) = some (.inr 0, mm L (X + 1) (ex0 I) J) := by
  rw [e_X11_expectThere, q_X11_expectThere_0, if_pos rfl]
  rfl
theorem wi_t (h1 : x1 ≤ x0) (h2 : x0 ≤ x2) : runM (d + 1) nX11_within [.int x0, .int x1, .int x2] (mm L X I J) = rI (nI 1) (mm L X I J) := by
  rw [sp_within, decide_eq_true ⟨h1, h2⟩]
  rfl
theorem wi_f (q : ¬ (x1 ≤ x0 ∧ x0 ≤ x2)) : runM (d + 1) nX11_within [.int x0, .int x1, .int x2] (mm L X I J) = rI (nI 0) (mm L X I J) := by
  rw [sp_within, decide_eq_false q]
  rfl
theorem in_t (h1 : x1 ≤ x0) (h2 : x0 ≤ x2) : runM (d + 1) nX12_in [.int x0, .int x1, .int x2] (mm L X I J) = rI (nI 1) (mm L X I J) := by
  rw [sp_in, decide_eq_true ⟨h1, h2⟩]
  rfl
theorem in_f (q : ¬ (x1 ≤ x0 ∧ x0 ≤ x2)) : runM (d + 1) nX12_in [.int x0, .int x1, .int x2] (mm L X I J) = rI (nI 0) (mm L X I J) := by
  rw [sp_in, decide_eq_false q]
  rfl
/-- one of n numbers from 0 on -/
theorem in_np (hn : np ≤ 6) : (nI 0 ≤ x ∧ x ≤ nI np - nI 1) ↔ ∃ p, p < np ∧ x = nI p := by
  constructor
  · rintro ⟨h1, h2⟩
    rcases np with _ | k
    · exfalso
      rw [show nI 0 - nI 1 = -1 by decide] at h2
      exact absurd (Int32.le_trans h1 h2) (by decide)
    · rw [n_sub1] at h2
      obtain ⟨p, hp, rfl⟩ := nI_of2 (n_toI (show k < 2 ^ 31 by omega)) (Int32.not_lt.mpr h1) h2
      exact ⟨p, by omega, rfl⟩
  · rintro ⟨p, hp, rfl⟩
    obtain ⟨k, rfl⟩ : ∃ k, np = k + 1 := ⟨np - 1, by omega⟩
    rw [n_sub1]
    exact ⟨(by (try simp (disch := omega) only [nI_leI, nI_ltI, nI_eq, nI_add, pk_mul, n_0add, Nat.zero_add, nI_clamp]) <;> omega), (by (try simp (disch := omega) only [nI_leI, nI_ltI, nI_eq, nI_add, pk_mul, n_0add, Nat.zero_add, nI_clamp]) <;> omega)⟩
/-- one of 0 to M -/
theorem in_M {M : Nat} (hM : M < 2 ^ 31) : (nI 0 ≤ x ∧ x ≤ nI M) ↔ ∃ p, p ≤ M ∧ x = nI p := by
  constructor
  · rintro ⟨h1, h2⟩
    obtain ⟨p, hp, rfl⟩ := nI_of2 (n_toI hM) (Int32.not_lt.mpr h1) h2
    exact ⟨p, hp, rfl⟩
  · rintro ⟨p, hp, rfl⟩
    exact ⟨(by (try simp (disch := omega) only [nI_leI, nI_ltI, nI_eq, nI_add, pk_mul, n_0add, Nat.zero_add, nI_clamp]) <;> omega), (by (try simp (disch := omega) only [nI_leI, nI_ltI, nI_eq, nI_add, pk_mul, n_0add, Nat.zero_add, nI_clamp]) <;> omega)⟩
theorem in_1M {M : Nat} (hM : M < 2 ^ 31) : (nI 1 ≤ x ∧ x ≤ nI M) ↔ ∃ p, 1 ≤ p ∧ p ≤ M ∧ x = nI p := by
  constructor
  · rintro ⟨h1, h2⟩
    obtain ⟨p, hp, rfl⟩ := nI_of2 (n_toI hM) (Int32.not_lt.mpr (Int32.le_trans (by decide) h1)) h2
    exact ⟨p, (nI_leI (by decide) (by omega)).mp h1, hp, rfl⟩
  · rintro ⟨p, h1, hp, rfl⟩
    exact ⟨(by (try simp (disch := omega) only [nI_leI, nI_ltI, nI_eq, nI_add, pk_mul, n_0add, Nat.zero_add, nI_clamp]) <;> omega), (by (try simp (disch := omega) only [nI_leI, nI_ltI, nI_eq, nI_add, pk_mul, n_0add, Nat.zero_add, nI_clamp]) <;> omega)⟩
theorem xp_t (e : I 3 0 = nI np) (hn : np ≤ 6) (hp : p < np) : runM (d + 2) nX11_expectPiece [.ref 0, .int (nI p)] (mm L X I J) = rV (mm L X I J) := by
  have q := (in_np (x := nI p) hn).mpr ⟨p, hp, rfl⟩
  rw [e_X11_expectPiece]
  (first | refine Eq.trans (q_X11_expectPiece_0) ?_ | refine Eq.trans (q_X11_expectPiece_15) ?_ | refine Eq.trans (q_X11_expectPiece_18) ?_)
  rw [e]
  refine (bndN_e (wi_t q.1 q.2)).trans ?_
  (first | refine Eq.trans (q_X11_expectPiece_0) ?_ | refine Eq.trans (q_X11_expectPiece_15) ?_ | refine Eq.trans (q_X11_expectPiece_18) ?_)
  refine (bnd_e th_t).trans ?_
  exact q_X11_expectPiece_18
theorem xp_f (e : I 3 0 = nI np) (hn : np ≤ 6) (hx : ¬ ∃ p, p < np ∧ x = nI p) : runM (d + 2) nX11_expectPiece [.ref 0, .int x] (mm L X I J) = some (.inr 0, mm L (X + 1) (ex0 I) J) := by
  rw [e_X11_expectPiece]
  (first | refine Eq.trans (q_X11_expectPiece_0) ?_ | refine Eq.trans (q_X11_expectPiece_15) ?_ | refine Eq.trans (q_X11_expectPiece_18) ?_)
  rw [e]
  refine (bndN_e (wi_f (fun q => hx ((in_np hn).mp q)))).trans ?_
  (first | refine Eq.trans (q_X11_expectPiece_0) ?_ | refine Eq.trans (q_X11_expectPiece_15) ?_ | refine Eq.trans (q_X11_expectPiece_18) ?_)
  exact bnd_x th_f
theorem xf_t (e : I 3 2 = nI nf) (hn : nf ≤ 6) (hp : f < nf) : runM (d + 2) nX11_expectFire [.ref 0, .int (nI f)] (mm L X I J) = rV (mm L X I J) := by
  have q := (in_np (x := nI f) hn).mpr ⟨f, hp, rfl⟩
  rw [e_X11_expectFire]
  (first | refine Eq.trans (q_X11_expectFire_0) ?_ | refine Eq.trans (q_X11_expectFire_15) ?_ | refine Eq.trans (q_X11_expectFire_18) ?_)
  rw [e]
  refine (bndN_e (wi_t q.1 q.2)).trans ?_
  (first | refine Eq.trans (q_X11_expectFire_0) ?_ | refine Eq.trans (q_X11_expectFire_15) ?_ | refine Eq.trans (q_X11_expectFire_18) ?_)
  refine (bnd_e th_t).trans ?_
  exact q_X11_expectFire_18
theorem xf_f (e : I 3 2 = nI nf) (hn : nf ≤ 6) (hx : ¬ ∃ p, p < nf ∧ x = nI p) : runM (d + 2) nX11_expectFire [.ref 0, .int x] (mm L X I J) = some (.inr 0, mm L (X + 1) (ex0 I) J) := by
  rw [e_X11_expectFire]
  (first | refine Eq.trans (q_X11_expectFire_0) ?_ | refine Eq.trans (q_X11_expectFire_15) ?_ | refine Eq.trans (q_X11_expectFire_18) ?_)
  rw [e]
  refine (bndN_e (wi_f (fun q => hx ((in_np hn).mp q)))).trans ?_
  (first | refine Eq.trans (q_X11_expectFire_0) ?_ | refine Eq.trans (q_X11_expectFire_15) ?_ | refine Eq.trans (q_X11_expectFire_18) ?_)
  exact bnd_x th_f
theorem xt_t (hp : p ≤ 9) : runM (d + 2) nX11_expectThread [.ref 0, .int (nI p)] (mm L X I J) = rV (mm L X I J) := by
  rw [e_X11_expectThread]
  (first | refine Eq.trans (q_X11_expectThread_0) ?_ | refine Eq.trans (q_X11_expectThread_8) ?_ | refine Eq.trans (q_X11_expectThread_11) ?_)
  refine (bndN_e (wi_t (by (try simp (disch := omega) only [nI_leI, nI_ltI, nI_eq, nI_add, pk_mul, n_0add, Nat.zero_add, nI_clamp]) <;> omega) (by (try simp (disch := omega) only [nI_leI, nI_ltI, nI_eq, nI_add, pk_mul, n_0add, Nat.zero_add, nI_clamp]) <;> omega))).trans ?_
  (first | refine Eq.trans (q_X11_expectThread_0) ?_ | refine Eq.trans (q_X11_expectThread_8) ?_ | refine Eq.trans (q_X11_expectThread_11) ?_)
  refine (bnd_e ex_t).trans ?_
  exact q_X11_expectThread_11
theorem xt_f (hx : ¬ ∃ p, p ≤ 9 ∧ x = nI p) : runM (d + 2) nX11_expectThread [.ref 0, .int x] (mm L X I J) = some (.inr 1, mm L (X + 1) (ex1 I) J) := by
  rw [e_X11_expectThread]
  (first | refine Eq.trans (q_X11_expectThread_0) ?_ | refine Eq.trans (q_X11_expectThread_8) ?_ | refine Eq.trans (q_X11_expectThread_11) ?_)
  refine (bndN_e (wi_f (fun q => hx ((in_M (by decide)).mp q)))).trans ?_
  (first | refine Eq.trans (q_X11_expectThread_0) ?_ | refine Eq.trans (q_X11_expectThread_8) ?_ | refine Eq.trans (q_X11_expectThread_11) ?_)
  exact bnd_x ex_f
/-! the model's -/
theorem bad_f (h0 : I 72 0 = nI 0) : runM (d + 1) nX12_bad [.ref 72, .int (nI 0), .int x1, .int x2] (mm L X I J) = rI (nI 0) (mm L X I J) := by
  rw [e_X12_bad, q_X12_bad_0, if_pos rfl, q_X12_bad_26, if_pos h0]
theorem bad_t {k r : Nat} (hk : 0 < k) (hk2 : k < 3) (hr : r < 2) : runM (d + 1) nX12_bad [.ref 72, .int (nI 1), .int (nI k), .int (nI r)] (mm L X (up2 I 72 0 (nI 0)) J) = rI (nI 1) (mm L X (bdM I k r) J) := by
  rw [e_X12_bad, q_X12_bad_0, if_neg (by decide), if_pos up2_s, gd_t (inb_n hr (by decide)), nI_clamp (by omega), q_X12_bad_26]
  have e1 : (up2 (up2 I 72 0 (nI 0)) 72 0 (nI k)) 74 r = I 74 r := by rw [up2_n (by decide), up2_n (by decide)]
  rw [e1, if_neg]
  · rfl
  · rw [up2_n (by decide), up2_s]
    exact nI_ne0 hk (by omega)
theorem ip_t (e : I 76 0 = nI np) (hn : np ≤ 6) (hp : p < np) : runM (d + 2) nX12_isPiece [.ref 72, .int (nI p)] (mm L X I J) = rI (nI 1) (mm L X I J) := by
  have q := (in_np (x := nI p) hn).mpr ⟨p, hp, rfl⟩
  rw [e_X12_isPiece]
  (first | refine Eq.trans (q_X12_isPiece_0) ?_ | refine Eq.trans (q_X12_isPiece_13) ?_)
  rw [e]
  refine (bndN_e (in_t q.1 q.2)).trans ?_
  (first | refine Eq.trans (q_X12_isPiece_0) ?_ | refine Eq.trans (q_X12_isPiece_13) ?_)
  rfl
theorem ip_f (e : I 76 0 = nI np) (hn : np ≤ 6) (hx : ¬ ∃ p, p < np ∧ x = nI p) : runM (d + 2) nX12_isPiece [.ref 72, .int x] (mm L X I J) = rI (nI 0) (mm L X I J) := by
  rw [e_X12_isPiece]
  (first | refine Eq.trans (q_X12_isPiece_0) ?_ | refine Eq.trans (q_X12_isPiece_13) ?_)
  rw [e]
  refine (bndN_e (in_f (fun q => hx ((in_np hn).mp q)))).trans ?_
  (first | refine Eq.trans (q_X12_isPiece_0) ?_ | refine Eq.trans (q_X12_isPiece_13) ?_)
  rfl
theorem if_t (e : I 76 2 = nI nf) (hn : nf ≤ 6) (hp : f < nf) : runM (d + 2) nX12_isFire [.ref 72, .int (nI f)] (mm L X I J) = rI (nI 1) (mm L X I J) := by
  have q := (in_np (x := nI f) hn).mpr ⟨f, hp, rfl⟩
  rw [e_X12_isFire]
  (first | refine Eq.trans (q_X12_isFire_0) ?_ | refine Eq.trans (q_X12_isFire_13) ?_)
  rw [e]
  refine (bndN_e (in_t q.1 q.2)).trans ?_
  (first | refine Eq.trans (q_X12_isFire_0) ?_ | refine Eq.trans (q_X12_isFire_13) ?_)
  rfl
theorem if_f (e : I 76 2 = nI nf) (hn : nf ≤ 6) (hx : ¬ ∃ p, p < nf ∧ x = nI p) : runM (d + 2) nX12_isFire [.ref 72, .int x] (mm L X I J) = rI (nI 0) (mm L X I J) := by
  rw [e_X12_isFire]
  (first | refine Eq.trans (q_X12_isFire_0) ?_ | refine Eq.trans (q_X12_isFire_13) ?_)
  rw [e]
  refine (bndN_e (in_f (fun q => hx ((in_np hn).mp q)))).trans ?_
  (first | refine Eq.trans (q_X12_isFire_0) ?_ | refine Eq.trans (q_X12_isFire_13) ?_)
  rfl
theorem it_t (hp : p ≤ 9) : runM (d + 2) nX12_isThread [.int (nI p)] (mm L X I J) = rI (nI 1) (mm L X I J) := by
  rw [e_X12_isThread]
  (first | refine Eq.trans (q_X12_isThread_0) ?_ | refine Eq.trans (q_X12_isThread_7) ?_)
  refine (bndN_e (in_t (by (try simp (disch := omega) only [nI_leI, nI_ltI, nI_eq, nI_add, pk_mul, n_0add, Nat.zero_add, nI_clamp]) <;> omega) (by (try simp (disch := omega) only [nI_leI, nI_ltI, nI_eq, nI_add, pk_mul, n_0add, Nat.zero_add, nI_clamp]) <;> omega))).trans ?_
  (first | refine Eq.trans (q_X12_isThread_0) ?_ | refine Eq.trans (q_X12_isThread_7) ?_)
  rfl
theorem it_f (hx : ¬ ∃ p, p ≤ 9 ∧ x = nI p) : runM (d + 2) nX12_isThread [.int x] (mm L X I J) = rI (nI 0) (mm L X I J) := by
  rw [e_X12_isThread]
  (first | refine Eq.trans (q_X12_isThread_0) ?_ | refine Eq.trans (q_X12_isThread_7) ?_)
  refine (bndN_e (in_f (fun q => hx ((in_M (by decide)).mp q)))).trans ?_
  (first | refine Eq.trans (q_X12_isThread_0) ?_ | refine Eq.trans (q_X12_isThread_7) ?_)
  rfl
theorem bitsN_ext {P : Nat → Bool} {k nf : Nat} (hk : nf ≤ k) (hP : ∀ f, nf ≤ f → f < k → P f = false) : bitsN P k = bitsN P nf := by
  unfold bitsN
  obtain ⟨r, rfl⟩ : ∃ r, k = nf + r := ⟨k - nf, by omega⟩
  rw [accF_app]
  refine accF_id r _ (fun f h1 h2 => ?_)
  rw [if_neg (by rw [hP f (by omega) (by omega)]; decide)]
theorem out5 (Z : NX np nf N) (h5 : nf ≤ 5) : bitsN (outP N) 5 = bitsN (outP N) nf := by
  refine bitsN_ext h5 (fun f h1 h2 => ?_)
  unfold outP
  rw [Z.2.2.2.1 f h1 h2]
  decide
end EX
