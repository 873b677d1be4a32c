/-! A YEAR IS LIVED, BY BOTH -/
def fYC : Fls := fS 67 ++ [(66, 4), (66, 5)]
def fYM : Fls := fH 534 ++ [(72, 51)]
section YC
variable {d L X : Nat} {I : MI32} {J : MI64} {n nL : Nat} {N : Nt} {h : Hs} {m q : Nat} {cd : Cd}
/-- what the class's part needs to stay -/
def SC (I : MI32) (h : Hs) (m nL : Nat) (cd : Cd) : Prop := HC I h m ∧ LawC I nL cd ∧ Calm I
theorem SC_fr {I I' : MI32} {l : Fls} (S : SC I h m nL cd) (g : Fr l I I') (d1 : dj l sHC = true) (d2 : dj l sLC = true) (d3 : dj l [(52, 6), (54, 0), (55, 0)] = true) : SC I' h m nL cd := ⟨HC_fr S.1 (ag_of g d1), LawC_fr S.2.1 (ag_of g d2), Calm_fr S.2.2 (ag_of g d3)⟩
theorem NC_66 {x : Int32} {k a : Nat} (C : NC I 67 n N) (ha : a = 66) : NC (up2 I a k x) 67 n N := NC_fr C (ag_of (l := [(66, 0)]) (fr_up fr_rfl (by subst ha; rfl)) (by decide))
theorem fyc1 : sbF (sNC 67) fYC = true := by decide
theorem sp_doDrawn (ok : HOK h) (hp : 0 < h 0 0) (hq : q ≤ 16) (S : SC I h m nL cd) (C : NC I 67 n N) (w : wlY h (I 66 4, n, N)) (y z : Ys) (hy : y = yrA h m nL cd (I 66 4, n, N)) (hz : z = yrL h m nL cd q y) : Rt L X (runM (d + 6) nX10_doDrawn [.ref 66, .int (nI q)] (mm L X I J)) none (fun I' J' => (Fr fYC I I' ∧ NC I' 67 z.2.1 z.2.2 ∧ I' 66 4 = z.1 ∧ I' 66 3 = I 66 3) ∧ J' = J) := by
  have h6 := ok.1
  have hn6 : n ≤ 6 := w.1.1.1
  have hc3 : oc3 67 := .inr rfl
  have hpl : rv (rnd (I 66 4)) % h 0 0 < h 0 0 := Nat.mod_lt _ hp
  have w2 : wlY h y := by rw [hy]; exact wl_A ok hp w
  have hy1 : y.1 = rnd (rnd (I 66 4)) := by rw [hy, yrA]
  have hy2 : y.2.1 = st2n h m (kdY (rv (rnd (rnd (I 66 4))) % 4)) (rv (rnd (I 66 4)) % h 0 0) 0 n N := by rw [hy, yrA]
  have hy3 : y.2.2 = st2N h m nL cd (kdY (rv (rnd (rnd (I 66 4))) % 4)) (rv (rnd (I 66 4)) % h 0 0) 0 n N := by rw [hy, yrA]
  clear hy
  rw [e_X10_doDrawn]
  (first | refine rt_eq (q_X10_doDrawn_0) ?_ | refine rt_eq (q_X10_doDrawn_11) ?_ | refine rt_eq (q_X10_doDrawn_17) ?_ | refine rt_eq (q_X10_doDrawn_44) ?_ | refine rt_eq (q_X10_doDrawn_60) ?_ | refine rt_eq (q_X10_doDrawn_72) ?_ | refine rt_eq (q_X10_doDrawn_84) ?_ | refine rt_eq (q_X10_doDrawn_56) ?_ | refine rt_eq (q_X10_doDrawn_68) ?_ | refine rt_eq (q_X10_doDrawn_80) ?_ | refine rt_eq (q_X10_doDrawn_92) ?_ | refine rt_eq (q_X10_doDrawn_93) ?_ | refine rt_eq (q_X10_doDrawn_99) ?_ | refine rt_eq (q_X10_doDrawn_110) ?_)
  rw [S.1.1]
  refine rt_be (sp_drawC hp (by omega)) ?_
  (first | refine rt_eq (q_X10_doDrawn_0) ?_ | refine rt_eq (q_X10_doDrawn_11) ?_ | refine rt_eq (q_X10_doDrawn_17) ?_ | refine rt_eq (q_X10_doDrawn_44) ?_ | refine rt_eq (q_X10_doDrawn_60) ?_ | refine rt_eq (q_X10_doDrawn_72) ?_ | refine rt_eq (q_X10_doDrawn_84) ?_ | refine rt_eq (q_X10_doDrawn_56) ?_ | refine rt_eq (q_X10_doDrawn_68) ?_ | refine rt_eq (q_X10_doDrawn_80) ?_ | refine rt_eq (q_X10_doDrawn_92) ?_ | refine rt_eq (q_X10_doDrawn_93) ?_ | refine rt_eq (q_X10_doDrawn_99) ?_ | refine rt_eq (q_X10_doDrawn_110) ?_)
  refine rt_be (sp_drawC (by decide) (by decide)) ?_
  rw [up2_s]
  generalize hI1 : up2 (up2 I 66 4 (rnd (I 66 4))) 66 4 (rnd (rnd (I 66 4))) = I1
  have g1 : Fr fYC I I1 := by rw [← hI1]; exact fr_up (fr_up fr_rfl rfl) rfl
  have C1 : NC I1 67 n N := by rw [← hI1]; exact NC_66 (NC_66 C rfl) rfl
  have e1 : I1 66 4 = rnd (rnd (I 66 4)) := by rw [← hI1, up2_s]
  have e3 : I1 66 3 = I 66 3 := by rw [← hI1, up2_k (by decide), up2_k (by decide)]
  have S1 : SC I1 h m nL cd := SC_fr S g1 (by decide) (by decide) (by decide)
  clear hI1
  have tail : ∀ I2 J2 u2, Fr fYC I I2 → NC I2 67 y.2.1 y.2.2 → I2 66 4 = y.1 → I2 66 3 = I 66 3 → J2 = J → Rt L X (runI (runM (d + 5)) iX10_doDrawn (93, [some (.ref 66), some (.int (nI q)), u2], [], mm L X I2 J2)) none (fun I' J' => (Fr fYC I I' ∧ NC I' 67 z.2.1 z.2.2 ∧ I' 66 4 = z.1 ∧ I' 66 3 = I 66 3) ∧ J' = J) := by
    intro I2 J2 u2 b1 b2 b3 b4 b5
    have hy6 : y.2.1 ≤ 6 := w2.1.1.1
    (first | refine rt_eq (q_X10_doDrawn_0) ?_ | refine rt_eq (q_X10_doDrawn_11) ?_ | refine rt_eq (q_X10_doDrawn_17) ?_ | refine rt_eq (q_X10_doDrawn_44) ?_ | refine rt_eq (q_X10_doDrawn_60) ?_ | refine rt_eq (q_X10_doDrawn_72) ?_ | refine rt_eq (q_X10_doDrawn_84) ?_ | refine rt_eq (q_X10_doDrawn_56) ?_ | refine rt_eq (q_X10_doDrawn_68) ?_ | refine rt_eq (q_X10_doDrawn_80) ?_ | refine rt_eq (q_X10_doDrawn_92) ?_ | refine rt_eq (q_X10_doDrawn_93) ?_ | refine rt_eq (q_X10_doDrawn_99) ?_ | refine rt_eq (q_X10_doDrawn_110) ?_)
    refine rt_be (sp_drawC (by decide) (by decide)) ?_
    rw [b3]
    generalize hI3 : up2 I2 66 4 (rnd y.1) = I3
    have g3 : Fr fYC I I3 := by rw [← hI3]; exact fr_up b1 rfl
    have C3 : NC I3 67 y.2.1 y.2.2 := by rw [← hI3]; exact NC_66 b2 rfl
    have s3 : I3 66 4 = rnd y.1 := by rw [← hI3, up2_s]
    have s4 : I3 66 3 = I 66 3 := by rw [← hI3, up2_k (by decide), b4]
    clear hI3
    (first | refine rt_eq (q_X10_doDrawn_0) ?_ | refine rt_eq (q_X10_doDrawn_11) ?_ | refine rt_eq (q_X10_doDrawn_17) ?_ | refine rt_eq (q_X10_doDrawn_44) ?_ | refine rt_eq (q_X10_doDrawn_60) ?_ | refine rt_eq (q_X10_doDrawn_72) ?_ | refine rt_eq (q_X10_doDrawn_84) ?_ | refine rt_eq (q_X10_doDrawn_56) ?_ | refine rt_eq (q_X10_doDrawn_68) ?_ | refine rt_eq (q_X10_doDrawn_80) ?_ | refine rt_eq (q_X10_doDrawn_92) ?_ | refine rt_eq (q_X10_doDrawn_93) ?_ | refine rt_eq (q_X10_doDrawn_99) ?_ | refine rt_eq (q_X10_doDrawn_110) ?_)
    unfold yrL at hz
    by_cases e : rv (rnd y.1) % 16 < q
    · rw [if_pos e] at hz
      subst hz
      refine rt_f (by (try simp (disch := omega) only [nI_leI, nI_ltI, nI_eq, nI_add, pk_mul, n_0add, Nat.zero_add, nI_clamp]) <;> omega) ?_
      refine rt_bnd (sp_liftC hc3 C3 hy6) ?_
      rintro I4 J4 ⟨⟨f1, f2⟩, rfl⟩
      (first | refine rt_eq (q_X10_doDrawn_0) ?_ | refine rt_eq (q_X10_doDrawn_11) ?_ | refine rt_eq (q_X10_doDrawn_17) ?_ | refine rt_eq (q_X10_doDrawn_44) ?_ | refine rt_eq (q_X10_doDrawn_60) ?_ | refine rt_eq (q_X10_doDrawn_72) ?_ | refine rt_eq (q_X10_doDrawn_84) ?_ | refine rt_eq (q_X10_doDrawn_56) ?_ | refine rt_eq (q_X10_doDrawn_68) ?_ | refine rt_eq (q_X10_doDrawn_80) ?_ | refine rt_eq (q_X10_doDrawn_92) ?_ | refine rt_eq (q_X10_doDrawn_93) ?_ | refine rt_eq (q_X10_doDrawn_99) ?_ | refine rt_eq (q_X10_doDrawn_110) ?_)
      refine rt_ret ⟨⟨fr_tr g3 (fr_mono f1 fyc1), ?_, (f1 66 4 rfl).trans s3, (f1 66 3 rfl).trans s4⟩, b5⟩
      have en : st2n h m 2 0 0 y.2.1 y.2.2 = y.2.1 - 1 := by
        unfold st2n
        by_cases z : stD h m 2 0 0 y.2.1 y.2.2 = true
        · rw [if_pos z]; rfl
        · rw [if_neg z]
          have e : (!decide (y.2.1 = 0)) = false := by
            rw [Bool.not_eq_true] at z
            exact z
          have : y.2.1 = 0 := by simpa using e
          omega
      show NC I4 67 (st2n h m 2 0 0 y.2.1 y.2.2) (st2N h m nL cd 2 0 0 y.2.1 y.2.2)
      rw [en]
      exact f2
    · rw [if_neg e] at hz
      subst hz
      refine rt_t (by (try simp (disch := omega) only [nI_leI, nI_ltI, nI_eq, nI_add, pk_mul, n_0add, Nat.zero_add, nI_clamp]) <;> omega) ?_
      exact rt_ret ⟨⟨g3, C3, s3, s4⟩, b5⟩
  have k4 : rv (rnd (rnd (I 66 4))) % 4 < 4 := Nat.mod_lt _ (by decide)
  generalize rv (rnd (I 66 4)) % h 0 0 = p at *
  generalize rv (rnd (rnd (I 66 4))) % 4 = k at *
  generalize rnd (rnd (I 66 4)) = s2 at *
  (first | refine rt_eq (q_X10_doDrawn_0) ?_ | refine rt_eq (q_X10_doDrawn_11) ?_ | refine rt_eq (q_X10_doDrawn_17) ?_ | refine rt_eq (q_X10_doDrawn_44) ?_ | refine rt_eq (q_X10_doDrawn_60) ?_ | refine rt_eq (q_X10_doDrawn_72) ?_ | refine rt_eq (q_X10_doDrawn_84) ?_ | refine rt_eq (q_X10_doDrawn_56) ?_ | refine rt_eq (q_X10_doDrawn_68) ?_ | refine rt_eq (q_X10_doDrawn_80) ?_ | refine rt_eq (q_X10_doDrawn_92) ?_ | refine rt_eq (q_X10_doDrawn_93) ?_ | refine rt_eq (q_X10_doDrawn_99) ?_ | refine rt_eq (q_X10_doDrawn_110) ?_)
  have : k = 0 ∨ k = 1 ∨ k = 2 ∨ k = 3 := by omega
  rcases this with rfl | rfl | rfl | rfl
  · refine rt_t rfl ?_
    (first | refine rt_eq (q_X10_doDrawn_0) ?_ | refine rt_eq (q_X10_doDrawn_11) ?_ | refine rt_eq (q_X10_doDrawn_17) ?_ | refine rt_eq (q_X10_doDrawn_44) ?_ | refine rt_eq (q_X10_doDrawn_60) ?_ | refine rt_eq (q_X10_doDrawn_72) ?_ | refine rt_eq (q_X10_doDrawn_84) ?_ | refine rt_eq (q_X10_doDrawn_56) ?_ | refine rt_eq (q_X10_doDrawn_68) ?_ | refine rt_eq (q_X10_doDrawn_80) ?_ | refine rt_eq (q_X10_doDrawn_92) ?_ | refine rt_eq (q_X10_doDrawn_93) ?_ | refine rt_eq (q_X10_doDrawn_99) ?_ | refine rt_eq (q_X10_doDrawn_110) ?_)
    refine rt_bnd (sp_layC hc3 C1 w.1 S1.1 ok hpl) ?_
    rintro I4 J4 ⟨⟨f1, f2⟩, rfl⟩
    (first | refine rt_eq (q_X10_doDrawn_0) ?_ | refine rt_eq (q_X10_doDrawn_11) ?_ | refine rt_eq (q_X10_doDrawn_17) ?_ | refine rt_eq (q_X10_doDrawn_44) ?_ | refine rt_eq (q_X10_doDrawn_60) ?_ | refine rt_eq (q_X10_doDrawn_72) ?_ | refine rt_eq (q_X10_doDrawn_84) ?_ | refine rt_eq (q_X10_doDrawn_56) ?_ | refine rt_eq (q_X10_doDrawn_68) ?_ | refine rt_eq (q_X10_doDrawn_80) ?_ | refine rt_eq (q_X10_doDrawn_92) ?_ | refine rt_eq (q_X10_doDrawn_93) ?_ | refine rt_eq (q_X10_doDrawn_99) ?_ | refine rt_eq (q_X10_doDrawn_110) ?_)
    exact tail _ _ _ (fr_tr g1 (fr_mono f1 fyc1)) (by rw [hy2, hy3]; exact f2) (((f1 66 4 rfl).trans e1).trans hy1.symm) ((f1 66 3 rfl).trans e3) rfl
  · refine rt_f (by decide) (rt_t rfl ?_)
    (first | refine rt_eq (q_X10_doDrawn_0) ?_ | refine rt_eq (q_X10_doDrawn_11) ?_ | refine rt_eq (q_X10_doDrawn_17) ?_ | refine rt_eq (q_X10_doDrawn_44) ?_ | refine rt_eq (q_X10_doDrawn_60) ?_ | refine rt_eq (q_X10_doDrawn_72) ?_ | refine rt_eq (q_X10_doDrawn_84) ?_ | refine rt_eq (q_X10_doDrawn_56) ?_ | refine rt_eq (q_X10_doDrawn_68) ?_ | refine rt_eq (q_X10_doDrawn_80) ?_ | refine rt_eq (q_X10_doDrawn_92) ?_ | refine rt_eq (q_X10_doDrawn_93) ?_ | refine rt_eq (q_X10_doDrawn_99) ?_ | refine rt_eq (q_X10_doDrawn_110) ?_)
    refine rt_bnd (sp_turnC hc3 C1 hn6 (by omega)) ?_
    rintro I4 J4 ⟨⟨f1, f2⟩, rfl⟩
    (first | refine rt_eq (q_X10_doDrawn_0) ?_ | refine rt_eq (q_X10_doDrawn_11) ?_ | refine rt_eq (q_X10_doDrawn_17) ?_ | refine rt_eq (q_X10_doDrawn_44) ?_ | refine rt_eq (q_X10_doDrawn_60) ?_ | refine rt_eq (q_X10_doDrawn_72) ?_ | refine rt_eq (q_X10_doDrawn_84) ?_ | refine rt_eq (q_X10_doDrawn_56) ?_ | refine rt_eq (q_X10_doDrawn_68) ?_ | refine rt_eq (q_X10_doDrawn_80) ?_ | refine rt_eq (q_X10_doDrawn_92) ?_ | refine rt_eq (q_X10_doDrawn_93) ?_ | refine rt_eq (q_X10_doDrawn_99) ?_ | refine rt_eq (q_X10_doDrawn_110) ?_)
    refine tail _ _ _ (fr_tr g1 (fr_mono f1 fyc1)) ?_ (((f1 66 4 rfl).trans e1).trans hy1.symm) ((f1 66 3 rfl).trans e3) rfl
    have en : st2n h m 0 p 0 n N = n := by
      unfold st2n
      by_cases z : stD h m 0 p 0 n N = true
      · rw [if_pos z]; rfl
      · rw [if_neg z]
    rw [hy2, hy3]
    show NC I4 67 (st2n h m 0 p 0 n N) (st2N h m nL cd 0 p 0 n N)
    rw [en]
    exact f2
  · refine rt_f (by decide) (rt_f (by decide) (rt_t rfl ?_))
    (first | refine rt_eq (q_X10_doDrawn_0) ?_ | refine rt_eq (q_X10_doDrawn_11) ?_ | refine rt_eq (q_X10_doDrawn_17) ?_ | refine rt_eq (q_X10_doDrawn_44) ?_ | refine rt_eq (q_X10_doDrawn_60) ?_ | refine rt_eq (q_X10_doDrawn_72) ?_ | refine rt_eq (q_X10_doDrawn_84) ?_ | refine rt_eq (q_X10_doDrawn_56) ?_ | refine rt_eq (q_X10_doDrawn_68) ?_ | refine rt_eq (q_X10_doDrawn_80) ?_ | refine rt_eq (q_X10_doDrawn_92) ?_ | refine rt_eq (q_X10_doDrawn_93) ?_ | refine rt_eq (q_X10_doDrawn_99) ?_ | refine rt_eq (q_X10_doDrawn_110) ?_)
    refine rt_bnd (sp_burstC hc3 C1 hn6 (by omega) (w.2.2.1 p (by omega))) ?_
    rintro I4 J4 ⟨⟨f1, f2⟩, rfl⟩
    (first | refine rt_eq (q_X10_doDrawn_0) ?_ | refine rt_eq (q_X10_doDrawn_11) ?_ | refine rt_eq (q_X10_doDrawn_17) ?_ | refine rt_eq (q_X10_doDrawn_44) ?_ | refine rt_eq (q_X10_doDrawn_60) ?_ | refine rt_eq (q_X10_doDrawn_72) ?_ | refine rt_eq (q_X10_doDrawn_84) ?_ | refine rt_eq (q_X10_doDrawn_56) ?_ | refine rt_eq (q_X10_doDrawn_68) ?_ | refine rt_eq (q_X10_doDrawn_80) ?_ | refine rt_eq (q_X10_doDrawn_92) ?_ | refine rt_eq (q_X10_doDrawn_93) ?_ | refine rt_eq (q_X10_doDrawn_99) ?_ | refine rt_eq (q_X10_doDrawn_110) ?_)
    refine tail _ _ _ (fr_tr g1 (fr_mono f1 fyc1)) ?_ (((f1 66 4 rfl).trans e1).trans hy1.symm) ((f1 66 3 rfl).trans e3) rfl
    have en : st2n h m 4 p 0 n N = n := by
      unfold st2n
      by_cases z : stD h m 4 p 0 n N = true
      · rw [if_pos z]; rfl
      · rw [if_neg z]
    rw [hy2, hy3]
    show NC I4 67 (st2n h m 4 p 0 n N) (st2N h m nL cd 4 p 0 n N)
    rw [en]
    exact f2
  · refine rt_f (by decide) (rt_f (by decide) (rt_f (by decide) ?_))
    (first | refine rt_eq (q_X10_doDrawn_0) ?_ | refine rt_eq (q_X10_doDrawn_11) ?_ | refine rt_eq (q_X10_doDrawn_17) ?_ | refine rt_eq (q_X10_doDrawn_44) ?_ | refine rt_eq (q_X10_doDrawn_60) ?_ | refine rt_eq (q_X10_doDrawn_72) ?_ | refine rt_eq (q_X10_doDrawn_84) ?_ | refine rt_eq (q_X10_doDrawn_56) ?_ | refine rt_eq (q_X10_doDrawn_68) ?_ | refine rt_eq (q_X10_doDrawn_80) ?_ | refine rt_eq (q_X10_doDrawn_92) ?_ | refine rt_eq (q_X10_doDrawn_93) ?_ | refine rt_eq (q_X10_doDrawn_99) ?_ | refine rt_eq (q_X10_doDrawn_110) ?_)
    refine rt_bnd (sp_patchC hc3 C1 hn6 (by omega) (w.2.2.1 p (by omega))) ?_
    rintro I4 J4 ⟨⟨f1, f2⟩, rfl⟩
    (first | refine rt_eq (q_X10_doDrawn_0) ?_ | refine rt_eq (q_X10_doDrawn_11) ?_ | refine rt_eq (q_X10_doDrawn_17) ?_ | refine rt_eq (q_X10_doDrawn_44) ?_ | refine rt_eq (q_X10_doDrawn_60) ?_ | refine rt_eq (q_X10_doDrawn_72) ?_ | refine rt_eq (q_X10_doDrawn_84) ?_ | refine rt_eq (q_X10_doDrawn_56) ?_ | refine rt_eq (q_X10_doDrawn_68) ?_ | refine rt_eq (q_X10_doDrawn_80) ?_ | refine rt_eq (q_X10_doDrawn_92) ?_ | refine rt_eq (q_X10_doDrawn_93) ?_ | refine rt_eq (q_X10_doDrawn_99) ?_ | refine rt_eq (q_X10_doDrawn_110) ?_)
    refine tail _ _ _ (fr_tr g1 (fr_mono f1 fyc1)) ?_ (((f1 66 4 rfl).trans e1).trans hy1.symm) ((f1 66 3 rfl).trans e3) rfl
    have en : st2n h m 5 p 0 n N = n := by
      unfold st2n
      by_cases z : stD h m 5 p 0 n N = true
      · rw [if_pos z]; rfl
      · rw [if_neg z]
    rw [hy2, hy3]
    show NC I4 67 (st2n h m 5 p 0 n N) (st2N h m nL cd 5 p 0 n N)
    rw [en]
    exact f2
end YC
