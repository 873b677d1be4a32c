/-! THE MODEL'S COLLAR; WED BY BOTH -/
def fJM : Fls := fChM ++ [(72, 40)] ++ cells 97 5
section JM
variable {d L X : Nat} {I : MI32} {J : MI64} {h : Hs} {a b m : Nat}
theorem HM_of {I' : MI32} (H : HM I h m) (e0 : ∀ k, k < 3 → I' 76 k = I 76 k) (e1 : I' 72 39 = I 72 39) (e2 : ∀ p k, p < 6 → I' (85 + p) k = I (85 + p) k) (e3 : ∀ e k, e < m → I' (97 + e) k = I (97 + e) k) (e4 : ∀ f k, f < 5 → I' (109 + f) k = I (109 + f) k) (ok : HOK h) : HM I' h m := by
  obtain ⟨h1, h2, h3, h4, h5, h6, h7, h8⟩ := H
  obtain ⟨o1, o2, o3, -, -⟩ := ok
  refine ⟨by rw [e0 0 (by decide), h1], by rw [e0 1 (by decide), h2], by rw [e0 2 (by decide), h3], by rw [e1, h4], h5, fun p hp => ?_, fun e he => ?_, fun f hf => ?_⟩
  · have hp6 : p < 6 := by omega
    rw [e2 p 0 hp6, e2 p 1 hp6, e2 p 2 hp6, e2 p 3 hp6]
    exact h6 p hp
  · rw [e3 e 0 he, e3 e 1 he]
    exact h7 e he
  · rw [e4 f 0 (by omega), e4 f 1 (by omega)]
    exact h8 f hf
theorem HM_add (H : HM I h (h 0 1)) (ok : HOK h) (ha : a ≤ 9) (hb : b ≤ 9) : HM (up2 (up2 (up2 I (97 + h 0 1) 0 (nI a)) (97 + h 0 1) 1 (nI b)) 72 39 (nI (h 0 1 + 1))) (addC h a b) (h 0 1 + 1) := by
  obtain ⟨h1, h2, h3, h4, h5, h6, h7, h8⟩ := H
  obtain ⟨o1, o2, o3, -, -⟩ := ok
  refine ⟨?_, ?_, ?_, up2_s, by omega, fun p hp => ?_, fun e he => ?_, fun f hf => ?_⟩
  · rw [up2_n (by decide), up2_n (by omega), up2_n (by omega), h1]
    rfl
  · rw [up2_n (by decide), up2_n (by omega), up2_n (by omega), h2]
    rfl
  · rw [up2_n (by decide), up2_n (by omega), up2_n (by omega), h3]
    rfl
  · have hp0 : p < h 0 0 := hp
    rw [up2_n (by omega), up2_n (by omega), up2_n (by omega)]
    exact h6 p hp0
  · rw [up2_n (show ¬ 97 + e = 72 by omega)]
    rcases Nat.eq_or_lt_of_le (Nat.le_of_lt_succ he) with z | z
    · subst z
      have e5 : addC h a b 5 (h 0 1) = a := by
        unfold addC
        rw [if_pos ⟨rfl, rfl⟩]
      have e6 : addC h a b 6 (h 0 1) = b := by
        unfold addC
        rw [if_neg (fun q => by omega), if_pos ⟨rfl, rfl⟩]
      rw [e5, e6, up2_k (by decide), up2_s, up2_s]
      exact ⟨rfl, rfl, ha, hb⟩
    · have e5 : addC h a b 5 e = h 5 e := by
        unfold addC
        rw [if_neg (fun q => by omega), if_neg (fun q => by omega)]
      have e6 : addC h a b 6 e = h 6 e := by
        unfold addC
        rw [if_neg (fun q => by omega), if_neg (fun q => by omega)]
      rw [e5, e6, up2_n (show ¬ 97 + e = 97 + h 0 1 by omega), up2_n (show ¬ 97 + e = 97 + h 0 1 by omega)]
      exact h7 e z
  · have hf0 : f < h 0 2 := hf
    rw [up2_n (by omega), up2_n (by omega), up2_n (by omega)]
    exact h8 f hf0
theorem dc1 : dj fChM [(76, 0), (72, 40)] = true := by decide +kernel
theorem dc2 : dj fChM (cells 85 6) = true := by decide +kernel
theorem dc3 : dj fChM (cells 97 5) = true := by decide +kernel
theorem dc4 : dj fChM (cells 109 5) = true := by decide +kernel
theorem fJ1 : sbF fChM fJM = true := by decide +kernel
theorem lp_jm50 {r : Option Value} {Q : MI32 → MI64 → Prop} {x1 : Int32} {t0 : Int32 × Int32} (ok : HOK h) (ha : a ≤ 9) (go : ∀ I' s u5, Fr fJM I I' → HM I' h (h 0 1) → s = nI (a + 1) → ∀ t, t = accF (joA h a) (9 - a) (a + 1) t0 → Rt L X (c_X12_joiner_37 (d + 4) L X I' J x1 t.2 t.1 s u5) r Q) : ∀ q j I' s, j + q = 10 → a < j → Fr fJM I I' → HM I' h (h 0 1) → accF (joA h a) q j s = accF (joA h a) (9 - a) (a + 1) t0 → Rt L X (c_X12_joiner_50 (d + 4) L X I' J x1 s.2 s.1 (nI a) (nI j)) r Q
  | 0, j, I', s, hj, hl, hf, H, he => by
    (first | refine rt_eq (q_X12_joiner_0) ?_ | refine rt_eq (q_X12_joiner_12) ?_ | refine rt_eq (q_X12_joiner_20) ?_ | refine rt_eq (q_X12_joiner_25) ?_ | refine rt_eq (q_X12_joiner_37) ?_ | refine rt_eq (q_X12_joiner_50) ?_ | refine rt_eq (q_X12_joiner_65) ?_ | refine rt_eq (q_X12_joiner_111) ?_ | refine rt_eq (q_X12_joiner_146) ?_)
    refine rt_t (by (try simp (disch := omega) only [nI_leI, nI_ltI, nI_eq, nI_add, pk_mul, n_0add, Nat.zero_add, nI_clamp]) <;> omega) ?_
    exact go I' _ _ hf H (nI_add _ _) s he
  | q + 1, j, I', s, hj, hl, hf, H, he => by
    have ih := lp_jm50 ok ha go q (j + 1)
    have he' : accF (joA h a) q (j + 1) (joA h a j s) = accF (joA h a) (9 - a) (a + 1) t0 := he
    have h39 := H.2.2.2.1
    have h4 := ok.2.1
    (first | refine rt_eq (q_X12_joiner_0) ?_ | refine rt_eq (q_X12_joiner_12) ?_ | refine rt_eq (q_X12_joiner_20) ?_ | refine rt_eq (q_X12_joiner_25) ?_ | refine rt_eq (q_X12_joiner_37) ?_ | refine rt_eq (q_X12_joiner_50) ?_ | refine rt_eq (q_X12_joiner_65) ?_ | refine rt_eq (q_X12_joiner_111) ?_ | refine rt_eq (q_X12_joiner_146) ?_)
    refine rt_f (by (try simp (disch := omega) only [nI_leI, nI_ltI, nI_eq, nI_add, pk_mul, n_0add, Nat.zero_add, nI_clamp]) <;> omega) ?_
    refine rt_be (sp_isJoined H (by omega) (by omega)) ?_
    (first | refine rt_eq (q_X12_joiner_0) ?_ | refine rt_eq (q_X12_joiner_12) ?_ | refine rt_eq (q_X12_joiner_20) ?_ | refine rt_eq (q_X12_joiner_25) ?_ | refine rt_eq (q_X12_joiner_37) ?_ | refine rt_eq (q_X12_joiner_50) ?_ | refine rt_eq (q_X12_joiner_65) ?_ | refine rt_eq (q_X12_joiner_111) ?_ | refine rt_eq (q_X12_joiner_146) ?_)
    by_cases z : jn h (h 0 1) a j = true
    · rw [z]
      refine rt_f (by decide) ?_
      (first | refine rt_eq (q_X12_joiner_0) ?_ | refine rt_eq (q_X12_joiner_12) ?_ | refine rt_eq (q_X12_joiner_20) ?_ | refine rt_eq (q_X12_joiner_25) ?_ | refine rt_eq (q_X12_joiner_37) ?_ | refine rt_eq (q_X12_joiner_50) ?_ | refine rt_eq (q_X12_joiner_65) ?_ | refine rt_eq (q_X12_joiner_111) ?_ | refine rt_eq (q_X12_joiner_146) ?_)
      rw [nI_add]
      refine ih I' s (by omega) (by omega) hf H ?_
      rw [← he']
      unfold joA
      rw [if_pos z]
    · rw [Bool.not_eq_true] at z
      rw [z]
      refine rt_t bI_f ?_
      rw [h39, nI_clamp (show h 0 1 < 2 ^ 31 by omega), up2_n (show ¬ 72 = 97 + h 0 1 by omega), h39, nI_clamp (show h 0 1 < 2 ^ 31 by omega)]
      refine rt_gd (inb_n (by omega) (by decide)) (rt_gd (inb_n (by omega) (by decide)) ?_)
      rw [up2_n (show ¬ 72 = 97 + h 0 1 by omega), up2_n (show ¬ 72 = 97 + h 0 1 by omega), h39, nI_add]
      have H1 := HM_add H ok ha (show j ≤ 9 by omega)
      refine rt_bnd (sp_chains H1 (addC_ok ok)) ?_
      rintro I2 J2 ⟨⟨f2, c1, -, -⟩, rfl⟩
      have c1' : I2 72 46 = nI (joV h a j) := c1
      have a1 := ag_of f2 dc1
      have a2 := ag_of f2 dc2
      have a3 := ag_of f2 dc3
      have a4 := ag_of f2 dc4
      have e39 : I2 72 39 = nI (h 0 1 + 1) := (a1 72 39 rfl).trans up2_s
      have f1 : Fr fJM I' I2 := by
        refine fr_tr (fr_up (fr_up (fr_up fr_rfl ?_) ?_) (by decide +kernel)) (fr_mono f2 fJ1)
        · unfold fJM
          rw [inF_app, in_cells (show h 0 1 < 5 by omega), Bool.or_true]
        · unfold fJM
          rw [inF_app, in_cells (show h 0 1 < 5 by omega), Bool.or_true]
      (first | refine rt_eq (q_X12_joiner_0) ?_ | refine rt_eq (q_X12_joiner_12) ?_ | refine rt_eq (q_X12_joiner_20) ?_ | refine rt_eq (q_X12_joiner_25) ?_ | refine rt_eq (q_X12_joiner_37) ?_ | refine rt_eq (q_X12_joiner_50) ?_ | refine rt_eq (q_X12_joiner_65) ?_ | refine rt_eq (q_X12_joiner_111) ?_ | refine rt_eq (q_X12_joiner_146) ?_)
      rw [e39, n_sub1, up2_k (show ¬ 46 = 39 by decide), c1']
      have H3 : HM (up2 I2 72 39 (nI (h 0 1))) h (h 0 1) := by
        refine HM_of H (fun k hk => ?_) ?_ (fun p k hp => ?_) (fun e k hE => ?_) (fun f k hf => ?_) ok
        · rw [up2_n (by decide), a1 76 k rfl, up2_n (by decide), up2_n (by omega), up2_n (by omega)]
        · rw [up2_s, h39]
        · rw [up2_n (by omega), a2 _ k (in_cells hp), up2_n (by omega), up2_n (by omega), up2_n (by omega)]
        · rw [up2_n (by omega), a3 _ k (in_cells (by omega)), up2_n (by omega), up2_n (by omega), up2_n (by omega)]
        · rw [up2_n (by omega), a4 _ k (in_cells hf), up2_n (by omega), up2_n (by omega), up2_n (by omega)]
      have f3 : Fr fJM I (up2 I2 72 39 (nI (h 0 1))) := fr_up (fr_tr hf f1) (by decide +kernel)
      have hA : joA h a j s = joT h a j s := if_neg (by rw [z]; decide)
      rw [hA] at he'
      by_cases y : s.1 < nI (joV h a j)
      · refine rt_t y ?_
        have hT : joT h a j s = (nI (joV h a j), nI (10 * a + j)) := if_pos y
        rw [hT] at he'
        (first | refine rt_eq (q_X12_joiner_0) ?_ | refine rt_eq (q_X12_joiner_12) ?_ | refine rt_eq (q_X12_joiner_20) ?_ | refine rt_eq (q_X12_joiner_25) ?_ | refine rt_eq (q_X12_joiner_37) ?_ | refine rt_eq (q_X12_joiner_50) ?_ | refine rt_eq (q_X12_joiner_65) ?_ | refine rt_eq (q_X12_joiner_111) ?_ | refine rt_eq (q_X12_joiner_146) ?_)
        rw [nI_add, pk_mul, nI_add]
        exact ih _ (nI (joV h a j), nI (10 * a + j)) (by omega) (by omega) f3 H3 he'
      · refine rt_f y ?_
        have hT : joT h a j s = s := if_neg y
        rw [hT] at he'
        (first | refine rt_eq (q_X12_joiner_0) ?_ | refine rt_eq (q_X12_joiner_12) ?_ | refine rt_eq (q_X12_joiner_20) ?_ | refine rt_eq (q_X12_joiner_25) ?_ | refine rt_eq (q_X12_joiner_37) ?_ | refine rt_eq (q_X12_joiner_50) ?_ | refine rt_eq (q_X12_joiner_65) ?_ | refine rt_eq (q_X12_joiner_111) ?_ | refine rt_eq (q_X12_joiner_146) ?_)
        rw [nI_add]
        exact ih _ s (by omega) (by omega) f3 H3 he'
theorem lp_jm37 {w : Nat} (ok : HOK h) (hw : w ≤ 1) : ∀ q j I' s u5, j + q = 10 → Fr fJM I I' → HM I' h (h 0 1) → accF (fun a s => accF (joA h a) (9 - a) (a + 1) s) q j s = joR h → Rt L X (c_X12_joiner_37 (d + 4) L X I' J (nI w) s.2 s.1 (nI j) u5) (some (.int (if w = 0 then (joR h).1 else (joR h).2))) (fun I'' J' => (Fr fJM I I'' ∧ HM I'' h (h 0 1)) ∧ J' = J)
  | 0, j, I', s, u5, hj, hf, H, he => by
    have e : s = joR h := he
    (first | refine rt_eq (q_X12_joiner_0) ?_ | refine rt_eq (q_X12_joiner_12) ?_ | refine rt_eq (q_X12_joiner_20) ?_ | refine rt_eq (q_X12_joiner_25) ?_ | refine rt_eq (q_X12_joiner_37) ?_ | refine rt_eq (q_X12_joiner_50) ?_ | refine rt_eq (q_X12_joiner_65) ?_ | refine rt_eq (q_X12_joiner_111) ?_ | refine rt_eq (q_X12_joiner_146) ?_)
    refine rt_t (by (try simp (disch := omega) only [nI_leI, nI_ltI, nI_eq, nI_add, pk_mul, n_0add, Nat.zero_add, nI_clamp]) <;> omega) ?_
    have : w = 0 ∨ w = 1 := by omega
    rcases this with rfl | rfl
    · refine rt_t rfl ?_
      exact rt_v (rt_ret ⟨⟨hf, H⟩, rfl⟩) (by rw [if_pos rfl, e])
    · refine rt_f (by decide) ?_
      exact rt_v (rt_ret ⟨⟨hf, H⟩, rfl⟩) (by rw [if_neg (by decide), e])
  | q + 1, j, I', s, u5, hj, hf, H, he => by
    have ih := lp_jm37 ok hw q (j + 1)
    (first | refine rt_eq (q_X12_joiner_0) ?_ | refine rt_eq (q_X12_joiner_12) ?_ | refine rt_eq (q_X12_joiner_20) ?_ | refine rt_eq (q_X12_joiner_25) ?_ | refine rt_eq (q_X12_joiner_37) ?_ | refine rt_eq (q_X12_joiner_50) ?_ | refine rt_eq (q_X12_joiner_65) ?_ | refine rt_eq (q_X12_joiner_111) ?_ | refine rt_eq (q_X12_joiner_146) ?_)
    refine rt_f (by (try simp (disch := omega) only [nI_leI, nI_ltI, nI_eq, nI_add, pk_mul, n_0add, Nat.zero_add, nI_clamp]) <;> omega) ?_
    rw [nI_add]
    refine lp_jm50 (I := I') (t0 := s) ok (by omega) (fun I2 x u5 f2 H2 hx t ht => ?_) (9 - j) (j + 1) I' s (by omega) (by omega) fr_rfl H rfl
    rw [hx]
    refine ih I2 t u5 (by omega) (fr_tr hf f2) H2 ?_
    rw [ht, ← he]
    rfl
end JM
/-! wed -/
theorem mxA_f {P : Nat → Bool} {g : Nat → Nat} {w a : Nat} (hp : P w = false) : mxA P g w a = a := if_neg (by rw [hp]; decide)
theorem mxA_t {P : Nat → Bool} {g : Nat → Nat} {w a : Nat} (hp : P w = true) : mxA P g w a = Nat.max a (g w) := if_pos hp
def ftP (h : Hs) (m p q : Nat) : Bool := fol h m (2 * p) (2 * q) || fol h m (2 * q) (2 * p)
def wdF (h : Hs) (m : Nat) : Nat → Nat → Nat
  | 0, _ => 0
  | k + 1, s => match fndF (fun p => s.testBit p) 6 0 with
    | none => 0
    | some p => accF (mxA (fun q => (clr s p).testBit q && ftP h m p q) (fun q => 1 + wdF h m k (clr (clr s p) q))) (h 0 0 - (p + 1)) (p + 1) (wdF h m k (clr s p))
def wd (h : Hs) (m s : Nat) : Nat := wdF h m s s
section WD
variable {d L X : Nat} {I : MI32} {J : MI64} {h : Hs} {m s : Nat}
theorem least_some (h0 : 0 < s) (h64 : s < 64) : ∃ p, fndF (fun p => s.testBit p) 6 0 = some p ∧ p < 6 ∧ s.testBit p = true ∧ ∀ i, i < p → s.testBit i = false := by
  rcases hf : fndF (fun p => s.testBit p) 6 0 with _ | p
  · exfalso
    have hn := fndF_non 6 0 hf
    have : s = 0 := by
      apply Nat.eq_of_testBit_eq
      intro i
      rw [Nat.zero_testBit]
      rcases Nat.lt_or_ge i 6 with z | z
      · exact hn i (by omega) (by omega)
      · exact Nat.testBit_lt_two_pow (Nat.lt_of_lt_of_le (show s < 2 ^ 6 from h64) (Nat.pow_le_pow_right (by decide) z))
    omega
  · obtain ⟨q1, q2, q3, q4⟩ := fndF_some 6 0 hf
    exact ⟨p, rfl, by omega, q3, fun i hi => q4 i (by omega) hi⟩
theorem wdF_st : ∀ k k' s, s < 64 → s ≤ k → s ≤ k' → wdF h m k s = wdF h m k' s
  | 0, 0, s, _, _, _ => rfl
  | 0, k' + 1, s, _, h1, _ => by
    have : s = 0 := by omega
    subst this
    rfl
  | k + 1, 0, s, _, _, h2 => by
    have : s = 0 := by omega
    subst this
    rfl
  | k + 1, k' + 1, s, h64, h1, h2 => by
    rcases Nat.eq_zero_or_pos s with z | z
    · subst z
      rfl
    · obtain ⟨p, hp, p6, pb, -⟩ := least_some z h64
      unfold wdF
      rw [hp]
      have l1 := clr_lt pb
      simp only
      rw [wdF_st k k' (clr s p) (by omega) (by omega) (by omega)]
      refine mxA_congr (fun q q1 q2 hq => ?_)
      have l2 := clr_le (T := clr s p) (b := q)
      rw [wdF_st k k' (clr (clr s p) q) (by omega) (by omega) (by omega)]
theorem wd_0 : wd h m 0 = 0 := rfl
theorem wd_eq {p : Nat} (h64 : s < 64) (hp : fndF (fun p => s.testBit p) 6 0 = some p) (pb : s.testBit p = true) : wd h m s = accF (mxA (fun q => (clr s p).testBit q && ftP h m p q) (fun q => 1 + wd h m (clr (clr s p) q))) (h 0 0 - (p + 1)) (p + 1) (wd h m (clr s p)) := by
  have l1 := clr_lt pb
  unfold wd
  obtain ⟨k, rfl⟩ : ∃ k, s = k + 1 := ⟨s - 1, by omega⟩
  conv => lhs; unfold wdF
  rw [hp]
  simp only
  rw [wdF_st k (clr (k + 1) p) (clr (k + 1) p) (by omega) (by omega) (Nat.le_refl _)]
  refine mxA_congr (fun q q1 q2 hq => ?_)
  have l2 := clr_le (T := clr (k + 1) p) (b := q)
  rw [wdF_st k (clr (clr (k + 1) p) q) (clr (clr (k + 1) p) q) (by omega) (by omega) (Nat.le_refl _)]
theorem wdF_le : ∀ k s, wdF h m k s ≤ k
  | 0, _ => Nat.le_refl _
  | k + 1, s => by
    unfold wdF
    rcases fndF (fun p => s.testBit p) 6 0 with _ | p
    · exact Nat.zero_le _
    · simp only
      rcases mx_at (P := fun q => (clr s p).testBit q && ftP h m p q) (g := fun q => 1 + wdF h m k (clr (clr s p) q)) (h 0 0 - (p + 1)) (p + 1) (wdF h m k (clr s p)) with e | ⟨w, -, -, -, e⟩
      · rw [e]
        have := wdF_le k (clr s p)
        omega
      · rw [← e]
        have := wdF_le k (clr (clr s p) w)
        omega
theorem wd_le : wd h m s ≤ s := wdF_le s s
/-! the class -/
theorem lp_leastOf (h64 : s < 64) : ∀ q j, j + q = 6 → c_X5_leastOf_2 (d + 1) L X I J (nI s) (nI j) = rI (nI ((fndF (fun p => s.testBit p) q j).getD 0)) (mm L X I J)
  | 0, j, hj => by
    (first | refine Eq.trans (q_X5_leastOf_0) ?_ | refine Eq.trans (q_X5_leastOf_2) ?_ | refine Eq.trans (q_X5_leastOf_13) ?_)
    rw [if_pos (by (try simp (disch := omega) only [nI_leI, nI_ltI, nI_eq, nI_add, pk_mul, n_0add, Nat.zero_add, nI_clamp]) <;> omega)]
    rfl
  | q + 1, j, hj => by
    have ih := lp_leastOf h64 q (j + 1) (by omega)
    (first | refine Eq.trans (q_X5_leastOf_0) ?_ | refine Eq.trans (q_X5_leastOf_2) ?_ | refine Eq.trans (q_X5_leastOf_13) ?_)
    rw [if_neg (by (try simp (disch := omega) only [nI_leI, nI_ltI, nI_eq, nI_add, pk_mul, n_0add, Nat.zero_add, nI_clamp]) <;> omega)]
    refine (bndN_e sp_bit).trans ?_
    rw [n_bit (by omega) (by omega)]
    (first | refine Eq.trans (q_X5_leastOf_0) ?_ | refine Eq.trans (q_X5_leastOf_2) ?_ | refine Eq.trans (q_X5_leastOf_13) ?_)
    unfold fndF
    by_cases z : s.testBit j = true
    · rw [if_pos (by rw [tb_test.mpr z]), if_pos z]
      rfl
    · rw [if_neg z]
      rw [Bool.not_eq_true] at z
      rw [if_neg (by rw [tb_test0.mpr z]; decide), nI_add]
      exact ih
theorem sp_leastOf (h64 : s < 64) : runM (d + 2) nX5_leastOf [.int (nI s)] (mm L X I J) = rI (nI ((fndF (fun p => s.testBit p) 6 0).getD 0)) (mm L X I J) := by
  rw [e_X5_leastOf]
  (first | refine Eq.trans (q_X5_leastOf_0) ?_ | refine Eq.trans (q_X5_leastOf_2) ?_ | refine Eq.trans (q_X5_leastOf_13) ?_)
  exact lp_leastOf h64 6 0 (by omega)
theorem sp_areFit {p q : Nat} (K : HC I h m) (ok : HOK h) (hp : p < h 0 0) (hq : q < h 0 0) : runM (d + 4) nX5_areFit [.ref 56, .int (nI p), .int (nI q)] (mm L X I J) = rB (ftP h m p q) (mm L X I J) := by
  rw [e_X5_areFit]
  (first | refine Eq.trans (q_X5_areFit_0) ?_ | refine Eq.trans (q_X5_areFit_13) ?_ | refine Eq.trans (q_X5_areFit_29) ?_)
  rw [pk_mul, pk_mul]
  refine (bnd_e (folC K ok (by omega) (by omega))).trans ?_
  (first | refine Eq.trans (q_X5_areFit_0) ?_ | refine Eq.trans (q_X5_areFit_13) ?_ | refine Eq.trans (q_X5_areFit_29) ?_)
  unfold ftP
  by_cases z : fol h m (2 * p) (2 * q) = true
  · rw [z, if_neg (by decide)]
    rfl
  · rw [Bool.not_eq_true] at z
    rw [z, if_pos bI_f, pk_mul, pk_mul]
    refine (bnd_e (folC K ok (by omega) (by omega))).trans ?_
    (first | refine Eq.trans (q_X5_areFit_0) ?_ | refine Eq.trans (q_X5_areFit_13) ?_ | refine Eq.trans (q_X5_areFit_29) ?_)
    rw [Bool.false_or]
    generalize fol h m (2 * q) (2 * p) = b
    cases b
    · exact if_pos rfl
    · exact if_neg (by decide)
theorem lp_mp55 {r : Option Value} {Q : MI32 → MI64 → Prop} {p : Nat} {x1 : Int32} (K : HC I h m) (ok : HOK h) (hs : s < 2 ^ h 0 0) (h0 : 0 < s) (hp : fndF (fun p => s.testBit p) 6 0 = some p) (pb : s.testBit p = true) (p6 : p < h 0 0) (T : ∀ s', s' < s → I 63 s' = nI (wd h m s')) (go : ∀ u3 u4 u5 u6, Rt L X (c_X5_mostPairs_14 (d + 4) L X (up2 I 63 s (nI (wd h m s))) J x1 (nI (s + 1)) u3 u4 u5 u6) r Q) : ∀ q j a, j + q = h 0 0 → p < j → a ≤ 64 → accF (mxA (fun q => (clr s p).testBit q && ftP h m p q) (fun q => 1 + wd h m (clr (clr s p) q))) q j a = wd h m s → Rt L X (c_X5_mostPairs_55 (d + 4) L X I J x1 (nI s) (nI p) (nI (clr s p)) (nI a) (nI j)) r Q
  | 0, j, a, hj, hpj, ha, he => by
    have h6 := ok.1
    have p64 := pow6 ok
    have e : a = wd h m s := he
    (first | refine rt_eq (q_X5_mostPairs_0) ?_ | refine rt_eq (q_X5_mostPairs_14) ?_ | refine rt_eq (q_X5_mostPairs_133) ?_ | refine rt_eq (q_X5_mostPairs_29) ?_ | refine rt_eq (q_X5_mostPairs_141) ?_ | refine rt_eq (q_X5_mostPairs_48) ?_ | refine rt_eq (q_X5_mostPairs_55) ?_ | refine rt_eq (q_X5_mostPairs_74) ?_ | refine rt_eq (q_X5_mostPairs_113) ?_ | refine rt_eq (q_X5_mostPairs_85) ?_ | refine rt_eq (q_X5_mostPairs_107) ?_)
    rw [K.1]
    refine rt_t (by (try simp (disch := omega) only [nI_leI, nI_ltI, nI_eq, nI_add, pk_mul, n_0add, Nat.zero_add, nI_clamp]) <;> omega) (rt_gd (inb_n (by omega) (by decide)) ?_)
    rw [nI_clamp (by omega), nI_add, e]
    exact go _ _ _ _
  | q + 1, j, a, hj, hpj, ha, he => by
    have ih := lp_mp55 K ok hs h0 hp pb p6 T go q (j + 1)
    have h6 := ok.1
    have p64 := pow6 ok
    have l1 := clr_lt pb
    have he' : accF (mxA (fun q => (clr s p).testBit q && ftP h m p q) (fun q => 1 + wd h m (clr (clr s p) q))) q (j + 1) (mxA (fun q => (clr s p).testBit q && ftP h m p q) (fun q => 1 + wd h m (clr (clr s p) q)) j a) = wd h m s := he
    have next : ((clr s p).testBit j && ftP h m p j) = false → Rt L X (runI (runM (d + 4)) iX5_mostPairs (113, [some (.ref 56), some (.int x1), some (.int (nI s)), some (.int (nI p)), some (.int (nI (clr s p))), some (.int (nI a)), some (.int (nI j))], [], mm L X I J)) r Q := by
      intro hn
      (first | refine rt_eq (q_X5_mostPairs_0) ?_ | refine rt_eq (q_X5_mostPairs_14) ?_ | refine rt_eq (q_X5_mostPairs_133) ?_ | refine rt_eq (q_X5_mostPairs_29) ?_ | refine rt_eq (q_X5_mostPairs_141) ?_ | refine rt_eq (q_X5_mostPairs_48) ?_ | refine rt_eq (q_X5_mostPairs_55) ?_ | refine rt_eq (q_X5_mostPairs_74) ?_ | refine rt_eq (q_X5_mostPairs_113) ?_ | refine rt_eq (q_X5_mostPairs_85) ?_ | refine rt_eq (q_X5_mostPairs_107) ?_)
      rw [nI_add]
      refine ih a (by omega) (by omega) ha ?_
      rw [← he']
      congr 1
      exact (mxA_f hn).symm
    (first | refine rt_eq (q_X5_mostPairs_0) ?_ | refine rt_eq (q_X5_mostPairs_14) ?_ | refine rt_eq (q_X5_mostPairs_133) ?_ | refine rt_eq (q_X5_mostPairs_29) ?_ | refine rt_eq (q_X5_mostPairs_141) ?_ | refine rt_eq (q_X5_mostPairs_48) ?_ | refine rt_eq (q_X5_mostPairs_55) ?_ | refine rt_eq (q_X5_mostPairs_74) ?_ | refine rt_eq (q_X5_mostPairs_113) ?_ | refine rt_eq (q_X5_mostPairs_85) ?_ | refine rt_eq (q_X5_mostPairs_107) ?_)
    rw [K.1]
    refine rt_f (by (try simp (disch := omega) only [nI_leI, nI_ltI, nI_eq, nI_add, pk_mul, n_0add, Nat.zero_add, nI_clamp]) <;> omega) ?_
    refine rt_bne sp_bit ?_
    rw [n_bit (by omega) (by omega)]
    (first | refine rt_eq (q_X5_mostPairs_0) ?_ | refine rt_eq (q_X5_mostPairs_14) ?_ | refine rt_eq (q_X5_mostPairs_133) ?_ | refine rt_eq (q_X5_mostPairs_29) ?_ | refine rt_eq (q_X5_mostPairs_141) ?_ | refine rt_eq (q_X5_mostPairs_48) ?_ | refine rt_eq (q_X5_mostPairs_55) ?_ | refine rt_eq (q_X5_mostPairs_74) ?_ | refine rt_eq (q_X5_mostPairs_113) ?_ | refine rt_eq (q_X5_mostPairs_85) ?_ | refine rt_eq (q_X5_mostPairs_107) ?_)
    by_cases z : (clr s p).testBit j = true
    · refine rt_t (by rw [tb_test.mpr z]) ?_
      refine rt_be (sp_areFit K ok p6 (by omega)) ?_
      (first | refine rt_eq (q_X5_mostPairs_0) ?_ | refine rt_eq (q_X5_mostPairs_14) ?_ | refine rt_eq (q_X5_mostPairs_133) ?_ | refine rt_eq (q_X5_mostPairs_29) ?_ | refine rt_eq (q_X5_mostPairs_141) ?_ | refine rt_eq (q_X5_mostPairs_48) ?_ | refine rt_eq (q_X5_mostPairs_55) ?_ | refine rt_eq (q_X5_mostPairs_74) ?_ | refine rt_eq (q_X5_mostPairs_113) ?_ | refine rt_eq (q_X5_mostPairs_85) ?_ | refine rt_eq (q_X5_mostPairs_107) ?_)
      by_cases y : ftP h m p j = true
      · rw [y]
        refine rt_f (by decide) ?_
        rw [n_clr (by omega)]
        have l2 := clr_le (T := clr s p) (b := j)
        have l3 := wd_le (h := h) (m := m) (s := clr (clr s p) j)
        refine rt_bne (sp_pick ka_63 (by decide)) ?_
        rw [pk_n (by omega) (by decide), T _ (by omega)]
        (first | refine rt_eq (q_X5_mostPairs_0) ?_ | refine rt_eq (q_X5_mostPairs_14) ?_ | refine rt_eq (q_X5_mostPairs_133) ?_ | refine rt_eq (q_X5_mostPairs_29) ?_ | refine rt_eq (q_X5_mostPairs_141) ?_ | refine rt_eq (q_X5_mostPairs_48) ?_ | refine rt_eq (q_X5_mostPairs_55) ?_ | refine rt_eq (q_X5_mostPairs_74) ?_ | refine rt_eq (q_X5_mostPairs_113) ?_ | refine rt_eq (q_X5_mostPairs_85) ?_ | refine rt_eq (q_X5_mostPairs_107) ?_)
        rw [nI_add, mx_n (by omega) (by omega)]
        (first | refine rt_eq (q_X5_mostPairs_0) ?_ | refine rt_eq (q_X5_mostPairs_14) ?_ | refine rt_eq (q_X5_mostPairs_133) ?_ | refine rt_eq (q_X5_mostPairs_29) ?_ | refine rt_eq (q_X5_mostPairs_141) ?_ | refine rt_eq (q_X5_mostPairs_48) ?_ | refine rt_eq (q_X5_mostPairs_55) ?_ | refine rt_eq (q_X5_mostPairs_74) ?_ | refine rt_eq (q_X5_mostPairs_113) ?_ | refine rt_eq (q_X5_mostPairs_85) ?_ | refine rt_eq (q_X5_mostPairs_107) ?_)
        rw [nI_add]
        refine ih _ (by omega) (by omega) (Nat.max_le.mpr ⟨ha, by omega⟩) ?_
        rw [← he']
        congr 1
        exact (mxA_t (P := fun q => (clr s p).testBit q && ftP h m p q) (g := fun q => 1 + wd h m (clr (clr s p) q)) (w := j) (a := a) (by show ((clr s p).testBit j && ftP h m p j) = true; rw [z, y]; rfl)).symm
      · rw [Bool.not_eq_true] at y
        rw [y]
        refine rt_t bI_f (next ?_)
        rw [y, Bool.and_false]
    · rw [Bool.not_eq_true] at z
      refine rt_f (by rw [tb_test0.mpr z]; decide) (next ?_)
      rw [z, Bool.false_and]
theorem lp_mp14 (K : HC I h m) (ok : HOK h) : ∀ q s I' u3 u4 u5 u6, s + q = 2 ^ h 0 0 → 0 < s → Fr [(63, 0)] I I' → (∀ s', s' < s → I' 63 s' = nI (wd h m s')) → Rt L X (c_X5_mostPairs_14 (d + 4) L X I' J (nI (2 ^ h 0 0 - 1)) (nI s) u3 u4 u5 u6) (some (.int (nI (wd h m (2 ^ h 0 0 - 1))))) (fun I'' J' => (Fr [(63, 0)] I I'' ∧ I'' 63 0 = nI 0) ∧ J' = J)
  | 0, s, I', u3, u4, u5, u6, hq, h0, hf, hT => by
    have p64 := pow6 ok
    (first | refine rt_eq (q_X5_mostPairs_0) ?_ | refine rt_eq (q_X5_mostPairs_14) ?_ | refine rt_eq (q_X5_mostPairs_133) ?_ | refine rt_eq (q_X5_mostPairs_29) ?_ | refine rt_eq (q_X5_mostPairs_141) ?_ | refine rt_eq (q_X5_mostPairs_48) ?_ | refine rt_eq (q_X5_mostPairs_55) ?_ | refine rt_eq (q_X5_mostPairs_74) ?_ | refine rt_eq (q_X5_mostPairs_113) ?_ | refine rt_eq (q_X5_mostPairs_85) ?_ | refine rt_eq (q_X5_mostPairs_107) ?_)
    refine rt_t (by (try simp (disch := omega) only [nI_leI, nI_ltI, nI_eq, nI_add, pk_mul, n_0add, Nat.zero_add, nI_clamp]) <;> omega) ?_
    (first | refine rt_eq (q_X5_mostPairs_0) ?_ | refine rt_eq (q_X5_mostPairs_14) ?_ | refine rt_eq (q_X5_mostPairs_133) ?_ | refine rt_eq (q_X5_mostPairs_29) ?_ | refine rt_eq (q_X5_mostPairs_141) ?_ | refine rt_eq (q_X5_mostPairs_48) ?_ | refine rt_eq (q_X5_mostPairs_55) ?_ | refine rt_eq (q_X5_mostPairs_74) ?_ | refine rt_eq (q_X5_mostPairs_113) ?_ | refine rt_eq (q_X5_mostPairs_85) ?_ | refine rt_eq (q_X5_mostPairs_107) ?_)
    refine rt_bne (sp_pick ka_63 (by decide)) ?_
    (first | refine rt_eq (q_X5_mostPairs_0) ?_ | refine rt_eq (q_X5_mostPairs_14) ?_ | refine rt_eq (q_X5_mostPairs_133) ?_ | refine rt_eq (q_X5_mostPairs_29) ?_ | refine rt_eq (q_X5_mostPairs_141) ?_ | refine rt_eq (q_X5_mostPairs_48) ?_ | refine rt_eq (q_X5_mostPairs_55) ?_ | refine rt_eq (q_X5_mostPairs_74) ?_ | refine rt_eq (q_X5_mostPairs_113) ?_ | refine rt_eq (q_X5_mostPairs_85) ?_ | refine rt_eq (q_X5_mostPairs_107) ?_)
    refine rt_v (rt_ret ⟨⟨hf, hT 0 h0⟩, rfl⟩) ?_
    rw [pk_n (by omega) (by decide), hT _ (by omega)]
  | q + 1, s, I', u3, u4, u5, u6, hq, h0, hf, hT => by
    have ih := lp_mp14 K ok q (s + 1)
    have p64 := pow6 ok
    have h6 := ok.1
    have K' := HC_fr K (ag_of hf (by decide))
    obtain ⟨p, hp, p6, pb, pl⟩ := least_some h0 (show s < 64 by omega)
    have pnp : p < h 0 0 := by
      rcases Nat.lt_or_ge p (h 0 0) with z | z
      · exact z
      · have := Nat.testBit_lt_two_pow (x := s) (i := p) (Nat.lt_of_lt_of_le (show s < 2 ^ h 0 0 by omega) (Nat.pow_le_pow_right (by decide) z))
        rw [this] at pb
        cases pb
    have l1 := clr_lt pb
    have l3 := wd_le (h := h) (m := m) (s := clr s p)
    (first | refine rt_eq (q_X5_mostPairs_0) ?_ | refine rt_eq (q_X5_mostPairs_14) ?_ | refine rt_eq (q_X5_mostPairs_133) ?_ | refine rt_eq (q_X5_mostPairs_29) ?_ | refine rt_eq (q_X5_mostPairs_141) ?_ | refine rt_eq (q_X5_mostPairs_48) ?_ | refine rt_eq (q_X5_mostPairs_55) ?_ | refine rt_eq (q_X5_mostPairs_74) ?_ | refine rt_eq (q_X5_mostPairs_113) ?_ | refine rt_eq (q_X5_mostPairs_85) ?_ | refine rt_eq (q_X5_mostPairs_107) ?_)
    refine rt_f (by (try simp (disch := omega) only [nI_leI, nI_ltI, nI_eq, nI_add, pk_mul, n_0add, Nat.zero_add, nI_clamp]) <;> omega) (rt_f (by (try simp (disch := omega) only [nI_leI, nI_ltI, nI_eq, nI_add, pk_mul, n_0add, Nat.zero_add, nI_clamp]) <;> omega) ?_)
    refine rt_bne (sp_leastOf (by omega)) ?_
    rw [hp]
    (first | refine rt_eq (q_X5_mostPairs_0) ?_ | refine rt_eq (q_X5_mostPairs_14) ?_ | refine rt_eq (q_X5_mostPairs_133) ?_ | refine rt_eq (q_X5_mostPairs_29) ?_ | refine rt_eq (q_X5_mostPairs_141) ?_ | refine rt_eq (q_X5_mostPairs_48) ?_ | refine rt_eq (q_X5_mostPairs_55) ?_ | refine rt_eq (q_X5_mostPairs_74) ?_ | refine rt_eq (q_X5_mostPairs_113) ?_ | refine rt_eq (q_X5_mostPairs_85) ?_ | refine rt_eq (q_X5_mostPairs_107) ?_)
    show Rt L X (bndN (runM (d + 4) nX11_pick [.ref 63, .int (nI s &&& ((nI 1 <<< (nI p &&& 31)) ^^^ (-1)))] (mm L X I' J)) (fun v m' => runI (runM (d + 4)) iX5_mostPairs (48, [some (.ref 56), some (.int (nI (2 ^ h 0 0 - 1))), some (.int (nI s)), some (.int (nI p)), some (.int (nI s &&& ((nI 1 <<< (nI p &&& 31)) ^^^ (-1)))), u5, u6], v.toList ++ [], m'))) _ _
    rw [n_clr (by omega)]
    refine rt_bne (sp_pick ka_63 (by decide)) ?_
    rw [pk_n (by omega) (by decide), hT _ l1]
    (first | refine rt_eq (q_X5_mostPairs_0) ?_ | refine rt_eq (q_X5_mostPairs_14) ?_ | refine rt_eq (q_X5_mostPairs_133) ?_ | refine rt_eq (q_X5_mostPairs_29) ?_ | refine rt_eq (q_X5_mostPairs_141) ?_ | refine rt_eq (q_X5_mostPairs_48) ?_ | refine rt_eq (q_X5_mostPairs_55) ?_ | refine rt_eq (q_X5_mostPairs_74) ?_ | refine rt_eq (q_X5_mostPairs_113) ?_ | refine rt_eq (q_X5_mostPairs_85) ?_ | refine rt_eq (q_X5_mostPairs_107) ?_)
    rw [nI_add]
    refine lp_mp55 K' ok (by omega) h0 hp pb pnp hT (fun u3 u4 u5 u6 => ?_) (h 0 0 - (p + 1)) (p + 1) _ (by omega) (by omega) (by omega) (wd_eq (by omega) hp pb).symm
    refine ih _ u3 u4 u5 u6 (by omega) (by omega) (fr_up hf rfl) ?_
    intro s' hs'
    rw [up2_at]
    by_cases e : s' = s
    · rw [if_pos e, e]
    · rw [if_neg e]
      exact hT s' (by omega)
theorem sp_mostPairs (K : HC I h m) (ok : HOK h) (h0 : I 63 0 = nI 0) : Rt L X (runM (d + 5) nX5_mostPairs [.ref 56] (mm L X I J)) (some (.int (nI (wd h m (2 ^ h 0 0 - 1))))) (fun I'' J' => (Fr [(63, 0)] I I'' ∧ I'' 63 0 = nI 0) ∧ J' = J) := by
  have h6 := ok.1
  have hp : 0 < 2 ^ h 0 0 := Nat.two_pow_pos _
  rw [e_X5_mostPairs]
  (first | refine rt_eq (q_X5_mostPairs_0) ?_ | refine rt_eq (q_X5_mostPairs_14) ?_ | refine rt_eq (q_X5_mostPairs_133) ?_ | refine rt_eq (q_X5_mostPairs_29) ?_ | refine rt_eq (q_X5_mostPairs_141) ?_ | refine rt_eq (q_X5_mostPairs_48) ?_ | refine rt_eq (q_X5_mostPairs_55) ?_ | refine rt_eq (q_X5_mostPairs_74) ?_ | refine rt_eq (q_X5_mostPairs_113) ?_ | refine rt_eq (q_X5_mostPairs_85) ?_ | refine rt_eq (q_X5_mostPairs_107) ?_)
  rw [K.1, n_pow (by omega), pk_sub (by omega)]
  refine lp_mp14 K ok (2 ^ h 0 0 - 1) 1 I _ _ _ _ (by omega) (by omega) fr_rfl ?_
  intro s' hs'
  have : s' = 0 := by omega
  subst this
  rw [h0]
  rfl
/-! the model -/
theorem lp_wd10 {p : Nat} {u4 u5 : Option Value} (h64 : s < 64) (p6 : p < 6) (pb : s.testBit p = true) (pl : ∀ i, i < p → s.testBit i = false) : ∀ q j, j + q = p → c_X12_weds_10 (d + 1) L X I J (nI s) (nI j) (some (.int (nI 0))) u4 u5 = runI (runM (d + 1)) iX12_weds (15, [some (.ref 72), some (.int (nI s)), some (.int (nI p)), some (.int (nI 0)), u4, u5], [.int (nI 1)], mm L X I J)
  | 0, j, hj => by
    have e : j = p := by omega
    subst e
    (first | refine Eq.trans (q_X12_weds_0) ?_ | refine Eq.trans (q_X12_weds_10) ?_ | refine Eq.trans (q_X12_weds_15 (by first | assumption | rfl | exact .inl rfl | exact .inr rfl)) ?_ | refine Eq.trans (q_X12_weds_39) ?_ | refine Eq.trans (q_X12_weds_45) ?_ | refine Eq.trans (q_X12_weds_63) ?_ | refine Eq.trans (q_X12_weds_117) ?_ | refine Eq.trans (q_X12_weds_77) ?_ | refine Eq.trans (q_X12_weds_97) ?_ | refine Eq.trans (q_X12_weds_91) ?_ | refine Eq.trans (q_X12_weds_112) ?_ | refine Eq.trans (q_X12_weds_116) ?_)
    refine (bndN_e (has_n (by omega) (by omega))).trans ?_
    rw [pb]
    rfl
  | q + 1, j, hj => by
    have ih := lp_wd10 (u4 := u4) (u5 := u5) h64 p6 pb pl q (j + 1) (by omega)
    (first | refine Eq.trans (q_X12_weds_0) ?_ | refine Eq.trans (q_X12_weds_10) ?_ | refine Eq.trans (q_X12_weds_15 (by first | assumption | rfl | exact .inl rfl | exact .inr rfl)) ?_ | refine Eq.trans (q_X12_weds_39) ?_ | refine Eq.trans (q_X12_weds_45) ?_ | refine Eq.trans (q_X12_weds_63) ?_ | refine Eq.trans (q_X12_weds_117) ?_ | refine Eq.trans (q_X12_weds_77) ?_ | refine Eq.trans (q_X12_weds_97) ?_ | refine Eq.trans (q_X12_weds_91) ?_ | refine Eq.trans (q_X12_weds_112) ?_ | refine Eq.trans (q_X12_weds_116) ?_)
    refine (bndN_e (has_n (by omega) (by omega))).trans ?_
    rw [pl j (by omega)]
    (first | refine Eq.trans (q_X12_weds_0) ?_ | refine Eq.trans (q_X12_weds_10) ?_ | refine Eq.trans (q_X12_weds_15 (by first | assumption | rfl | exact .inl rfl | exact .inr rfl)) ?_ | refine Eq.trans (q_X12_weds_39) ?_ | refine Eq.trans (q_X12_weds_45) ?_ | refine Eq.trans (q_X12_weds_63) ?_ | refine Eq.trans (q_X12_weds_117) ?_ | refine Eq.trans (q_X12_weds_77) ?_ | refine Eq.trans (q_X12_weds_97) ?_ | refine Eq.trans (q_X12_weds_91) ?_ | refine Eq.trans (q_X12_weds_112) ?_ | refine Eq.trans (q_X12_weds_116) ?_)
    rw [if_pos bI_f, nI_add]
    exact ih
theorem lp_wd45 {p : Nat} {u1 : Option Value} (H : HM I h m) (ok : HOK h) (h64 : s < 64) (pb : s.testBit p = true) (p6 : p < h 0 0) (ih : ∀ s', s' < s → runM (d + 3) nX12_weds [.ref 72, .int (nI s')] (mm L X I J) = rI (nI (wd h m s')) (mm L X I J)) : ∀ q j a, j + q = h 0 0 → p < j → a ≤ 64 → c_X12_weds_45 (d + 3) L X I J u1 (nI p) (nI a) (nI (clr s p)) (nI j) = rI (nI (accF (mxA (fun q => (clr s p).testBit q && ftP h m p q) (fun q => 1 + wd h m (clr (clr s p) q))) q j a)) (mm L X I J)
  | 0, j, a, hj, hpj, ha => by
    have h6 := ok.1
    (first | refine Eq.trans (q_X12_weds_0) ?_ | refine Eq.trans (q_X12_weds_10) ?_ | refine Eq.trans (q_X12_weds_15 (by first | assumption | rfl | exact .inl rfl | exact .inr rfl)) ?_ | refine Eq.trans (q_X12_weds_39) ?_ | refine Eq.trans (q_X12_weds_45) ?_ | refine Eq.trans (q_X12_weds_63) ?_ | refine Eq.trans (q_X12_weds_117) ?_ | refine Eq.trans (q_X12_weds_77) ?_ | refine Eq.trans (q_X12_weds_97) ?_ | refine Eq.trans (q_X12_weds_91) ?_ | refine Eq.trans (q_X12_weds_112) ?_ | refine Eq.trans (q_X12_weds_116) ?_)
    rw [H.1, if_pos (by (try simp (disch := omega) only [nI_leI, nI_ltI, nI_eq, nI_add, pk_mul, n_0add, Nat.zero_add, nI_clamp]) <;> omega)]
    rfl
  | q + 1, j, a, hj, hpj, ha => by
    have ih2 := lp_wd45 (u1 := u1) H ok h64 pb p6 ih q (j + 1)
    have h6 := ok.1
    have l1 := clr_lt pb
    have l2 := clr_le (T := clr s p) (b := j)
    have l3 := wd_le (h := h) (m := m) (s := clr (clr s p) j)
    show _ = rI (nI (accF (mxA (fun q => (clr s p).testBit q && ftP h m p q) (fun q => 1 + wd h m (clr (clr s p) q))) q (j + 1) (mxA (fun q => (clr s p).testBit q && ftP h m p q) (fun q => 1 + wd h m (clr (clr s p) q)) j a))) _
    have next : ((clr s p).testBit j && ftP h m p j) = false → runI (runM (d + 3)) iX12_weds (117, [some (.ref 72), u1, some (.int (nI p)), some (.int (nI a)), some (.int (nI (clr s p))), some (.int (nI j))], [], mm L X I J) = rI (nI (accF (mxA (fun q => (clr s p).testBit q && ftP h m p q) (fun q => 1 + wd h m (clr (clr s p) q))) q (j + 1) (mxA (fun q => (clr s p).testBit q && ftP h m p q) (fun q => 1 + wd h m (clr (clr s p) q)) j a))) (mm L X I J) := by
      intro hn
      (first | refine Eq.trans (q_X12_weds_0) ?_ | refine Eq.trans (q_X12_weds_10) ?_ | refine Eq.trans (q_X12_weds_15 (by first | assumption | rfl | exact .inl rfl | exact .inr rfl)) ?_ | refine Eq.trans (q_X12_weds_39) ?_ | refine Eq.trans (q_X12_weds_45) ?_ | refine Eq.trans (q_X12_weds_63) ?_ | refine Eq.trans (q_X12_weds_117) ?_ | refine Eq.trans (q_X12_weds_77) ?_ | refine Eq.trans (q_X12_weds_97) ?_ | refine Eq.trans (q_X12_weds_91) ?_ | refine Eq.trans (q_X12_weds_112) ?_ | refine Eq.trans (q_X12_weds_116) ?_)
      rw [nI_add, mxA_f hn]
      exact ih2 a (by omega) (by omega) ha
    have good : ((clr s p).testBit j && ftP h m p j) = true → runI (runM (d + 3)) iX12_weds (97, [some (.ref 72), u1, some (.int (nI p)), some (.int (nI a)), some (.int (nI (clr s p))), some (.int (nI j))], [], mm L X I J) = rI (nI (accF (mxA (fun q => (clr s p).testBit q && ftP h m p q) (fun q => 1 + wd h m (clr (clr s p) q))) q (j + 1) (mxA (fun q => (clr s p).testBit q && ftP h m p q) (fun q => 1 + wd h m (clr (clr s p) q)) j a))) (mm L X I J) := by
      intro hn
      (first | refine Eq.trans (q_X12_weds_0) ?_ | refine Eq.trans (q_X12_weds_10) ?_ | refine Eq.trans (q_X12_weds_15 (by first | assumption | rfl | exact .inl rfl | exact .inr rfl)) ?_ | refine Eq.trans (q_X12_weds_39) ?_ | refine Eq.trans (q_X12_weds_45) ?_ | refine Eq.trans (q_X12_weds_63) ?_ | refine Eq.trans (q_X12_weds_117) ?_ | refine Eq.trans (q_X12_weds_77) ?_ | refine Eq.trans (q_X12_weds_97) ?_ | refine Eq.trans (q_X12_weds_91) ?_ | refine Eq.trans (q_X12_weds_112) ?_ | refine Eq.trans (q_X12_weds_116) ?_)
      rw [n_clr (by omega)]
      refine (bnd_e (ih _ (by omega))).trans ?_
      (first | refine Eq.trans (q_X12_weds_0) ?_ | refine Eq.trans (q_X12_weds_10) ?_ | refine Eq.trans (q_X12_weds_15 (by first | assumption | rfl | exact .inl rfl | exact .inr rfl)) ?_ | refine Eq.trans (q_X12_weds_39) ?_ | refine Eq.trans (q_X12_weds_45) ?_ | refine Eq.trans (q_X12_weds_63) ?_ | refine Eq.trans (q_X12_weds_117) ?_ | refine Eq.trans (q_X12_weds_77) ?_ | refine Eq.trans (q_X12_weds_97) ?_ | refine Eq.trans (q_X12_weds_91) ?_ | refine Eq.trans (q_X12_weds_112) ?_ | refine Eq.trans (q_X12_weds_116) ?_)
      rw [nI_add]
      refine (bndN_e sp_more).trans ?_
      rw [← mxI_alt, mx_n (by omega) (by omega), mxA_t hn]
      (first | refine Eq.trans (q_X12_weds_0) ?_ | refine Eq.trans (q_X12_weds_10) ?_ | refine Eq.trans (q_X12_weds_15 (by first | assumption | rfl | exact .inl rfl | exact .inr rfl)) ?_ | refine Eq.trans (q_X12_weds_39) ?_ | refine Eq.trans (q_X12_weds_45) ?_ | refine Eq.trans (q_X12_weds_63) ?_ | refine Eq.trans (q_X12_weds_117) ?_ | refine Eq.trans (q_X12_weds_77) ?_ | refine Eq.trans (q_X12_weds_97) ?_ | refine Eq.trans (q_X12_weds_91) ?_ | refine Eq.trans (q_X12_weds_112) ?_ | refine Eq.trans (q_X12_weds_116) ?_)
      (first | refine Eq.trans (q_X12_weds_0) ?_ | refine Eq.trans (q_X12_weds_10) ?_ | refine Eq.trans (q_X12_weds_15 (by first | assumption | rfl | exact .inl rfl | exact .inr rfl)) ?_ | refine Eq.trans (q_X12_weds_39) ?_ | refine Eq.trans (q_X12_weds_45) ?_ | refine Eq.trans (q_X12_weds_63) ?_ | refine Eq.trans (q_X12_weds_117) ?_ | refine Eq.trans (q_X12_weds_77) ?_ | refine Eq.trans (q_X12_weds_97) ?_ | refine Eq.trans (q_X12_weds_91) ?_ | refine Eq.trans (q_X12_weds_112) ?_ | refine Eq.trans (q_X12_weds_116) ?_)
      rw [nI_add]
      exact ih2 _ (by omega) (by omega) (Nat.max_le.mpr ⟨ha, by omega⟩)
    (first | refine Eq.trans (q_X12_weds_0) ?_ | refine Eq.trans (q_X12_weds_10) ?_ | refine Eq.trans (q_X12_weds_15 (by first | assumption | rfl | exact .inl rfl | exact .inr rfl)) ?_ | refine Eq.trans (q_X12_weds_39) ?_ | refine Eq.trans (q_X12_weds_45) ?_ | refine Eq.trans (q_X12_weds_63) ?_ | refine Eq.trans (q_X12_weds_117) ?_ | refine Eq.trans (q_X12_weds_77) ?_ | refine Eq.trans (q_X12_weds_97) ?_ | refine Eq.trans (q_X12_weds_91) ?_ | refine Eq.trans (q_X12_weds_112) ?_ | refine Eq.trans (q_X12_weds_116) ?_)
    rw [H.1, if_neg (by (try simp (disch := omega) only [nI_leI, nI_ltI, nI_eq, nI_add, pk_mul, n_0add, Nat.zero_add, nI_clamp]) <;> omega)]
    refine (bndN_e (has_n (by omega) (by omega))).trans ?_
    (first | refine Eq.trans (q_X12_weds_0) ?_ | refine Eq.trans (q_X12_weds_10) ?_ | refine Eq.trans (q_X12_weds_15 (by first | assumption | rfl | exact .inl rfl | exact .inr rfl)) ?_ | refine Eq.trans (q_X12_weds_39) ?_ | refine Eq.trans (q_X12_weds_45) ?_ | refine Eq.trans (q_X12_weds_63) ?_ | refine Eq.trans (q_X12_weds_117) ?_ | refine Eq.trans (q_X12_weds_77) ?_ | refine Eq.trans (q_X12_weds_97) ?_ | refine Eq.trans (q_X12_weds_91) ?_ | refine Eq.trans (q_X12_weds_112) ?_ | refine Eq.trans (q_X12_weds_116) ?_)
    by_cases z : (clr s p).testBit j = true
    · rw [z, if_neg (by decide), pk_mul, pk_mul]
      refine (bnd_e (sp_isNext (l := some (2 * p)) H ok (lOK_s (by omega)) (by omega))).trans ?_
      (first | refine Eq.trans (q_X12_weds_0) ?_ | refine Eq.trans (q_X12_weds_10) ?_ | refine Eq.trans (q_X12_weds_15 (by first | assumption | rfl | exact .inl rfl | exact .inr rfl)) ?_ | refine Eq.trans (q_X12_weds_39) ?_ | refine Eq.trans (q_X12_weds_45) ?_ | refine Eq.trans (q_X12_weds_63) ?_ | refine Eq.trans (q_X12_weds_117) ?_ | refine Eq.trans (q_X12_weds_77) ?_ | refine Eq.trans (q_X12_weds_97) ?_ | refine Eq.trans (q_X12_weds_91) ?_ | refine Eq.trans (q_X12_weds_112) ?_ | refine Eq.trans (q_X12_weds_116) ?_)
      by_cases y1 : fol h m (2 * p) (2 * j) = true
      · rw [if_neg (show ¬ bI (nxt h m (some (2 * p)) (2 * j)) = nI 0 by rw [show nxt h m (some (2 * p)) (2 * j) = true from y1]; decide)]
        refine good ?_
        rw [z, Bool.true_and]
        unfold ftP
        rw [y1, Bool.true_or]
      · rw [Bool.not_eq_true] at y1
        rw [if_pos (show bI (nxt h m (some (2 * p)) (2 * j)) = nI 0 by rw [show nxt h m (some (2 * p)) (2 * j) = false from y1]; rfl), pk_mul, pk_mul]
        refine (bnd_e (sp_isNext (l := some (2 * j)) H ok (lOK_s (by omega)) (by omega))).trans ?_
        (first | refine Eq.trans (q_X12_weds_0) ?_ | refine Eq.trans (q_X12_weds_10) ?_ | refine Eq.trans (q_X12_weds_15 (by first | assumption | rfl | exact .inl rfl | exact .inr rfl)) ?_ | refine Eq.trans (q_X12_weds_39) ?_ | refine Eq.trans (q_X12_weds_45) ?_ | refine Eq.trans (q_X12_weds_63) ?_ | refine Eq.trans (q_X12_weds_117) ?_ | refine Eq.trans (q_X12_weds_77) ?_ | refine Eq.trans (q_X12_weds_97) ?_ | refine Eq.trans (q_X12_weds_91) ?_ | refine Eq.trans (q_X12_weds_112) ?_ | refine Eq.trans (q_X12_weds_116) ?_)
        by_cases y2 : fol h m (2 * j) (2 * p) = true
        · rw [if_neg (show ¬ bI (nxt h m (some (2 * j)) (2 * p)) = nI 0 by rw [show nxt h m (some (2 * j)) (2 * p) = true from y2]; decide)]
          refine good ?_
          rw [z, Bool.true_and]
          unfold ftP
          rw [y2, Bool.or_true]
        · rw [Bool.not_eq_true] at y2
          rw [if_pos (show bI (nxt h m (some (2 * j)) (2 * p)) = nI 0 by rw [show nxt h m (some (2 * j)) (2 * p) = false from y2]; rfl)]
          refine next ?_
          unfold ftP
          rw [y1, y2, Bool.or_self, Bool.and_false]
    · rw [Bool.not_eq_true] at z
      rw [z, if_pos bI_f]
      exact next (by rw [z, Bool.false_and])
theorem sp_weds (H : HM I h m) (ok : HOK h) : ∀ k s, s ≤ k → s < 2 ^ h 0 0 → runM (d + k + 4) nX12_weds [.ref 72, .int (nI s)] (mm L X I J) = rI (nI (wd h m s)) (mm L X I J)
  | k, 0, hk, hs => by
    rw [e_X12_weds]
    (first | refine Eq.trans (q_X12_weds_0) ?_ | refine Eq.trans (q_X12_weds_10) ?_ | refine Eq.trans (q_X12_weds_15 (by first | assumption | rfl | exact .inl rfl | exact .inr rfl)) ?_ | refine Eq.trans (q_X12_weds_39) ?_ | refine Eq.trans (q_X12_weds_45) ?_ | refine Eq.trans (q_X12_weds_63) ?_ | refine Eq.trans (q_X12_weds_117) ?_ | refine Eq.trans (q_X12_weds_77) ?_ | refine Eq.trans (q_X12_weds_97) ?_ | refine Eq.trans (q_X12_weds_91) ?_ | refine Eq.trans (q_X12_weds_112) ?_ | refine Eq.trans (q_X12_weds_116) ?_)
    rw [if_pos rfl]
    rfl
  | 0, s + 1, hk, hs => by omega
  | k + 1, s + 1, hk, hs => by
    have ih := sp_weds H ok k
    have h6 := ok.1
    have p64 := pow6 ok
    obtain ⟨p, hp, p6, pb, pl⟩ := least_some (s := s + 1) (by omega) (by omega)
    have pnp : p < h 0 0 := by
      rcases Nat.lt_or_ge p (h 0 0) with z | z
      · exact z
      · have := Nat.testBit_lt_two_pow (x := s + 1) (i := p) (Nat.lt_of_lt_of_le hs (Nat.pow_le_pow_right (by decide) z))
        rw [this] at pb
        cases pb
    have l1 := clr_lt pb
    have l3 := wd_le (h := h) (m := m) (s := clr (s + 1) p)
    rw [show d + (k + 1) + 4 = (d + k + 1 + 3) + 1 by omega, e_X12_weds]
    (first | refine Eq.trans (q_X12_weds_0) ?_ | refine Eq.trans (q_X12_weds_10) ?_ | refine Eq.trans (q_X12_weds_15 (by first | assumption | rfl | exact .inl rfl | exact .inr rfl)) ?_ | refine Eq.trans (q_X12_weds_39) ?_ | refine Eq.trans (q_X12_weds_45) ?_ | refine Eq.trans (q_X12_weds_63) ?_ | refine Eq.trans (q_X12_weds_117) ?_ | refine Eq.trans (q_X12_weds_77) ?_ | refine Eq.trans (q_X12_weds_97) ?_ | refine Eq.trans (q_X12_weds_91) ?_ | refine Eq.trans (q_X12_weds_112) ?_ | refine Eq.trans (q_X12_weds_116) ?_)
    rw [if_neg (by (try simp (disch := omega) only [nI_leI, nI_ltI, nI_eq, nI_add, pk_mul, n_0add, Nat.zero_add, nI_clamp]) <;> omega)]
    refine Eq.trans (lp_wd10 (d := d + k + 3) (by omega) p6 pb pl p 0 (by omega)) ?_
    (first | refine Eq.trans (q_X12_weds_0) ?_ | refine Eq.trans (q_X12_weds_10) ?_ | refine Eq.trans (q_X12_weds_15 (by first | assumption | rfl | exact .inl rfl | exact .inr rfl)) ?_ | refine Eq.trans (q_X12_weds_39) ?_ | refine Eq.trans (q_X12_weds_45) ?_ | refine Eq.trans (q_X12_weds_63) ?_ | refine Eq.trans (q_X12_weds_117) ?_ | refine Eq.trans (q_X12_weds_77) ?_ | refine Eq.trans (q_X12_weds_97) ?_ | refine Eq.trans (q_X12_weds_91) ?_ | refine Eq.trans (q_X12_weds_112) ?_ | refine Eq.trans (q_X12_weds_116) ?_)
    rw [if_neg (by decide), n_clr (by omega)]
    have ih' : ∀ s', s' < s + 1 → runM (d + k + 1 + 3) nX12_weds [.ref 72, .int (nI s')] (mm L X I J) = rI (nI (wd h m s')) (mm L X I J) := fun s' hs' => ih s' (by omega) (by omega)
    refine (bnd_e (ih' _ l1)).trans ?_
    (first | refine Eq.trans (q_X12_weds_0) ?_ | refine Eq.trans (q_X12_weds_10) ?_ | refine Eq.trans (q_X12_weds_15 (by first | assumption | rfl | exact .inl rfl | exact .inr rfl)) ?_ | refine Eq.trans (q_X12_weds_39) ?_ | refine Eq.trans (q_X12_weds_45) ?_ | refine Eq.trans (q_X12_weds_63) ?_ | refine Eq.trans (q_X12_weds_117) ?_ | refine Eq.trans (q_X12_weds_77) ?_ | refine Eq.trans (q_X12_weds_97) ?_ | refine Eq.trans (q_X12_weds_91) ?_ | refine Eq.trans (q_X12_weds_112) ?_ | refine Eq.trans (q_X12_weds_116) ?_)
    rw [nI_add, wd_eq (by omega) hp pb]
    exact lp_wd45 (d := d + k + 1) H ok (by omega) pb pnp ih' (h 0 0 - (p + 1)) (p + 1) _ (by omega) (by omega) (by omega)
end WD
