/-! A HOUSE, BY THE CLASS: the whole asking -/
section HD
variable {d L X : Nat} {I : MI32} {J : MI64} {W : Nat → Nat} {z tp : Nat} {h : Hs} {x : Int32}
theorem cpy_0 {f g : Nat → Int32} {n k : Nat} (hn : n < 2 ^ 31) (hk : k < n) : va_cpy f g (nI 0).toNatClampNeg (nI 0).toNatClampNeg (nI n).toNatClampNeg k = f k := by
  rw [cpy_n (by decide) (by decide) hn, if_pos ⟨Nat.zero_le k, by omega⟩, Nat.sub_zero, Nat.zero_add]
def fBH : Fls := [(3, 1), (3, 2), (3, 3), (3, 4)] ++ cells 4 9
/-- two rows are copied -/
theorem cp2 {r s n : Nat} (hn : n < 2 ^ 31) (h1 : ¬ s + 1 = r) (h3 : ∀ j, inF fBH r j = true) (h4 : ∀ j, inF fBH (r + 1) j = true) {I1 : MI32} (e : up1 (up1 I r (va_cpy (I s) (I r) (nI 0).toNatClampNeg (nI 0).toNatClampNeg (nI n).toNatClampNeg)) (r + 1) (va_cpy ((up1 I r (va_cpy (I s) (I r) (nI 0).toNatClampNeg (nI 0).toNatClampNeg (nI n).toNatClampNeg)) (s + 1)) ((up1 I r (va_cpy (I s) (I r) (nI 0).toNatClampNeg (nI 0).toNatClampNeg (nI n).toNatClampNeg)) (r + 1)) (nI 0).toNatClampNeg (nI 0).toNatClampNeg (nI n).toNatClampNeg) = I1) : Fr fBH I I1 ∧ (∀ b k, ¬ b = r → ¬ b = r + 1 → I1 b k = I b k) ∧ ∀ k, k < n → I1 r k = I s k ∧ I1 (r + 1) k = I (s + 1) k := by
  refine ⟨?_, fun b k q1 q2 => ?_, fun k hk => ⟨?_, ?_⟩⟩
  · rw [← e]
    exact fr_up1 (fr_up1 fr_rfl h3) h4
  · rw [← e, up1_n q2, up1_n q1]
  · rw [← e, up1_n (by omega), up1_s, cpy_0 hn hk]
  · rw [← e, up1_s, cpy_0 hn hk, up1_n h1]
theorem sp_becomeH : Rt L X (runM (d + 1) nX1_become [.ref 3, .ref 13] (mm L X I J)) none (fun I' J' => (Fr fBH I I' ∧ (∀ k, k < 4 → I' 3 k = I 13 k) ∧ (∀ k, k < 6 → (I' 4 k = I 14 k ∧ I' 5 k = I 15 k) ∧ (I' 6 k = I 16 k ∧ I' 7 k = I 17 k)) ∧ (∀ k, k < 4 → I' 8 k = I 18 k ∧ I' 9 k = I 19 k) ∧ (∀ k, k < 5 → I' 10 k = I 20 k ∧ I' 11 k = I 21 k) ∧ ∀ k, k < 10 → I' 12 k = I 22 k) ∧ J' = J) := by
  have h0 : oc1 3 := .inl rfl
  have h1 : oc1 13 := .inr rfl
  rw [e_X1_become]
  (first | refine rt_eq (q_X1_become_0 (by first | assumption | rfl | exact .inl rfl | exact .inr rfl) (by first | assumption | rfl | exact .inl rfl | exact .inr rfl)) ?_ | refine rt_eq (q_X1_become_32 (by first | assumption | rfl | exact .inl rfl | exact .inr rfl) (by first | assumption | rfl | exact .inl rfl | exact .inr rfl)) ?_ | refine rt_eq (q_X1_become_62 (by first | assumption | rfl | exact .inl rfl | exact .inr rfl) (by first | assumption | rfl | exact .inl rfl | exact .inr rfl)) ?_ | refine rt_eq (q_X1_become_92 (by first | assumption | rfl | exact .inl rfl | exact .inr rfl) (by first | assumption | rfl | exact .inl rfl | exact .inr rfl)) ?_ | refine rt_eq (q_X1_become_120 (by first | assumption | rfl | exact .inl rfl | exact .inr rfl) (by first | assumption | rfl | exact .inl rfl | exact .inr rfl)) ?_ | refine rt_eq (q_X1_become_148 (by first | assumption | rfl | exact .inl rfl | exact .inr rfl) (by first | assumption | rfl | exact .inl rfl | exact .inr rfl)) ?_)
  generalize hI1 : up2 (up2 (up2 (up2 I 3 0 (I 13 0)) 3 1 _) 3 2 _) 3 3 _ = I1
  have f1 : Fr fBH I I1 := by
    rw [← hI1]
    exact fr_up (fr_up (fr_up (fr_up fr_rfl rfl) rfl) rfl) rfl
  have a1 : ∀ k, k < 4 → I1 3 k = I 13 k := by
    intro k hk
    have : k = 0 ∨ k = 1 ∨ k = 2 ∨ k = 3 := by omega
    rcases this with rfl | rfl | rfl | rfl
    · rw [← hI1, up2_k (by decide), up2_k (by decide), up2_k (by decide), up2_s]
    · rw [← hI1, up2_k (by decide), up2_k (by decide), up2_s, up2_n (by decide)]
    · rw [← hI1, up2_k (by decide), up2_s, up2_n (by decide), up2_n (by decide)]
    · rw [← hI1, up2_s, up2_n (by decide), up2_n (by decide), up2_n (by decide)]
  have b1 : ∀ b k, ¬ b = 3 → I1 b k = I b k := fun b k hb => by rw [← hI1, up2_n hb, up2_n hb, up2_n hb, up2_n hb]
  clear hI1
  (first | refine rt_eq (q_X1_become_0 (by first | assumption | rfl | exact .inl rfl | exact .inr rfl) (by first | assumption | rfl | exact .inl rfl | exact .inr rfl)) ?_ | refine rt_eq (q_X1_become_32 (by first | assumption | rfl | exact .inl rfl | exact .inr rfl) (by first | assumption | rfl | exact .inl rfl | exact .inr rfl)) ?_ | refine rt_eq (q_X1_become_62 (by first | assumption | rfl | exact .inl rfl | exact .inr rfl) (by first | assumption | rfl | exact .inl rfl | exact .inr rfl)) ?_ | refine rt_eq (q_X1_become_92 (by first | assumption | rfl | exact .inl rfl | exact .inr rfl) (by first | assumption | rfl | exact .inl rfl | exact .inr rfl)) ?_ | refine rt_eq (q_X1_become_120 (by first | assumption | rfl | exact .inl rfl | exact .inr rfl) (by first | assumption | rfl | exact .inl rfl | exact .inr rfl)) ?_ | refine rt_eq (q_X1_become_148 (by first | assumption | rfl | exact .inl rfl | exact .inr rfl) (by first | assumption | rfl | exact .inl rfl | exact .inr rfl)) ?_)
  refine rt_gd (by decide) (rt_gd (by decide) ?_)
  generalize hI2 : up1 (up1 I1 (3 + 1) _) (3 + 2) _ = I2
  obtain ⟨f2, b2, a2⟩ := cp2 (I := I1) (r := 4) (s := 14) (n := 6) (by decide) (by decide) (fun j => rfl) (fun j => rfl) hI2
  clear hI2
  (first | refine rt_eq (q_X1_become_0 (by first | assumption | rfl | exact .inl rfl | exact .inr rfl) (by first | assumption | rfl | exact .inl rfl | exact .inr rfl)) ?_ | refine rt_eq (q_X1_become_32 (by first | assumption | rfl | exact .inl rfl | exact .inr rfl) (by first | assumption | rfl | exact .inl rfl | exact .inr rfl)) ?_ | refine rt_eq (q_X1_become_62 (by first | assumption | rfl | exact .inl rfl | exact .inr rfl) (by first | assumption | rfl | exact .inl rfl | exact .inr rfl)) ?_ | refine rt_eq (q_X1_become_92 (by first | assumption | rfl | exact .inl rfl | exact .inr rfl) (by first | assumption | rfl | exact .inl rfl | exact .inr rfl)) ?_ | refine rt_eq (q_X1_become_120 (by first | assumption | rfl | exact .inl rfl | exact .inr rfl) (by first | assumption | rfl | exact .inl rfl | exact .inr rfl)) ?_ | refine rt_eq (q_X1_become_148 (by first | assumption | rfl | exact .inl rfl | exact .inr rfl) (by first | assumption | rfl | exact .inl rfl | exact .inr rfl)) ?_)
  refine rt_gd (by decide) (rt_gd (by decide) ?_)
  generalize hI3 : up1 (up1 I2 (3 + 3) _) (3 + 4) _ = I3
  obtain ⟨f3, b3, a3⟩ := cp2 (I := I2) (r := 6) (s := 16) (n := 6) (by decide) (by decide) (fun j => rfl) (fun j => rfl) hI3
  clear hI3
  (first | refine rt_eq (q_X1_become_0 (by first | assumption | rfl | exact .inl rfl | exact .inr rfl) (by first | assumption | rfl | exact .inl rfl | exact .inr rfl)) ?_ | refine rt_eq (q_X1_become_32 (by first | assumption | rfl | exact .inl rfl | exact .inr rfl) (by first | assumption | rfl | exact .inl rfl | exact .inr rfl)) ?_ | refine rt_eq (q_X1_become_62 (by first | assumption | rfl | exact .inl rfl | exact .inr rfl) (by first | assumption | rfl | exact .inl rfl | exact .inr rfl)) ?_ | refine rt_eq (q_X1_become_92 (by first | assumption | rfl | exact .inl rfl | exact .inr rfl) (by first | assumption | rfl | exact .inl rfl | exact .inr rfl)) ?_ | refine rt_eq (q_X1_become_120 (by first | assumption | rfl | exact .inl rfl | exact .inr rfl) (by first | assumption | rfl | exact .inl rfl | exact .inr rfl)) ?_ | refine rt_eq (q_X1_become_148 (by first | assumption | rfl | exact .inl rfl | exact .inr rfl) (by first | assumption | rfl | exact .inl rfl | exact .inr rfl)) ?_)
  refine rt_gd (by decide) (rt_gd (by decide) ?_)
  generalize hI4 : up1 (up1 I3 (3 + 5) _) (3 + 6) _ = I4
  obtain ⟨f4, b4, a4⟩ := cp2 (I := I3) (r := 8) (s := 18) (n := 4) (by decide) (by decide) (fun j => rfl) (fun j => rfl) hI4
  clear hI4
  (first | refine rt_eq (q_X1_become_0 (by first | assumption | rfl | exact .inl rfl | exact .inr rfl) (by first | assumption | rfl | exact .inl rfl | exact .inr rfl)) ?_ | refine rt_eq (q_X1_become_32 (by first | assumption | rfl | exact .inl rfl | exact .inr rfl) (by first | assumption | rfl | exact .inl rfl | exact .inr rfl)) ?_ | refine rt_eq (q_X1_become_62 (by first | assumption | rfl | exact .inl rfl | exact .inr rfl) (by first | assumption | rfl | exact .inl rfl | exact .inr rfl)) ?_ | refine rt_eq (q_X1_become_92 (by first | assumption | rfl | exact .inl rfl | exact .inr rfl) (by first | assumption | rfl | exact .inl rfl | exact .inr rfl)) ?_ | refine rt_eq (q_X1_become_120 (by first | assumption | rfl | exact .inl rfl | exact .inr rfl) (by first | assumption | rfl | exact .inl rfl | exact .inr rfl)) ?_ | refine rt_eq (q_X1_become_148 (by first | assumption | rfl | exact .inl rfl | exact .inr rfl) (by first | assumption | rfl | exact .inl rfl | exact .inr rfl)) ?_)
  refine rt_gd (by decide) (rt_gd (by decide) ?_)
  generalize hI5 : up1 (up1 I4 (3 + 7) _) (3 + 8) _ = I5
  obtain ⟨f5, b5, a5⟩ := cp2 (I := I4) (r := 10) (s := 20) (n := 5) (by decide) (by decide) (fun j => rfl) (fun j => rfl) hI5
  clear hI5
  (first | refine rt_eq (q_X1_become_0 (by first | assumption | rfl | exact .inl rfl | exact .inr rfl) (by first | assumption | rfl | exact .inl rfl | exact .inr rfl)) ?_ | refine rt_eq (q_X1_become_32 (by first | assumption | rfl | exact .inl rfl | exact .inr rfl) (by first | assumption | rfl | exact .inl rfl | exact .inr rfl)) ?_ | refine rt_eq (q_X1_become_62 (by first | assumption | rfl | exact .inl rfl | exact .inr rfl) (by first | assumption | rfl | exact .inl rfl | exact .inr rfl)) ?_ | refine rt_eq (q_X1_become_92 (by first | assumption | rfl | exact .inl rfl | exact .inr rfl) (by first | assumption | rfl | exact .inl rfl | exact .inr rfl)) ?_ | refine rt_eq (q_X1_become_120 (by first | assumption | rfl | exact .inl rfl | exact .inr rfl) (by first | assumption | rfl | exact .inl rfl | exact .inr rfl)) ?_ | refine rt_eq (q_X1_become_148 (by first | assumption | rfl | exact .inl rfl | exact .inr rfl) (by first | assumption | rfl | exact .inl rfl | exact .inr rfl)) ?_)
  refine rt_gd (by decide) ?_
  simp only [Nat.reduceAdd]
  have n12 : ∀ b k, ¬ b = 12 → (up1 I5 12 (va_cpy (I5 22) (I5 12) (nI 0).toNatClampNeg (nI 0).toNatClampNeg (nI 10).toNatClampNeg)) b k = I5 b k := fun b k hb => by rw [up1_n hb]
  refine rt_ret ⟨⟨fr_up1 (fr_tr (fr_tr (fr_tr (fr_tr f1 f2) f3) f4) f5) (fun j => rfl), fun k hk => ?_, fun k hk => ⟨⟨?_, ?_⟩, ?_, ?_⟩, fun k hk => ⟨?_, ?_⟩, fun k hk => ⟨?_, ?_⟩, fun k hk => ?_⟩, rfl⟩
  · rw [n12 _ _ (by decide), b5 _ _ (by decide) (by decide), b4 _ _ (by decide) (by decide), b3 _ _ (by decide) (by decide), b2 _ _ (by decide) (by decide), a1 k hk]
  · rw [n12 _ _ (by decide), b5 _ _ (by decide) (by decide), b4 _ _ (by decide) (by decide), b3 _ _ (by decide) (by decide), (a2 k hk).1, b1 _ _ (by decide)]
  · rw [n12 _ _ (by decide), b5 _ _ (by decide) (by decide), b4 _ _ (by decide) (by decide), b3 _ _ (by decide) (by decide)]
    exact (a2 k hk).2.trans (b1 _ _ (by decide))
  · rw [n12 _ _ (by decide), b5 _ _ (by decide) (by decide), b4 _ _ (by decide) (by decide), (a3 k hk).1, b2 _ _ (by decide) (by decide), b1 _ _ (by decide)]
  · rw [n12 _ _ (by decide), b5 _ _ (by decide) (by decide), b4 _ _ (by decide) (by decide)]
    refine (a3 k hk).2.trans ?_
    rw [b2 _ _ (by decide) (by decide), b1 _ _ (by decide)]
  · rw [n12 _ _ (by decide), b5 _ _ (by decide) (by decide), (a4 k hk).1, b3 _ _ (by decide) (by decide), b2 _ _ (by decide) (by decide), b1 _ _ (by decide)]
  · rw [n12 _ _ (by decide), b5 _ _ (by decide) (by decide)]
    refine (a4 k hk).2.trans ?_
    rw [b3 _ _ (by decide) (by decide), b2 _ _ (by decide) (by decide), b1 _ _ (by decide)]
  · rw [n12 _ _ (by decide), (a5 k hk).1, b4 _ _ (by decide) (by decide), b3 _ _ (by decide) (by decide), b2 _ _ (by decide) (by decide), b1 _ _ (by decide)]
  · rw [n12 _ _ (by decide)]
    refine (a5 k hk).2.trans ?_
    rw [b4 _ _ (by decide) (by decide), b3 _ _ (by decide) (by decide), b2 _ _ (by decide) (by decide), b1 _ _ (by decide)]
  · rw [up1_s, cpy_0 (by decide) hk, b5 _ _ (by decide) (by decide), b4 _ _ (by decide) (by decide), b3 _ _ (by decide) (by decide), b2 _ _ (by decide) (by decide), b1 _ _ (by decide)]
theorem HC_of {I' : MI32} (H : HS I h) (ok : HOK h) (a1 : ∀ k, k < 4 → I' 3 k = I 13 k) (a2 : ∀ k, k < 6 → (I' 4 k = I 14 k ∧ I' 5 k = I 15 k) ∧ (I' 6 k = I 16 k ∧ I' 7 k = I 17 k)) (a4 : ∀ k, k < 4 → I' 8 k = I 18 k ∧ I' 9 k = I 19 k) (a5 : ∀ k, k < 5 → I' 10 k = I 20 k ∧ I' 11 k = I 21 k) (a6 : ∀ k, k < 10 → I' 12 k = I 22 k) : HC I' h (h 0 1) ∧ I' 3 3 = nI (h 0 3) := by
  obtain ⟨o1, o2, o3, -, -⟩ := ok
  obtain ⟨e0, e1, e2, e3, e4, e5, e6, e7⟩ := H
  refine ⟨⟨?_, ?_, ?_, fun p hp => ?_, fun e he => ?_, fun f hf => ?_, fun t ht => ?_⟩, ?_⟩
  · rw [a1 0 (by decide), e0]
  · rw [a1 1 (by decide), e1]
  · rw [a1 2 (by decide), e2]
  · rw [(a2 p (by omega)).1.1, (a2 p (by omega)).1.2, (a2 p (by omega)).2.1, (a2 p (by omega)).2.2]
    exact e4 p hp
  · rw [(a4 e (by omega)).1, (a4 e (by omega)).2]
    exact e5 e he
  · rw [(a5 f (by omega)).1, (a5 f (by omega)).2]
    exact e6 f hf
  · rw [a6 t ht]
    exact e7 t ht
  · rw [a1 3 (by decide), e3]
/-- the parts of the law that is not told, where the class has them -/
def UT (I : MI32) : Prop := ∀ k, k < 11 → I 1000001 k = nI (encC (cd0 k))
theorem UT_fr {I' : MI32} {l : Fls} (U : UT I) (g : Fr l I I') (dd : dj l [(1000001, 0)] = true) : UT I' := fun k hk => (ag_of (s := [(1000001, 0)]) g dd 1000001 k rfl).trans (U k hk)
theorem lp_untold (U : UT I) : ∀ r k I', k + r = 11 → Fr [(23, 2), (24, 0)] I I' → (∀ i, i < k → I' 24 i = nI (encC (cd0 i))) → Rt L X (c_X2_beUntold_10 d L X I' J 23 (nI k)) none (fun I'' J' => (Fr [(23, 2), (24, 0)] I I'' ∧ (∀ k, I'' 23 k = I' 23 k) ∧ ∀ i, i < 11 → I'' 24 i = nI (encC (cd0 i))) ∧ J' = J)
  | 0, k, I', hk, hf, A => by
    have h0 : oc2 23 := .inl rfl
    (first | refine rt_eq (q_X2_beUntold_0 (by first | assumption | rfl | exact .inl rfl | exact .inr rfl)) ?_ | refine rt_eq (q_X2_beUntold_10 (by first | assumption | rfl | exact .inl rfl | exact .inr rfl)) ?_)
    exact rt_t (by (try simp (disch := omega) only [nI_leI, nI_ltI, nI_eq, nI_add, pk_mul, n_0add, Nat.zero_add, nI_clamp]) <;> omega) (rt_ret ⟨⟨hf, fun _ => rfl, fun i hi => A i (by omega)⟩, rfl⟩)
  | r + 1, k, I', hk, hf, A => by
    have h0 : oc2 23 := .inl rfl
    have ih := lp_untold U r (k + 1)
    (first | refine rt_eq (q_X2_beUntold_0 (by first | assumption | rfl | exact .inl rfl | exact .inr rfl)) ?_ | refine rt_eq (q_X2_beUntold_10 (by first | assumption | rfl | exact .inl rfl | exact .inr rfl)) ?_)
    refine rt_f (by (try simp (disch := omega) only [nI_leI, nI_ltI, nI_eq, nI_add, pk_mul, n_0add, Nat.zero_add, nI_clamp]) <;> omega) (rt_f (by (try simp (disch := omega) only [nI_leI, nI_ltI, nI_eq, nI_add, pk_mul, n_0add, Nat.zero_add, nI_clamp]) <;> omega) (rt_gd (inb_n (by omega) (by decide)) (rt_gd (inb_n (by omega) (by decide)) ?_)))
    rw [nI_clamp (by omega), nI_add, hf 1000001 k rfl, U k (by omega)]
    simp only [Nat.reduceAdd]
    refine rt_mono (ih _ (by omega) (fr_up hf rfl) (fun i hi => ?_)) ?_
    · rw [up2_at]
      by_cases q : i = k
      · rw [if_pos q, q]
      · rw [if_neg q]
        exact A i (by omega)
    · rintro I2 J2 ⟨⟨g1, g2, g3⟩, rfl⟩
      exact ⟨⟨g1, fun k => by rw [g2 k, up2_n (by decide)], g3⟩, rfl⟩
theorem sp_beUntold (U : UT I) : Rt L X (runM (d + 1) nX2_beUntold [.ref 23] (mm L X I J)) none (fun I'' J' => (Fr [(23, 2), (24, 0)] I I'' ∧ LawC I'' 11 cd0) ∧ J' = J) := by
  have h0 : oc2 23 := .inl rfl
  rw [e_X2_beUntold]
  (first | refine rt_eq (q_X2_beUntold_0 (by first | assumption | rfl | exact .inl rfl | exact .inr rfl)) ?_ | refine rt_eq (q_X2_beUntold_10 (by first | assumption | rfl | exact .inl rfl | exact .inr rfl)) ?_)
  have g : Fr [(23, 2), (24, 0)] I (up2 I 23 1 (nI 11)) := fr_up fr_rfl rfl
  refine rt_mono (lp_untold (I := I) U 11 0 _ rfl g (fun i hi => absurd hi (Nat.not_lt_zero i))) ?_
  rintro I1 J1 ⟨⟨f1, f2, f3⟩, rfl⟩
  exact ⟨⟨f1, by rw [f2, up2_s], by decide, f3⟩, rfl⟩
theorem wf_0 : wfC cd0 11 0 0 := by
  unfold cd0
  simp [wfC]
/-- a night that has not begun -/
def nt0 (v : Int32) : Nt := fun k => if k < 6 then -1 else if k < 24 then nI 0 else if k < 29 then -1 else if k = 29 then v else nI 0
def fBg : Fls := [(43, 5), (43, 6), (43, 7), (43, 8), (45, 0), (46, 0), (47, 0)]
theorem sp_begin {v : Int32} : Rt L X (runM (d + 2) nX3_begin [.ref 43, .int v] (mm L X I J)) none (fun I'' J' => (Fr fBg I I'' ∧ NC I'' 43 0 (nt0 v)) ∧ J' = J) := by
  have h0 : oc3 43 := .inl rfl
  rw [e_X3_begin]
  (first | refine rt_eq (q_X3_begin_0 (by first | assumption | rfl | exact .inl rfl | exact .inr rfl)) ?_ | refine rt_eq (q_X3_begin_8 (by first | assumption | rfl | exact .inl rfl | exact .inr rfl)) ?_ | refine rt_eq (q_X3_begin_16 (by first | assumption | rfl | exact .inl rfl | exact .inr rfl)) ?_ | refine rt_eq (q_X3_begin_24 (by first | assumption | rfl | exact .inl rfl | exact .inr rfl)) ?_ | refine rt_eq (q_X3_begin_44) ?_)
  simp only [Nat.reduceAdd]
  refine rt_bndN (sp_fillI ka_45 (by decide)) ?_
  rintro I1 J1 ⟨⟨f1, f2⟩, rfl⟩
  (first | refine rt_eq (q_X3_begin_0 (by first | assumption | rfl | exact .inl rfl | exact .inr rfl)) ?_ | refine rt_eq (q_X3_begin_8 (by first | assumption | rfl | exact .inl rfl | exact .inr rfl)) ?_ | refine rt_eq (q_X3_begin_16 (by first | assumption | rfl | exact .inl rfl | exact .inr rfl)) ?_ | refine rt_eq (q_X3_begin_24 (by first | assumption | rfl | exact .inl rfl | exact .inr rfl)) ?_ | refine rt_eq (q_X3_begin_44) ?_)
  simp only [Nat.reduceAdd]
  refine rt_bndN (sp_fillI ka_46 (by decide)) ?_
  rintro I2 J2 ⟨⟨g1, g2⟩, rfl⟩
  (first | refine rt_eq (q_X3_begin_0 (by first | assumption | rfl | exact .inl rfl | exact .inr rfl)) ?_ | refine rt_eq (q_X3_begin_8 (by first | assumption | rfl | exact .inl rfl | exact .inr rfl)) ?_ | refine rt_eq (q_X3_begin_16 (by first | assumption | rfl | exact .inl rfl | exact .inr rfl)) ?_ | refine rt_eq (q_X3_begin_24 (by first | assumption | rfl | exact .inl rfl | exact .inr rfl)) ?_ | refine rt_eq (q_X3_begin_44) ?_)
  simp only [Nat.reduceAdd]
  refine rt_bndN (sp_fillI ka_47 (by decide)) ?_
  rintro I3 J3 ⟨⟨k1, k2⟩, rfl⟩
  (first | refine rt_eq (q_X3_begin_0 (by first | assumption | rfl | exact .inl rfl | exact .inr rfl)) ?_ | refine rt_eq (q_X3_begin_8 (by first | assumption | rfl | exact .inl rfl | exact .inr rfl)) ?_ | refine rt_eq (q_X3_begin_16 (by first | assumption | rfl | exact .inl rfl | exact .inr rfl)) ?_ | refine rt_eq (q_X3_begin_24 (by first | assumption | rfl | exact .inl rfl | exact .inr rfl)) ?_ | refine rt_eq (q_X3_begin_44) ?_)
  (first | refine rt_eq (q_X3_begin_0 (by first | assumption | rfl | exact .inl rfl | exact .inr rfl)) ?_ | refine rt_eq (q_X3_begin_8 (by first | assumption | rfl | exact .inl rfl | exact .inr rfl)) ?_ | refine rt_eq (q_X3_begin_16 (by first | assumption | rfl | exact .inl rfl | exact .inr rfl)) ?_ | refine rt_eq (q_X3_begin_24 (by first | assumption | rfl | exact .inl rfl | exact .inr rfl)) ?_ | refine rt_eq (q_X3_begin_44) ?_)
  refine rt_ret ⟨⟨fr_up (fr_up (fr_up (fr_up (fr_tr (fr_tr (fr_mono f1 (by decide)) (fr_mono g1 (by decide))) (fr_mono k1 (by decide))) rfl) rfl) rfl) rfl, ?_, fun k hk => absurd hk (Nat.not_lt_zero _), fun p hp => ?_, fun p hp => ?_, fun p hp => ?_, ?_, ?_, 0, by decide, ?_, fun p hp => ?_⟩, rfl⟩
  · rw [up2_k (by decide), up2_k (by decide), up2_s]
  · rw [up2_n (by decide), up2_n (by decide), up2_n (by decide), up2_n (by decide), k1 45 p rfl, g1 45 p rfl]
    refine (f2 p hp).trans ?_
    unfold nt0
    rw [if_neg (by omega), if_pos (by omega)]
  · rw [up2_n (by decide), up2_n (by decide), up2_n (by decide), up2_n (by decide), k1 46 p rfl]
    refine (g2 p hp).trans ?_
    unfold nt0
    rw [if_neg (by omega), if_pos (by omega)]
  · rw [up2_n (by decide), up2_n (by decide), up2_n (by decide), up2_n (by decide)]
    refine (k2 p hp).trans ?_
    unfold nt0
    rw [if_neg (by omega), if_neg (by omega), if_pos (by omega)]
  · rw [up2_s]
    rfl
  · rw [up2_k (by decide), up2_s]
    rfl
  · rw [up2_k (by decide), up2_k (by decide), up2_k (by decide), up2_s]
  · unfold nt0
    rw [if_neg (by omega), if_pos (by omega)]
    have : ∀ p, p < 6 → nI 0 = nI (tb 0 p) := by decide
    exact this p hp
def fHf : Fls := fOp ++ fHR
def fHo : Fls := fHf ++ fBH ++ [(23, 2), (24, 0), (31, 1), (32, 0), (48, 4), (48, 5), (37, 8), (56, 5), (56, 9), (56, 12)] ++ fBg
def hAns (W : Nat → Nat) (z : Nat) : Int32 := if (hW W z).1 = 0 then nI ((hW W z).2.2 0 0) else nI (hW W z).1 - nI 10
theorem c_house (O : SO I) (U : UT I) (B : BC I W) (ht : I 1 1 = nI tp) (htp : tp ≤ 600) (hn : z ≤ tp) : Rt L X (runM (d + 8) nX11_house [.ref 0, .int (nI z)] (mm L X I J)) (some (.int (hAns W z))) (fun I' J' => (((hW W z).1 = 0 → Fr fHo I I' ∧ I' 1 1 = nI 0 ∧ I' 1 3 = -1 ∧ hOK (hW W z).2.2 ∧ HC I' (hW W z).2.2 ((hW W z).2.2 0 1) ∧ LawC I' 11 cd0 ∧ NC I' 43 0 (nt0 (nI ((hW W z).2.2 0 3))) ∧ (I' 31 0 = nI 0 ∧ ∀ k, k < 6 → I' 32 k = -1) ∧ I' 48 3 = nI 0 ∧ I' 48 4 = nI 0 ∧ I' 37 7 = nI 0 ∧ I' 56 4 = nI 0 ∧ I' 56 8 = nI 0 ∧ I' 56 11 = -1) ∧ (¬ (hW W z).1 = 0 → Fr fHf I I' ∧ I' 1 1 = nI 0 ∧ I' 1 3 = nI (hW W z).2.1)) ∧ J' = J) := by
  rw [e_X11_house]
  (first | refine rt_eq (q_X11_house_0) ?_ | refine rt_eq (q_X11_house_8) ?_ | refine rt_eq (q_X11_house_19) ?_ | refine rt_eq (q_X11_house_44) ?_ | refine rt_eq (q_X11_house_51) ?_ | refine rt_eq (q_X11_house_58) ?_ | refine rt_eq (q_X11_house_65) ?_ | refine rt_eq (q_X11_house_79) ?_ | refine rt_eq (q_X11_house_94) ?_)
  refine rt_bnd (sp_open (most := 600) B ht htp hn (by omega) (by decide)) ?_
  rintro I1 J1 ⟨⟨f1, f2, f3, f4, f5⟩, rfl⟩
  (first | refine rt_eq (q_X11_house_0) ?_ | refine rt_eq (q_X11_house_8) ?_ | refine rt_eq (q_X11_house_19) ?_ | refine rt_eq (q_X11_house_44) ?_ | refine rt_eq (q_X11_house_51) ?_ | refine rt_eq (q_X11_house_58) ?_ | refine rt_eq (q_X11_house_65) ?_ | refine rt_eq (q_X11_house_79) ?_ | refine rt_eq (q_X11_house_94) ?_)
  refine rt_bnd (sp_readHouse (SO_fr O f1 (by decide)) f2 f4 f5) ?_
  rintro I2 J2 ⟨⟨g1, g2, g3⟩, rfl⟩
  have fr2 : Fr fHf I I2 := fr_tr (fr_mono f1 (by decide)) (fr_mono g1 (by decide))
  (first | refine rt_eq (q_X11_house_0) ?_ | refine rt_eq (q_X11_house_8) ?_ | refine rt_eq (q_X11_house_19) ?_ | refine rt_eq (q_X11_house_44) ?_ | refine rt_eq (q_X11_house_51) ?_ | refine rt_eq (q_X11_house_58) ?_ | refine rt_eq (q_X11_house_65) ?_ | refine rt_eq (q_X11_house_79) ?_ | refine rt_eq (q_X11_house_94) ?_)
  unfold hAns
  by_cases q : (hW W z).1 = 0
  · rw [if_pos q, decide_eq_true q]
    obtain ⟨k1, k2, k3⟩ := g2 q
    refine rt_f (show ¬ bI true = nI 0 by decide) (rt_bnd sp_becomeH ?_)
    rintro I3 J3 ⟨⟨l1, l2, l3, l4, l5, l6⟩, rfl⟩
    obtain ⟨H3, e33⟩ := HC_of k1 k2.1 l2 l3 l4 l5 l6
    have fr3 : Fr (fHf ++ fBH) I I3 := fr_tr (fr_mono fr2 (by decide)) (fr_mono l1 (by decide))
    (first | refine rt_eq (q_X11_house_0) ?_ | refine rt_eq (q_X11_house_8) ?_ | refine rt_eq (q_X11_house_19) ?_ | refine rt_eq (q_X11_house_44) ?_ | refine rt_eq (q_X11_house_51) ?_ | refine rt_eq (q_X11_house_58) ?_ | refine rt_eq (q_X11_house_65) ?_ | refine rt_eq (q_X11_house_79) ?_ | refine rt_eq (q_X11_house_94) ?_)
    refine rt_bnd (sp_beUntold (UT_fr U fr3 (by decide))) ?_
    rintro I4 J4 ⟨⟨m1, m2⟩, rfl⟩
    (first | refine rt_eq (q_X11_house_0) ?_ | refine rt_eq (q_X11_house_8) ?_ | refine rt_eq (q_X11_house_19) ?_ | refine rt_eq (q_X11_house_44) ?_ | refine rt_eq (q_X11_house_51) ?_ | refine rt_eq (q_X11_house_58) ?_ | refine rt_eq (q_X11_house_65) ?_ | refine rt_eq (q_X11_house_79) ?_ | refine rt_eq (q_X11_house_94) ?_)
    have clr : Rt L X (runM (d + 7) nX0_clear [.ref 31] (mm L X I4 J4)) none (fun I' J' => (Fr [(31, 1), (32, 0)] I4 I' ∧ I' 31 0 = nI 0 ∧ ∀ k, k < 6 → I' 32 k = -1) ∧ J' = J4) := by
      have ho : oc0 31 := .inl rfl
      rw [e_X0_clear]
      (first | refine rt_eq (q_X0_clear_0 (by first | assumption | rfl | exact .inl rfl | exact .inr rfl)) ?_ | refine rt_eq (q_X0_clear_13) ?_)
      refine rt_bndN (sp_fillI ka_32 (by decide)) ?_
      rintro I1 J1 ⟨⟨f1, f2⟩, rfl⟩
      (first | refine rt_eq (q_X0_clear_0 (by first | assumption | rfl | exact .inl rfl | exact .inr rfl)) ?_ | refine rt_eq (q_X0_clear_13) ?_)
      refine rt_ret ⟨⟨fr_tr (fr_up fr_rfl rfl) (fr_mono f1 (by decide)), ?_, f2⟩, rfl⟩
      rw [f1 31 0 rfl, up2_s]
    refine rt_bnd clr ?_
    rintro I5 J5 ⟨⟨n1, n2, n3⟩, rfl⟩
    (first | refine rt_eq (q_X11_house_0) ?_ | refine rt_eq (q_X11_house_8) ?_ | refine rt_eq (q_X11_house_19) ?_ | refine rt_eq (q_X11_house_44) ?_ | refine rt_eq (q_X11_house_51) ?_ | refine rt_eq (q_X11_house_58) ?_ | refine rt_eq (q_X11_house_65) ?_ | refine rt_eq (q_X11_house_79) ?_ | refine rt_eq (q_X11_house_94) ?_)
    have fg : runM (d + 7) nX4_forget [.ref 48] (mm L X I5 J5) = rV (mm L X (up2 (up2 I5 48 3 (nI 0)) 48 4 (nI 0)) J5) := by
      rw [e_X4_forget]
      (first | refine Eq.trans (q_X4_forget_0) ?_)
      rfl
    refine rt_be fg ?_
    generalize hI6 : up2 (up2 I5 48 3 (nI 0)) 48 4 (nI 0) = I6
    have p1 : Fr [(48, 4), (48, 5)] I5 I6 := by
      rw [← hI6]
      exact fr_up (fr_up fr_rfl rfl) rfl
    have p3 : I6 48 3 = nI 0 := by rw [← hI6, up2_k (by decide), up2_s]
    have p4 : I6 48 4 = nI 0 := by rw [← hI6, up2_s]
    clear hI6
    (first | refine rt_eq (q_X11_house_0) ?_ | refine rt_eq (q_X11_house_8) ?_ | refine rt_eq (q_X11_house_19) ?_ | refine rt_eq (q_X11_house_44) ?_ | refine rt_eq (q_X11_house_51) ?_ | refine rt_eq (q_X11_house_58) ?_ | refine rt_eq (q_X11_house_65) ?_ | refine rt_eq (q_X11_house_79) ?_ | refine rt_eq (q_X11_house_94) ?_)
    have e36 : I6 3 3 = nI ((hW W z).2.2 0 3) := by rw [p1 3 3 rfl, n1 3 3 rfl, m1 3 3 rfl, e33]
    rw [e36]
    refine rt_bnd (sp_begin) ?_
    rintro I7 J7 ⟨⟨r1, r2⟩, rfl⟩
    (first | refine rt_eq (q_X11_house_0) ?_ | refine rt_eq (q_X11_house_8) ?_ | refine rt_eq (q_X11_house_19) ?_ | refine rt_eq (q_X11_house_44) ?_ | refine rt_eq (q_X11_house_51) ?_ | refine rt_eq (q_X11_house_58) ?_ | refine rt_eq (q_X11_house_65) ?_ | refine rt_eq (q_X11_house_79) ?_ | refine rt_eq (q_X11_house_94) ?_)
    have fh : runM (d + 7) nX5_forgetHouse [.ref 56] (mm L X (up2 I7 37 7 (nI 0)) J7) = rV (mm L X (up2 (up2 (up2 (up2 I7 37 7 (nI 0)) 56 4 (nI 0)) 56 8 (nI 0)) 56 11 (-1)) J7) := by
      rw [e_X5_forgetHouse]
      (first | refine Eq.trans (q_X5_forgetHouse_0) ?_ | refine Eq.trans (q_X5_forgetHouse_14) ?_)
      refine Eq.trans (bnd_e sp_forgetShort) ?_
      (first | refine Eq.trans (q_X5_forgetHouse_0) ?_ | refine Eq.trans (q_X5_forgetHouse_14) ?_)
      rfl
    refine rt_be fh ?_
    generalize hI8 : up2 (up2 (up2 (up2 I7 37 7 (nI 0)) 56 4 (nI 0)) 56 8 (nI 0)) 56 11 (-1) = I8
    have s1 : Fr [(37, 8), (56, 5), (56, 9), (56, 12)] I7 I8 := by
      rw [← hI8]
      exact fr_up (fr_up (fr_up (fr_up fr_rfl rfl) rfl) rfl) rfl
    have s2 : I8 37 7 = nI 0 := by rw [← hI8, up2_n (by decide), up2_n (by decide), up2_n (by decide), up2_s]
    have s3 : I8 56 4 = nI 0 := by rw [← hI8, up2_k (by decide), up2_k (by decide), up2_s]
    have s4 : I8 56 8 = nI 0 := by rw [← hI8, up2_k (by decide), up2_s]
    have s5 : I8 56 11 = -1 := by rw [← hI8, up2_s]
    clear hI8
    (first | refine rt_eq (q_X11_house_0) ?_ | refine rt_eq (q_X11_house_8) ?_ | refine rt_eq (q_X11_house_19) ?_ | refine rt_eq (q_X11_house_44) ?_ | refine rt_eq (q_X11_house_51) ?_ | refine rt_eq (q_X11_house_58) ?_ | refine rt_eq (q_X11_house_65) ?_ | refine rt_eq (q_X11_house_79) ?_ | refine rt_eq (q_X11_house_94) ?_)
    have t1 : Fr ([(23, 2), (24, 0), (31, 1), (32, 0), (48, 4), (48, 5), (37, 8), (56, 5), (56, 9), (56, 12)] ++ fBg) I3 I8 := fr_tr (fr_tr (fr_tr (fr_tr (fr_mono m1 (by decide)) (fr_mono n1 (by decide))) (fr_mono p1 (by decide))) (fr_mono r1 (by decide))) (fr_mono s1 (by decide))
    have H8 : HC I8 (hW W z).2.2 ((hW W z).2.2 0 1) := HC_fr H3 (ag_of t1 (by decide))
    rw [H8.1]
    have t2 : Fr ([(31, 1), (32, 0), (48, 4), (48, 5), (37, 8), (56, 5), (56, 9), (56, 12)] ++ fBg) I4 I8 := fr_tr (fr_tr (fr_tr (fr_mono n1 (by decide)) (fr_mono p1 (by decide))) (fr_mono r1 (by decide))) (fr_mono s1 (by decide))
    have t3 : Fr ([(48, 4), (48, 5), (37, 8), (56, 5), (56, 9), (56, 12)] ++ fBg) I5 I8 := fr_tr (fr_tr (fr_mono p1 (by decide)) (fr_mono r1 (by decide))) (fr_mono s1 (by decide))
    refine rt_ret ⟨⟨fun _ => ⟨fr_tr (fr_mono fr3 (by decide)) (fr_mono t1 (by decide)), ?_, ?_, k2, H8, LawC_fr m2 (ag_of t2 (by decide)), NC_fr r2 (ag_of s1 (by decide)), ⟨?_, fun k hk => ?_⟩, ?_, ?_, s2, s3, s4, s5⟩, fun q2 => absurd q q2⟩, rfl⟩
    · rw [t1 1 1 rfl, l1 1 1 rfl, g1 1 1 rfl, f3]
    · rw [t1 1 3 rfl, l1 1 3 rfl, k3]
    · rw [t3 31 0 rfl, n2]
    · rw [t3 32 k rfl, n3 k hk]
    · rw [s1 48 3 rfl, r1 48 3 rfl, p3]
    · rw [s1 48 4 rfl, r1 48 4 rfl, p4]
  · rw [if_neg q, decide_eq_false q]
    obtain ⟨k2, k3⟩ := g3 q
    rw [k2]
    exact rt_t bI_f (rt_ret ⟨⟨fun q2 => absurd q2 q, fun _ => ⟨fr2, (g1 1 1 rfl).trans f3, k3⟩⟩, rfl⟩)
theorem x_house (ht : I 1 1 = nI tp) (htp : tp ≤ 600) (hx : ¬ ∃ n, n ≤ tp ∧ x = nI n) : runM (d + 3) nX11_house [.ref 0, .int x] (mm L X I J) = some (.inr 1, mm L (X + 1) (ex1 I) J) := by
  rw [e_X11_house]
  (first | refine Eq.trans (q_X11_house_0) ?_ | refine Eq.trans (q_X11_house_8) ?_ | refine Eq.trans (q_X11_house_19) ?_ | refine Eq.trans (q_X11_house_44) ?_ | refine Eq.trans (q_X11_house_51) ?_ | refine Eq.trans (q_X11_house_58) ?_ | refine Eq.trans (q_X11_house_65) ?_ | refine Eq.trans (q_X11_house_79) ?_ | refine Eq.trans (q_X11_house_94) ?_)
  exact bnd_x (x_open ht htp (by decide) (fun ⟨n, h1, h2, h3⟩ => hx ⟨n, h1, h3⟩))
end HD
