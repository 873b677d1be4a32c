/-! A BOOK, BY THE MODEL: the whole asking -/
section BP
variable {d L X : Nat} {I : MI32} {J : MI64} {W : Nat → Nat} {n tp : Nat} {x : Int32}
def fStT : Fls := [(72, 2), (72, 3), (72, 5), (72, 6), (72, 7), (72, 8), (72, 9)]
theorem sp_starts (B : BM I W) (B2 : ∀ k, k < 600 → W k < 256) (hn : n ≤ 600) : Rt L X (runM (d + 3) nX12_starts [.ref 72, .int (nI n)] (mm L X I J)) none (fun I' J' => (Fr fStT I I' ∧ I' 72 1 = nI 0 ∧ I' 72 2 = nI n ∧ I' 72 4 = nI (sk W n 0) ∧ I' 72 5 = nI 0 ∧ I' 72 6 = -1 ∧ I' 72 7 = nI 0 ∧ I' 72 8 = nI 0) ∧ J' = J) := by
  rw [e_X12_starts]
  (first | refine rt_eq (q_X12_starts_0) ?_ | refine rt_eq (q_X12_starts_20) ?_ | refine rt_eq (q_X12_starts_39) ?_)
  (first | refine rt_eq (q_X12_starts_0) ?_ | refine rt_eq (q_X12_starts_20) ?_ | refine rt_eq (q_X12_starts_39) ?_)
  generalize hI1 : up2 (up2 (up2 (up2 (up2 (up2 (up2 I 72 1 (nI 0)) 72 2 (nI n)) 72 4 (nI 0)) 72 5 (nI 0)) 72 6 (-1)) 72 7 (nI 0)) 72 8 (nI 0) = I1
  have g : Fr fStT I I1 := by
    rw [← hI1]
    exact fr_up (fr_up (fr_up (fr_up (fr_up (fr_up (fr_up fr_rfl rfl) rfl) rfl) rfl) rfl) rfl) rfl
  have e8 : I1 72 8 = nI 0 := by rw [← hI1, up2_s]
  have e7 : I1 72 7 = nI 0 := by rw [← hI1, up2_k (by decide), up2_s]
  have e6 : I1 72 6 = -1 := by rw [← hI1, up2_k (by decide), up2_k (by decide), up2_s]
  have e5 : I1 72 5 = nI 0 := by rw [← hI1, up2_k (by decide), up2_k (by decide), up2_k (by decide), up2_s]
  have e4 : I1 72 4 = nI 0 := by rw [← hI1, up2_k (by decide), up2_k (by decide), up2_k (by decide), up2_k (by decide), up2_s]
  have e2 : I1 72 2 = nI n := by rw [← hI1, up2_k (by decide), up2_k (by decide), up2_k (by decide), up2_k (by decide), up2_k (by decide), up2_s]
  have e1 : I1 72 1 = nI 0 := by rw [← hI1, up2_k (by decide), up2_k (by decide), up2_k (by decide), up2_k (by decide), up2_k (by decide), up2_k (by decide), up2_s]
  refine rt_bnd (sp_blanks (a := 0) (BM_fr B g (by decide)) B2 e2 hn (Nat.zero_le _) e4) ?_
  rintro I2 J2 ⟨⟨f1, f2⟩, rfl⟩
  (first | refine rt_eq (q_X12_starts_0) ?_ | refine rt_eq (q_X12_starts_20) ?_ | refine rt_eq (q_X12_starts_39) ?_)
  exact rt_ret ⟨⟨fr_tr g (fr_mono f1 (by decide)), (f1 72 1 rfl).trans e1, (f1 72 2 rfl).trans e2, f2, (f1 72 5 rfl).trans e5, (f1 72 6 rfl).trans e6, (f1 72 7 rfl).trans e7, (f1 72 8 rfl).trans e8⟩, rfl⟩
theorem sp_ends : runM (d + 1) nX12_ends [.ref 72] (mm L X I J) = rI (I 72 5 - nI 10) (mm L X (up2 I 72 3 (I 72 6)) J) := by
  rw [e_X12_ends]
  (first | refine Eq.trans (q_X12_ends_0) ?_)
  rw [up2_k (by decide)]
theorem gr_443 : gr 443 6 2 := ⟨ka_of (by decide +kernel), by decide +kernel, fun j hj => by
  have q : ∀ s, s < 6 → (Nat.blt (443 + 1 + s) 1000000 && (K0[443 + 1 + s]? == some (1, 2))) = true := by decide +kernel
  exact ka_of (q j hj)⟩
theorem gr_436 : gr 436 6 2 := ⟨ka_of (by decide +kernel), by decide +kernel, fun j hj => by
  have q : ∀ s, s < 6 → (Nat.blt (436 + 1 + s) 1000000 && (K0[436 + 1 + s]? == some (1, 2))) = true := by decide +kernel
  exact ka_of (q j hj)⟩
def fBoM : Fls := fStT ++ fBM ++ [(72, 1), (72, 4), (72, 35)] ++ cells 437 6
theorem m_book (B : BM I W) (B2 : ∀ k, k < 600 → W k < 256) (ht : I 72 1 = nI tp) (htp : tp ≤ 600) (hn : n ≤ tp) (hm : n ≤ 60) : Rt L X (runM (d + 4) nX12_book [.ref 72, .int (nI n)] (mm L X I J)) (some (.int (bkAns W n))) (fun I' J' => (Fr fBoM I I' ∧ I' 72 0 = nI 0 ∧ I' 72 1 = nI 0 ∧ ((bkP W n 7 0 bS0).1 = 0 → bkM I' (bkP W n 7 0 bS0).2.2.1 (bkP W n 7 0 bS0).2.2.2.1 ∧ I' 72 3 = -1 ∧ bOK (bkP W n 7 0 bS0).2.2) ∧ (¬ (bkP W n 7 0 bS0).1 = 0 → I' 72 34 = I 72 34 ∧ (∀ i k, i < 6 → I' (437 + i) k = I (437 + i) k) ∧ I' 72 3 = nI (bkP W n 7 0 bS0).2.1)) ∧ J' = J) := by
  rw [e_X12_book]
  (first | refine rt_eq (q_X12_book_0) ?_ | refine rt_eq (q_X12_book_15) ?_ | refine rt_eq (q_X12_book_24) ?_ | refine rt_eq (q_X12_book_29) ?_ | refine rt_eq (q_X12_book_34) ?_ | refine rt_eq (q_X12_book_44 (by first | assumption | rfl | exact .inl rfl | exact .inr rfl)) ?_ | refine rt_eq (q_X12_book_46) ?_ | refine rt_eq (q_X12_book_190) ?_ | refine rt_eq (q_X12_book_75) ?_ | refine rt_eq (q_X12_book_224) ?_ | refine rt_eq (q_X12_book_201) ?_ | refine rt_eq (q_X12_book_80) ?_ | refine rt_eq (q_X12_book_138) ?_ | refine rt_eq (q_X12_book_113) ?_ | refine rt_eq (q_X12_book_145) ?_ | refine rt_eq (q_X12_book_153 (by first | assumption | rfl | exact .inl rfl | exact .inr rfl)) ?_ | refine rt_eq (q_X12_book_183) ?_ | refine rt_eq (q_X12_book_187) ?_)
  rw [show (up2 I 72 0 (nI 0)) 72 1 = nI tp by rw [up2_k (by decide), ht]]
  refine rt_bne (in_t (by (try simp (disch := omega) only [nI_leI, nI_ltI, nI_eq, nI_add, pk_mul, n_0add, Nat.zero_add, nI_clamp]) <;> omega) (by (try simp (disch := omega) only [nI_leI, nI_ltI, nI_eq, nI_add, pk_mul, n_0add, Nat.zero_add, nI_clamp]) <;> omega)) ?_
  (first | refine rt_eq (q_X12_book_0) ?_ | refine rt_eq (q_X12_book_15) ?_ | refine rt_eq (q_X12_book_24) ?_ | refine rt_eq (q_X12_book_29) ?_ | refine rt_eq (q_X12_book_34) ?_ | refine rt_eq (q_X12_book_44 (by first | assumption | rfl | exact .inl rfl | exact .inr rfl)) ?_ | refine rt_eq (q_X12_book_46) ?_ | refine rt_eq (q_X12_book_190) ?_ | refine rt_eq (q_X12_book_75) ?_ | refine rt_eq (q_X12_book_224) ?_ | refine rt_eq (q_X12_book_201) ?_ | refine rt_eq (q_X12_book_80) ?_ | refine rt_eq (q_X12_book_138) ?_ | refine rt_eq (q_X12_book_113) ?_ | refine rt_eq (q_X12_book_145) ?_ | refine rt_eq (q_X12_book_153 (by first | assumption | rfl | exact .inl rfl | exact .inr rfl)) ?_ | refine rt_eq (q_X12_book_183) ?_ | refine rt_eq (q_X12_book_187) ?_)
  refine rt_f (by decide) (rt_t (by (try simp (disch := omega) only [nI_leI, nI_ltI, nI_eq, nI_add, pk_mul, n_0add, Nat.zero_add, nI_clamp]) <;> omega) ?_)
  (first | refine rt_eq (q_X12_book_0) ?_ | refine rt_eq (q_X12_book_15) ?_ | refine rt_eq (q_X12_book_24) ?_ | refine rt_eq (q_X12_book_29) ?_ | refine rt_eq (q_X12_book_34) ?_ | refine rt_eq (q_X12_book_44 (by first | assumption | rfl | exact .inl rfl | exact .inr rfl)) ?_ | refine rt_eq (q_X12_book_46) ?_ | refine rt_eq (q_X12_book_190) ?_ | refine rt_eq (q_X12_book_75) ?_ | refine rt_eq (q_X12_book_224) ?_ | refine rt_eq (q_X12_book_201) ?_ | refine rt_eq (q_X12_book_80) ?_ | refine rt_eq (q_X12_book_138) ?_ | refine rt_eq (q_X12_book_113) ?_ | refine rt_eq (q_X12_book_145) ?_ | refine rt_eq (q_X12_book_153 (by first | assumption | rfl | exact .inl rfl | exact .inr rfl)) ?_ | refine rt_eq (q_X12_book_183) ?_ | refine rt_eq (q_X12_book_187) ?_)
  refine rt_be (bad_f up2_s) ?_
  (first | refine rt_eq (q_X12_book_0) ?_ | refine rt_eq (q_X12_book_15) ?_ | refine rt_eq (q_X12_book_24) ?_ | refine rt_eq (q_X12_book_29) ?_ | refine rt_eq (q_X12_book_34) ?_ | refine rt_eq (q_X12_book_44 (by first | assumption | rfl | exact .inl rfl | exact .inr rfl)) ?_ | refine rt_eq (q_X12_book_46) ?_ | refine rt_eq (q_X12_book_190) ?_ | refine rt_eq (q_X12_book_75) ?_ | refine rt_eq (q_X12_book_224) ?_ | refine rt_eq (q_X12_book_201) ?_ | refine rt_eq (q_X12_book_80) ?_ | refine rt_eq (q_X12_book_138) ?_ | refine rt_eq (q_X12_book_113) ?_ | refine rt_eq (q_X12_book_145) ?_ | refine rt_eq (q_X12_book_153 (by first | assumption | rfl | exact .inl rfl | exact .inr rfl)) ?_ | refine rt_eq (q_X12_book_183) ?_ | refine rt_eq (q_X12_book_187) ?_)
  have gz : Fr [(72, 1)] I (up2 I 72 0 (nI 0)) := fr_up fr_rfl rfl
  refine rt_t rfl (rt_bnd (sp_starts (BM_fr B gz (by decide)) B2 (by omega)) ?_)
  rintro I1 J1 ⟨⟨f1, f2, f3, f4, f5, f6, f7, f8⟩, rfl⟩
  have g1 : Fr ([(72, 1)] ++ fStT) I I1 := fr_tr (fr_mono gz (by decide)) (fr_mono f1 (by decide))
  have e0 : I1 72 0 = nI 0 := by rw [f1 72 0 rfl, up2_s]
  have hu : okv (some (.int (nI n))) = true := rfl
  (first | refine rt_eq (q_X12_book_0) ?_ | refine rt_eq (q_X12_book_15) ?_ | refine rt_eq (q_X12_book_24) ?_ | refine rt_eq (q_X12_book_29) ?_ | refine rt_eq (q_X12_book_34) ?_ | refine rt_eq (q_X12_book_44 (by first | assumption | rfl | exact .inl rfl | exact .inr rfl)) ?_ | refine rt_eq (q_X12_book_46) ?_ | refine rt_eq (q_X12_book_190) ?_ | refine rt_eq (q_X12_book_75) ?_ | refine rt_eq (q_X12_book_224) ?_ | refine rt_eq (q_X12_book_201) ?_ | refine rt_eq (q_X12_book_80) ?_ | refine rt_eq (q_X12_book_138) ?_ | refine rt_eq (q_X12_book_113) ?_ | refine rt_eq (q_X12_book_145) ?_ | refine rt_eq (q_X12_book_153 (by first | assumption | rfl | exact .inl rfl | exact .inr rfl)) ?_ | refine rt_eq (q_X12_book_183) ?_ | refine rt_eq (q_X12_book_187) ?_)
  refine lp_bookM (I := I1) hu (BM_fr B g1 (by decide)) B2 f3 (by omega) 7 0 I1 bS0 _ _ _ rfl (Nat.zero_le _) fr_rfl f4 f5 (fun i hi => absurd hi (Nat.not_lt_zero i)) bOK_0 ?_
  intro I2 nn u3 u4 u5 h1 h2 h3
  have g2 : Fr fBoM I I2 := fr_tr (fr_mono g1 (by decide +kernel)) (fr_mono h1 (by decide +kernel))
  have c0 : I2 72 0 = nI 0 := (bm_72 h1 (by decide +kernel)).trans e0
  have c1 : I2 72 1 = nI 0 := (bm_72 h1 (by decide +kernel)).trans f2
  (first | refine rt_eq (q_X12_book_0) ?_ | refine rt_eq (q_X12_book_15) ?_ | refine rt_eq (q_X12_book_24) ?_ | refine rt_eq (q_X12_book_29) ?_ | refine rt_eq (q_X12_book_34) ?_ | refine rt_eq (q_X12_book_44 (by first | assumption | rfl | exact .inl rfl | exact .inr rfl)) ?_ | refine rt_eq (q_X12_book_46) ?_ | refine rt_eq (q_X12_book_190) ?_ | refine rt_eq (q_X12_book_75) ?_ | refine rt_eq (q_X12_book_224) ?_ | refine rt_eq (q_X12_book_201) ?_ | refine rt_eq (q_X12_book_80) ?_ | refine rt_eq (q_X12_book_138) ?_ | refine rt_eq (q_X12_book_113) ?_ | refine rt_eq (q_X12_book_145) ?_ | refine rt_eq (q_X12_book_153 (by first | assumption | rfl | exact .inl rfl | exact .inr rfl)) ?_ | refine rt_eq (q_X12_book_183) ?_ | refine rt_eq (q_X12_book_187) ?_)
  unfold bkAns
  by_cases q : (bkP W n 7 0 bS0).1 = 0
  · obtain ⟨rfl, k5, kA, kO⟩ := h2 q
    have k6 := bOK_6 kO
    rw [if_pos q]
    refine rt_t k5 (rt_bndN (sp_lays gr_443 gr_436 (by omega) (by omega) (by decide) (by decide) (by decide) (by decide) (fun i j hi hj => by omega)) ?_)
    rintro I3 J3 ⟨⟨l1, l2⟩, rfl⟩
    (first | refine rt_eq (q_X12_book_0) ?_ | refine rt_eq (q_X12_book_15) ?_ | refine rt_eq (q_X12_book_24) ?_ | refine rt_eq (q_X12_book_29) ?_ | refine rt_eq (q_X12_book_34) ?_ | refine rt_eq (q_X12_book_44 (by first | assumption | rfl | exact .inl rfl | exact .inr rfl)) ?_ | refine rt_eq (q_X12_book_46) ?_ | refine rt_eq (q_X12_book_190) ?_ | refine rt_eq (q_X12_book_75) ?_ | refine rt_eq (q_X12_book_224) ?_ | refine rt_eq (q_X12_book_201) ?_ | refine rt_eq (q_X12_book_80) ?_ | refine rt_eq (q_X12_book_138) ?_ | refine rt_eq (q_X12_book_113) ?_ | refine rt_eq (q_X12_book_145) ?_ | refine rt_eq (q_X12_book_153 (by first | assumption | rfl | exact .inl rfl | exact .inr rfl)) ?_ | refine rt_eq (q_X12_book_183) ?_ | refine rt_eq (q_X12_book_187) ?_)
    have n72 : ∀ k, I3 72 k = (up2 (up2 I2 72 3 (-1)) 72 34 (nI (bkP W n 7 0 bS0).2.2.1)) 72 k := fun k => ag_of (s := [(72, 0)]) l1 (by decide +kernel) 72 k rfl
    refine rt_ret ⟨⟨?_, ?_, ?_, fun _ => ⟨⟨?_, k6, fun i hi => ?_⟩, ?_, kO⟩, fun q2 => absurd q q2⟩, rfl⟩
    · exact fr_tr (fr_up (fr_up g2 (by decide +kernel)) (by decide +kernel)) (fr_mono l1 (by decide +kernel))
    · rw [n72, up2_k (by decide), up2_k (by decide), c0]
    · rw [n72, up2_k (by decide), up2_k (by decide), c1]
    · rw [n72, up2_s]
    · have a0 := l2 i 0 hi (by decide)
      have a1 := l2 i 1 hi (by decide)
      rw [show 436 + 1 + i = 437 + i by omega, show 443 + 1 + i = 444 + i by omega, up2_n (by omega), up2_n (by omega)] at a0 a1
      rw [a0, a1]
      exact kA i hi
    · rw [n72, up2_k (by decide), up2_s]
  · obtain ⟨k0, k5, k6⟩ := h3 q
    rw [if_neg q]
    refine rt_f k0 (rt_be sp_ends ?_)
    (first | refine rt_eq (q_X12_book_0) ?_ | refine rt_eq (q_X12_book_15) ?_ | refine rt_eq (q_X12_book_24) ?_ | refine rt_eq (q_X12_book_29) ?_ | refine rt_eq (q_X12_book_34) ?_ | refine rt_eq (q_X12_book_44 (by first | assumption | rfl | exact .inl rfl | exact .inr rfl)) ?_ | refine rt_eq (q_X12_book_46) ?_ | refine rt_eq (q_X12_book_190) ?_ | refine rt_eq (q_X12_book_75) ?_ | refine rt_eq (q_X12_book_224) ?_ | refine rt_eq (q_X12_book_201) ?_ | refine rt_eq (q_X12_book_80) ?_ | refine rt_eq (q_X12_book_138) ?_ | refine rt_eq (q_X12_book_113) ?_ | refine rt_eq (q_X12_book_145) ?_ | refine rt_eq (q_X12_book_153 (by first | assumption | rfl | exact .inl rfl | exact .inr rfl)) ?_ | refine rt_eq (q_X12_book_183) ?_ | refine rt_eq (q_X12_book_187) ?_)
    rw [k5, k6]
    have row : ∀ i k, i < 6 → I2 (437 + i) k = I (437 + i) k := fun i k hi => by
      rw [ag_of (s := cells 437 6) h1 (by decide +kernel) _ k (in_cells hi), ag_of (s := cells 437 6) g1 (by decide +kernel) _ k (in_cells hi)]
    refine rt_ret ⟨⟨fr_up g2 (by decide +kernel), ?_, ?_, fun q2 => absurd q2 q, fun _ => ⟨?_, fun i k hi => ?_, up2_s⟩⟩, rfl⟩
    · rw [up2_k (by decide), c0]
    · rw [up2_k (by decide), c1]
    · rw [up2_k (by decide), bm_72 h1 (by decide +kernel), g1 72 34 rfl]
    · rw [up2_n (by omega), row i k hi]
theorem b_book (ht : I 72 1 = nI tp) (htp : tp ≤ 600) (hx : ¬ ∃ n, n ≤ tp ∧ n ≤ 60 ∧ x = nI n) : runM (d + 2) nX12_book [.ref 72, .int x] (mm L X I J) = rI (nI 0) (mm L X (bdM I 1 1) J) := by
  have fin : ∀ u2 u3 u4 u5, runI (runM (d + 1)) iX12_book (24, [some (.ref 72), some (.int x), u2, u3, u4, u5], [.ref 72], mm L X (up2 I 72 0 (nI 0)) J) = rI (nI 0) (mm L X (bdM I 1 1) J) := by
    intro u2 u3 u4 u5
    (first | refine Eq.trans (q_X12_book_0) ?_ | refine Eq.trans (q_X12_book_15) ?_ | refine Eq.trans (q_X12_book_24) ?_ | refine Eq.trans (q_X12_book_29) ?_ | refine Eq.trans (q_X12_book_34) ?_ | refine Eq.trans (q_X12_book_44 (by first | assumption | rfl | exact .inl rfl | exact .inr rfl)) ?_ | refine Eq.trans (q_X12_book_46) ?_ | refine Eq.trans (q_X12_book_190) ?_ | refine Eq.trans (q_X12_book_75) ?_ | refine Eq.trans (q_X12_book_224) ?_ | refine Eq.trans (q_X12_book_201) ?_ | refine Eq.trans (q_X12_book_80) ?_ | refine Eq.trans (q_X12_book_138) ?_ | refine Eq.trans (q_X12_book_113) ?_ | refine Eq.trans (q_X12_book_145) ?_ | refine Eq.trans (q_X12_book_153 (by first | assumption | rfl | exact .inl rfl | exact .inr rfl)) ?_ | refine Eq.trans (q_X12_book_183) ?_ | refine Eq.trans (q_X12_book_187) ?_)
    (first | refine Eq.trans (q_X12_book_0) ?_ | refine Eq.trans (q_X12_book_15) ?_ | refine Eq.trans (q_X12_book_24) ?_ | refine Eq.trans (q_X12_book_29) ?_ | refine Eq.trans (q_X12_book_34) ?_ | refine Eq.trans (q_X12_book_44 (by first | assumption | rfl | exact .inl rfl | exact .inr rfl)) ?_ | refine Eq.trans (q_X12_book_46) ?_ | refine Eq.trans (q_X12_book_190) ?_ | refine Eq.trans (q_X12_book_75) ?_ | refine Eq.trans (q_X12_book_224) ?_ | refine Eq.trans (q_X12_book_201) ?_ | refine Eq.trans (q_X12_book_80) ?_ | refine Eq.trans (q_X12_book_138) ?_ | refine Eq.trans (q_X12_book_113) ?_ | refine Eq.trans (q_X12_book_145) ?_ | refine Eq.trans (q_X12_book_153 (by first | assumption | rfl | exact .inl rfl | exact .inr rfl)) ?_ | refine Eq.trans (q_X12_book_183) ?_ | refine Eq.trans (q_X12_book_187) ?_)
    refine Eq.trans (bnd_e (bad_t (by decide) (by decide) (by decide))) ?_
    (first | refine Eq.trans (q_X12_book_0) ?_ | refine Eq.trans (q_X12_book_15) ?_ | refine Eq.trans (q_X12_book_24) ?_ | refine Eq.trans (q_X12_book_29) ?_ | refine Eq.trans (q_X12_book_34) ?_ | refine Eq.trans (q_X12_book_44 (by first | assumption | rfl | exact .inl rfl | exact .inr rfl)) ?_ | refine Eq.trans (q_X12_book_46) ?_ | refine Eq.trans (q_X12_book_190) ?_ | refine Eq.trans (q_X12_book_75) ?_ | refine Eq.trans (q_X12_book_224) ?_ | refine Eq.trans (q_X12_book_201) ?_ | refine Eq.trans (q_X12_book_80) ?_ | refine Eq.trans (q_X12_book_138) ?_ | refine Eq.trans (q_X12_book_113) ?_ | refine Eq.trans (q_X12_book_145) ?_ | refine Eq.trans (q_X12_book_153 (by first | assumption | rfl | exact .inl rfl | exact .inr rfl)) ?_ | refine Eq.trans (q_X12_book_183) ?_ | refine Eq.trans (q_X12_book_187) ?_)
    exact if_neg (by decide)
  rw [e_X12_book]
  (first | refine Eq.trans (q_X12_book_0) ?_ | refine Eq.trans (q_X12_book_15) ?_ | refine Eq.trans (q_X12_book_24) ?_ | refine Eq.trans (q_X12_book_29) ?_ | refine Eq.trans (q_X12_book_34) ?_ | refine Eq.trans (q_X12_book_44 (by first | assumption | rfl | exact .inl rfl | exact .inr rfl)) ?_ | refine Eq.trans (q_X12_book_46) ?_ | refine Eq.trans (q_X12_book_190) ?_ | refine Eq.trans (q_X12_book_75) ?_ | refine Eq.trans (q_X12_book_224) ?_ | refine Eq.trans (q_X12_book_201) ?_ | refine Eq.trans (q_X12_book_80) ?_ | refine Eq.trans (q_X12_book_138) ?_ | refine Eq.trans (q_X12_book_113) ?_ | refine Eq.trans (q_X12_book_145) ?_ | refine Eq.trans (q_X12_book_153 (by first | assumption | rfl | exact .inl rfl | exact .inr rfl)) ?_ | refine Eq.trans (q_X12_book_183) ?_ | refine Eq.trans (q_X12_book_187) ?_)
  rw [show (up2 I 72 0 (nI 0)) 72 1 = nI tp by rw [up2_k (by decide), ht]]
  by_cases q : nI 0 ≤ x ∧ x ≤ nI tp
  · obtain ⟨p, hp, rfl⟩ := (in_M (M := tp) (by omega)).mp q
    refine Eq.trans (bndN_e (in_t q.1 q.2)) ?_
    (first | refine Eq.trans (q_X12_book_0) ?_ | refine Eq.trans (q_X12_book_15) ?_ | refine Eq.trans (q_X12_book_24) ?_ | refine Eq.trans (q_X12_book_29) ?_ | refine Eq.trans (q_X12_book_34) ?_ | refine Eq.trans (q_X12_book_44 (by first | assumption | rfl | exact .inl rfl | exact .inr rfl)) ?_ | refine Eq.trans (q_X12_book_46) ?_ | refine Eq.trans (q_X12_book_190) ?_ | refine Eq.trans (q_X12_book_75) ?_ | refine Eq.trans (q_X12_book_224) ?_ | refine Eq.trans (q_X12_book_201) ?_ | refine Eq.trans (q_X12_book_80) ?_ | refine Eq.trans (q_X12_book_138) ?_ | refine Eq.trans (q_X12_book_113) ?_ | refine Eq.trans (q_X12_book_145) ?_ | refine Eq.trans (q_X12_book_153 (by first | assumption | rfl | exact .inl rfl | exact .inr rfl)) ?_ | refine Eq.trans (q_X12_book_183) ?_ | refine Eq.trans (q_X12_book_187) ?_)
    have h60 : ¬ p ≤ 60 := fun q2 => hx ⟨p, hp, q2, rfl⟩
    rw [if_neg (by decide), if_neg (by ((try simp (disch := omega) only [nI_leI, nI_ltI, nI_eq, nI_add, pk_mul, n_0add, Nat.zero_add, nI_clamp]) <;> omega))]
    exact fin _ _ _ _
  · refine Eq.trans (bndN_e (in_f q)) ?_
    (first | refine Eq.trans (q_X12_book_0) ?_ | refine Eq.trans (q_X12_book_15) ?_ | refine Eq.trans (q_X12_book_24) ?_ | refine Eq.trans (q_X12_book_29) ?_ | refine Eq.trans (q_X12_book_34) ?_ | refine Eq.trans (q_X12_book_44 (by first | assumption | rfl | exact .inl rfl | exact .inr rfl)) ?_ | refine Eq.trans (q_X12_book_46) ?_ | refine Eq.trans (q_X12_book_190) ?_ | refine Eq.trans (q_X12_book_75) ?_ | refine Eq.trans (q_X12_book_224) ?_ | refine Eq.trans (q_X12_book_201) ?_ | refine Eq.trans (q_X12_book_80) ?_ | refine Eq.trans (q_X12_book_138) ?_ | refine Eq.trans (q_X12_book_113) ?_ | refine Eq.trans (q_X12_book_145) ?_ | refine Eq.trans (q_X12_book_153 (by first | assumption | rfl | exact .inl rfl | exact .inr rfl)) ?_ | refine Eq.trans (q_X12_book_183) ?_ | refine Eq.trans (q_X12_book_187) ?_)
    rw [if_pos rfl]
    exact fin _ _ _ _
end BP
