/-! A BOOK IS READ, BY THE MODEL -/
section BN
variable {d L X : Nat} {I : MI32} {J : MI64} {W : Nat → Nat} {z a : Nat} {u1 rr : Option Value} {Q : MI32 → MI64 → Prop}
theorem bk_f183 {x2 : Int32} {u3 u4 u5 : Option Value} (B : BM I W) (B2 : ∀ k, k < 600 → W k < 256) (hz : I 72 2 = nI z) (hz2 : z ≤ 600) (ha : a ≤ z) (h4 : I 72 4 = nI a) (h0 : ¬ I 72 5 = nI 0) (k : ∀ I', Fr [(72, 5)] I I' → Rt L X (runI (runM (d + 3)) iX12_book (190, [some (.ref 72), u1, some (.int x2), u3, u4, u5], [], mm L X I' J)) rr Q) : Rt L X (runI (runM (d + 3)) iX12_book (183, [some (.ref 72), u1, some (.int x2), u3, u4, u5], [], mm L X I J)) rr Q := by
  (first | refine rt_eq (q_X12_book_0) ?_ | refine rt_eq (q_X12_book_15) ?_ | refine rt_eq (q_X12_book_24) ?_ | refine rt_eq (q_X12_book_29) ?_ | refine rt_eq (q_X12_book_34) ?_ | refine rt_eq (q_X12_book_44 (by first | assumption | rfl | exact .inl rfl | exact .inr rfl)) ?_ | refine rt_eq (q_X12_book_46) ?_ | refine rt_eq (q_X12_book_190) ?_ | refine rt_eq (q_X12_book_75) ?_ | refine rt_eq (q_X12_book_224) ?_ | refine rt_eq (q_X12_book_201) ?_ | refine rt_eq (q_X12_book_80) ?_ | refine rt_eq (q_X12_book_138) ?_ | refine rt_eq (q_X12_book_113) ?_ | refine rt_eq (q_X12_book_145) ?_ | refine rt_eq (q_X12_book_153 (by first | assumption | rfl | exact .inl rfl | exact .inr rfl)) ?_ | refine rt_eq (q_X12_book_183) ?_ | refine rt_eq (q_X12_book_187) ?_)
  refine rt_bnd (sp_blanks B B2 hz hz2 ha h4) ?_
  rintro I1 J1 ⟨⟨f1, f2⟩, rfl⟩
  (first | refine rt_eq (q_X12_book_0) ?_ | refine rt_eq (q_X12_book_15) ?_ | refine rt_eq (q_X12_book_24) ?_ | refine rt_eq (q_X12_book_29) ?_ | refine rt_eq (q_X12_book_34) ?_ | refine rt_eq (q_X12_book_44 (by first | assumption | rfl | exact .inl rfl | exact .inr rfl)) ?_ | refine rt_eq (q_X12_book_46) ?_ | refine rt_eq (q_X12_book_190) ?_ | refine rt_eq (q_X12_book_75) ?_ | refine rt_eq (q_X12_book_224) ?_ | refine rt_eq (q_X12_book_201) ?_ | refine rt_eq (q_X12_book_80) ?_ | refine rt_eq (q_X12_book_138) ?_ | refine rt_eq (q_X12_book_113) ?_ | refine rt_eq (q_X12_book_145) ?_ | refine rt_eq (q_X12_book_153 (by first | assumption | rfl | exact .inl rfl | exact .inr rfl)) ?_ | refine rt_eq (q_X12_book_183) ?_ | refine rt_eq (q_X12_book_187) ?_)
  (first | refine rt_eq (q_X12_book_0) ?_ | refine rt_eq (q_X12_book_15) ?_ | refine rt_eq (q_X12_book_24) ?_ | refine rt_eq (q_X12_book_29) ?_ | refine rt_eq (q_X12_book_34) ?_ | refine rt_eq (q_X12_book_44 (by first | assumption | rfl | exact .inl rfl | exact .inr rfl)) ?_ | refine rt_eq (q_X12_book_46) ?_ | refine rt_eq (q_X12_book_190) ?_ | refine rt_eq (q_X12_book_75) ?_ | refine rt_eq (q_X12_book_224) ?_ | refine rt_eq (q_X12_book_201) ?_ | refine rt_eq (q_X12_book_80) ?_ | refine rt_eq (q_X12_book_138) ?_ | refine rt_eq (q_X12_book_113) ?_ | refine rt_eq (q_X12_book_145) ?_ | refine rt_eq (q_X12_book_153 (by first | assumption | rfl | exact .inl rfl | exact .inr rfl)) ?_ | refine rt_eq (q_X12_book_183) ?_ | refine rt_eq (q_X12_book_187) ?_)
  exact rt_f (by rw [f1 72 5 rfl]; exact h0) (k I1 f1)
theorem bk_f138 {x2 x4 : Int32} {u3 u5 : Option Value} (hu : okv u1 = true) (B : BM I W) (B2 : ∀ k, k < 600 → W k < 256) (hz : I 72 2 = nI z) (hz2 : z ≤ 600) (ha : a ≤ z) (h4 : I 72 4 = nI a) (h0 : ¬ I 72 5 = nI 0) (k : ∀ I' u5, Fr [(72, 5)] I I' → Rt L X (runI (runM (d + 3)) iX12_book (190, [some (.ref 72), u1, some (.int x2), u3, some (.int x4), u5], [], mm L X I' J)) rr Q) : Rt L X (runI (runM (d + 3)) iX12_book (138, [some (.ref 72), u1, some (.int x2), u3, some (.int x4), u5], [], mm L X I J)) rr Q := by
  (first | refine rt_eq (q_X12_book_0) ?_ | refine rt_eq (q_X12_book_15) ?_ | refine rt_eq (q_X12_book_24) ?_ | refine rt_eq (q_X12_book_29) ?_ | refine rt_eq (q_X12_book_34) ?_ | refine rt_eq (q_X12_book_44 (by first | assumption | rfl | exact .inl rfl | exact .inr rfl)) ?_ | refine rt_eq (q_X12_book_46) ?_ | refine rt_eq (q_X12_book_190) ?_ | refine rt_eq (q_X12_book_75) ?_ | refine rt_eq (q_X12_book_224) ?_ | refine rt_eq (q_X12_book_201) ?_ | refine rt_eq (q_X12_book_80) ?_ | refine rt_eq (q_X12_book_138) ?_ | refine rt_eq (q_X12_book_113) ?_ | refine rt_eq (q_X12_book_145) ?_ | refine rt_eq (q_X12_book_153 (by first | assumption | rfl | exact .inl rfl | exact .inr rfl)) ?_ | refine rt_eq (q_X12_book_183) ?_ | refine rt_eq (q_X12_book_187) ?_)
  refine rt_be (sp_numberF h0) ?_
  (first | refine rt_eq (q_X12_book_0) ?_ | refine rt_eq (q_X12_book_15) ?_ | refine rt_eq (q_X12_book_24) ?_ | refine rt_eq (q_X12_book_29) ?_ | refine rt_eq (q_X12_book_34) ?_ | refine rt_eq (q_X12_book_44 (by first | assumption | rfl | exact .inl rfl | exact .inr rfl)) ?_ | refine rt_eq (q_X12_book_46) ?_ | refine rt_eq (q_X12_book_190) ?_ | refine rt_eq (q_X12_book_75) ?_ | refine rt_eq (q_X12_book_224) ?_ | refine rt_eq (q_X12_book_201) ?_ | refine rt_eq (q_X12_book_80) ?_ | refine rt_eq (q_X12_book_138) ?_ | refine rt_eq (q_X12_book_113) ?_ | refine rt_eq (q_X12_book_145) ?_ | refine rt_eq (q_X12_book_153 (by first | assumption | rfl | exact .inl rfl | exact .inr rfl)) ?_ | refine rt_eq (q_X12_book_183) ?_ | refine rt_eq (q_X12_book_187) ?_)
  refine rt_be (sp_signF h0) ?_
  (first | refine rt_eq (q_X12_book_0) ?_ | refine rt_eq (q_X12_book_15) ?_ | refine rt_eq (q_X12_book_24) ?_ | refine rt_eq (q_X12_book_29) ?_ | refine rt_eq (q_X12_book_34) ?_ | refine rt_eq (q_X12_book_44 (by first | assumption | rfl | exact .inl rfl | exact .inr rfl)) ?_ | refine rt_eq (q_X12_book_46) ?_ | refine rt_eq (q_X12_book_190) ?_ | refine rt_eq (q_X12_book_75) ?_ | refine rt_eq (q_X12_book_224) ?_ | refine rt_eq (q_X12_book_201) ?_ | refine rt_eq (q_X12_book_80) ?_ | refine rt_eq (q_X12_book_138) ?_ | refine rt_eq (q_X12_book_113) ?_ | refine rt_eq (q_X12_book_145) ?_ | refine rt_eq (q_X12_book_153 (by first | assumption | rfl | exact .inl rfl | exact .inr rfl)) ?_ | refine rt_eq (q_X12_book_183) ?_ | refine rt_eq (q_X12_book_187) ?_)
  refine rt_f h0 ?_
  exact bk_f183 B B2 hz hz2 ha h4 h0 (fun I' g => k I' _ g)
theorem bk_f80 {x3 x4 : Int32} {n : Nat} (hn : n < 2 ^ 30) (hu : okv u1 = true) (B : BM I W) (B2 : ∀ k, k < 600 → W k < 256) (hz : I 72 2 = nI z) (hz2 : z ≤ 600) (ha : a ≤ z) (h4 : I 72 4 = nI a) (h0 : ¬ I 72 5 = nI 0) (k : ∀ I' u5, Fr [(72, 5)] I I' → Rt L X (runI (runM (d + 3)) iX12_book (190, [some (.ref 72), u1, some (.int (nI n)), some (.int x3), some (.int x4), u5], [], mm L X I' J)) rr Q) : ∀ r j, j + r = n → Rt L X (c_X12_book_80 (d + 3) L X I J u1 (nI n) x3 x4 (nI j)) rr Q
  | 0, j, hj => by
    (first | refine rt_eq (q_X12_book_0) ?_ | refine rt_eq (q_X12_book_15) ?_ | refine rt_eq (q_X12_book_24) ?_ | refine rt_eq (q_X12_book_29) ?_ | refine rt_eq (q_X12_book_34) ?_ | refine rt_eq (q_X12_book_44 (by first | assumption | rfl | exact .inl rfl | exact .inr rfl)) ?_ | refine rt_eq (q_X12_book_46) ?_ | refine rt_eq (q_X12_book_190) ?_ | refine rt_eq (q_X12_book_75) ?_ | refine rt_eq (q_X12_book_224) ?_ | refine rt_eq (q_X12_book_201) ?_ | refine rt_eq (q_X12_book_80) ?_ | refine rt_eq (q_X12_book_138) ?_ | refine rt_eq (q_X12_book_113) ?_ | refine rt_eq (q_X12_book_145) ?_ | refine rt_eq (q_X12_book_153 (by first | assumption | rfl | exact .inl rfl | exact .inr rfl)) ?_ | refine rt_eq (q_X12_book_183) ?_ | refine rt_eq (q_X12_book_187) ?_)
    refine rt_t (by (try simp (disch := omega) only [nI_leI, nI_ltI, nI_eq, nI_add, pk_mul, n_0add, Nat.zero_add, nI_clamp]) <;> omega) (rt_f h0 ?_)
    exact bk_f138 hu B B2 hz hz2 ha h4 h0 k
  | r + 1, j, hj => by
    have ih := bk_f80 (x3 := x3) (x4 := x4) (n := n) hn hu B B2 hz hz2 ha h4 h0 k r (j + 1) (by omega)
    (first | refine rt_eq (q_X12_book_0) ?_ | refine rt_eq (q_X12_book_15) ?_ | refine rt_eq (q_X12_book_24) ?_ | refine rt_eq (q_X12_book_29) ?_ | refine rt_eq (q_X12_book_34) ?_ | refine rt_eq (q_X12_book_44 (by first | assumption | rfl | exact .inl rfl | exact .inr rfl)) ?_ | refine rt_eq (q_X12_book_46) ?_ | refine rt_eq (q_X12_book_190) ?_ | refine rt_eq (q_X12_book_75) ?_ | refine rt_eq (q_X12_book_224) ?_ | refine rt_eq (q_X12_book_201) ?_ | refine rt_eq (q_X12_book_80) ?_ | refine rt_eq (q_X12_book_138) ?_ | refine rt_eq (q_X12_book_113) ?_ | refine rt_eq (q_X12_book_145) ?_ | refine rt_eq (q_X12_book_153 (by first | assumption | rfl | exact .inl rfl | exact .inr rfl)) ?_ | refine rt_eq (q_X12_book_183) ?_ | refine rt_eq (q_X12_book_187) ?_)
    refine rt_f (by (try simp (disch := omega) only [nI_leI, nI_ltI, nI_eq, nI_add, pk_mul, n_0add, Nat.zero_add, nI_clamp]) <;> omega) (rt_f h0 ?_)
    (first | refine rt_eq (q_X12_book_0) ?_ | refine rt_eq (q_X12_book_15) ?_ | refine rt_eq (q_X12_book_24) ?_ | refine rt_eq (q_X12_book_29) ?_ | refine rt_eq (q_X12_book_34) ?_ | refine rt_eq (q_X12_book_44 (by first | assumption | rfl | exact .inl rfl | exact .inr rfl)) ?_ | refine rt_eq (q_X12_book_46) ?_ | refine rt_eq (q_X12_book_190) ?_ | refine rt_eq (q_X12_book_75) ?_ | refine rt_eq (q_X12_book_224) ?_ | refine rt_eq (q_X12_book_201) ?_ | refine rt_eq (q_X12_book_80) ?_ | refine rt_eq (q_X12_book_138) ?_ | refine rt_eq (q_X12_book_113) ?_ | refine rt_eq (q_X12_book_145) ?_ | refine rt_eq (q_X12_book_153 (by first | assumption | rfl | exact .inl rfl | exact .inr rfl)) ?_ | refine rt_eq (q_X12_book_183) ?_ | refine rt_eq (q_X12_book_187) ?_)
    rw [nI_add]
    exact ih
theorem nmF_lt {lo hi : Int32} : nmF W z a lo hi < 2 ^ 31 := by
  unfold nmF
  by_cases q : sk W z a < z ∧ isG W (sk W z a) = true
  · rw [if_pos q]
    by_cases q2 : lo ≤ nI (nmV W z a).2 ∧ nI (nmV W z a).2 ≤ hi
    · rw [if_pos q2]
      decide
    · rw [if_neg q2]
      decide
  · rw [if_neg q]
    decide
theorem fbm1 : sbF fTM fBM = true := by decide
theorem fbm5 : sbF [(72, 5)] fBM = true := by decide
theorem BM_bm {I' : MI32} (B : BM I W) (g : Fr fBM I I') : BM I' W := BM_fr B g (by decide +kernel)
theorem bm_72 {I' : MI32} {k : Nat} (g : Fr fBM I I') (h : dj fBM [(72, k + 1)] = true) : I' 72 k = I 72 k := ag_of (s := [(72, k + 1)]) g h 72 k (by simp [inF])
theorem lp_bookM (hu : okv u1 = true) (B : BM I W) (B2 : ∀ k, k < 600 → W k < 256) (hz : I 72 2 = nI z) (hz2 : z ≤ 600) : ∀ f a I' (S : BkS) u3 u4 u5, S.1 + f = 7 → a ≤ z → Fr fBM I I' → I' 72 4 = nI (sk W z a) → I' 72 5 = nI 0 → bkN I' S → bOK S → (∀ I'' n u3 u4 u5, Fr fBM I I'' → ((bkP W z f a S).1 = 0 → n = (bkP W z f a S).2.2.1 ∧ I'' 72 5 = nI 0 ∧ bkN I'' (bkP W z f a S).2.2 ∧ bOK (bkP W z f a S).2.2) → (¬ (bkP W z f a S).1 = 0 → ¬ I'' 72 5 = nI 0 ∧ I'' 72 5 = nI (bkP W z f a S).1 ∧ I'' 72 6 = nI (bkP W z f a S).2.1) → Rt L X (runI (runM (d + 3)) iX12_book (190, [some (.ref 72), u1, some (.int (nI n)), u3, u4, u5], [], mm L X I'' J)) rr Q) → Rt L X (c_X12_book_46 (d + 3) L X I' J u1 (nI S.1) u3 u4 u5) rr Q
  | 0, a, I', S, u3, u4, u5, hn, ha, hf, h4, h0, A, h, k => by
    exfalso
    have := bOK_6 h
    omega
  | f + 1, a, I', S, u3, u4, u5, hn, ha, hf, h4, h0, A, h, k => by
    have ih := lp_bookM hu B B2 hz hz2 f
    have h6 := bOK_6 h
    have hs := sk_le (W := W) ha
    have v1 := nmV_le (W := W) ha
    have v2 := nmV_le (W := W) v1.2.1
    have v3 := sk_le (W := W) v2.2.1
    have B' := BM_bm B hf
    have z' : I' 72 2 = nI z := (bm_72 hf (by decide +kernel)).trans hz
    (first | refine rt_eq (q_X12_book_0) ?_ | refine rt_eq (q_X12_book_15) ?_ | refine rt_eq (q_X12_book_24) ?_ | refine rt_eq (q_X12_book_29) ?_ | refine rt_eq (q_X12_book_34) ?_ | refine rt_eq (q_X12_book_44 (by first | assumption | rfl | exact .inl rfl | exact .inr rfl)) ?_ | refine rt_eq (q_X12_book_46) ?_ | refine rt_eq (q_X12_book_190) ?_ | refine rt_eq (q_X12_book_75) ?_ | refine rt_eq (q_X12_book_224) ?_ | refine rt_eq (q_X12_book_201) ?_ | refine rt_eq (q_X12_book_80) ?_ | refine rt_eq (q_X12_book_138) ?_ | refine rt_eq (q_X12_book_113) ?_ | refine rt_eq (q_X12_book_145) ?_ | refine rt_eq (q_X12_book_153 (by first | assumption | rfl | exact .inl rfl | exact .inr rfl)) ?_ | refine rt_eq (q_X12_book_183) ?_ | refine rt_eq (q_X12_book_187) ?_)
    refine rt_t h0 ?_
    rw [z', h4]
    by_cases e : sk W z a = z
    · have ep : bkP W z (f + 1) a S = (0, 0, S) := if_pos e
      rw [ep] at k
      refine rt_t (by (try simp (disch := omega) only [nI_leI, nI_ltI, nI_eq, nI_add, pk_mul, n_0add, Nat.zero_add, nI_clamp]) <;> omega) (k I' S.1 _ _ _ hf (fun _ => ⟨rfl, h0, A, h⟩) (fun q => absurd rfl q))
    · have ep : bkP W z (f + 1) a S = if ¬ (bk1 W z a S).1 = 0 then ((bk1 W z a S).1, (bk1 W z a S).2.1, S) else bkP W z f (bk1 W z a S).2.2.2 (bk1 W z a S).2.2.1 := if_neg e
      refine rt_f (by (try simp (disch := omega) only [nI_leI, nI_ltI, nI_eq, nI_add, pk_mul, n_0add, Nat.zero_add, nI_clamp]) <;> omega) (rt_bnd (sp_number B' B2 z' hz2 hs.2 h4 h0) ?_)
      rintro I1 J1 ⟨⟨f1, ⟨a1, f2, f3⟩, f4, f5⟩, rfl⟩
      rw [nmF_sk ha, nmV_sk ha] at f4
      rw [nmF_sk ha, sk_sk ha] at f5
      rw [nmF_sk ha, nmV_sk ha]
      have g1 : Fr fBM I I1 := fr_tr2 hf f1 fbm1
      have B1 := BM_bm B g1
      have z1 : I1 72 2 = nI z := (bm_72 g1 (by decide +kernel)).trans hz
      (first | refine rt_eq (q_X12_book_0) ?_ | refine rt_eq (q_X12_book_15) ?_ | refine rt_eq (q_X12_book_24) ?_ | refine rt_eq (q_X12_book_29) ?_ | refine rt_eq (q_X12_book_34) ?_ | refine rt_eq (q_X12_book_44 (by first | assumption | rfl | exact .inl rfl | exact .inr rfl)) ?_ | refine rt_eq (q_X12_book_46) ?_ | refine rt_eq (q_X12_book_190) ?_ | refine rt_eq (q_X12_book_75) ?_ | refine rt_eq (q_X12_book_224) ?_ | refine rt_eq (q_X12_book_201) ?_ | refine rt_eq (q_X12_book_80) ?_ | refine rt_eq (q_X12_book_138) ?_ | refine rt_eq (q_X12_book_113) ?_ | refine rt_eq (q_X12_book_145) ?_ | refine rt_eq (q_X12_book_153 (by first | assumption | rfl | exact .inl rfl | exact .inr rfl)) ?_ | refine rt_eq (q_X12_book_183) ?_ | refine rt_eq (q_X12_book_187) ?_)
      by_cases q1 : nmF W z a (nI 0) (nI 5) = 0
      · obtain ⟨p4, p0⟩ := f4 q1
        have n5 := (nm_in (lo := 0) (hi := 5) ha (by decide) (by decide) q1).2.1
        have A1 : bkN I1 S := fun i hi => by
          rw [bf_row f1 (by omega), bf_row f1 (by omega)]
          exact A i hi
        rw [if_pos q1]
        refine lp_twice (I := I1) (d := d + 2) A1 h (by omega) S.1 0 I1 (by omega) fr_rfl (.inl p0) (fun _ i hi => absurd hi (Nat.not_lt_zero i)) (fun q => absurd (p0.symm.trans q) (by decide)) rfl ?_
        intro I2 k1 k4 k5 k6
        have g2 : Fr fBM I I2 := fr_tr2 g1 k1 fbm1
        have B3 := BM_bm B g2
        have z2 : I2 72 2 = nI z := (bm_72 g2 (by decide +kernel)).trans hz
        have k4' : I2 72 4 = nI (nmV W z a).1 := k4.trans p4
        (first | refine rt_eq (q_X12_book_0) ?_ | refine rt_eq (q_X12_book_15) ?_ | refine rt_eq (q_X12_book_24) ?_ | refine rt_eq (q_X12_book_29) ?_ | refine rt_eq (q_X12_book_34) ?_ | refine rt_eq (q_X12_book_44 (by first | assumption | rfl | exact .inl rfl | exact .inr rfl)) ?_ | refine rt_eq (q_X12_book_46) ?_ | refine rt_eq (q_X12_book_190) ?_ | refine rt_eq (q_X12_book_75) ?_ | refine rt_eq (q_X12_book_224) ?_ | refine rt_eq (q_X12_book_201) ?_ | refine rt_eq (q_X12_book_80) ?_ | refine rt_eq (q_X12_book_138) ?_ | refine rt_eq (q_X12_book_113) ?_ | refine rt_eq (q_X12_book_145) ?_ | refine rt_eq (q_X12_book_153 (by first | assumption | rfl | exact .inl rfl | exact .inr rfl)) ?_ | refine rt_eq (q_X12_book_183) ?_ | refine rt_eq (q_X12_book_187) ?_)
        refine rt_t (by (try simp (disch := omega) only [nI_leI, nI_ltI, nI_eq, nI_add, pk_mul, n_0add, Nat.zero_add, nI_clamp]) <;> omega) ?_
        by_cases q2 : S.2.2 (nmV W z a).2 = none
        · have hlt := bOK_lt h (by omega) q2
          have k0 := k5 q2
          refine rt_t k0 (rt_f (by (try simp (disch := omega) only [nI_leI, nI_ltI, nI_eq, nI_add, pk_mul, n_0add, Nat.zero_add, nI_clamp]) <;> omega) ?_)
          (first | refine rt_eq (q_X12_book_0) ?_ | refine rt_eq (q_X12_book_15) ?_ | refine rt_eq (q_X12_book_24) ?_ | refine rt_eq (q_X12_book_29) ?_ | refine rt_eq (q_X12_book_34) ?_ | refine rt_eq (q_X12_book_44 (by first | assumption | rfl | exact .inl rfl | exact .inr rfl)) ?_ | refine rt_eq (q_X12_book_46) ?_ | refine rt_eq (q_X12_book_190) ?_ | refine rt_eq (q_X12_book_75) ?_ | refine rt_eq (q_X12_book_224) ?_ | refine rt_eq (q_X12_book_201) ?_ | refine rt_eq (q_X12_book_80) ?_ | refine rt_eq (q_X12_book_138) ?_ | refine rt_eq (q_X12_book_113) ?_ | refine rt_eq (q_X12_book_145) ?_ | refine rt_eq (q_X12_book_153 (by first | assumption | rfl | exact .inl rfl | exact .inr rfl)) ?_ | refine rt_eq (q_X12_book_183) ?_ | refine rt_eq (q_X12_book_187) ?_)
          refine rt_bnd (sp_number B3 B2 z2 hz2 v1.2.1 k4' k0) ?_
          rintro I3 J3 ⟨⟨l1, ⟨a3, l2, l3⟩, l4, l5⟩, rfl⟩
          have g3 : Fr fBM I I3 := fr_tr2 g2 l1 fbm1
          have B4 := BM_bm B g3
          have z3 : I3 72 2 = nI z := (bm_72 g3 (by decide +kernel)).trans hz
          (first | refine rt_eq (q_X12_book_0) ?_ | refine rt_eq (q_X12_book_15) ?_ | refine rt_eq (q_X12_book_24) ?_ | refine rt_eq (q_X12_book_29) ?_ | refine rt_eq (q_X12_book_34) ?_ | refine rt_eq (q_X12_book_44 (by first | assumption | rfl | exact .inl rfl | exact .inr rfl)) ?_ | refine rt_eq (q_X12_book_46) ?_ | refine rt_eq (q_X12_book_190) ?_ | refine rt_eq (q_X12_book_75) ?_ | refine rt_eq (q_X12_book_224) ?_ | refine rt_eq (q_X12_book_201) ?_ | refine rt_eq (q_X12_book_80) ?_ | refine rt_eq (q_X12_book_138) ?_ | refine rt_eq (q_X12_book_113) ?_ | refine rt_eq (q_X12_book_145) ?_ | refine rt_eq (q_X12_book_153 (by first | assumption | rfl | exact .inl rfl | exact .inr rfl)) ?_ | refine rt_eq (q_X12_book_183) ?_ | refine rt_eq (q_X12_book_187) ?_)
          by_cases q3 : nmF W z (nmV W z a).1 (nI 0) (nI 99) = 0
          · obtain ⟨m4, m0⟩ := l4 q3
            rw [if_pos q3]
            refine rt_bnd (sp_signM (c := 59) B4 B2 z3 hz2 v2.2.1 m4 m0 (by decide)) ?_
            rintro I4 J4 ⟨⟨n1, ⟨a4, n2, n3⟩, n4, n5'⟩, rfl⟩
            have g4 : Fr fBM I I4 := fr_tr2 g3 n1 fbm1
            have B5 := BM_bm B g4
            have z4 : I4 72 2 = nI z := (bm_72 g4 (by decide +kernel)).trans hz
            (first | refine rt_eq (q_X12_book_0) ?_ | refine rt_eq (q_X12_book_15) ?_ | refine rt_eq (q_X12_book_24) ?_ | refine rt_eq (q_X12_book_29) ?_ | refine rt_eq (q_X12_book_34) ?_ | refine rt_eq (q_X12_book_44 (by first | assumption | rfl | exact .inl rfl | exact .inr rfl)) ?_ | refine rt_eq (q_X12_book_46) ?_ | refine rt_eq (q_X12_book_190) ?_ | refine rt_eq (q_X12_book_75) ?_ | refine rt_eq (q_X12_book_224) ?_ | refine rt_eq (q_X12_book_201) ?_ | refine rt_eq (q_X12_book_80) ?_ | refine rt_eq (q_X12_book_138) ?_ | refine rt_eq (q_X12_book_113) ?_ | refine rt_eq (q_X12_book_145) ?_ | refine rt_eq (q_X12_book_153 (by first | assumption | rfl | exact .inl rfl | exact .inr rfl)) ?_ | refine rt_eq (q_X12_book_183) ?_ | refine rt_eq (q_X12_book_187) ?_)
            by_cases q4 : sk W z (nmV W z (nmV W z a).1).1 < z ∧ W (sk W z (nmV W z (nmV W z a).1).1) = 59
            · have eb : bk1 W z a S = (0, 0, bAdd S (nmV W z a).2 (nmV W z (nmV W z a).1).2, sk W z (nmV W z (nmV W z a).1).1 + 1) := by
                unfold bk1
                rw [if_neg (not_not_intro q1), if_neg (not_not_intro q2), if_neg (not_not_intro q3), if_neg (not_not_intro q4)]
              have ob := bk1_ok (W := W) ha h (by rw [eb])
              rw [eb] at ep ob
              rw [if_neg (not_not_intro rfl)] at ep
              rw [ep] at k
              obtain ⟨o4, o0⟩ := n4 q4
              refine rt_t o0 (rt_gd (inb_n hlt (by decide)) ?_)
              rw [nI_clamp (by omega), nI_add]
              generalize hI5 : up2 (up2 I4 (444 + S.1) 0 (nI (nmV W z a).2)) (444 + S.1) 1 (nI (nmV W z (nmV W z a).1).2) = I5
              have inr : ∀ j, inF fBM (444 + S.1) j = true := fun j => by
                unfold fBM
                rw [inF_app, in_cells hlt, Bool.or_true]
              have g5 : Fr fBM I I5 := by
                rw [← hI5]
                exact fr_up (fr_up g4 (inr 0)) (inr 1)
              have c72 : ∀ j, I5 72 j = I4 72 j := fun j => by
                rw [← hI5, up2_n (by omega), up2_n (by omega)]
              have A5 : bkN I5 (bAdd S (nmV W z a).2 (nmV W z (nmV W z a).1).2) := by
                intro i hi
                have hi' : i < S.1 + 1 := hi
                show I5 (444 + i) 0 = nI (if i = S.1 then ((nmV W z a).2, (nmV W z (nmV W z a).1).2) else S.2.1 i).1 ∧ I5 (444 + i) 1 = nI (if i = S.1 then ((nmV W z a).2, (nmV W z (nmV W z a).1).2) else S.2.1 i).2
                by_cases qi : i = S.1
                · rw [if_pos qi, qi, ← hI5, up2_k (by decide), up2_s, up2_s]
                  exact ⟨rfl, rfl⟩
                · rw [if_neg qi, ← hI5, up2_n (by omega), up2_n (by omega), bf_row n1 (by omega), bf_row n1 (by omega), bf_row l1 (by omega), bf_row l1 (by omega), bf_row k1 (by omega), bf_row k1 (by omega)]
                  exact A1 i (by omega)
              (first | refine rt_eq (q_X12_book_0) ?_ | refine rt_eq (q_X12_book_15) ?_ | refine rt_eq (q_X12_book_24) ?_ | refine rt_eq (q_X12_book_29) ?_ | refine rt_eq (q_X12_book_34) ?_ | refine rt_eq (q_X12_book_44 (by first | assumption | rfl | exact .inl rfl | exact .inr rfl)) ?_ | refine rt_eq (q_X12_book_46) ?_ | refine rt_eq (q_X12_book_190) ?_ | refine rt_eq (q_X12_book_75) ?_ | refine rt_eq (q_X12_book_224) ?_ | refine rt_eq (q_X12_book_201) ?_ | refine rt_eq (q_X12_book_80) ?_ | refine rt_eq (q_X12_book_138) ?_ | refine rt_eq (q_X12_book_113) ?_ | refine rt_eq (q_X12_book_145) ?_ | refine rt_eq (q_X12_book_153 (by first | assumption | rfl | exact .inl rfl | exact .inr rfl)) ?_ | refine rt_eq (q_X12_book_183) ?_ | refine rt_eq (q_X12_book_187) ?_)
              refine rt_bnd (sp_blanks (BM_bm B g5) B2 ((c72 2).trans z4) hz2 ob.2.2.1 ((c72 4).trans o4)) ?_
              rintro I6 J6 ⟨⟨r1, r2⟩, rfl⟩
              (first | refine rt_eq (q_X12_book_0) ?_ | refine rt_eq (q_X12_book_15) ?_ | refine rt_eq (q_X12_book_24) ?_ | refine rt_eq (q_X12_book_29) ?_ | refine rt_eq (q_X12_book_34) ?_ | refine rt_eq (q_X12_book_44 (by first | assumption | rfl | exact .inl rfl | exact .inr rfl)) ?_ | refine rt_eq (q_X12_book_46) ?_ | refine rt_eq (q_X12_book_190) ?_ | refine rt_eq (q_X12_book_75) ?_ | refine rt_eq (q_X12_book_224) ?_ | refine rt_eq (q_X12_book_201) ?_ | refine rt_eq (q_X12_book_80) ?_ | refine rt_eq (q_X12_book_138) ?_ | refine rt_eq (q_X12_book_113) ?_ | refine rt_eq (q_X12_book_145) ?_ | refine rt_eq (q_X12_book_153 (by first | assumption | rfl | exact .inl rfl | exact .inr rfl)) ?_ | refine rt_eq (q_X12_book_183) ?_ | refine rt_eq (q_X12_book_187) ?_)
              refine ih _ I6 _ _ _ _ (by rw [ob.2.2.2]; omega) ob.2.2.1 (fr_tr2 g5 r1 fbm5) r2 ((r1 72 5 rfl).trans ((c72 5).trans o0)) (fun i hi => ?_) ob.1 k
              have hi' : i < S.1 + 1 := hi
              have r1' : Fr fTM I5 I6 := fr_mono r1 (by decide)
              rw [bf_row r1' (by omega), bf_row r1' (by omega)]
              exact A5 i hi
            · have eb : bk1 W z a S = (1, sk W z (nmV W z (nmV W z a).1).1, S, a) := by
                unfold bk1
                rw [if_neg (not_not_intro q1), if_neg (not_not_intro q2), if_neg (not_not_intro q3), if_pos q4]
              rw [eb] at ep
              rw [if_pos (show ¬ (1, sk W z (nmV W z (nmV W z a).1).1, S, a).1 = 0 from Nat.one_ne_zero)] at ep
              rw [ep] at k
              obtain ⟨o5, o6⟩ := n5' q4
              have o0 : ¬ I4 72 5 = nI 0 := by rw [o5]; decide
              refine rt_f o0 ?_
              refine bk_f183 B5 B2 z4 hz2 n2 n3 o0 (fun I5 r1 => k I5 S.1 _ _ _ (fr_tr2 g4 r1 fbm5) (fun q => absurd (show 1 = 0 from q) (by decide)) (fun _ => ⟨?_, ?_, ?_⟩))
              · rw [r1 72 5 rfl]
                exact o0
              · rw [r1 72 5 rfl, o5]
              · rw [r1 72 6 rfl, o6]
          · have eb : bk1 W z a S = (nmF W z (nmV W z a).1 (nI 0) (nI 99), sk W z (nmV W z a).1, S, a) := by
              unfold bk1
              rw [if_neg (not_not_intro q1), if_neg (not_not_intro q2), if_pos q3]
            rw [eb] at ep
            rw [if_pos (show ¬ (nmF W z (nmV W z a).1 (nI 0) (nI 99), sk W z (nmV W z a).1, S, a).1 = 0 from q3)] at ep
            rw [ep] at k
            obtain ⟨o5, o6⟩ := l5 q3
            have o0 : ¬ I3 72 5 = nI 0 := by
              rw [o5, n_eq0 (nmF_lt)]
              exact q3
            refine rt_be (sp_signF o0) ?_
            (first | refine rt_eq (q_X12_book_0) ?_ | refine rt_eq (q_X12_book_15) ?_ | refine rt_eq (q_X12_book_24) ?_ | refine rt_eq (q_X12_book_29) ?_ | refine rt_eq (q_X12_book_34) ?_ | refine rt_eq (q_X12_book_44 (by first | assumption | rfl | exact .inl rfl | exact .inr rfl)) ?_ | refine rt_eq (q_X12_book_46) ?_ | refine rt_eq (q_X12_book_190) ?_ | refine rt_eq (q_X12_book_75) ?_ | refine rt_eq (q_X12_book_224) ?_ | refine rt_eq (q_X12_book_201) ?_ | refine rt_eq (q_X12_book_80) ?_ | refine rt_eq (q_X12_book_138) ?_ | refine rt_eq (q_X12_book_113) ?_ | refine rt_eq (q_X12_book_145) ?_ | refine rt_eq (q_X12_book_153 (by first | assumption | rfl | exact .inl rfl | exact .inr rfl)) ?_ | refine rt_eq (q_X12_book_183) ?_ | refine rt_eq (q_X12_book_187) ?_)
            refine rt_f o0 ?_
            refine bk_f183 B4 B2 z3 hz2 l2 l3 o0 (fun I5 r1 => k I5 S.1 _ _ _ (fr_tr2 g3 r1 fbm5) (fun q => absurd q q3) (fun _ => ⟨?_, ?_, ?_⟩))
            · rw [r1 72 5 rfl]
              exact o0
            · rw [r1 72 5 rfl, o5]
            · rw [r1 72 6 rfl, o6]
        · have eb : bk1 W z a S = (2, sk W z a, S, a) := by
            unfold bk1
            rw [if_neg (not_not_intro q1), if_pos q2]
          rw [eb] at ep
          rw [if_pos (show ¬ (2, sk W z a, S, a).1 = 0 from Nat.succ_ne_zero 1)] at ep
          rw [ep] at k
          obtain ⟨o5, o6⟩ := k6 q2
          have o0 : ¬ I2 72 5 = nI 0 := by rw [o5]; decide
          refine rt_f o0 ?_
          refine bk_f138 hu B3 B2 z2 hz2 v1.2.1 k4' o0 (fun I5 u5 r1 => k I5 S.1 _ _ _ (fr_tr2 g2 r1 fbm5) (fun q => absurd (show 2 = 0 from q) (by decide)) (fun _ => ⟨?_, ?_, ?_⟩))
          · rw [r1 72 5 rfl]
            exact o0
          · rw [r1 72 5 rfl, o5]
          · rw [r1 72 6 rfl, o6]
      · have eb : bk1 W z a S = (nmF W z a (nI 0) (nI 5), sk W z a, S, a) := by
          unfold bk1
          rw [if_pos q1]
        rw [eb] at ep
        rw [if_pos (show ¬ (nmF W z a (nI 0) (nI 5), sk W z a, S, a).1 = 0 from q1)] at ep
        rw [ep] at k
        obtain ⟨o5, o6⟩ := f5 q1
        have o0 : ¬ I1 72 5 = nI 0 := by
          rw [o5, n_eq0 (nmF_lt)]
          exact q1
        refine bk_f80 (by omega) hu B1 B2 z1 hz2 f2 f3 o0 (fun I5 u5 r1 => k I5 S.1 _ _ _ (fr_tr2 g1 r1 fbm5) (fun q => absurd q q1) (fun _ => ⟨?_, ?_, ?_⟩)) S.1 0 (by omega)
        · rw [r1 72 5 rfl]
          exact o0
        · rw [r1 72 5 rfl, o5]
        · rw [r1 72 6 rfl, o6]
end BN
