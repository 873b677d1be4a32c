/-! THE TAPE IS FED, BY THE MODEL -/
section FM
variable {d L X : Nat} {I : MI32} {J : MI64} {W : Nat → Nat} {tp : Nat} {x1 x2 x3 x4 x5 : Int32}
theorem sh_n : ∀ k, k < 20 → nI 24 - nI 8 * (nI k - nI k / nI 4 * nI 4) = nI (24 - 8 * (k % 4)) := by decide +kernel
theorem lp_feed (h600 : tp + 20 ≤ 600) : ∀ r k I' u7, k + r = 20 → Fr [(73, 0), (72, 2)] I I' → BM I' (fdW W tp (f20 x1 x2 x3 x4 x5) k) → I' 72 1 = nI (tp + k) → Rt L X (c_X12_feed_23 d L X I' J x1 x2 x3 x4 x5 (nI k) u7) (some (.int (nI (tp + 20)))) (fun I'' J' => (Fr [(73, 0), (72, 2)] I I'' ∧ BM I'' (fdW W tp (f20 x1 x2 x3 x4 x5) 20) ∧ I'' 72 1 = nI (tp + 20)) ∧ J' = J)
  | 0, k, I', u7, hk, hf, B, h1 => by
    have ek : k = 20 := by omega
    subst ek
    (first | refine rt_eq (q_X12_feed_0) ?_ | refine rt_eq (q_X12_feed_23) ?_ | refine rt_eq (q_X12_feed_76) ?_)
    rw [h1]
    exact rt_t (by decide) (rt_ret ⟨⟨hf, B, h1⟩, rfl⟩)
  | r + 1, k, I', u7, hk, hf, B, h1 => by
    have ih := lp_feed h600 r (k + 1)
    have go : ∀ x u7', (if k < 4 then x1 else if k < 8 then x2 else if k < 12 then x3 else if k < 16 then x4 else x5) = x → Rt L X (runI (runM d) iX12_feed (76, [some (.ref 72), some (.int x1), some (.int x2), some (.int x3), some (.int x4), some (.int x5), some (.int (nI k)), u7'], [.int x], mm L X I' J)) (some (.int (nI (tp + 20)))) (fun I'' J' => (Fr [(73, 0), (72, 2)] I I'' ∧ BM I'' (fdW W tp (f20 x1 x2 x3 x4 x5) 20) ∧ I'' 72 1 = nI (tp + 20)) ∧ J' = J) := by
      intro x u7' hx
      (first | refine rt_eq (q_X12_feed_0) ?_ | refine rt_eq (q_X12_feed_23) ?_ | refine rt_eq (q_X12_feed_76) ?_)
      rw [h1]
      refine rt_gd (inb_n (by omega) (by decide)) ?_
      rw [nI_clamp (by omega), sh_n k (by omega), up2_n (by decide), h1, nI_add, nI_add]
      refine ih _ _ (by omega) (fr_up (fr_up hf rfl) rfl) ?_ up2_s
      have B2 := BM_put (x := (x >>> (nI (24 - 8 * (k % 4)) &&& 31)) &&& nI 255) B (p := tp + k) rfl (by
        rw [(byb_n (x := x) (j := k % 4)).1]
        unfold f20
        rw [hx])
      intro j hj
      rw [up2_n (by decide)]
      exact B2 j hj
    (first | refine rt_eq (q_X12_feed_0) ?_ | refine rt_eq (q_X12_feed_23) ?_ | refine rt_eq (q_X12_feed_76) ?_)
    refine rt_f (by (try simp (disch := omega) only [nI_leI, nI_ltI, nI_eq, nI_add, pk_mul, n_0add, Nat.zero_add, nI_clamp]) <;> omega) ?_
    by_cases q1 : k < 4
    · exact rt_f (by (try simp (disch := omega) only [nI_leI, nI_ltI, nI_eq, nI_add, pk_mul, n_0add, Nat.zero_add, nI_clamp]) <;> omega) (go x1 _ (if_pos q1))
    · refine rt_t (by (try simp (disch := omega) only [nI_leI, nI_ltI, nI_eq, nI_add, pk_mul, n_0add, Nat.zero_add, nI_clamp]) <;> omega) ?_
      by_cases q2 : k < 8
      · exact rt_f (by (try simp (disch := omega) only [nI_leI, nI_ltI, nI_eq, nI_add, pk_mul, n_0add, Nat.zero_add, nI_clamp]) <;> omega) (go x2 _ (by rw [if_neg q1, if_pos q2]))
      · refine rt_t (by (try simp (disch := omega) only [nI_leI, nI_ltI, nI_eq, nI_add, pk_mul, n_0add, Nat.zero_add, nI_clamp]) <;> omega) ?_
        by_cases q3 : k < 12
        · exact rt_f (by (try simp (disch := omega) only [nI_leI, nI_ltI, nI_eq, nI_add, pk_mul, n_0add, Nat.zero_add, nI_clamp]) <;> omega) (go x3 _ (by rw [if_neg q1, if_neg q2, if_pos q3]))
        · refine rt_t (by (try simp (disch := omega) only [nI_leI, nI_ltI, nI_eq, nI_add, pk_mul, n_0add, Nat.zero_add, nI_clamp]) <;> omega) ?_
          by_cases q4 : k < 16
          · exact rt_f (by (try simp (disch := omega) only [nI_leI, nI_ltI, nI_eq, nI_add, pk_mul, n_0add, Nat.zero_add, nI_clamp]) <;> omega) (go x4 _ (by rw [if_neg q1, if_neg q2, if_neg q3, if_pos q4]))
          · exact rt_t (by (try simp (disch := omega) only [nI_leI, nI_ltI, nI_eq, nI_add, pk_mul, n_0add, Nat.zero_add, nI_clamp]) <;> omega) (go x5 _ (by rw [if_neg q1, if_neg q2, if_neg q3, if_neg q4]))
theorem m_feed (B : BM I W) (h1 : I 72 1 = nI tp) (h600 : tp + 20 ≤ 600) : Rt L X (runM (d + 1) nX12_feed [.ref 72, .int x1, .int x2, .int x3, .int x4, .int x5] (mm L X I J)) (some (.int (nI (tp + 20)))) (fun I'' J' => (Fr [(73, 0), (72, 1), (72, 2)] I I'' ∧ BM I'' (fdW W tp (f20 x1 x2 x3 x4 x5) 20) ∧ I'' 72 1 = nI (tp + 20) ∧ I'' 72 0 = nI 0) ∧ J' = J) := by
  have B0 : BM (up2 I 72 0 (nI 0)) (fdW W tp (f20 x1 x2 x3 x4 x5) 0) := fun k hk => by
    unfold fdW
    rw [if_neg (by omega), up2_n (by decide)]
    exact B k hk
  rw [e_X12_feed]
  (first | refine rt_eq (q_X12_feed_0) ?_ | refine rt_eq (q_X12_feed_23) ?_ | refine rt_eq (q_X12_feed_76) ?_)
  rw [up2_k (show ¬ 1 = 0 by decide), h1]
  refine rt_t (by (try simp (disch := omega) only [nI_leI, nI_ltI, nI_eq, nI_add, pk_mul, n_0add, Nat.zero_add, nI_clamp]) <;> omega) ?_
  refine rt_mono (lp_feed (I := up2 I 72 0 (nI 0)) h600 20 0 _ _ (by omega) fr_rfl B0 (by rw [up2_k (by decide), h1]; rfl)) ?_
  rintro I2 J2 ⟨⟨f1, f2, f3⟩, rfl⟩
  exact ⟨⟨fr_tr (fr_up fr_rfl rfl) (fr_mono f1 (by decide)), f2, f3, by rw [f1 72 0 rfl, up2_s]⟩, rfl⟩
theorem m_feed0 (h1 : I 72 1 = nI tp) (h600 : 600 < tp + 20) (htp : tp ≤ 600) : runM (d + 1) nX12_feed [.ref 72, .int x1, .int x2, .int x3, .int x4, .int x5] (mm L X I J) = rI (-1) (mm L X (up2 I 72 0 (nI 0)) J) := by
  rw [e_X12_feed]
  (first | refine Eq.trans (q_X12_feed_0) ?_ | refine Eq.trans (q_X12_feed_23) ?_ | refine Eq.trans (q_X12_feed_76) ?_)
  rw [up2_k (show ¬ 1 = 0 by decide), h1, if_neg (by ((try simp (disch := omega) only [nI_leI, nI_ltI, nI_eq, nI_add, pk_mul, n_0add, Nat.zero_add, nI_clamp]) <;> omega))]
end FM
