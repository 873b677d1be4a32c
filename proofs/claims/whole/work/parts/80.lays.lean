/-! ROWS ARE LAID OVER, BY THE MODEL; a book, by both -/
section LY
variable {d L X : Nat} {I : MI32} {J : MI64} {g0 g1 n0 n1 w0 w1 many : Nat}
theorem lp_lays10 (k0 : gr g0 n0 w0) (k1 : gr g1 n1 w1) {j : Nat} {rr : Option Value} {Q : MI32 → MI64 → Prop} (hm0 : many ≤ n0) (hm1 : many ≤ n1) (hn0 : n0 < 2 ^ 31) (hn1 : n1 < 2 ^ 31) (hw : w1 ≤ w0) (hw0 : w0 < 2 ^ 31) (hj : j < many) (hd : ∀ i j, i < n0 → j < n1 → ¬ g0 + 1 + i = g1 + 1 + j) : ∀ r i I', i + r = w1 → (∀ I'', (∀ b k, ¬ b = g1 + 1 + j → I'' b k = I' b k) → (∀ k, k < i → I'' (g1 + 1 + j) k = I' (g1 + 1 + j) k) → (∀ k, i ≤ k → k < w1 → I'' (g1 + 1 + j) k = I' (g0 + 1 + j) k) → Rt L X (c_X12_lays_2 d L X I'' J g0 g1 (nI many) (nI (j + 1)) (some (.int (nI w1)))) rr Q) → Rt L X (c_X12_lays_10 d L X I' J g0 g1 (nI many) (nI j) (nI i)) rr Q
  | 0, i, I', hi, k => by
    (first | refine rt_eq (q_X12_lays_0 (by first | assumption | rfl | exact .inl rfl | exact .inr rfl) (by first | assumption | rfl | exact .inl rfl | exact .inr rfl)) ?_ | refine rt_eq (q_X12_lays_2 (by first | assumption | rfl | exact .inl rfl | exact .inr rfl) (by first | assumption | rfl | exact .inl rfl | exact .inr rfl)) ?_ | refine rt_eq (q_X12_lays_10 (by first | assumption | rfl | exact .inl rfl | exact .inr rfl) (by first | assumption | rfl | exact .inl rfl | exact .inr rfl)) ?_)
    refine rt_gd (inb_n (by omega) hn1) (rt_t (by (try simp (disch := omega) only [nI_leI, nI_ltI, nI_eq, nI_add, pk_mul, n_0add, Nat.zero_add, nI_clamp]) <;> omega) ?_)
    rw [nI_add, show i = w1 by omega]
    exact k I' (fun _ _ _ => rfl) (fun _ _ => rfl) (fun _ h1 h2 => by omega)
  | r + 1, i, I', hi, k => by
    have ih := lp_lays10 k0 k1 (j := j) (rr := rr) (Q := Q) hm0 hm1 hn0 hn1 hw hw0 hj hd r (i + 1)
    (first | refine rt_eq (q_X12_lays_0 (by first | assumption | rfl | exact .inl rfl | exact .inr rfl) (by first | assumption | rfl | exact .inl rfl | exact .inr rfl)) ?_ | refine rt_eq (q_X12_lays_2 (by first | assumption | rfl | exact .inl rfl | exact .inr rfl) (by first | assumption | rfl | exact .inl rfl | exact .inr rfl)) ?_ | refine rt_eq (q_X12_lays_10 (by first | assumption | rfl | exact .inl rfl | exact .inr rfl) (by first | assumption | rfl | exact .inl rfl | exact .inr rfl)) ?_)
    refine rt_gd (inb_n (by omega) hn1) (rt_f (by (try simp (disch := omega) only [nI_leI, nI_ltI, nI_eq, nI_add, pk_mul, n_0add, Nat.zero_add, nI_clamp]) <;> omega) (rt_gd (inb_n (by omega) hn0) (rt_gd (inb_n (by omega) hw0) (rt_gd (inb_n (by omega) (by omega)) ?_))))
    rw [nI_clamp (by omega), nI_clamp (by omega), nI_add]
    have hne : ¬ g0 + 1 + j = g1 + 1 + j := hd j j (by omega) (by omega)
    refine ih _ (by omega) (fun I'' a1 a2 a3 => k I'' (fun b k hb => ?_) (fun k hk => ?_) (fun k hk1 hk2 => ?_))
    · rw [a1 b k hb, up2_n hb]
    · rw [a2 k (by omega), up2_k (by omega)]
    · by_cases q : k = i
      · rw [q, a2 i (by omega), up2_s]
      · rw [a3 k (by omega) hk2, up2_n hne]
theorem lp_lays (k0 : gr g0 n0 w0) (k1 : gr g1 n1 w1) (hm0 : many ≤ n0) (hm1 : many ≤ n1) (hn0 : n0 < 2 ^ 30) (hn1 : n1 < 2 ^ 30) (hw : w1 ≤ w0) (hw0 : w0 < 2 ^ 31) (hd : ∀ i j, i < n0 → j < n1 → ¬ g0 + 1 + i = g1 + 1 + j) : ∀ r j I' u, j + r = many → Fr (cells (g1 + 1) n1) I I' → (∀ i k, i < j → k < w1 → I' (g1 + 1 + i) k = I (g0 + 1 + i) k) → Rt L X (c_X12_lays_2 d L X I' J g0 g1 (nI many) (nI j) u) none (fun I'' J' => (Fr (cells (g1 + 1) n1) I I'' ∧ ∀ i k, i < many → k < w1 → I'' (g1 + 1 + i) k = I (g0 + 1 + i) k) ∧ J' = J)
  | 0, j, I', u, hj, hf, A => by
    (first | refine rt_eq (q_X12_lays_0 (by first | assumption | rfl | exact .inl rfl | exact .inr rfl) (by first | assumption | rfl | exact .inl rfl | exact .inr rfl)) ?_ | refine rt_eq (q_X12_lays_2 (by first | assumption | rfl | exact .inl rfl | exact .inr rfl) (by first | assumption | rfl | exact .inl rfl | exact .inr rfl)) ?_ | refine rt_eq (q_X12_lays_10 (by first | assumption | rfl | exact .inl rfl | exact .inr rfl) (by first | assumption | rfl | exact .inl rfl | exact .inr rfl)) ?_)
    exact rt_t (by (try simp (disch := omega) only [nI_leI, nI_ltI, nI_eq, nI_add, pk_mul, n_0add, Nat.zero_add, nI_clamp]) <;> omega) (rt_ret ⟨⟨hf, fun i k hi hk => A i k (by omega) hk⟩, rfl⟩)
  | r + 1, j, I', u, hj, hf, A => by
    have ih := lp_lays k0 k1 hm0 hm1 hn0 hn1 hw hw0 hd r (j + 1)
    have src : ∀ i k, i < n0 → I' (g0 + 1 + i) k = I (g0 + 1 + i) k := by
      intro i k hi
      refine hf _ k (Bool.eq_false_iff.mpr (fun q => ?_))
      unfold inF cells at q
      rw [List.any_eq_true] at q
      obtain ⟨x, hx, hx2⟩ := q
      rw [List.mem_map] at hx
      obtain ⟨jj, hj1, rfl⟩ := hx
      rw [List.mem_range] at hj1
      simp only [Bool.and_eq_true, beq_iff_eq] at hx2
      exact hd i jj hi hj1 hx2.1.symm
    (first | refine rt_eq (q_X12_lays_0 (by first | assumption | rfl | exact .inl rfl | exact .inr rfl) (by first | assumption | rfl | exact .inl rfl | exact .inr rfl)) ?_ | refine rt_eq (q_X12_lays_2 (by first | assumption | rfl | exact .inl rfl | exact .inr rfl) (by first | assumption | rfl | exact .inl rfl | exact .inr rfl)) ?_ | refine rt_eq (q_X12_lays_10 (by first | assumption | rfl | exact .inl rfl | exact .inr rfl) (by first | assumption | rfl | exact .inl rfl | exact .inr rfl)) ?_)
    refine rt_f (by (try simp (disch := omega) only [nI_leI, nI_ltI, nI_eq, nI_add, pk_mul, n_0add, Nat.zero_add, nI_clamp]) <;> omega) ?_
    refine lp_lays10 k0 k1 hm0 hm1 (by omega) (by omega) hw hw0 (by omega) hd w1 0 I' (by omega) ?_
    intro I2 a1 a2 a3
    refine ih I2 _ (by omega) ?_ ?_
    · intro b k hb
      by_cases q : b = g1 + 1 + j
      · rw [q, in_cells (by omega)] at hb
        exact absurd hb (by decide)
      · rw [a1 b k q, hf b k hb]
    · intro i k hi hk
      by_cases q : i = j
      · rw [q, a3 k (Nat.zero_le k) hk, src j k (by omega)]
      · rw [a1 _ k (by omega)]
        exact A i k (by omega) hk
theorem sp_lays (k0 : gr g0 n0 w0) (k1 : gr g1 n1 w1) (hm0 : many ≤ n0) (hm1 : many ≤ n1) (hn0 : n0 < 2 ^ 30) (hn1 : n1 < 2 ^ 30) (hw : w1 ≤ w0) (hw0 : w0 < 2 ^ 31) (hd : ∀ i j, i < n0 → j < n1 → ¬ g0 + 1 + i = g1 + 1 + j) : Rt L X (runM (d + 1) nX12_lays [.ref g0, .ref g1, .int (nI many)] (mm L X I J)) none (fun I'' J' => (Fr (cells (g1 + 1) n1) I I'' ∧ ∀ i k, i < many → k < w1 → I'' (g1 + 1 + i) k = I (g0 + 1 + i) k) ∧ J' = J) := by
  rw [e_X12_lays]
  (first | refine rt_eq (q_X12_lays_0 (by first | assumption | rfl | exact .inl rfl | exact .inr rfl) (by first | assumption | rfl | exact .inl rfl | exact .inr rfl)) ?_ | refine rt_eq (q_X12_lays_2 (by first | assumption | rfl | exact .inl rfl | exact .inr rfl) (by first | assumption | rfl | exact .inl rfl | exact .inr rfl)) ?_ | refine rt_eq (q_X12_lays_10 (by first | assumption | rfl | exact .inl rfl | exact .inr rfl) (by first | assumption | rfl | exact .inl rfl | exact .inr rfl)) ?_)
  exact lp_lays k0 k1 hm0 hm1 hn0 hn1 hw hw0 hd many 0 I none (by omega) fr_rfl (fun i k hi _ => absurd hi (Nat.not_lt_zero i))
end LY
