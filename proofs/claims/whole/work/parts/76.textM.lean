/-! TEXT IS READ, BY THE MODEL -/
section TM2
variable {d L X : Nat} {I : MI32} {J : MI64} {W : Nat → Nat} {z a : Nat}
def fTM : Fls := [(72, 5), (72, 6), (72, 7)]
theorem sp_wrong {x y : Int32} : runM (d + 1) nX12_wrong [.ref 72, .int x, .int y] (mm L X I J) = if I 72 5 = nI 0 then rV (mm L X (up2 (up2 I 72 5 x) 72 6 y) J) else rV (mm L X I J) := by
  rw [e_X12_wrong]
  (first | refine Eq.trans (q_X12_wrong_0) ?_)
  rfl
theorem lp_number {lo hi x3 : Int32} {rr : Option Value} {Q : MI32 → MI64 → Prop} (B : BM I W) (B2 : ∀ k, k < 600 → W k < 256) (hz : I 72 2 = nI z) (hz2 : z ≤ 600) : ∀ r e v I', z - e = r → e ≤ z → v ≤ 100000 → Fr fTM I I' → I' 72 4 = nI e → (∀ I'', Fr fTM I I'' → I'' 72 4 = nI (nmL W r e v).1 → I'' 72 5 = I' 72 5 → I'' 72 6 = I' 72 6 → Rt L X (runI (runM (d + 1)) iX12_number (55, [some (.ref 72), some (.int lo), some (.int hi), some (.int x3), some (.int (nI (nmL W r e v).2))], [.int (nI 0)], mm L X I'' J)) rr Q) → Rt L X (c_X12_number_44 (d + 1) L X I' J lo hi x3 (nI v)) rr Q
  | 0, e, v, I', hr, he, hv, hf, h4, k => by
    have B' := BM_fr B hf (by decide)
    (first | refine rt_eq (q_X12_number_0) ?_ | refine rt_eq (q_X12_number_13) ?_ | refine rt_eq (q_X12_number_29) ?_ | refine rt_eq (q_X12_number_32) ?_ | refine rt_eq (q_X12_number_44) ?_ | refine rt_eq (q_X12_number_52) ?_ | refine rt_eq (q_X12_number_55) ?_ | refine rt_eq (q_X12_number_113) ?_ | refine rt_eq (q_X12_number_71) ?_ | refine rt_eq (q_X12_number_122) ?_ | refine rt_eq (q_X12_number_91) ?_)
    rw [h4]
    refine rt_be (sp_byteM B' ((hf 72 2 rfl).trans hz) hz2 (by omega)) ?_
    rw [show byT W z e = -1 from if_neg (by omega)]
    (first | refine rt_eq (q_X12_number_0) ?_ | refine rt_eq (q_X12_number_13) ?_ | refine rt_eq (q_X12_number_29) ?_ | refine rt_eq (q_X12_number_32) ?_ | refine rt_eq (q_X12_number_44) ?_ | refine rt_eq (q_X12_number_52) ?_ | refine rt_eq (q_X12_number_55) ?_ | refine rt_eq (q_X12_number_113) ?_ | refine rt_eq (q_X12_number_71) ?_ | refine rt_eq (q_X12_number_122) ?_ | refine rt_eq (q_X12_number_91) ?_)
    refine rt_bne sp_isDigM ?_
    rw [dig_n]
    exact k I' hf h4 rfl rfl
  | r + 1, e, v, I', hr, he, hv, hf, h4, k => by
    have ih := lp_number (lo := lo) (hi := hi) (x3 := x3) (rr := rr) (Q := Q) B B2 hz hz2 r (e + 1)
    have B' := BM_fr B hf (by decide)
    have hb := B2 e (by omega)
    have eb : byT W z e = nI (W e) := if_pos (by omega)
    (first | refine rt_eq (q_X12_number_0) ?_ | refine rt_eq (q_X12_number_13) ?_ | refine rt_eq (q_X12_number_29) ?_ | refine rt_eq (q_X12_number_32) ?_ | refine rt_eq (q_X12_number_44) ?_ | refine rt_eq (q_X12_number_52) ?_ | refine rt_eq (q_X12_number_55) ?_ | refine rt_eq (q_X12_number_113) ?_ | refine rt_eq (q_X12_number_71) ?_ | refine rt_eq (q_X12_number_122) ?_ | refine rt_eq (q_X12_number_91) ?_)
    rw [h4]
    refine rt_be (sp_byteM B' ((hf 72 2 rfl).trans hz) hz2 (by omega)) ?_
    rw [eb]
    (first | refine rt_eq (q_X12_number_0) ?_ | refine rt_eq (q_X12_number_13) ?_ | refine rt_eq (q_X12_number_29) ?_ | refine rt_eq (q_X12_number_32) ?_ | refine rt_eq (q_X12_number_44) ?_ | refine rt_eq (q_X12_number_52) ?_ | refine rt_eq (q_X12_number_55) ?_ | refine rt_eq (q_X12_number_113) ?_ | refine rt_eq (q_X12_number_71) ?_ | refine rt_eq (q_X12_number_122) ?_ | refine rt_eq (q_X12_number_91) ?_)
    refine rt_bne sp_isDigM ?_
    rw [dig_W hb]
    by_cases q : isG W e = true
    · rw [q]
      (first | refine rt_eq (q_X12_number_0) ?_ | refine rt_eq (q_X12_number_13) ?_ | refine rt_eq (q_X12_number_29) ?_ | refine rt_eq (q_X12_number_32) ?_ | refine rt_eq (q_X12_number_44) ?_ | refine rt_eq (q_X12_number_52) ?_ | refine rt_eq (q_X12_number_55) ?_ | refine rt_eq (q_X12_number_113) ?_ | refine rt_eq (q_X12_number_71) ?_ | refine rt_eq (q_X12_number_122) ?_ | refine rt_eq (q_X12_number_91) ?_)
      refine rt_f (show ¬ bI true = nI 0 by decide) ?_
      rw [h4]
      refine rt_be (sp_byteM B' ((hf 72 2 rfl).trans hz) hz2 (by omega)) ?_
      rw [eb]
      have q2 : 48 ≤ W e ∧ W e ≤ 57 := of_decide_eq_true q
      have e1 : nI 10 * nI v + nI (W e) - nI 48 = nI (10 * v + (W e - 48)) := by
        rw [pk_mul, nI_add, show 10 * v + W e = (10 * v + (W e - 48)) + 48 by omega, ← nI_add, Int32.add_sub_cancel]
      have en : nmL W (r + 1) e v = nmL W r (e + 1) (if 10 * v + (W e - 48) ≤ 100000 then 10 * v + (W e - 48) else 100000) := if_pos q
      rw [en] at k
      (first | refine rt_eq (q_X12_number_0) ?_ | refine rt_eq (q_X12_number_13) ?_ | refine rt_eq (q_X12_number_29) ?_ | refine rt_eq (q_X12_number_32) ?_ | refine rt_eq (q_X12_number_44) ?_ | refine rt_eq (q_X12_number_52) ?_ | refine rt_eq (q_X12_number_55) ?_ | refine rt_eq (q_X12_number_113) ?_ | refine rt_eq (q_X12_number_71) ?_ | refine rt_eq (q_X12_number_122) ?_ | refine rt_eq (q_X12_number_91) ?_)
      rw [e1]
      by_cases q4 : 10 * v + (W e - 48) ≤ 100000
      · rw [if_pos q4] at k
        refine rt_t (by (try simp (disch := omega) only [nI_leI, nI_ltI, nI_eq, nI_add, pk_mul, n_0add, Nat.zero_add, nI_clamp]) <;> omega) ?_
        (first | refine rt_eq (q_X12_number_0) ?_ | refine rt_eq (q_X12_number_13) ?_ | refine rt_eq (q_X12_number_29) ?_ | refine rt_eq (q_X12_number_32) ?_ | refine rt_eq (q_X12_number_44) ?_ | refine rt_eq (q_X12_number_52) ?_ | refine rt_eq (q_X12_number_55) ?_ | refine rt_eq (q_X12_number_113) ?_ | refine rt_eq (q_X12_number_71) ?_ | refine rt_eq (q_X12_number_122) ?_ | refine rt_eq (q_X12_number_91) ?_)
        refine ih _ _ (by omega) (by omega) q4 (fr_up hf rfl) (by rw [up2_s, h4, nI_add]) (fun I'' g1 g2 g3 g4 => k I'' g1 g2 ?_ ?_)
        · rw [g3, up2_k (by decide)]
        · rw [g4, up2_k (by decide)]
      · rw [if_neg q4] at k
        refine rt_f (by (try simp (disch := omega) only [nI_leI, nI_ltI, nI_eq, nI_add, pk_mul, n_0add, Nat.zero_add, nI_clamp]) <;> omega) ?_
        (first | refine rt_eq (q_X12_number_0) ?_ | refine rt_eq (q_X12_number_13) ?_ | refine rt_eq (q_X12_number_29) ?_ | refine rt_eq (q_X12_number_32) ?_ | refine rt_eq (q_X12_number_44) ?_ | refine rt_eq (q_X12_number_52) ?_ | refine rt_eq (q_X12_number_55) ?_ | refine rt_eq (q_X12_number_113) ?_ | refine rt_eq (q_X12_number_71) ?_ | refine rt_eq (q_X12_number_122) ?_ | refine rt_eq (q_X12_number_91) ?_)
        refine ih _ _ (by omega) (by omega) (by decide) (fr_up hf rfl) (by rw [up2_s, h4, nI_add]) (fun I'' g1 g2 g3 g4 => k I'' g1 g2 ?_ ?_)
        · rw [g3, up2_k (by decide)]
        · rw [g4, up2_k (by decide)]
    · rw [Bool.eq_false_iff.mpr q]
      have en : nmL W (r + 1) e v = (e, v) := if_neg q
      rw [en] at k
      exact k I' hf h4 rfl rfl
theorem sp_number {lo hi : Int32} (B : BM I W) (B2 : ∀ k, k < 600 → W k < 256) (hz : I 72 2 = nI z) (hz2 : z ≤ 600) (ha : a ≤ z) (h4 : I 72 4 = nI a) (h0 : I 72 5 = nI 0) : Rt L X (runM (d + 3) nX12_number [.ref 72, .int lo, .int hi] (mm L X I J)) (some (.int (nI (if nmF W z a lo hi = 0 then (nmV W z a).2 else 0)))) (fun I' J' => (Fr fTM I I' ∧ (∃ a', a' ≤ z ∧ I' 72 4 = nI a') ∧ (nmF W z a lo hi = 0 → I' 72 4 = nI (nmV W z a).1 ∧ I' 72 5 = nI 0) ∧ (¬ nmF W z a lo hi = 0 → I' 72 5 = nI (nmF W z a lo hi) ∧ I' 72 6 = nI (sk W z a))) ∧ J' = J) := by
  have hs := sk_le (W := W) ha
  have hv := nmV_le (W := W) ha
  rw [e_X12_number]
  (first | refine rt_eq (q_X12_number_0) ?_ | refine rt_eq (q_X12_number_13) ?_ | refine rt_eq (q_X12_number_29) ?_ | refine rt_eq (q_X12_number_32) ?_ | refine rt_eq (q_X12_number_44) ?_ | refine rt_eq (q_X12_number_52) ?_ | refine rt_eq (q_X12_number_55) ?_ | refine rt_eq (q_X12_number_113) ?_ | refine rt_eq (q_X12_number_71) ?_ | refine rt_eq (q_X12_number_122) ?_ | refine rt_eq (q_X12_number_91) ?_)
  refine rt_t h0 ?_
  refine rt_bnd (sp_blanks B B2 hz hz2 ha h4) ?_
  rintro I1 J1 ⟨⟨f1, f2⟩, rfl⟩
  have f1' : Fr fTM I I1 := fr_mono f1 (by decide)
  have B' := BM_fr B f1 (by decide)
  have z1 : I1 72 2 = nI z := (f1 72 2 rfl).trans hz
  have h01 : I1 72 5 = nI 0 := (f1 72 5 rfl).trans h0
  (first | refine rt_eq (q_X12_number_0) ?_ | refine rt_eq (q_X12_number_13) ?_ | refine rt_eq (q_X12_number_29) ?_ | refine rt_eq (q_X12_number_32) ?_ | refine rt_eq (q_X12_number_44) ?_ | refine rt_eq (q_X12_number_52) ?_ | refine rt_eq (q_X12_number_55) ?_ | refine rt_eq (q_X12_number_113) ?_ | refine rt_eq (q_X12_number_71) ?_ | refine rt_eq (q_X12_number_122) ?_ | refine rt_eq (q_X12_number_91) ?_)
  rw [f2]
  refine rt_be (sp_byteM B' z1 hz2 (by omega)) ?_
  (first | refine rt_eq (q_X12_number_0) ?_ | refine rt_eq (q_X12_number_13) ?_ | refine rt_eq (q_X12_number_29) ?_ | refine rt_eq (q_X12_number_32) ?_ | refine rt_eq (q_X12_number_44) ?_ | refine rt_eq (q_X12_number_52) ?_ | refine rt_eq (q_X12_number_55) ?_ | refine rt_eq (q_X12_number_113) ?_ | refine rt_eq (q_X12_number_71) ?_ | refine rt_eq (q_X12_number_122) ?_ | refine rt_eq (q_X12_number_91) ?_)
  refine rt_bne sp_isDigM ?_
  have ed : decide (nI 48 ≤ byT W z (sk W z a) ∧ byT W z (sk W z a) ≤ nI 57) = decide (sk W z a < z ∧ isG W (sk W z a) = true) := by
    by_cases e : sk W z a < z
    · rw [show byT W z (sk W z a) = nI (W (sk W z a)) from if_pos e, dig_W (B2 _ (by omega))]
      cases isG W (sk W z a) with
      | true => exact (decide_eq_true ⟨e, rfl⟩).symm
      | false => exact (decide_eq_false (fun q => absurd q.2 (by decide))).symm
    · rw [show byT W z (sk W z a) = -1 from if_neg e, dig_n]
      exact (decide_eq_false (fun q => e q.1)).symm
  rw [ed]
  (first | refine rt_eq (q_X12_number_0) ?_ | refine rt_eq (q_X12_number_13) ?_ | refine rt_eq (q_X12_number_29) ?_ | refine rt_eq (q_X12_number_32) ?_ | refine rt_eq (q_X12_number_44) ?_ | refine rt_eq (q_X12_number_52) ?_ | refine rt_eq (q_X12_number_55) ?_ | refine rt_eq (q_X12_number_113) ?_ | refine rt_eq (q_X12_number_71) ?_ | refine rt_eq (q_X12_number_122) ?_ | refine rt_eq (q_X12_number_91) ?_)
  by_cases e : sk W z a < z ∧ isG W (sk W z a) = true
  · rw [decide_eq_true e]
    refine rt_f (show ¬ bI true = nI 0 by decide) ?_
    have en : nmF W z a lo hi = if lo ≤ nI (nmV W z a).2 ∧ nI (nmV W z a).2 ≤ hi then 0 else 2 := if_pos e
    refine lp_number B B2 hz hz2 (z - sk W z a) (sk W z a) 0 I1 rfl hs.2 (by decide) f1' f2 ?_
    intro I2 g1 g2 g3 g4
    (first | refine rt_eq (q_X12_number_0) ?_ | refine rt_eq (q_X12_number_13) ?_ | refine rt_eq (q_X12_number_29) ?_ | refine rt_eq (q_X12_number_32) ?_ | refine rt_eq (q_X12_number_44) ?_ | refine rt_eq (q_X12_number_52) ?_ | refine rt_eq (q_X12_number_55) ?_ | refine rt_eq (q_X12_number_113) ?_ | refine rt_eq (q_X12_number_71) ?_ | refine rt_eq (q_X12_number_122) ?_ | refine rt_eq (q_X12_number_91) ?_)
    refine rt_t rfl (rt_bne sp_in ?_)
    (first | refine rt_eq (q_X12_number_0) ?_ | refine rt_eq (q_X12_number_13) ?_ | refine rt_eq (q_X12_number_29) ?_ | refine rt_eq (q_X12_number_32) ?_ | refine rt_eq (q_X12_number_44) ?_ | refine rt_eq (q_X12_number_52) ?_ | refine rt_eq (q_X12_number_55) ?_ | refine rt_eq (q_X12_number_113) ?_ | refine rt_eq (q_X12_number_71) ?_ | refine rt_eq (q_X12_number_122) ?_ | refine rt_eq (q_X12_number_91) ?_)
    by_cases e3 : lo ≤ nI (nmL W (z - sk W z a) (sk W z a) 0).2 ∧ nI (nmL W (z - sk W z a) (sk W z a) 0).2 ≤ hi
    · rw [decide_eq_true e3]
      refine rt_f (show ¬ bI true = nI 0 by decide) ?_
      have en2 : nmF W z a lo hi = 0 := en.trans (if_pos e3)
      rw [en2]
      (first | refine rt_eq (q_X12_number_0) ?_ | refine rt_eq (q_X12_number_13) ?_ | refine rt_eq (q_X12_number_29) ?_ | refine rt_eq (q_X12_number_32) ?_ | refine rt_eq (q_X12_number_44) ?_ | refine rt_eq (q_X12_number_52) ?_ | refine rt_eq (q_X12_number_55) ?_ | refine rt_eq (q_X12_number_113) ?_ | refine rt_eq (q_X12_number_71) ?_ | refine rt_eq (q_X12_number_122) ?_ | refine rt_eq (q_X12_number_91) ?_)
      have h02 : I2 72 5 = nI 0 := g3.trans h01
      exact rt_t h02 (rt_ret ⟨⟨g1, ⟨_, hv.2.1, g2⟩, fun _ => ⟨g2, h02⟩, fun q => absurd rfl q⟩, rfl⟩)
    · rw [decide_eq_false e3]
      refine rt_t bI_f ?_
      have h02 : I2 72 5 = nI 0 := g3.trans h01
      refine rt_be (sp_wrong.trans (if_pos h02)) ?_
      have en2 : nmF W z a lo hi = 2 := en.trans (if_neg e3)
      rw [en2]
      (first | refine rt_eq (q_X12_number_0) ?_ | refine rt_eq (q_X12_number_13) ?_ | refine rt_eq (q_X12_number_29) ?_ | refine rt_eq (q_X12_number_32) ?_ | refine rt_eq (q_X12_number_44) ?_ | refine rt_eq (q_X12_number_52) ?_ | refine rt_eq (q_X12_number_55) ?_ | refine rt_eq (q_X12_number_113) ?_ | refine rt_eq (q_X12_number_71) ?_ | refine rt_eq (q_X12_number_122) ?_ | refine rt_eq (q_X12_number_91) ?_)
      refine rt_f ?_ (rt_ret ⟨⟨fr_up (fr_up g1 rfl) rfl, ⟨_, hv.2.1, ?_⟩, fun q => absurd q (by decide), fun _ => ⟨?_, up2_s⟩⟩, rfl⟩)
      · rw [up2_k (by decide), up2_s]
        decide
      · rw [up2_k (by decide), up2_k (by decide)]
        exact g2
      · rw [up2_k (by decide), up2_s]
  · rw [decide_eq_false e]
    refine rt_t bI_f ?_
    have en : nmF W z a lo hi = 1 := if_neg e
    rw [en, f2]
    refine rt_be (sp_wrong.trans (if_pos h01)) ?_
    have n0 : nmL W (z - sk W z a) (sk W z a) 0 = (sk W z a, 0) := by
      cases q : z - sk W z a with
      | zero => rfl
      | succ r => exact if_neg (fun q2 => e ⟨by omega, q2⟩)
    refine lp_number (I := I) B B2 hz hz2 (z - sk W z a) (sk W z a) 0 _ rfl hs.2 (by decide) (fr_up (fr_up f1' rfl) rfl) (by rw [up2_k (by decide), up2_k (by decide), f2]) ?_
    intro I2 g1 g2 g3 g4
    have h51 : I2 72 5 = nI 1 := by rw [g3, up2_k (by decide), up2_s]
    have h61 : I2 72 6 = nI (sk W z a) := by rw [g4, up2_s]
    rw [n0] at g2
    (first | refine rt_eq (q_X12_number_0) ?_ | refine rt_eq (q_X12_number_13) ?_ | refine rt_eq (q_X12_number_29) ?_ | refine rt_eq (q_X12_number_32) ?_ | refine rt_eq (q_X12_number_44) ?_ | refine rt_eq (q_X12_number_52) ?_ | refine rt_eq (q_X12_number_55) ?_ | refine rt_eq (q_X12_number_113) ?_ | refine rt_eq (q_X12_number_71) ?_ | refine rt_eq (q_X12_number_122) ?_ | refine rt_eq (q_X12_number_91) ?_)
    refine rt_t rfl (rt_bne sp_in ?_)
    (first | refine rt_eq (q_X12_number_0) ?_ | refine rt_eq (q_X12_number_13) ?_ | refine rt_eq (q_X12_number_29) ?_ | refine rt_eq (q_X12_number_32) ?_ | refine rt_eq (q_X12_number_44) ?_ | refine rt_eq (q_X12_number_52) ?_ | refine rt_eq (q_X12_number_55) ?_ | refine rt_eq (q_X12_number_113) ?_ | refine rt_eq (q_X12_number_71) ?_ | refine rt_eq (q_X12_number_122) ?_ | refine rt_eq (q_X12_number_91) ?_)
    have q1 : (Fr fTM I I2 ∧ (∃ a', a' ≤ z ∧ I2 72 4 = nI a') ∧ (1 = 0 → I2 72 4 = nI (nmV W z a).1 ∧ I2 72 5 = nI 0) ∧ (¬ 1 = 0 → I2 72 5 = nI 1 ∧ I2 72 6 = nI (sk W z a))) ∧ J1 = J1 := ⟨⟨g1, ⟨_, hs.2, g2⟩, fun q => absurd q (by decide), fun _ => ⟨h51, h61⟩⟩, rfl⟩
    refine rt_if (fun _ => ?_) (fun _ => ?_)
    · refine rt_be (sp_wrong.trans (if_neg (by rw [h51]; decide))) ?_
      (first | refine rt_eq (q_X12_number_0) ?_ | refine rt_eq (q_X12_number_13) ?_ | refine rt_eq (q_X12_number_29) ?_ | refine rt_eq (q_X12_number_32) ?_ | refine rt_eq (q_X12_number_44) ?_ | refine rt_eq (q_X12_number_52) ?_ | refine rt_eq (q_X12_number_55) ?_ | refine rt_eq (q_X12_number_113) ?_ | refine rt_eq (q_X12_number_71) ?_ | refine rt_eq (q_X12_number_122) ?_ | refine rt_eq (q_X12_number_91) ?_)
      exact rt_f (by rw [h51]; decide) (rt_ret q1)
    · (first | refine rt_eq (q_X12_number_0) ?_ | refine rt_eq (q_X12_number_13) ?_ | refine rt_eq (q_X12_number_29) ?_ | refine rt_eq (q_X12_number_32) ?_ | refine rt_eq (q_X12_number_44) ?_ | refine rt_eq (q_X12_number_52) ?_ | refine rt_eq (q_X12_number_55) ?_ | refine rt_eq (q_X12_number_113) ?_ | refine rt_eq (q_X12_number_71) ?_ | refine rt_eq (q_X12_number_122) ?_ | refine rt_eq (q_X12_number_91) ?_)
      exact rt_f (by rw [h51]; decide) (rt_ret q1)
theorem sp_numberF {lo hi : Int32} (h0 : ¬ I 72 5 = nI 0) : runM (d + 1) nX12_number [.ref 72, .int lo, .int hi] (mm L X I J) = rI (nI 0) (mm L X I J) := by
  rw [e_X12_number]
  (first | refine Eq.trans (q_X12_number_0) ?_ | refine Eq.trans (q_X12_number_13) ?_ | refine Eq.trans (q_X12_number_29) ?_ | refine Eq.trans (q_X12_number_32) ?_ | refine Eq.trans (q_X12_number_44) ?_ | refine Eq.trans (q_X12_number_52) ?_ | refine Eq.trans (q_X12_number_55) ?_ | refine Eq.trans (q_X12_number_113) ?_ | refine Eq.trans (q_X12_number_71) ?_ | refine Eq.trans (q_X12_number_122) ?_ | refine Eq.trans (q_X12_number_91) ?_)
  exact if_neg h0
theorem sp_signM {c : Nat} (B : BM I W) (B2 : ∀ k, k < 600 → W k < 256) (hz : I 72 2 = nI z) (hz2 : z ≤ 600) (ha : a ≤ z) (h4 : I 72 4 = nI a) (h0 : I 72 5 = nI 0) (hc : c < 256) : Rt L X (runM (d + 3) nX12_sign [.ref 72, .int (nI c)] (mm L X I J)) none (fun I' J' => (Fr fTM I I' ∧ (∃ a', a' ≤ z ∧ I' 72 4 = nI a') ∧ ((sk W z a < z ∧ W (sk W z a) = c) → I' 72 4 = nI (sk W z a + 1) ∧ I' 72 5 = nI 0) ∧ (¬ (sk W z a < z ∧ W (sk W z a) = c) → I' 72 5 = nI 1 ∧ I' 72 6 = nI (sk W z a))) ∧ J' = J) := by
  have hs := sk_le (W := W) ha
  rw [e_X12_sign]
  (first | refine rt_eq (q_X12_sign_0) ?_ | refine rt_eq (q_X12_sign_12) ?_ | refine rt_eq (q_X12_sign_20) ?_ | refine rt_eq (q_X12_sign_46) ?_)
  refine rt_t h0 ?_
  refine rt_bnd (sp_blanks B B2 hz hz2 ha h4) ?_
  rintro I1 J1 ⟨⟨f1, f2⟩, rfl⟩
  have f1' : Fr fTM I I1 := fr_mono f1 (by decide)
  have B' := BM_fr B f1 (by decide)
  have z1 : I1 72 2 = nI z := (f1 72 2 rfl).trans hz
  have h01 : I1 72 5 = nI 0 := (f1 72 5 rfl).trans h0
  (first | refine rt_eq (q_X12_sign_0) ?_ | refine rt_eq (q_X12_sign_12) ?_ | refine rt_eq (q_X12_sign_20) ?_ | refine rt_eq (q_X12_sign_46) ?_)
  rw [f2]
  refine rt_be (sp_byteM B' z1 hz2 (by omega)) ?_
  (first | refine rt_eq (q_X12_sign_0) ?_ | refine rt_eq (q_X12_sign_12) ?_ | refine rt_eq (q_X12_sign_20) ?_ | refine rt_eq (q_X12_sign_46) ?_)
  by_cases e : sk W z a < z ∧ W (sk W z a) = c
  · refine rt_t ?_ (rt_ret ⟨⟨fr_up f1' rfl, ⟨sk W z a + 1, by omega, by rw [up2_s, f2, nI_add]⟩, fun _ => ⟨?_, ?_⟩, fun q => absurd e q⟩, rfl⟩)
    · rw [show byT W z (sk W z a) = nI (W (sk W z a)) from if_pos e.1, e.2]
    · rw [up2_s, f2, nI_add]
    · rw [up2_k (by decide), h01]
  · refine rt_f ?_ ?_
    · intro q
      by_cases e1 : sk W z a < z
      · rw [show byT W z (sk W z a) = nI (W (sk W z a)) from if_pos e1, nI_eq (by have := B2 (sk W z a) (by omega); omega) (by omega)] at q
        exact e ⟨e1, q⟩
      · rw [show byT W z (sk W z a) = -1 from if_neg e1] at q
        exact nI_m1 c (by omega) q.symm
    · rw [f2]
      refine rt_be (sp_wrong.trans (if_pos h01)) ?_
      (first | refine rt_eq (q_X12_sign_0) ?_ | refine rt_eq (q_X12_sign_12) ?_ | refine rt_eq (q_X12_sign_20) ?_ | refine rt_eq (q_X12_sign_46) ?_)
      refine rt_ret ⟨⟨fr_up (fr_up f1' rfl) rfl, ⟨sk W z a, hs.2, ?_⟩, fun q => absurd q e, fun _ => ⟨?_, up2_s⟩⟩, rfl⟩
      · rw [up2_k (by decide), up2_k (by decide), f2]
      · rw [up2_k (by decide), up2_s]
theorem sp_signF {x : Int32} (h0 : ¬ I 72 5 = nI 0) : runM (d + 1) nX12_sign [.ref 72, .int x] (mm L X I J) = rV (mm L X I J) := by
  rw [e_X12_sign]
  (first | refine Eq.trans (q_X12_sign_0) ?_ | refine Eq.trans (q_X12_sign_12) ?_ | refine Eq.trans (q_X12_sign_20) ?_ | refine Eq.trans (q_X12_sign_46) ?_)
  exact if_neg h0
theorem sp_takesSign {c : Nat} (B : BM I W) (B2 : ∀ k, k < 600 → W k < 256) (hz : I 72 2 = nI z) (hz2 : z ≤ 600) (ha : a ≤ z) (h4 : I 72 4 = nI a) (h0 : I 72 5 = nI 0) (hc : c < 256) : Rt L X (runM (d + 3) nX12_takesSign [.ref 72, .int (nI c)] (mm L X I J)) (some (.int (bI (decide (sk W z a < z ∧ W (sk W z a) = c))))) (fun I' J' => (Fr [(72, 5)] I I' ∧ I' 72 4 = nI (if sk W z a < z ∧ W (sk W z a) = c then sk W z a + 1 else sk W z a)) ∧ J' = J) := by
  have hs := sk_le (W := W) ha
  rw [e_X12_takesSign]
  (first | refine rt_eq (q_X12_takesSign_0) ?_ | refine rt_eq (q_X12_takesSign_13) ?_ | refine rt_eq (q_X12_takesSign_21) ?_ | refine rt_eq (q_X12_takesSign_30 (by first | assumption | rfl | exact .inl rfl | exact .inr rfl)) ?_)
  refine rt_t h0 ?_
  refine rt_bnd (sp_blanks B B2 hz hz2 ha h4) ?_
  rintro I1 J1 ⟨⟨f1, f2⟩, rfl⟩
  have B' := BM_fr B f1 (by decide)
  have z1 : I1 72 2 = nI z := (f1 72 2 rfl).trans hz
  (first | refine rt_eq (q_X12_takesSign_0) ?_ | refine rt_eq (q_X12_takesSign_13) ?_ | refine rt_eq (q_X12_takesSign_21) ?_ | refine rt_eq (q_X12_takesSign_30 (by first | assumption | rfl | exact .inl rfl | exact .inr rfl)) ?_)
  rw [f2]
  refine rt_be (sp_byteM B' z1 hz2 (by omega)) ?_
  (first | refine rt_eq (q_X12_takesSign_0) ?_ | refine rt_eq (q_X12_takesSign_13) ?_ | refine rt_eq (q_X12_takesSign_21) ?_ | refine rt_eq (q_X12_takesSign_30 (by first | assumption | rfl | exact .inl rfl | exact .inr rfl)) ?_)
  have hv : okv (some (.int (nI c))) = true := rfl
  by_cases e : sk W z a < z ∧ W (sk W z a) = c
  · rw [decide_eq_true e, if_pos e]
    refine rt_t ?_ ?_
    · rw [show byT W z (sk W z a) = nI (W (sk W z a)) from if_pos e.1, e.2]
    · (first | refine rt_eq (q_X12_takesSign_0) ?_ | refine rt_eq (q_X12_takesSign_13) ?_ | refine rt_eq (q_X12_takesSign_21) ?_ | refine rt_eq (q_X12_takesSign_30 (by first | assumption | rfl | exact .inl rfl | exact .inr rfl)) ?_)
      exact rt_f (by decide) (rt_gd (by decide) (rt_ret ⟨⟨fr_up f1 rfl, by rw [up2_s, f2, nI_add]⟩, rfl⟩))
  · rw [decide_eq_false e, if_neg e]
    refine rt_f ?_ ?_
    · intro q
      by_cases e1 : sk W z a < z
      · rw [show byT W z (sk W z a) = nI (W (sk W z a)) from if_pos e1, nI_eq (by have := B2 (sk W z a) (by omega); omega) (by omega)] at q
        exact e ⟨e1, q⟩
      · rw [show byT W z (sk W z a) = -1 from if_neg e1] at q
        exact nI_m1 c (by omega) q.symm
    · (first | refine rt_eq (q_X12_takesSign_0) ?_ | refine rt_eq (q_X12_takesSign_13) ?_ | refine rt_eq (q_X12_takesSign_21) ?_ | refine rt_eq (q_X12_takesSign_30 (by first | assumption | rfl | exact .inl rfl | exact .inr rfl)) ?_)
      exact rt_t rfl (rt_gd (by decide) (rt_ret ⟨⟨f1, f2⟩, rfl⟩))
end TM2
