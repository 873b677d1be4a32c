/-! A CLAUSE, BY THE MODEL -/
section HF
variable {d L X : Nat} {I : MI32} {J : MI64} {W : Nat → Nat} {z a b c : Nat} {h : Hs}
theorem sp_mostOf {K : Nat} (hK : K < 3) : runM (d + 1) nX12_mostOf [.int (nI K)] (mm L X I J) = rI (nI (if K = 0 then 6 else if K = 1 then 4 else 5)) (mm L X I J) := by
  rw [e_X12_mostOf]
  (first | refine Eq.trans (q_X12_mostOf_0) ?_)
  by_cases k0 : K = 0
  · rw [if_pos (by rw [k0]), if_pos k0]
  · rw [if_neg (by ((try simp (disch := omega) only [nI_leI, nI_ltI, nI_eq, nI_add, pk_mul, n_0add, Nat.zero_add, nI_clamp]) <;> omega)), if_neg k0]
    by_cases k1 : K = 1
    · rw [if_pos (by rw [k1]), if_pos k1]
    · rw [if_neg (by ((try simp (disch := omega) only [nI_leI, nI_ltI, nI_eq, nI_add, pk_mul, n_0add, Nat.zero_add, nI_clamp]) <;> omega)), if_neg k1]
/-- all but the text's cells and row r is as it was -/
theorem oldX {r x y : Nat} {I' : MI32} (g : Fr (fTM ++ [(72, 8), (r, 0)]) I I') (h1 : ¬ x = r) (h2 : ¬ x = 72) : I' x y = I x y := g x y (inP_n h1 h2)
theorem fX_T {r : Nat} {I1 I2 : MI32} (g : Fr (fTM ++ [(72, 8), (r, 0)]) I I1) (g2 : Fr fTM I1 I2) : Fr (fTM ++ [(72, 8), (r, 0)]) I I2 := fr_tr g (fun x y q => g2 x y (by
  rw [inF_app, Bool.or_eq_false_iff] at q
  exact q.1))
theorem fX_up {r j : Nat} {v : Int32} {I1 : MI32} (g : Fr (fTM ++ [(72, 8), (r, 0)]) I I1) : Fr (fTM ++ [(72, 8), (r, 0)]) I (up2 I1 r j v) := fr_up g (by simp [fTM, inF])
theorem fX_C {r : Nat} {I1 : MI32} (hr : ∀ j, inF fCM r j = true) (g : Fr (fTM ++ [(72, 8), (r, 0)]) I I1) : Fr fCM I I1 := by
  intro x y q
  refine g x y ?_
  by_cases e : x = r
  · rw [e, hr] at q
    exact absurd q (by decide)
  · have hT : inF (fTM ++ [(72, 8)]) x y = false := by
      by_cases e2 : inF (fTM ++ [(72, 8)]) x y = true
      · have : sbF (fTM ++ [(72, 8)]) fCM = true := by decide +kernel
        rw [sb_in this e2] at q
        exact absurd q (by decide)
      · exact Bool.eq_false_iff.mpr e2
    rw [show fTM ++ [(72, 8), (r, 0)] = (fTM ++ [(72, 8)]) ++ [(r, 0)] by simp, inF_app, hT]
    simp [inF]
    exact fun e3 => absurd e3.symm e
set_option maxHeartbeats 8000000 in
theorem sp_clause (B : BM I W) (B2 : ∀ k, k < 600 → W k < 256) (hz : I 72 2 = nI z) (hz2 : z ≤ 600) (ha : a ≤ z) (h4 : I 72 4 = nI a) (h0 : I 72 5 = nI 0) (h7 : I 72 7 = nI c) (hc : c ≤ 60) (H : HR I h) (ok : hOK h) : Rt L X (runM (d + 6) nX12_clause [.ref 72] (mm L X I J)) none (fun I' J' => okH z I I' c (hcl W z c a h) ∧ J' = J) := by
  obtain ⟨⟨o1, o2, o3, -, -⟩, -, -⟩ := ok
  obtain ⟨r1, r2, r3, r4⟩ := H
  have hs := sk_le (W := W) ha
  have he := wE_le (W := W) ha
  have v1 := nmV_le (W := W) he.2
  have v2 := nmV_le (W := W) v1.2.1
  have v3 := nmV_le (W := W) v2.2.1
  have v4 := nmV_le (W := W) v3.2.1
  rw [e_X12_clause]
  (first | refine rt_eq (q_X12_clause_0) ?_ | refine rt_eq (q_X12_clause_4) ?_ | refine rt_eq (q_X12_clause_49) ?_ | refine rt_eq (q_X12_clause_58) ?_ | refine rt_eq (q_X12_clause_46) ?_ | refine rt_eq (q_X12_clause_19) ?_ | refine rt_eq (q_X12_clause_70) ?_ | refine rt_eq (q_X12_clause_95) ?_ | refine rt_eq (q_X12_clause_97) ?_ | refine rt_eq (q_X12_clause_124) ?_ | refine rt_eq (q_X12_clause_181) ?_ | refine rt_eq (q_X12_clause_244) ?_ | refine rt_eq (q_X12_clause_278) ?_ | refine rt_eq (q_X12_clause_138 (by first | assumption | rfl | exact .inl rfl | exact .inr rfl)) ?_ | refine rt_eq (q_X12_clause_185) ?_ | refine rt_eq (q_X12_clause_259 (by first | assumption | rfl | exact .inl rfl | exact .inr rfl)) ?_ | refine rt_eq (q_X12_clause_285 (by first | assumption | rfl | exact .inl rfl | exact .inr rfl)) ?_ | refine rt_eq (q_X12_clause_150 (by first | assumption | rfl | exact .inl rfl | exact .inr rfl)) ?_ | refine rt_eq (q_X12_clause_190) ?_ | refine rt_eq (q_X12_clause_274 (by first | assumption | rfl | exact .inl rfl | exact .inr rfl)) ?_ | refine rt_eq (q_X12_clause_303) ?_ | refine rt_eq (q_X12_clause_162 (by first | assumption | rfl | exact .inl rfl | exact .inr rfl)) ?_ | refine rt_eq (q_X12_clause_200) ?_ | refine rt_eq (q_X12_clause_309) ?_ | refine rt_eq (q_X12_clause_177 (by first | assumption | rfl | exact .inl rfl | exact .inr rfl)) ?_ | refine rt_eq (q_X12_clause_222) ?_ | refine rt_eq (q_X12_clause_333) ?_)
  refine rt_bnd (sp_kindHere B B2 hz hz2 ha h4 h0) ?_
  rintro I1 J1 ⟨⟨f1, f2⟩, rfl⟩
  have fr1 : Fr fCM I I1 := fr_mono f1 cm_5
  have h01 : I1 72 5 = nI 0 := (f1 72 5 rfl).trans h0
  (first | refine rt_eq (q_X12_clause_0) ?_ | refine rt_eq (q_X12_clause_4) ?_ | refine rt_eq (q_X12_clause_49) ?_ | refine rt_eq (q_X12_clause_58) ?_ | refine rt_eq (q_X12_clause_46) ?_ | refine rt_eq (q_X12_clause_19) ?_ | refine rt_eq (q_X12_clause_70) ?_ | refine rt_eq (q_X12_clause_95) ?_ | refine rt_eq (q_X12_clause_97) ?_ | refine rt_eq (q_X12_clause_124) ?_ | refine rt_eq (q_X12_clause_181) ?_ | refine rt_eq (q_X12_clause_244) ?_ | refine rt_eq (q_X12_clause_278) ?_ | refine rt_eq (q_X12_clause_138 (by first | assumption | rfl | exact .inl rfl | exact .inr rfl)) ?_ | refine rt_eq (q_X12_clause_185) ?_ | refine rt_eq (q_X12_clause_259 (by first | assumption | rfl | exact .inl rfl | exact .inr rfl)) ?_ | refine rt_eq (q_X12_clause_285 (by first | assumption | rfl | exact .inl rfl | exact .inr rfl)) ?_ | refine rt_eq (q_X12_clause_150 (by first | assumption | rfl | exact .inl rfl | exact .inr rfl)) ?_ | refine rt_eq (q_X12_clause_190) ?_ | refine rt_eq (q_X12_clause_274 (by first | assumption | rfl | exact .inl rfl | exact .inr rfl)) ?_ | refine rt_eq (q_X12_clause_303) ?_ | refine rt_eq (q_X12_clause_162 (by first | assumption | rfl | exact .inl rfl | exact .inr rfl)) ?_ | refine rt_eq (q_X12_clause_200) ?_ | refine rt_eq (q_X12_clause_309) ?_ | refine rt_eq (q_X12_clause_177 (by first | assumption | rfl | exact .inl rfl | exact .inr rfl)) ?_ | refine rt_eq (q_X12_clause_222) ?_ | refine rt_eq (q_X12_clause_333) ?_)
  by_cases c1 : hkI W z a = -1
  · have ec : hcl W z c a h = (1, sk W z a, 0, h) := if_pos c1
    rw [c1, ec]
    refine rt_t rfl (rt_be (sp_wrong.trans (if_pos h01)) ?_)
    (first | refine rt_eq (q_X12_clause_0) ?_ | refine rt_eq (q_X12_clause_4) ?_ | refine rt_eq (q_X12_clause_49) ?_ | refine rt_eq (q_X12_clause_58) ?_ | refine rt_eq (q_X12_clause_46) ?_ | refine rt_eq (q_X12_clause_19) ?_ | refine rt_eq (q_X12_clause_70) ?_ | refine rt_eq (q_X12_clause_95) ?_ | refine rt_eq (q_X12_clause_97) ?_ | refine rt_eq (q_X12_clause_124) ?_ | refine rt_eq (q_X12_clause_181) ?_ | refine rt_eq (q_X12_clause_244) ?_ | refine rt_eq (q_X12_clause_278) ?_ | refine rt_eq (q_X12_clause_138 (by first | assumption | rfl | exact .inl rfl | exact .inr rfl)) ?_ | refine rt_eq (q_X12_clause_185) ?_ | refine rt_eq (q_X12_clause_259 (by first | assumption | rfl | exact .inl rfl | exact .inr rfl)) ?_ | refine rt_eq (q_X12_clause_285 (by first | assumption | rfl | exact .inl rfl | exact .inr rfl)) ?_ | refine rt_eq (q_X12_clause_150 (by first | assumption | rfl | exact .inl rfl | exact .inr rfl)) ?_ | refine rt_eq (q_X12_clause_190) ?_ | refine rt_eq (q_X12_clause_274 (by first | assumption | rfl | exact .inl rfl | exact .inr rfl)) ?_ | refine rt_eq (q_X12_clause_303) ?_ | refine rt_eq (q_X12_clause_162 (by first | assumption | rfl | exact .inl rfl | exact .inr rfl)) ?_ | refine rt_eq (q_X12_clause_200) ?_ | refine rt_eq (q_X12_clause_309) ?_ | refine rt_eq (q_X12_clause_177 (by first | assumption | rfl | exact .inl rfl | exact .inr rfl)) ?_ | refine rt_eq (q_X12_clause_222) ?_ | refine rt_eq (q_X12_clause_333) ?_)
    (first | refine rt_eq (q_X12_clause_0) ?_ | refine rt_eq (q_X12_clause_4) ?_ | refine rt_eq (q_X12_clause_49) ?_ | refine rt_eq (q_X12_clause_58) ?_ | refine rt_eq (q_X12_clause_46) ?_ | refine rt_eq (q_X12_clause_19) ?_ | refine rt_eq (q_X12_clause_70) ?_ | refine rt_eq (q_X12_clause_95) ?_ | refine rt_eq (q_X12_clause_97) ?_ | refine rt_eq (q_X12_clause_124) ?_ | refine rt_eq (q_X12_clause_181) ?_ | refine rt_eq (q_X12_clause_244) ?_ | refine rt_eq (q_X12_clause_278) ?_ | refine rt_eq (q_X12_clause_138 (by first | assumption | rfl | exact .inl rfl | exact .inr rfl)) ?_ | refine rt_eq (q_X12_clause_185) ?_ | refine rt_eq (q_X12_clause_259 (by first | assumption | rfl | exact .inl rfl | exact .inr rfl)) ?_ | refine rt_eq (q_X12_clause_285 (by first | assumption | rfl | exact .inl rfl | exact .inr rfl)) ?_ | refine rt_eq (q_X12_clause_150 (by first | assumption | rfl | exact .inl rfl | exact .inr rfl)) ?_ | refine rt_eq (q_X12_clause_190) ?_ | refine rt_eq (q_X12_clause_274 (by first | assumption | rfl | exact .inl rfl | exact .inr rfl)) ?_ | refine rt_eq (q_X12_clause_303) ?_ | refine rt_eq (q_X12_clause_162 (by first | assumption | rfl | exact .inl rfl | exact .inr rfl)) ?_ | refine rt_eq (q_X12_clause_200) ?_ | refine rt_eq (q_X12_clause_309) ?_ | refine rt_eq (q_X12_clause_177 (by first | assumption | rfl | exact .inl rfl | exact .inr rfl)) ?_ | refine rt_eq (q_X12_clause_222) ?_ | refine rt_eq (q_X12_clause_333) ?_)
    refine rt_f ?_ (rt_ret ⟨⟨fr_up (fr_up fr1 (by decide +kernel)) (by decide +kernel), fun q => absurd (show 1 = 0 from q) (by decide), fun _ => ⟨?_, ?_, sk W z a, hs.2, ?_⟩⟩, rfl⟩)
    · rw [up2_k (by decide), up2_s]
      decide
    · rw [up2_k (by decide), up2_s]
    · rw [up2_s, f2]
    · rw [up2_k (by decide), up2_k (by decide), f2]
  · obtain ⟨w1, w2, w3⟩ := hk_n c1
    generalize hKe : hkN W z a = K at w1 w2
    rw [w1]
    refine rt_f (nI_m1 _ (by omega)) ?_
    have many : hFull h c K → ∀ u2 u3 u4 u5, Rt L X (runI (runM (d + 5)) iX12_clause (49, [some (.ref 72), some (.int (nI K)), u2, u3, u4, u5], [], mm L X I1 J1)) none (fun I' J' => okH z I I' c (hcl W z c a h) ∧ J' = J1) := by
      intro q u2 u3 u4 u5
      have ec : hcl W z c a h = (3, sk W z a, 0, h) := by
        unfold hcl
        rw [if_neg c1, hKe, if_pos q]
      rw [ec]
      (first | refine rt_eq (q_X12_clause_0) ?_ | refine rt_eq (q_X12_clause_4) ?_ | refine rt_eq (q_X12_clause_49) ?_ | refine rt_eq (q_X12_clause_58) ?_ | refine rt_eq (q_X12_clause_46) ?_ | refine rt_eq (q_X12_clause_19) ?_ | refine rt_eq (q_X12_clause_70) ?_ | refine rt_eq (q_X12_clause_95) ?_ | refine rt_eq (q_X12_clause_97) ?_ | refine rt_eq (q_X12_clause_124) ?_ | refine rt_eq (q_X12_clause_181) ?_ | refine rt_eq (q_X12_clause_244) ?_ | refine rt_eq (q_X12_clause_278) ?_ | refine rt_eq (q_X12_clause_138 (by first | assumption | rfl | exact .inl rfl | exact .inr rfl)) ?_ | refine rt_eq (q_X12_clause_185) ?_ | refine rt_eq (q_X12_clause_259 (by first | assumption | rfl | exact .inl rfl | exact .inr rfl)) ?_ | refine rt_eq (q_X12_clause_285 (by first | assumption | rfl | exact .inl rfl | exact .inr rfl)) ?_ | refine rt_eq (q_X12_clause_150 (by first | assumption | rfl | exact .inl rfl | exact .inr rfl)) ?_ | refine rt_eq (q_X12_clause_190) ?_ | refine rt_eq (q_X12_clause_274 (by first | assumption | rfl | exact .inl rfl | exact .inr rfl)) ?_ | refine rt_eq (q_X12_clause_303) ?_ | refine rt_eq (q_X12_clause_162 (by first | assumption | rfl | exact .inl rfl | exact .inr rfl)) ?_ | refine rt_eq (q_X12_clause_200) ?_ | refine rt_eq (q_X12_clause_309) ?_ | refine rt_eq (q_X12_clause_177 (by first | assumption | rfl | exact .inl rfl | exact .inr rfl)) ?_ | refine rt_eq (q_X12_clause_222) ?_ | refine rt_eq (q_X12_clause_333) ?_)
      refine rt_be (sp_wrong.trans (if_pos h01)) ?_
      (first | refine rt_eq (q_X12_clause_0) ?_ | refine rt_eq (q_X12_clause_4) ?_ | refine rt_eq (q_X12_clause_49) ?_ | refine rt_eq (q_X12_clause_58) ?_ | refine rt_eq (q_X12_clause_46) ?_ | refine rt_eq (q_X12_clause_19) ?_ | refine rt_eq (q_X12_clause_70) ?_ | refine rt_eq (q_X12_clause_95) ?_ | refine rt_eq (q_X12_clause_97) ?_ | refine rt_eq (q_X12_clause_124) ?_ | refine rt_eq (q_X12_clause_181) ?_ | refine rt_eq (q_X12_clause_244) ?_ | refine rt_eq (q_X12_clause_278) ?_ | refine rt_eq (q_X12_clause_138 (by first | assumption | rfl | exact .inl rfl | exact .inr rfl)) ?_ | refine rt_eq (q_X12_clause_185) ?_ | refine rt_eq (q_X12_clause_259 (by first | assumption | rfl | exact .inl rfl | exact .inr rfl)) ?_ | refine rt_eq (q_X12_clause_285 (by first | assumption | rfl | exact .inl rfl | exact .inr rfl)) ?_ | refine rt_eq (q_X12_clause_150 (by first | assumption | rfl | exact .inl rfl | exact .inr rfl)) ?_ | refine rt_eq (q_X12_clause_190) ?_ | refine rt_eq (q_X12_clause_274 (by first | assumption | rfl | exact .inl rfl | exact .inr rfl)) ?_ | refine rt_eq (q_X12_clause_303) ?_ | refine rt_eq (q_X12_clause_162 (by first | assumption | rfl | exact .inl rfl | exact .inr rfl)) ?_ | refine rt_eq (q_X12_clause_200) ?_ | refine rt_eq (q_X12_clause_309) ?_ | refine rt_eq (q_X12_clause_177 (by first | assumption | rfl | exact .inl rfl | exact .inr rfl)) ?_ | refine rt_eq (q_X12_clause_222) ?_ | refine rt_eq (q_X12_clause_333) ?_)
      refine rt_f ?_ (rt_ret ⟨⟨fr_up (fr_up fr1 (by decide +kernel)) (by decide +kernel), fun q => absurd (show 3 = 0 from q) (by decide), fun _ => ⟨?_, ?_, sk W z a, hs.2, ?_⟩⟩, rfl⟩)
      · rw [up2_k (by decide), up2_s]
        decide
      · rw [up2_k (by decide), up2_s]
      · rw [up2_s, f2]
      · rw [up2_k (by decide), up2_k (by decide), f2]
    have good : ¬ hFull h c K → ∀ u2 u3 u4 u5, Rt L X (runI (runM (d + 5)) iX12_clause (58, [some (.ref 72), some (.int (nI K)), u2, u3, u4, u5], [], mm L X I1 J1)) none (fun I' J' => okH z I I' c (hcl W z c a h) ∧ J' = J1) := by
      intro nf u2 u3 u4 u5
      have flt : ∀ (F w : Nat) (I2 I' : MI32), hm W z K (wE W z a) = (F, w, 0) → ¬ F = 0 → Fr fCM I I2 → I2 72 5 = nI F → I2 72 6 = nI w → PH z I2 I' → okH z I I' c (hcl W z c a h) := by
        intro F w I2 I' q1 q2 q3 q4 q5 P
        have ec : hcl W z c a h = (F, w, 0, h) := by
          unfold hcl
          rw [if_neg c1, hKe, if_neg nf, q1]
          exact if_pos q2
        rw [ec]
        exact okH_f q2 q3 q4 q5 P
      have fin : ∀ (p : Nat) (I5 : MI32) u2 u3 u4 u5, hm W z K (wE W z a) = (0, 0, p) → Fr fCM I I5 → p ≤ z → I5 72 4 = nI p → I5 72 5 = nI 0 → I5 72 7 = nI (c + 1) → (∀ I' : MI32, (∀ j, I' 75 j = if j = K ∧ K < 3 then I5 75 j + nI 1 else I5 75 j) → (∀ x y, ¬ x = 72 → ¬ x = 75 → I' x y = I5 x y) → HR I' (hAdd W z h K (wE W z a))) → Rt L X (runI (runM (d + 5)) iX12_clause (303, [some (.ref 72), some (.int (nI K)), u2, u3, u4, u5], [], mm L X I5 J1)) none (fun I' J' => okH z I I' c (hcl W z c a h) ∧ J' = J1) := by
        intro p I5 u2 u3 u4 u5 q1 q2 q3 q4 q5 q6 q7
        refine rt_mono (gh_303 (BM_cm B q2) B2 ((cm_2 q2).trans hz) hz2 w2 q3 q4 q5) ?_
        rintro I6 J6 ⟨⟨k1, k2, k3⟩, rfl⟩
        have g6 : Fr fCM I I6 := fr_tr q2 (fr_mono k1 (by decide +kernel))
        by_cases s : sgn W z p 59
        · have ec : hcl W z c a h = (0, 0, sk W z p + 1, hAdd W z h K (wE W z a)) := by
            unfold hcl
            rw [if_neg c1, hKe, if_neg nf, q1, if_neg (not_not_intro rfl)]
            exact if_pos s
          obtain ⟨l1, l2, l3⟩ := k2 s
          rw [ec]
          refine ⟨⟨g6, fun _ => ⟨l1, l2, ?_, q7 I6 l3 (fun x y hx hy => k1 x y ?_)⟩, fun q => absurd rfl q⟩, rfl⟩
          · rw [k1 72 7 rfl, q6]
          · simp [fTM, inF]
            omega
        · have ec : hcl W z c a h = (1, sk W z p, 0, h) := by
            unfold hcl
            rw [if_neg c1, hKe, if_neg nf, q1, if_neg (not_not_intro rfl)]
            exact if_neg s
          rw [ec]
          exact ⟨⟨g6, fun q => absurd (show 1 = 0 from q) (by decide), fun _ => k3 s⟩, rfl⟩
      (first | refine rt_eq (q_X12_clause_0) ?_ | refine rt_eq (q_X12_clause_4) ?_ | refine rt_eq (q_X12_clause_49) ?_ | refine rt_eq (q_X12_clause_58) ?_ | refine rt_eq (q_X12_clause_46) ?_ | refine rt_eq (q_X12_clause_19) ?_ | refine rt_eq (q_X12_clause_70) ?_ | refine rt_eq (q_X12_clause_95) ?_ | refine rt_eq (q_X12_clause_97) ?_ | refine rt_eq (q_X12_clause_124) ?_ | refine rt_eq (q_X12_clause_181) ?_ | refine rt_eq (q_X12_clause_244) ?_ | refine rt_eq (q_X12_clause_278) ?_ | refine rt_eq (q_X12_clause_138 (by first | assumption | rfl | exact .inl rfl | exact .inr rfl)) ?_ | refine rt_eq (q_X12_clause_185) ?_ | refine rt_eq (q_X12_clause_259 (by first | assumption | rfl | exact .inl rfl | exact .inr rfl)) ?_ | refine rt_eq (q_X12_clause_285 (by first | assumption | rfl | exact .inl rfl | exact .inr rfl)) ?_ | refine rt_eq (q_X12_clause_150 (by first | assumption | rfl | exact .inl rfl | exact .inr rfl)) ?_ | refine rt_eq (q_X12_clause_190) ?_ | refine rt_eq (q_X12_clause_274 (by first | assumption | rfl | exact .inl rfl | exact .inr rfl)) ?_ | refine rt_eq (q_X12_clause_303) ?_ | refine rt_eq (q_X12_clause_162 (by first | assumption | rfl | exact .inl rfl | exact .inr rfl)) ?_ | refine rt_eq (q_X12_clause_200) ?_ | refine rt_eq (q_X12_clause_309) ?_ | refine rt_eq (q_X12_clause_177 (by first | assumption | rfl | exact .inl rfl | exact .inr rfl)) ?_ | refine rt_eq (q_X12_clause_222) ?_ | refine rt_eq (q_X12_clause_333) ?_)
      refine rt_t h01 (rt_bnd (sp_skipWord (BM_cm B fr1) B2 ((cm_2 fr1).trans hz) hz2 ha f2) ?_)
      rintro I2 J2 ⟨⟨g1, g2⟩, rfl⟩
      have e72 : I2 72 7 = nI c := by rw [g1 72 7 rfl, f1 72 7 rfl, h7]
      (first | refine rt_eq (q_X12_clause_0) ?_ | refine rt_eq (q_X12_clause_4) ?_ | refine rt_eq (q_X12_clause_49) ?_ | refine rt_eq (q_X12_clause_58) ?_ | refine rt_eq (q_X12_clause_46) ?_ | refine rt_eq (q_X12_clause_19) ?_ | refine rt_eq (q_X12_clause_70) ?_ | refine rt_eq (q_X12_clause_95) ?_ | refine rt_eq (q_X12_clause_97) ?_ | refine rt_eq (q_X12_clause_124) ?_ | refine rt_eq (q_X12_clause_181) ?_ | refine rt_eq (q_X12_clause_244) ?_ | refine rt_eq (q_X12_clause_278) ?_ | refine rt_eq (q_X12_clause_138 (by first | assumption | rfl | exact .inl rfl | exact .inr rfl)) ?_ | refine rt_eq (q_X12_clause_185) ?_ | refine rt_eq (q_X12_clause_259 (by first | assumption | rfl | exact .inl rfl | exact .inr rfl)) ?_ | refine rt_eq (q_X12_clause_285 (by first | assumption | rfl | exact .inl rfl | exact .inr rfl)) ?_ | refine rt_eq (q_X12_clause_150 (by first | assumption | rfl | exact .inl rfl | exact .inr rfl)) ?_ | refine rt_eq (q_X12_clause_190) ?_ | refine rt_eq (q_X12_clause_274 (by first | assumption | rfl | exact .inl rfl | exact .inr rfl)) ?_ | refine rt_eq (q_X12_clause_303) ?_ | refine rt_eq (q_X12_clause_162 (by first | assumption | rfl | exact .inl rfl | exact .inr rfl)) ?_ | refine rt_eq (q_X12_clause_200) ?_ | refine rt_eq (q_X12_clause_309) ?_ | refine rt_eq (q_X12_clause_177 (by first | assumption | rfl | exact .inl rfl | exact .inr rfl)) ?_ | refine rt_eq (q_X12_clause_222) ?_ | refine rt_eq (q_X12_clause_333) ?_)
      rw [e72, nI_add]
      generalize hI3 : up2 I2 72 7 (nI (c + 1)) = I3
      have fT : Fr (fTM ++ [(72, 8)]) I I3 := by
        rw [← hI3]
        exact fr_up (fr_tr (fr_mono f1 (by decide)) (fr_mono g1 (by decide))) rfl
      have e43 : I3 72 4 = nI (wE W z a) := by rw [← hI3, up2_k (by decide), g2]
      have e53 : I3 72 5 = nI 0 := by rw [← hI3, up2_k (by decide), g1 72 5 rfl, h01]
      have e73 : I3 72 7 = nI (c + 1) := by rw [← hI3, up2_s]
      clear hI3
      have fX : ∀ r, Fr (fTM ++ [(72, 8), (r, 0)]) I I3 := fun r x y q => fT x y (by
        rw [show fTM ++ [(72, 8), (r, 0)] = (fTM ++ [(72, 8)]) ++ [(r, 0)] by simp, inF_app, Bool.or_eq_false_iff] at q
        exact q.1)
      have fC : Fr fCM I I3 := fr_mono fT (by decide +kernel)
      have B3 := BM_cm B fC
      have z3 : I3 72 2 = nI z := (cm_2 fC).trans hz
      by_cases k0 : K = 0
      · subst k0
        have hlt : h 0 0 < 6 := by
          have : ¬ h 0 0 = 6 := fun e => nf (.inr (.inl ⟨rfl, e⟩))
          omega
        have em : hm W z 0 (wE W z a) = nq W z [(1, 30), (0, 9), (0, 9), (0, 9)] (wE W z a) := hm_q (by decide) rfl
        refine rt_f (by decide) (rt_gd (by decide) ?_)
        rw [show (nI 0).toNatClampNeg = 0 by decide, fT 75 0 rfl, r1 0 (by decide)]
        (first | refine rt_eq (q_X12_clause_0) ?_ | refine rt_eq (q_X12_clause_4) ?_ | refine rt_eq (q_X12_clause_49) ?_ | refine rt_eq (q_X12_clause_58) ?_ | refine rt_eq (q_X12_clause_46) ?_ | refine rt_eq (q_X12_clause_19) ?_ | refine rt_eq (q_X12_clause_70) ?_ | refine rt_eq (q_X12_clause_95) ?_ | refine rt_eq (q_X12_clause_97) ?_ | refine rt_eq (q_X12_clause_124) ?_ | refine rt_eq (q_X12_clause_181) ?_ | refine rt_eq (q_X12_clause_244) ?_ | refine rt_eq (q_X12_clause_278) ?_ | refine rt_eq (q_X12_clause_138 (by first | assumption | rfl | exact .inl rfl | exact .inr rfl)) ?_ | refine rt_eq (q_X12_clause_185) ?_ | refine rt_eq (q_X12_clause_259 (by first | assumption | rfl | exact .inl rfl | exact .inr rfl)) ?_ | refine rt_eq (q_X12_clause_285 (by first | assumption | rfl | exact .inl rfl | exact .inr rfl)) ?_ | refine rt_eq (q_X12_clause_150 (by first | assumption | rfl | exact .inl rfl | exact .inr rfl)) ?_ | refine rt_eq (q_X12_clause_190) ?_ | refine rt_eq (q_X12_clause_274 (by first | assumption | rfl | exact .inl rfl | exact .inr rfl)) ?_ | refine rt_eq (q_X12_clause_303) ?_ | refine rt_eq (q_X12_clause_162 (by first | assumption | rfl | exact .inl rfl | exact .inr rfl)) ?_ | refine rt_eq (q_X12_clause_200) ?_ | refine rt_eq (q_X12_clause_309) ?_ | refine rt_eq (q_X12_clause_177 (by first | assumption | rfl | exact .inl rfl | exact .inr rfl)) ?_ | refine rt_eq (q_X12_clause_222) ?_ | refine rt_eq (q_X12_clause_333) ?_)
        (first | refine rt_eq (q_X12_clause_0) ?_ | refine rt_eq (q_X12_clause_4) ?_ | refine rt_eq (q_X12_clause_49) ?_ | refine rt_eq (q_X12_clause_58) ?_ | refine rt_eq (q_X12_clause_46) ?_ | refine rt_eq (q_X12_clause_19) ?_ | refine rt_eq (q_X12_clause_70) ?_ | refine rt_eq (q_X12_clause_95) ?_ | refine rt_eq (q_X12_clause_97) ?_ | refine rt_eq (q_X12_clause_124) ?_ | refine rt_eq (q_X12_clause_181) ?_ | refine rt_eq (q_X12_clause_244) ?_ | refine rt_eq (q_X12_clause_278) ?_ | refine rt_eq (q_X12_clause_138 (by first | assumption | rfl | exact .inl rfl | exact .inr rfl)) ?_ | refine rt_eq (q_X12_clause_185) ?_ | refine rt_eq (q_X12_clause_259 (by first | assumption | rfl | exact .inl rfl | exact .inr rfl)) ?_ | refine rt_eq (q_X12_clause_285 (by first | assumption | rfl | exact .inl rfl | exact .inr rfl)) ?_ | refine rt_eq (q_X12_clause_150 (by first | assumption | rfl | exact .inl rfl | exact .inr rfl)) ?_ | refine rt_eq (q_X12_clause_190) ?_ | refine rt_eq (q_X12_clause_274 (by first | assumption | rfl | exact .inl rfl | exact .inr rfl)) ?_ | refine rt_eq (q_X12_clause_303) ?_ | refine rt_eq (q_X12_clause_162 (by first | assumption | rfl | exact .inl rfl | exact .inr rfl)) ?_ | refine rt_eq (q_X12_clause_200) ?_ | refine rt_eq (q_X12_clause_309) ?_ | refine rt_eq (q_X12_clause_177 (by first | assumption | rfl | exact .inl rfl | exact .inr rfl)) ?_ | refine rt_eq (q_X12_clause_222) ?_ | refine rt_eq (q_X12_clause_333) ?_)
        refine rt_t rfl ?_
        have i78 : ∀ j, inF fCM (78 + h 0 0) j = true := fun j => in_78 hlt
        have kr := ka_78 hlt
        (first | refine rt_eq (q_X12_clause_0) ?_ | refine rt_eq (q_X12_clause_4) ?_ | refine rt_eq (q_X12_clause_49) ?_ | refine rt_eq (q_X12_clause_58) ?_ | refine rt_eq (q_X12_clause_46) ?_ | refine rt_eq (q_X12_clause_19) ?_ | refine rt_eq (q_X12_clause_70) ?_ | refine rt_eq (q_X12_clause_95) ?_ | refine rt_eq (q_X12_clause_97) ?_ | refine rt_eq (q_X12_clause_124) ?_ | refine rt_eq (q_X12_clause_181) ?_ | refine rt_eq (q_X12_clause_244) ?_ | refine rt_eq (q_X12_clause_278) ?_ | refine rt_eq (q_X12_clause_138 (by first | assumption | rfl | exact .inl rfl | exact .inr rfl)) ?_ | refine rt_eq (q_X12_clause_185) ?_ | refine rt_eq (q_X12_clause_259 (by first | assumption | rfl | exact .inl rfl | exact .inr rfl)) ?_ | refine rt_eq (q_X12_clause_285 (by first | assumption | rfl | exact .inl rfl | exact .inr rfl)) ?_ | refine rt_eq (q_X12_clause_150 (by first | assumption | rfl | exact .inl rfl | exact .inr rfl)) ?_ | refine rt_eq (q_X12_clause_190) ?_ | refine rt_eq (q_X12_clause_274 (by first | assumption | rfl | exact .inl rfl | exact .inr rfl)) ?_ | refine rt_eq (q_X12_clause_303) ?_ | refine rt_eq (q_X12_clause_162 (by first | assumption | rfl | exact .inl rfl | exact .inr rfl)) ?_ | refine rt_eq (q_X12_clause_200) ?_ | refine rt_eq (q_X12_clause_309) ?_ | refine rt_eq (q_X12_clause_177 (by first | assumption | rfl | exact .inl rfl | exact .inr rfl)) ?_ | refine rt_eq (q_X12_clause_222) ?_ | refine rt_eq (q_X12_clause_333) ?_)
        refine rt_gd (inb_n hlt (by decide)) (rt_bnd (sp_number B3 B2 z3 hz2 he.2 e43 e53) ?_)
        rintro I4 J4 ⟨⟨p1, p2, p3, p4⟩, rfl⟩
        rw [nI_clamp (by omega)]
        have x4 : Fr (fTM ++ [(72, 8), (78 + h 0 0, 0)]) I I4 := fX_T (fX _) p1
        have y4 : Fr fCM I I4 := fX_C i78 x4
        by_cases n1 : nmF W z (wE W z a) (nI 1) (nI 30) = 0
        · obtain ⟨t4, t5⟩ := p3 n1
          rw [nq_t n1] at em
          rw [if_pos n1]
          (first | refine rt_eq (q_X12_clause_0) ?_ | refine rt_eq (q_X12_clause_4) ?_ | refine rt_eq (q_X12_clause_49) ?_ | refine rt_eq (q_X12_clause_58) ?_ | refine rt_eq (q_X12_clause_46) ?_ | refine rt_eq (q_X12_clause_19) ?_ | refine rt_eq (q_X12_clause_70) ?_ | refine rt_eq (q_X12_clause_95) ?_ | refine rt_eq (q_X12_clause_97) ?_ | refine rt_eq (q_X12_clause_124) ?_ | refine rt_eq (q_X12_clause_181) ?_ | refine rt_eq (q_X12_clause_244) ?_ | refine rt_eq (q_X12_clause_278) ?_ | refine rt_eq (q_X12_clause_138 (by first | assumption | rfl | exact .inl rfl | exact .inr rfl)) ?_ | refine rt_eq (q_X12_clause_185) ?_ | refine rt_eq (q_X12_clause_259 (by first | assumption | rfl | exact .inl rfl | exact .inr rfl)) ?_ | refine rt_eq (q_X12_clause_285 (by first | assumption | rfl | exact .inl rfl | exact .inr rfl)) ?_ | refine rt_eq (q_X12_clause_150 (by first | assumption | rfl | exact .inl rfl | exact .inr rfl)) ?_ | refine rt_eq (q_X12_clause_190) ?_ | refine rt_eq (q_X12_clause_274 (by first | assumption | rfl | exact .inl rfl | exact .inr rfl)) ?_ | refine rt_eq (q_X12_clause_303) ?_ | refine rt_eq (q_X12_clause_162 (by first | assumption | rfl | exact .inl rfl | exact .inr rfl)) ?_ | refine rt_eq (q_X12_clause_200) ?_ | refine rt_eq (q_X12_clause_309) ?_ | refine rt_eq (q_X12_clause_177 (by first | assumption | rfl | exact .inl rfl | exact .inr rfl)) ?_ | refine rt_eq (q_X12_clause_222) ?_ | refine rt_eq (q_X12_clause_333) ?_)
          refine rt_gd (by decide) (rt_gd (inb_n hlt (by decide)) ?_)
          rw [show (nI 0).toNatClampNeg = 0 by decide, nI_clamp (by omega)]
          generalize hI5 : up2 I4 (78 + h 0 0) 0 (nI (nmV W z (wE W z a)).2) = I5
          have x5 : Fr (fTM ++ [(72, 8), (78 + h 0 0, 0)]) I I5 := by
            rw [← hI5]
            exact fX_up x4
          have y5 : Fr fCM I I5 := fX_C i78 x5
          have e45 : I5 72 4 = nI (nmV W z (wE W z a)).1 := by rw [← hI5, up2_n (by omega), t4]
          have e55 : I5 72 5 = nI 0 := by rw [← hI5, up2_n (by omega), t5]
          have e75 : I5 72 7 = nI (c + 1) := by rw [← hI5, up2_n (by omega), p1 72 7 rfl, e73]
          have a0 : I5 (78 + h 0 0) 0 = nI (nmV W z (wE W z a)).2 := by rw [← hI5, up2_s]
          clear hI5
          refine rt_bnd (sp_readThread (BM_cm B y5) B2 ((cm_2 y5).trans hz) hz2 v1.2.1 e45 e55) ?_
          rintro I6 J6 ⟨⟨m1, m2, m3, m4⟩, rfl⟩
          have x6 : Fr (fTM ++ [(72, 8), (78 + h 0 0, 0)]) I I6 := fX_T x5 m1
          have y6 : Fr fCM I I6 := fX_C i78 x6
          have c6 : ∀ j, I6 (78 + h 0 0) j = I5 (78 + h 0 0) j := fun j => m1 _ j (by simp [fTM, inF]; omega)
          by_cases n2 : nmF W z (nmV W z (wE W z a)).1 (nI 0) (nI 9) = 0
          · obtain ⟨t4, t5⟩ := m3 n2
            rw [nq_t n2] at em
            rw [if_pos n2]
            (first | refine rt_eq (q_X12_clause_0) ?_ | refine rt_eq (q_X12_clause_4) ?_ | refine rt_eq (q_X12_clause_49) ?_ | refine rt_eq (q_X12_clause_58) ?_ | refine rt_eq (q_X12_clause_46) ?_ | refine rt_eq (q_X12_clause_19) ?_ | refine rt_eq (q_X12_clause_70) ?_ | refine rt_eq (q_X12_clause_95) ?_ | refine rt_eq (q_X12_clause_97) ?_ | refine rt_eq (q_X12_clause_124) ?_ | refine rt_eq (q_X12_clause_181) ?_ | refine rt_eq (q_X12_clause_244) ?_ | refine rt_eq (q_X12_clause_278) ?_ | refine rt_eq (q_X12_clause_138 (by first | assumption | rfl | exact .inl rfl | exact .inr rfl)) ?_ | refine rt_eq (q_X12_clause_185) ?_ | refine rt_eq (q_X12_clause_259 (by first | assumption | rfl | exact .inl rfl | exact .inr rfl)) ?_ | refine rt_eq (q_X12_clause_285 (by first | assumption | rfl | exact .inl rfl | exact .inr rfl)) ?_ | refine rt_eq (q_X12_clause_150 (by first | assumption | rfl | exact .inl rfl | exact .inr rfl)) ?_ | refine rt_eq (q_X12_clause_190) ?_ | refine rt_eq (q_X12_clause_274 (by first | assumption | rfl | exact .inl rfl | exact .inr rfl)) ?_ | refine rt_eq (q_X12_clause_303) ?_ | refine rt_eq (q_X12_clause_162 (by first | assumption | rfl | exact .inl rfl | exact .inr rfl)) ?_ | refine rt_eq (q_X12_clause_200) ?_ | refine rt_eq (q_X12_clause_309) ?_ | refine rt_eq (q_X12_clause_177 (by first | assumption | rfl | exact .inl rfl | exact .inr rfl)) ?_ | refine rt_eq (q_X12_clause_222) ?_ | refine rt_eq (q_X12_clause_333) ?_)
            refine rt_gd (by decide) (rt_gd (inb_n hlt (by decide)) ?_)
            rw [show (nI 1).toNatClampNeg = 1 by decide, nI_clamp (by omega)]
            generalize hI7 : up2 I6 (78 + h 0 0) 1 (nI (nmV W z (nmV W z (wE W z a)).1).2) = I7
            have x7 : Fr (fTM ++ [(72, 8), (78 + h 0 0, 0)]) I I7 := by
              rw [← hI7]
              exact fX_up x6
            have y7 : Fr fCM I I7 := fX_C i78 x7
            have e47 : I7 72 4 = nI (nmV W z (nmV W z (wE W z a)).1).1 := by rw [← hI7, up2_n (by omega), t4]
            have e57 : I7 72 5 = nI 0 := by rw [← hI7, up2_n (by omega), t5]
            have e77 : I7 72 7 = nI (c + 1) := by rw [← hI7, up2_n (by omega), m1 72 7 rfl, e75]
            have a1 : I7 (78 + h 0 0) 0 = nI (nmV W z (wE W z a)).2 ∧ I7 (78 + h 0 0) 1 = nI (nmV W z (nmV W z (wE W z a)).1).2 := by
              rw [← hI7, up2_k (by decide), up2_s, c6, a0]
              exact ⟨rfl, rfl⟩
            clear hI7
            refine rt_bnd (sp_readThread (BM_cm B y7) B2 ((cm_2 y7).trans hz) hz2 v2.2.1 e47 e57) ?_
            rintro I8 J8 ⟨⟨q1, q2, q3, q4⟩, rfl⟩
            have x8 : Fr (fTM ++ [(72, 8), (78 + h 0 0, 0)]) I I8 := fX_T x7 q1
            have y8 : Fr fCM I I8 := fX_C i78 x8
            have c8 : ∀ j, I8 (78 + h 0 0) j = I7 (78 + h 0 0) j := fun j => q1 _ j (by simp [fTM, inF]; omega)
            by_cases n3 : nmF W z (nmV W z (nmV W z (wE W z a)).1).1 (nI 0) (nI 9) = 0
            · obtain ⟨t4, t5⟩ := q3 n3
              rw [nq_t n3] at em
              rw [if_pos n3]
              (first | refine rt_eq (q_X12_clause_0) ?_ | refine rt_eq (q_X12_clause_4) ?_ | refine rt_eq (q_X12_clause_49) ?_ | refine rt_eq (q_X12_clause_58) ?_ | refine rt_eq (q_X12_clause_46) ?_ | refine rt_eq (q_X12_clause_19) ?_ | refine rt_eq (q_X12_clause_70) ?_ | refine rt_eq (q_X12_clause_95) ?_ | refine rt_eq (q_X12_clause_97) ?_ | refine rt_eq (q_X12_clause_124) ?_ | refine rt_eq (q_X12_clause_181) ?_ | refine rt_eq (q_X12_clause_244) ?_ | refine rt_eq (q_X12_clause_278) ?_ | refine rt_eq (q_X12_clause_138 (by first | assumption | rfl | exact .inl rfl | exact .inr rfl)) ?_ | refine rt_eq (q_X12_clause_185) ?_ | refine rt_eq (q_X12_clause_259 (by first | assumption | rfl | exact .inl rfl | exact .inr rfl)) ?_ | refine rt_eq (q_X12_clause_285 (by first | assumption | rfl | exact .inl rfl | exact .inr rfl)) ?_ | refine rt_eq (q_X12_clause_150 (by first | assumption | rfl | exact .inl rfl | exact .inr rfl)) ?_ | refine rt_eq (q_X12_clause_190) ?_ | refine rt_eq (q_X12_clause_274 (by first | assumption | rfl | exact .inl rfl | exact .inr rfl)) ?_ | refine rt_eq (q_X12_clause_303) ?_ | refine rt_eq (q_X12_clause_162 (by first | assumption | rfl | exact .inl rfl | exact .inr rfl)) ?_ | refine rt_eq (q_X12_clause_200) ?_ | refine rt_eq (q_X12_clause_309) ?_ | refine rt_eq (q_X12_clause_177 (by first | assumption | rfl | exact .inl rfl | exact .inr rfl)) ?_ | refine rt_eq (q_X12_clause_222) ?_ | refine rt_eq (q_X12_clause_333) ?_)
              refine rt_gd (by decide) (rt_gd (inb_n hlt (by decide)) ?_)
              rw [show (nI 2).toNatClampNeg = 2 by decide, nI_clamp (by omega)]
              generalize hI9 : up2 I8 (78 + h 0 0) 2 (nI (nmV W z (nmV W z (nmV W z (wE W z a)).1).1).2) = I9
              have x9 : Fr (fTM ++ [(72, 8), (78 + h 0 0, 0)]) I I9 := by
                rw [← hI9]
                exact fX_up x8
              have y9 : Fr fCM I I9 := fX_C i78 x9
              have e49 : I9 72 4 = nI (nmV W z (nmV W z (nmV W z (wE W z a)).1).1).1 := by rw [← hI9, up2_n (by omega), t4]
              have e59 : I9 72 5 = nI 0 := by rw [← hI9, up2_n (by omega), t5]
              have e79 : I9 72 7 = nI (c + 1) := by rw [← hI9, up2_n (by omega), q1 72 7 rfl, e77]
              have a2 : I9 (78 + h 0 0) 0 = nI (nmV W z (wE W z a)).2 ∧ I9 (78 + h 0 0) 1 = nI (nmV W z (nmV W z (wE W z a)).1).2 ∧ I9 (78 + h 0 0) 2 = nI (nmV W z (nmV W z (nmV W z (wE W z a)).1).1).2 := by
                rw [← hI9, up2_k (by decide), up2_k (by decide), up2_s, c8, c8, a1.1, a1.2]
                exact ⟨rfl, rfl, rfl⟩
              clear hI9
              refine rt_bnd (sp_number (BM_cm B y9) B2 ((cm_2 y9).trans hz) hz2 v3.2.1 e49 e59) ?_
              rintro IA JA ⟨⟨s1, s2, s3, s4⟩, rfl⟩
              have xA : Fr (fTM ++ [(72, 8), (78 + h 0 0, 0)]) I IA := fX_T x9 s1
              have yA : Fr fCM I IA := fX_C i78 xA
              have cA : ∀ j, IA (78 + h 0 0) j = I9 (78 + h 0 0) j := fun j => s1 _ j (by simp [fTM, inF]; omega)
              by_cases n4 : nmF W z (nmV W z (nmV W z (nmV W z (wE W z a)).1).1).1 (nI 0) (nI 9) = 0
              · obtain ⟨t4, t5⟩ := s3 n4
                rw [nq_t n4] at em
                rw [if_pos n4]
                (first | refine rt_eq (q_X12_clause_0) ?_ | refine rt_eq (q_X12_clause_4) ?_ | refine rt_eq (q_X12_clause_49) ?_ | refine rt_eq (q_X12_clause_58) ?_ | refine rt_eq (q_X12_clause_46) ?_ | refine rt_eq (q_X12_clause_19) ?_ | refine rt_eq (q_X12_clause_70) ?_ | refine rt_eq (q_X12_clause_95) ?_ | refine rt_eq (q_X12_clause_97) ?_ | refine rt_eq (q_X12_clause_124) ?_ | refine rt_eq (q_X12_clause_181) ?_ | refine rt_eq (q_X12_clause_244) ?_ | refine rt_eq (q_X12_clause_278) ?_ | refine rt_eq (q_X12_clause_138 (by first | assumption | rfl | exact .inl rfl | exact .inr rfl)) ?_ | refine rt_eq (q_X12_clause_185) ?_ | refine rt_eq (q_X12_clause_259 (by first | assumption | rfl | exact .inl rfl | exact .inr rfl)) ?_ | refine rt_eq (q_X12_clause_285 (by first | assumption | rfl | exact .inl rfl | exact .inr rfl)) ?_ | refine rt_eq (q_X12_clause_150 (by first | assumption | rfl | exact .inl rfl | exact .inr rfl)) ?_ | refine rt_eq (q_X12_clause_190) ?_ | refine rt_eq (q_X12_clause_274 (by first | assumption | rfl | exact .inl rfl | exact .inr rfl)) ?_ | refine rt_eq (q_X12_clause_303) ?_ | refine rt_eq (q_X12_clause_162 (by first | assumption | rfl | exact .inl rfl | exact .inr rfl)) ?_ | refine rt_eq (q_X12_clause_200) ?_ | refine rt_eq (q_X12_clause_309) ?_ | refine rt_eq (q_X12_clause_177 (by first | assumption | rfl | exact .inl rfl | exact .inr rfl)) ?_ | refine rt_eq (q_X12_clause_222) ?_ | refine rt_eq (q_X12_clause_333) ?_)
                refine rt_gd (by decide) ?_
                rw [show (nI 3).toNatClampNeg = 3 by decide]
                refine fin _ _ _ _ _ _ em (fX_C i78 (fX_up xA)) v4.2.1 ?_ ?_ ?_ ?_
                · rw [up2_n (by omega), t4]
                · rw [up2_n (by omega), t5]
                · rw [up2_n (by omega), s1 72 7 rfl, e79]
                · intro I' j1 j2
                  have cell : ∀ x y, ¬ x = 72 → ¬ x = 75 → ¬ x = 78 + h 0 0 → I' x y = I x y := fun x y g1 g2 g3 => by rw [j2 x y g1 g2, up2_n g3, oldX xA g3 g1]
                  have rowN : ∀ y, I' (78 + h 0 0) y = (up2 IA (78 + h 0 0) 3 (nI (nmV W z (nmV W z (nmV W z (nmV W z (wE W z a)).1).1).1).2)) (78 + h 0 0) y := fun y => j2 _ y (by omega) (by omega)
                  have o75 : ∀ y, (up2 IA (78 + h 0 0) 3 (nI (nmV W z (nmV W z (nmV W z (nmV W z (wE W z a)).1).1).1).2)) 75 y = I 75 y := fun y => by rw [up2_n (by omega), oldX xA (by omega) (by decide)]
                  unfold hAdd
                  rw [if_pos rfl]
                  refine ⟨fun k hk => ?_, fun p hp' => ?_, fun e he' => ?_, fun f hf' => ?_⟩
                  · rw [j1, o75, hp_0]
                    by_cases e : k = 0
                    · rw [if_pos ⟨e, by decide⟩, if_pos e, e, r1 0 (by decide), nI_add]
                    · rw [if_neg (fun q => e q.1), if_neg e, r1 k hk]
                  · rw [hp_0, if_pos rfl] at hp'
                    rw [hp_1, hp_2, hp_3, hp_4]
                    by_cases e : p = h 0 0
                    · subst e
                      rw [if_pos rfl, if_pos rfl, if_pos rfl, if_pos rfl, rowN, rowN, rowN, rowN, up2_k (by decide), up2_k (by decide), up2_k (by decide), up2_s, cA, cA, cA]
                      exact ⟨a2.1, a2.2.1, a2.2.2, rfl⟩
                    · rw [if_neg e, if_neg e, if_neg e, if_neg e, cell _ 0 (by omega) (by omega) (by omega), cell _ 1 (by omega) (by omega) (by omega), cell _ 2 (by omega) (by omega) (by omega), cell _ 3 (by omega) (by omega) (by omega)]
                      exact r2 p (by omega)
                  · rw [hp_0, if_neg (by decide)] at he'
                    rw [hp_5 (by decide), hp_5 (by decide), cell _ 0 (by omega) (by omega) (by omega), cell _ 1 (by omega) (by omega) (by omega)]
                    exact r3 e he'
                  · rw [hp_0, if_neg (by decide)] at hf'
                    rw [hp_5 (by decide), hp_5 (by decide), cell _ 0 (by omega) (by omega) (by omega), cell _ 1 (by omega) (by omega) (by omega)]
                    exact r4 f hf'
              · obtain ⟨t5, t6⟩ := s4 n4
                rw [nq_f n4] at em
                rw [if_neg n4]
                refine rt_mono (fh_177 (z := z) w2 hlt (by rw [t5]; exact nI_ne0 (by omega) nmF_lt) s2) ?_
                rintro IB JB ⟨P, rfl⟩
                exact ⟨flt _ _ IA IB em n4 yA t5 t6 P, rfl⟩
            · obtain ⟨t5, t6⟩ := q4 n3
              rw [nq_f n3] at em
              rw [if_neg n3]
              refine rt_mono (fh_162 (z := z) w2 hlt (by rw [t5]; exact nI_ne0 (by omega) nmF_lt) q2) ?_
              rintro IB JB ⟨P, rfl⟩
              exact ⟨flt _ _ I8 IB em n3 y8 t5 t6 P, rfl⟩
          · obtain ⟨t5, t6⟩ := m4 n2
            rw [nq_f n2] at em
            rw [if_neg n2]
            refine rt_mono (fh_150 (z := z) w2 hlt (by rw [t5]; exact nI_ne0 (by omega) nmF_lt) m2) ?_
            rintro IB JB ⟨P, rfl⟩
            exact ⟨flt _ _ I6 IB em n2 y6 t5 t6 P, rfl⟩
        · obtain ⟨t5, t6⟩ := p4 n1
          rw [nq_f n1] at em
          rw [if_neg n1]
          refine rt_mono (fh_138 (z := z) w2 hlt (by rw [t5]; exact nI_ne0 (by omega) nmF_lt) p2) ?_
          rintro IB JB ⟨P, rfl⟩
          exact ⟨flt _ _ I4 IB em n1 y4 t5 t6 P, rfl⟩
      · by_cases k1 : K = 1
        · subst k1
          have hlt : h 0 1 < 4 := by
            have : ¬ h 0 1 = 4 := fun e => nf (.inr (.inr (.inl ⟨rfl, e⟩)))
            omega
          have ems : nms 1 = [(0, 9), (0, 9)] := rfl
          refine rt_f (by decide) (rt_gd (by decide) ?_)
          rw [show (nI 1).toNatClampNeg = 1 by decide, fT 75 1 rfl, r1 1 (by decide)]
          (first | refine rt_eq (q_X12_clause_0) ?_ | refine rt_eq (q_X12_clause_4) ?_ | refine rt_eq (q_X12_clause_49) ?_ | refine rt_eq (q_X12_clause_58) ?_ | refine rt_eq (q_X12_clause_46) ?_ | refine rt_eq (q_X12_clause_19) ?_ | refine rt_eq (q_X12_clause_70) ?_ | refine rt_eq (q_X12_clause_95) ?_ | refine rt_eq (q_X12_clause_97) ?_ | refine rt_eq (q_X12_clause_124) ?_ | refine rt_eq (q_X12_clause_181) ?_ | refine rt_eq (q_X12_clause_244) ?_ | refine rt_eq (q_X12_clause_278) ?_ | refine rt_eq (q_X12_clause_138 (by first | assumption | rfl | exact .inl rfl | exact .inr rfl)) ?_ | refine rt_eq (q_X12_clause_185) ?_ | refine rt_eq (q_X12_clause_259 (by first | assumption | rfl | exact .inl rfl | exact .inr rfl)) ?_ | refine rt_eq (q_X12_clause_285 (by first | assumption | rfl | exact .inl rfl | exact .inr rfl)) ?_ | refine rt_eq (q_X12_clause_150 (by first | assumption | rfl | exact .inl rfl | exact .inr rfl)) ?_ | refine rt_eq (q_X12_clause_190) ?_ | refine rt_eq (q_X12_clause_274 (by first | assumption | rfl | exact .inl rfl | exact .inr rfl)) ?_ | refine rt_eq (q_X12_clause_303) ?_ | refine rt_eq (q_X12_clause_162 (by first | assumption | rfl | exact .inl rfl | exact .inr rfl)) ?_ | refine rt_eq (q_X12_clause_200) ?_ | refine rt_eq (q_X12_clause_309) ?_ | refine rt_eq (q_X12_clause_177 (by first | assumption | rfl | exact .inl rfl | exact .inr rfl)) ?_ | refine rt_eq (q_X12_clause_222) ?_ | refine rt_eq (q_X12_clause_333) ?_)
          (first | refine rt_eq (q_X12_clause_0) ?_ | refine rt_eq (q_X12_clause_4) ?_ | refine rt_eq (q_X12_clause_49) ?_ | refine rt_eq (q_X12_clause_58) ?_ | refine rt_eq (q_X12_clause_46) ?_ | refine rt_eq (q_X12_clause_19) ?_ | refine rt_eq (q_X12_clause_70) ?_ | refine rt_eq (q_X12_clause_95) ?_ | refine rt_eq (q_X12_clause_97) ?_ | refine rt_eq (q_X12_clause_124) ?_ | refine rt_eq (q_X12_clause_181) ?_ | refine rt_eq (q_X12_clause_244) ?_ | refine rt_eq (q_X12_clause_278) ?_ | refine rt_eq (q_X12_clause_138 (by first | assumption | rfl | exact .inl rfl | exact .inr rfl)) ?_ | refine rt_eq (q_X12_clause_185) ?_ | refine rt_eq (q_X12_clause_259 (by first | assumption | rfl | exact .inl rfl | exact .inr rfl)) ?_ | refine rt_eq (q_X12_clause_285 (by first | assumption | rfl | exact .inl rfl | exact .inr rfl)) ?_ | refine rt_eq (q_X12_clause_150 (by first | assumption | rfl | exact .inl rfl | exact .inr rfl)) ?_ | refine rt_eq (q_X12_clause_190) ?_ | refine rt_eq (q_X12_clause_274 (by first | assumption | rfl | exact .inl rfl | exact .inr rfl)) ?_ | refine rt_eq (q_X12_clause_303) ?_ | refine rt_eq (q_X12_clause_162 (by first | assumption | rfl | exact .inl rfl | exact .inr rfl)) ?_ | refine rt_eq (q_X12_clause_200) ?_ | refine rt_eq (q_X12_clause_309) ?_ | refine rt_eq (q_X12_clause_177 (by first | assumption | rfl | exact .inl rfl | exact .inr rfl)) ?_ | refine rt_eq (q_X12_clause_222) ?_ | refine rt_eq (q_X12_clause_333) ?_)
          refine rt_f (by decide) (rt_t rfl ?_)
          have i92 : ∀ j, inF fCM (92 + h 0 1) j = true := fun j => in_92 hlt
          have kr := ka_92 hlt
          (first | refine rt_eq (q_X12_clause_0) ?_ | refine rt_eq (q_X12_clause_4) ?_ | refine rt_eq (q_X12_clause_49) ?_ | refine rt_eq (q_X12_clause_58) ?_ | refine rt_eq (q_X12_clause_46) ?_ | refine rt_eq (q_X12_clause_19) ?_ | refine rt_eq (q_X12_clause_70) ?_ | refine rt_eq (q_X12_clause_95) ?_ | refine rt_eq (q_X12_clause_97) ?_ | refine rt_eq (q_X12_clause_124) ?_ | refine rt_eq (q_X12_clause_181) ?_ | refine rt_eq (q_X12_clause_244) ?_ | refine rt_eq (q_X12_clause_278) ?_ | refine rt_eq (q_X12_clause_138 (by first | assumption | rfl | exact .inl rfl | exact .inr rfl)) ?_ | refine rt_eq (q_X12_clause_185) ?_ | refine rt_eq (q_X12_clause_259 (by first | assumption | rfl | exact .inl rfl | exact .inr rfl)) ?_ | refine rt_eq (q_X12_clause_285 (by first | assumption | rfl | exact .inl rfl | exact .inr rfl)) ?_ | refine rt_eq (q_X12_clause_150 (by first | assumption | rfl | exact .inl rfl | exact .inr rfl)) ?_ | refine rt_eq (q_X12_clause_190) ?_ | refine rt_eq (q_X12_clause_274 (by first | assumption | rfl | exact .inl rfl | exact .inr rfl)) ?_ | refine rt_eq (q_X12_clause_303) ?_ | refine rt_eq (q_X12_clause_162 (by first | assumption | rfl | exact .inl rfl | exact .inr rfl)) ?_ | refine rt_eq (q_X12_clause_200) ?_ | refine rt_eq (q_X12_clause_309) ?_ | refine rt_eq (q_X12_clause_177 (by first | assumption | rfl | exact .inl rfl | exact .inr rfl)) ?_ | refine rt_eq (q_X12_clause_222) ?_ | refine rt_eq (q_X12_clause_333) ?_)
          refine rt_bnd (sp_readThread B3 B2 z3 hz2 he.2 e43 e53) ?_
          rintro I4 J4 ⟨⟨p1, p2, p3, p4⟩, rfl⟩
          have x4 : Fr (fTM ++ [(72, 8), (92 + h 0 1, 0)]) I I4 := fX_T (fX _) p1
          have y4 : Fr fCM I I4 := fX_C i92 x4
          by_cases n1 : nmF W z (wE W z a) (nI 0) (nI 9) = 0
          · obtain ⟨t4, t5⟩ := p3 n1
            have vs := sk_le (W := W) v1.2.1
            rw [if_pos n1]
            (first | refine rt_eq (q_X12_clause_0) ?_ | refine rt_eq (q_X12_clause_4) ?_ | refine rt_eq (q_X12_clause_49) ?_ | refine rt_eq (q_X12_clause_58) ?_ | refine rt_eq (q_X12_clause_46) ?_ | refine rt_eq (q_X12_clause_19) ?_ | refine rt_eq (q_X12_clause_70) ?_ | refine rt_eq (q_X12_clause_95) ?_ | refine rt_eq (q_X12_clause_97) ?_ | refine rt_eq (q_X12_clause_124) ?_ | refine rt_eq (q_X12_clause_181) ?_ | refine rt_eq (q_X12_clause_244) ?_ | refine rt_eq (q_X12_clause_278) ?_ | refine rt_eq (q_X12_clause_138 (by first | assumption | rfl | exact .inl rfl | exact .inr rfl)) ?_ | refine rt_eq (q_X12_clause_185) ?_ | refine rt_eq (q_X12_clause_259 (by first | assumption | rfl | exact .inl rfl | exact .inr rfl)) ?_ | refine rt_eq (q_X12_clause_285 (by first | assumption | rfl | exact .inl rfl | exact .inr rfl)) ?_ | refine rt_eq (q_X12_clause_150 (by first | assumption | rfl | exact .inl rfl | exact .inr rfl)) ?_ | refine rt_eq (q_X12_clause_190) ?_ | refine rt_eq (q_X12_clause_274 (by first | assumption | rfl | exact .inl rfl | exact .inr rfl)) ?_ | refine rt_eq (q_X12_clause_303) ?_ | refine rt_eq (q_X12_clause_162 (by first | assumption | rfl | exact .inl rfl | exact .inr rfl)) ?_ | refine rt_eq (q_X12_clause_200) ?_ | refine rt_eq (q_X12_clause_309) ?_ | refine rt_eq (q_X12_clause_177 (by first | assumption | rfl | exact .inl rfl | exact .inr rfl)) ?_ | refine rt_eq (q_X12_clause_222) ?_ | refine rt_eq (q_X12_clause_333) ?_)
            refine rt_bnd (sp_blanks (BM_cm B y4) B2 ((cm_2 y4).trans hz) hz2 v1.2.1 t4) ?_
            rintro I5 J5 ⟨⟨l1, l2⟩, rfl⟩
            have x5 : Fr (fTM ++ [(72, 8), (92 + h 0 1, 0)]) I I5 := fX_T x4 (fr_mono l1 (by decide))
            have y5 : Fr fCM I I5 := fX_C i92 x5
            (first | refine rt_eq (q_X12_clause_0) ?_ | refine rt_eq (q_X12_clause_4) ?_ | refine rt_eq (q_X12_clause_49) ?_ | refine rt_eq (q_X12_clause_58) ?_ | refine rt_eq (q_X12_clause_46) ?_ | refine rt_eq (q_X12_clause_19) ?_ | refine rt_eq (q_X12_clause_70) ?_ | refine rt_eq (q_X12_clause_95) ?_ | refine rt_eq (q_X12_clause_97) ?_ | refine rt_eq (q_X12_clause_124) ?_ | refine rt_eq (q_X12_clause_181) ?_ | refine rt_eq (q_X12_clause_244) ?_ | refine rt_eq (q_X12_clause_278) ?_ | refine rt_eq (q_X12_clause_138 (by first | assumption | rfl | exact .inl rfl | exact .inr rfl)) ?_ | refine rt_eq (q_X12_clause_185) ?_ | refine rt_eq (q_X12_clause_259 (by first | assumption | rfl | exact .inl rfl | exact .inr rfl)) ?_ | refine rt_eq (q_X12_clause_285 (by first | assumption | rfl | exact .inl rfl | exact .inr rfl)) ?_ | refine rt_eq (q_X12_clause_150 (by first | assumption | rfl | exact .inl rfl | exact .inr rfl)) ?_ | refine rt_eq (q_X12_clause_190) ?_ | refine rt_eq (q_X12_clause_274 (by first | assumption | rfl | exact .inl rfl | exact .inr rfl)) ?_ | refine rt_eq (q_X12_clause_303) ?_ | refine rt_eq (q_X12_clause_162 (by first | assumption | rfl | exact .inl rfl | exact .inr rfl)) ?_ | refine rt_eq (q_X12_clause_200) ?_ | refine rt_eq (q_X12_clause_309) ?_ | refine rt_eq (q_X12_clause_177 (by first | assumption | rfl | exact .inl rfl | exact .inr rfl)) ?_ | refine rt_eq (q_X12_clause_222) ?_ | refine rt_eq (q_X12_clause_333) ?_)
            rw [l2]
            have rt := sp_readThread (d := d + 1) (L := L) (X := X) (J := J5) (BM_cm B y5) B2 ((cm_2 y5).trans hz) hz2 vs.2 l2 ((l1 72 5 rfl).trans t5)
            rw [nmF_sk v1.2.1, nmV_sk v1.2.1, sk_sk v1.2.1] at rt
            refine rt_bnd rt ?_
            rintro I6 J6 ⟨⟨m1, m2, m3, m4⟩, rfl⟩
            have x6 : Fr (fTM ++ [(72, 8), (92 + h 0 1, 0)]) I I6 := fX_T x5 m1
            have y6 : Fr fCM I I6 := fX_C i92 x6
            by_cases n2 : nmF W z (nmV W z (wE W z a)).1 (nI 0) (nI 9) = 0
            · obtain ⟨q4, q5⟩ := m3 n2
              have b1 := (nm_in he.2 (by decide) (by decide) n1).2.1
              have b2 := (nm_in v1.2.1 (by decide) (by decide) n2).2.1
              have en : nq W z (nms 1) (wE W z a) = (0, 0, (nmV W z (nmV W z (wE W z a)).1).1) := by
                rw [ems, nq_t n1, nq_t n2]
                rfl
              rw [if_pos n2]
              (first | refine rt_eq (q_X12_clause_0) ?_ | refine rt_eq (q_X12_clause_4) ?_ | refine rt_eq (q_X12_clause_49) ?_ | refine rt_eq (q_X12_clause_58) ?_ | refine rt_eq (q_X12_clause_46) ?_ | refine rt_eq (q_X12_clause_19) ?_ | refine rt_eq (q_X12_clause_70) ?_ | refine rt_eq (q_X12_clause_95) ?_ | refine rt_eq (q_X12_clause_97) ?_ | refine rt_eq (q_X12_clause_124) ?_ | refine rt_eq (q_X12_clause_181) ?_ | refine rt_eq (q_X12_clause_244) ?_ | refine rt_eq (q_X12_clause_278) ?_ | refine rt_eq (q_X12_clause_138 (by first | assumption | rfl | exact .inl rfl | exact .inr rfl)) ?_ | refine rt_eq (q_X12_clause_185) ?_ | refine rt_eq (q_X12_clause_259 (by first | assumption | rfl | exact .inl rfl | exact .inr rfl)) ?_ | refine rt_eq (q_X12_clause_285 (by first | assumption | rfl | exact .inl rfl | exact .inr rfl)) ?_ | refine rt_eq (q_X12_clause_150 (by first | assumption | rfl | exact .inl rfl | exact .inr rfl)) ?_ | refine rt_eq (q_X12_clause_190) ?_ | refine rt_eq (q_X12_clause_274 (by first | assumption | rfl | exact .inl rfl | exact .inr rfl)) ?_ | refine rt_eq (q_X12_clause_303) ?_ | refine rt_eq (q_X12_clause_162 (by first | assumption | rfl | exact .inl rfl | exact .inr rfl)) ?_ | refine rt_eq (q_X12_clause_200) ?_ | refine rt_eq (q_X12_clause_309) ?_ | refine rt_eq (q_X12_clause_177 (by first | assumption | rfl | exact .inl rfl | exact .inr rfl)) ?_ | refine rt_eq (q_X12_clause_222) ?_ | refine rt_eq (q_X12_clause_333) ?_)
              refine rt_t q5 ?_
              by_cases n3 : nV W z (wE W z a) = nV W z (nP W z (wE W z a))
              · have em : hm W z 1 (wE W z a) = (2, sk W z (nP W z (wE W z a)), 0) := by
                  unfold hm
                  rw [en, if_neg (not_not_intro rfl), if_pos ⟨rfl, n3⟩]
                refine rt_t (congrArg nI n3) (rt_be (sp_wrong.trans (if_pos q5)) ?_)
                have z5 : (up2 (up2 I6 72 5 (nI 2)) 72 6 (nI (sk W z (nmV W z (wE W z a)).1))) 72 5 = nI 2 := by rw [up2_k (by decide), up2_s]
                have z6 : (up2 (up2 I6 72 5 (nI 2)) 72 6 (nI (sk W z (nmV W z (wE W z a)).1))) 72 6 = nI (sk W z (nmV W z (wE W z a)).1) := up2_s
                refine rt_mono (fh_222 (z := z) w2 hlt (by rw [z5]; decide) ⟨_, v2.2.1, ?_⟩) ?_
                · rw [up2_k (by decide), up2_k (by decide), q4]
                rintro IB JB ⟨P, rfl⟩
                exact ⟨flt _ _ _ IB em (by decide) (fr_up (fr_up y6 (by decide +kernel)) (by decide +kernel)) z5 z6 P, rfl⟩
              · have em : hm W z 1 (wE W z a) = (0, 0, (nmV W z (nmV W z (wE W z a)).1).1) := by
                  unfold hm
                  rw [en, if_neg (not_not_intro rfl), if_neg (fun q => n3 q.2)]
                refine rt_f (by rw [nI_eq (by omega) (by omega)]; exact n3) ?_
                (first | refine rt_eq (q_X12_clause_0) ?_ | refine rt_eq (q_X12_clause_4) ?_ | refine rt_eq (q_X12_clause_49) ?_ | refine rt_eq (q_X12_clause_58) ?_ | refine rt_eq (q_X12_clause_46) ?_ | refine rt_eq (q_X12_clause_19) ?_ | refine rt_eq (q_X12_clause_70) ?_ | refine rt_eq (q_X12_clause_95) ?_ | refine rt_eq (q_X12_clause_97) ?_ | refine rt_eq (q_X12_clause_124) ?_ | refine rt_eq (q_X12_clause_181) ?_ | refine rt_eq (q_X12_clause_244) ?_ | refine rt_eq (q_X12_clause_278) ?_ | refine rt_eq (q_X12_clause_138 (by first | assumption | rfl | exact .inl rfl | exact .inr rfl)) ?_ | refine rt_eq (q_X12_clause_185) ?_ | refine rt_eq (q_X12_clause_259 (by first | assumption | rfl | exact .inl rfl | exact .inr rfl)) ?_ | refine rt_eq (q_X12_clause_285 (by first | assumption | rfl | exact .inl rfl | exact .inr rfl)) ?_ | refine rt_eq (q_X12_clause_150 (by first | assumption | rfl | exact .inl rfl | exact .inr rfl)) ?_ | refine rt_eq (q_X12_clause_190) ?_ | refine rt_eq (q_X12_clause_274 (by first | assumption | rfl | exact .inl rfl | exact .inr rfl)) ?_ | refine rt_eq (q_X12_clause_303) ?_ | refine rt_eq (q_X12_clause_162 (by first | assumption | rfl | exact .inl rfl | exact .inr rfl)) ?_ | refine rt_eq (q_X12_clause_200) ?_ | refine rt_eq (q_X12_clause_309) ?_ | refine rt_eq (q_X12_clause_177 (by first | assumption | rfl | exact .inl rfl | exact .inr rfl)) ?_ | refine rt_eq (q_X12_clause_222) ?_ | refine rt_eq (q_X12_clause_333) ?_)
                refine rt_gd (inb_n hlt (by decide)) ?_
                rw [nI_clamp (by omega)]
                have xA : Fr (fTM ++ [(72, 8), (92 + h 0 1, 0)]) I (up2 (up2 I6 (92 + h 0 1) 0 (nI (nmV W z (wE W z a)).2)) (92 + h 0 1) 1 (nI (nmV W z (nmV W z (wE W z a)).1).2)) := fX_up (fX_up x6)
                have a0 : (up2 (up2 I6 (92 + h 0 1) 0 (nI (nmV W z (wE W z a)).2)) (92 + h 0 1) 1 (nI (nmV W z (nmV W z (wE W z a)).1).2)) (92 + h 0 1) 0 = nI (nmV W z (wE W z a)).2 := by rw [up2_k (by decide), up2_s]
                have a1 : (up2 (up2 I6 (92 + h 0 1) 0 (nI (nmV W z (wE W z a)).2)) (92 + h 0 1) 1 (nI (nmV W z (nmV W z (wE W z a)).1).2)) (92 + h 0 1) 1 = nI (nmV W z (nmV W z (wE W z a)).1).2 := up2_s
                have e4 : (up2 (up2 I6 (92 + h 0 1) 0 (nI (nmV W z (wE W z a)).2)) (92 + h 0 1) 1 (nI (nmV W z (nmV W z (wE W z a)).1).2)) 72 4 = nI (nmV W z (nmV W z (wE W z a)).1).1 := by rw [up2_n (by omega), up2_n (by omega), q4]
                have e5 : (up2 (up2 I6 (92 + h 0 1) 0 (nI (nmV W z (wE W z a)).2)) (92 + h 0 1) 1 (nI (nmV W z (nmV W z (wE W z a)).1).2)) 72 5 = nI 0 := by rw [up2_n (by omega), up2_n (by omega), q5]
                have e7 : (up2 (up2 I6 (92 + h 0 1) 0 (nI (nmV W z (wE W z a)).2)) (92 + h 0 1) 1 (nI (nmV W z (nmV W z (wE W z a)).1).2)) 72 7 = nI (c + 1) := by rw [up2_n (by omega), up2_n (by omega), m1 72 7 rfl, l1 72 7 rfl, p1 72 7 rfl, e73]
                generalize up2 (up2 I6 (92 + h 0 1) 0 (nI (nmV W z (wE W z a)).2)) (92 + h 0 1) 1 (nI (nmV W z (nmV W z (wE W z a)).1).2) = IA at xA a0 a1 e4 e5 e7 ⊢
                refine fin _ _ _ _ _ _ em (fX_C i92 xA) v2.2.1 e4 e5 e7 ?_
                intro I' j1 j2
                have cell : ∀ x y, ¬ x = 72 → ¬ x = 75 → ¬ x = 92 + h 0 1 → I' x y = I x y := fun x y g1 g2 g3 => by rw [j2 x y g1 g2, oldX xA g3 g1]
                have o75 : ∀ y, IA 75 y = I 75 y := fun y => oldX xA (by omega) (by decide)
                unfold hAdd
                rw [if_neg (by decide), if_pos rfl]
                refine ⟨fun k hk => ?_, fun p hp' => ?_, fun e he' => ?_, fun f hf' => ?_⟩
                · rw [j1, o75, hc_0]
                  by_cases e : k = 1
                  · rw [if_pos ⟨e, by decide⟩, if_pos e, e, r1 1 (by decide), nI_add]
                  · rw [if_neg (fun q => e q.1), if_neg e, r1 k hk]
                · rw [hc_0, if_neg (by decide)] at hp'
                  rw [hc_i (by decide) (by decide) (by decide), hc_i (by decide) (by decide) (by decide), hc_i (by decide) (by decide) (by decide), hc_i (by decide) (by decide) (by decide), cell _ 0 (by omega) (by omega) (by omega), cell _ 1 (by omega) (by omega) (by omega), cell _ 2 (by omega) (by omega) (by omega), cell _ 3 (by omega) (by omega) (by omega)]
                  exact r2 p hp'
                · rw [hc_0, if_pos rfl] at he'
                  rw [hc_5, hc_6]
                  by_cases e' : e = h 0 1
                  · subst e'
                    rw [if_pos rfl, if_pos rfl, j2 _ 0 (by omega) (by omega), j2 _ 1 (by omega) (by omega)]
                    exact ⟨a0, a1⟩
                  · rw [if_neg e', if_neg e', cell _ 0 (by omega) (by omega) (by omega), cell _ 1 (by omega) (by omega) (by omega)]
                    exact r3 e (by omega)
                · rw [hc_0, if_neg (by decide)] at hf'
                  rw [hc_i (by decide) (by decide) (by decide), hc_i (by decide) (by decide) (by decide), cell _ 0 (by omega) (by omega) (by omega), cell _ 1 (by omega) (by omega) (by omega)]
                  exact r4 f hf'
            · obtain ⟨q5, q6⟩ := m4 n2
              have em : hm W z 1 (wE W z a) = (nmF W z (nmV W z (wE W z a)).1 (nI 0) (nI 9), sk W z (nmV W z (wE W z a)).1, 0) := by
                unfold hm
                rw [ems, nq_t n1, nq_f n2, if_pos n2]
              rw [if_neg n2]
              refine rt_mono (fh_200 (z := z) w2 hlt (by rw [q5]; exact nI_ne0 (by omega) nmF_lt) m2) ?_
              rintro IB JB ⟨P, rfl⟩
              exact ⟨flt _ _ I6 IB em n2 y6 q5 q6 P, rfl⟩
          · obtain ⟨q5, q6⟩ := p4 n1
            have em : hm W z 1 (wE W z a) = (nmF W z (wE W z a) (nI 0) (nI 9), sk W z (wE W z a), 0) := by
              unfold hm
              rw [ems, nq_f n1, if_pos n1]
            rw [if_neg n1]
            refine rt_mono (fh_185 (z := z) (BM_cm B y4) B2 ((cm_2 y4).trans hz) hz2 w2 hlt (by rw [q5]; exact nI_ne0 (by omega) nmF_lt) p2) ?_
            rintro IB JB ⟨P, rfl⟩
            exact ⟨flt _ _ I4 IB em n1 y4 q5 q6 P, rfl⟩
        · by_cases k2 : K = 2
          · subst k2
            have hlt : h 0 2 < 5 := by
              have : ¬ h 0 2 = 5 := fun e => nf (.inr (.inr (.inr ⟨rfl, e⟩)))
              omega
            have em : hm W z 2 (wE W z a) = nq W z [(0, 200), (1, 99)] (wE W z a) := hm_q (by decide) rfl
            refine rt_f (by decide) (rt_gd (by decide) ?_)
            rw [show (nI 2).toNatClampNeg = 2 by decide, fT 75 2 rfl, r1 2 (by decide)]
            (first | refine rt_eq (q_X12_clause_0) ?_ | refine rt_eq (q_X12_clause_4) ?_ | refine rt_eq (q_X12_clause_49) ?_ | refine rt_eq (q_X12_clause_58) ?_ | refine rt_eq (q_X12_clause_46) ?_ | refine rt_eq (q_X12_clause_19) ?_ | refine rt_eq (q_X12_clause_70) ?_ | refine rt_eq (q_X12_clause_95) ?_ | refine rt_eq (q_X12_clause_97) ?_ | refine rt_eq (q_X12_clause_124) ?_ | refine rt_eq (q_X12_clause_181) ?_ | refine rt_eq (q_X12_clause_244) ?_ | refine rt_eq (q_X12_clause_278) ?_ | refine rt_eq (q_X12_clause_138 (by first | assumption | rfl | exact .inl rfl | exact .inr rfl)) ?_ | refine rt_eq (q_X12_clause_185) ?_ | refine rt_eq (q_X12_clause_259 (by first | assumption | rfl | exact .inl rfl | exact .inr rfl)) ?_ | refine rt_eq (q_X12_clause_285 (by first | assumption | rfl | exact .inl rfl | exact .inr rfl)) ?_ | refine rt_eq (q_X12_clause_150 (by first | assumption | rfl | exact .inl rfl | exact .inr rfl)) ?_ | refine rt_eq (q_X12_clause_190) ?_ | refine rt_eq (q_X12_clause_274 (by first | assumption | rfl | exact .inl rfl | exact .inr rfl)) ?_ | refine rt_eq (q_X12_clause_303) ?_ | refine rt_eq (q_X12_clause_162 (by first | assumption | rfl | exact .inl rfl | exact .inr rfl)) ?_ | refine rt_eq (q_X12_clause_200) ?_ | refine rt_eq (q_X12_clause_309) ?_ | refine rt_eq (q_X12_clause_177 (by first | assumption | rfl | exact .inl rfl | exact .inr rfl)) ?_ | refine rt_eq (q_X12_clause_222) ?_ | refine rt_eq (q_X12_clause_333) ?_)
            (first | refine rt_eq (q_X12_clause_0) ?_ | refine rt_eq (q_X12_clause_4) ?_ | refine rt_eq (q_X12_clause_49) ?_ | refine rt_eq (q_X12_clause_58) ?_ | refine rt_eq (q_X12_clause_46) ?_ | refine rt_eq (q_X12_clause_19) ?_ | refine rt_eq (q_X12_clause_70) ?_ | refine rt_eq (q_X12_clause_95) ?_ | refine rt_eq (q_X12_clause_97) ?_ | refine rt_eq (q_X12_clause_124) ?_ | refine rt_eq (q_X12_clause_181) ?_ | refine rt_eq (q_X12_clause_244) ?_ | refine rt_eq (q_X12_clause_278) ?_ | refine rt_eq (q_X12_clause_138 (by first | assumption | rfl | exact .inl rfl | exact .inr rfl)) ?_ | refine rt_eq (q_X12_clause_185) ?_ | refine rt_eq (q_X12_clause_259 (by first | assumption | rfl | exact .inl rfl | exact .inr rfl)) ?_ | refine rt_eq (q_X12_clause_285 (by first | assumption | rfl | exact .inl rfl | exact .inr rfl)) ?_ | refine rt_eq (q_X12_clause_150 (by first | assumption | rfl | exact .inl rfl | exact .inr rfl)) ?_ | refine rt_eq (q_X12_clause_190) ?_ | refine rt_eq (q_X12_clause_274 (by first | assumption | rfl | exact .inl rfl | exact .inr rfl)) ?_ | refine rt_eq (q_X12_clause_303) ?_ | refine rt_eq (q_X12_clause_162 (by first | assumption | rfl | exact .inl rfl | exact .inr rfl)) ?_ | refine rt_eq (q_X12_clause_200) ?_ | refine rt_eq (q_X12_clause_309) ?_ | refine rt_eq (q_X12_clause_177 (by first | assumption | rfl | exact .inl rfl | exact .inr rfl)) ?_ | refine rt_eq (q_X12_clause_222) ?_ | refine rt_eq (q_X12_clause_333) ?_)
            refine rt_f (by decide) (rt_f (by decide) (rt_t rfl ?_))
            have i103 : ∀ j, inF fCM (103 + h 0 2) j = true := fun j => in_103 hlt
            have kr := ka_103 hlt
            (first | refine rt_eq (q_X12_clause_0) ?_ | refine rt_eq (q_X12_clause_4) ?_ | refine rt_eq (q_X12_clause_49) ?_ | refine rt_eq (q_X12_clause_58) ?_ | refine rt_eq (q_X12_clause_46) ?_ | refine rt_eq (q_X12_clause_19) ?_ | refine rt_eq (q_X12_clause_70) ?_ | refine rt_eq (q_X12_clause_95) ?_ | refine rt_eq (q_X12_clause_97) ?_ | refine rt_eq (q_X12_clause_124) ?_ | refine rt_eq (q_X12_clause_181) ?_ | refine rt_eq (q_X12_clause_244) ?_ | refine rt_eq (q_X12_clause_278) ?_ | refine rt_eq (q_X12_clause_138 (by first | assumption | rfl | exact .inl rfl | exact .inr rfl)) ?_ | refine rt_eq (q_X12_clause_185) ?_ | refine rt_eq (q_X12_clause_259 (by first | assumption | rfl | exact .inl rfl | exact .inr rfl)) ?_ | refine rt_eq (q_X12_clause_285 (by first | assumption | rfl | exact .inl rfl | exact .inr rfl)) ?_ | refine rt_eq (q_X12_clause_150 (by first | assumption | rfl | exact .inl rfl | exact .inr rfl)) ?_ | refine rt_eq (q_X12_clause_190) ?_ | refine rt_eq (q_X12_clause_274 (by first | assumption | rfl | exact .inl rfl | exact .inr rfl)) ?_ | refine rt_eq (q_X12_clause_303) ?_ | refine rt_eq (q_X12_clause_162 (by first | assumption | rfl | exact .inl rfl | exact .inr rfl)) ?_ | refine rt_eq (q_X12_clause_200) ?_ | refine rt_eq (q_X12_clause_309) ?_ | refine rt_eq (q_X12_clause_177 (by first | assumption | rfl | exact .inl rfl | exact .inr rfl)) ?_ | refine rt_eq (q_X12_clause_222) ?_ | refine rt_eq (q_X12_clause_333) ?_)
            refine rt_gd (inb_n hlt (by decide)) (rt_bnd (sp_number B3 B2 z3 hz2 he.2 e43 e53) ?_)
            rintro I4 J4 ⟨⟨p1, p2, p3, p4⟩, rfl⟩
            rw [nI_clamp (by omega)]
            have x4 : Fr (fTM ++ [(72, 8), (103 + h 0 2, 0)]) I I4 := fX_T (fX _) p1
            have y4 : Fr fCM I I4 := fX_C i103 x4
            by_cases n1 : nmF W z (wE W z a) (nI 0) (nI 200) = 0
            · obtain ⟨t4, t5⟩ := p3 n1
              rw [nq_t n1] at em
              rw [if_pos n1]
              (first | refine rt_eq (q_X12_clause_0) ?_ | refine rt_eq (q_X12_clause_4) ?_ | refine rt_eq (q_X12_clause_49) ?_ | refine rt_eq (q_X12_clause_58) ?_ | refine rt_eq (q_X12_clause_46) ?_ | refine rt_eq (q_X12_clause_19) ?_ | refine rt_eq (q_X12_clause_70) ?_ | refine rt_eq (q_X12_clause_95) ?_ | refine rt_eq (q_X12_clause_97) ?_ | refine rt_eq (q_X12_clause_124) ?_ | refine rt_eq (q_X12_clause_181) ?_ | refine rt_eq (q_X12_clause_244) ?_ | refine rt_eq (q_X12_clause_278) ?_ | refine rt_eq (q_X12_clause_138 (by first | assumption | rfl | exact .inl rfl | exact .inr rfl)) ?_ | refine rt_eq (q_X12_clause_185) ?_ | refine rt_eq (q_X12_clause_259 (by first | assumption | rfl | exact .inl rfl | exact .inr rfl)) ?_ | refine rt_eq (q_X12_clause_285 (by first | assumption | rfl | exact .inl rfl | exact .inr rfl)) ?_ | refine rt_eq (q_X12_clause_150 (by first | assumption | rfl | exact .inl rfl | exact .inr rfl)) ?_ | refine rt_eq (q_X12_clause_190) ?_ | refine rt_eq (q_X12_clause_274 (by first | assumption | rfl | exact .inl rfl | exact .inr rfl)) ?_ | refine rt_eq (q_X12_clause_303) ?_ | refine rt_eq (q_X12_clause_162 (by first | assumption | rfl | exact .inl rfl | exact .inr rfl)) ?_ | refine rt_eq (q_X12_clause_200) ?_ | refine rt_eq (q_X12_clause_309) ?_ | refine rt_eq (q_X12_clause_177 (by first | assumption | rfl | exact .inl rfl | exact .inr rfl)) ?_ | refine rt_eq (q_X12_clause_222) ?_ | refine rt_eq (q_X12_clause_333) ?_)
              refine rt_gd (by decide) (rt_gd (inb_n hlt (by decide)) ?_)
              rw [show (nI 0).toNatClampNeg = 0 by decide, nI_clamp (by omega)]
              generalize hI5 : up2 I4 (103 + h 0 2) 0 (nI (nmV W z (wE W z a)).2) = I5
              have x5 : Fr (fTM ++ [(72, 8), (103 + h 0 2, 0)]) I I5 := by
                rw [← hI5]
                exact fX_up x4
              have y5 : Fr fCM I I5 := fX_C i103 x5
              have e45 : I5 72 4 = nI (nmV W z (wE W z a)).1 := by rw [← hI5, up2_n (by omega), t4]
              have e55 : I5 72 5 = nI 0 := by rw [← hI5, up2_n (by omega), t5]
              have e75 : I5 72 7 = nI (c + 1) := by rw [← hI5, up2_n (by omega), p1 72 7 rfl, e73]
              have a0 : I5 (103 + h 0 2) 0 = nI (nmV W z (wE W z a)).2 := by rw [← hI5, up2_s]
              clear hI5
              refine rt_bnd (sp_number (BM_cm B y5) B2 ((cm_2 y5).trans hz) hz2 v1.2.1 e45 e55) ?_
              rintro IA JA ⟨⟨s1, s2, s3, s4⟩, rfl⟩
              have xA : Fr (fTM ++ [(72, 8), (103 + h 0 2, 0)]) I IA := fX_T x5 s1
              have yA : Fr fCM I IA := fX_C i103 xA
              have cA : ∀ j, IA (103 + h 0 2) j = I5 (103 + h 0 2) j := fun j => s1 _ j (by simp [fTM, inF]; omega)
              by_cases n4 : nmF W z (nmV W z (wE W z a)).1 (nI 1) (nI 99) = 0
              · obtain ⟨t4, t5⟩ := s3 n4
                rw [nq_t n4] at em
                rw [if_pos n4]
                (first | refine rt_eq (q_X12_clause_0) ?_ | refine rt_eq (q_X12_clause_4) ?_ | refine rt_eq (q_X12_clause_49) ?_ | refine rt_eq (q_X12_clause_58) ?_ | refine rt_eq (q_X12_clause_46) ?_ | refine rt_eq (q_X12_clause_19) ?_ | refine rt_eq (q_X12_clause_70) ?_ | refine rt_eq (q_X12_clause_95) ?_ | refine rt_eq (q_X12_clause_97) ?_ | refine rt_eq (q_X12_clause_124) ?_ | refine rt_eq (q_X12_clause_181) ?_ | refine rt_eq (q_X12_clause_244) ?_ | refine rt_eq (q_X12_clause_278) ?_ | refine rt_eq (q_X12_clause_138 (by first | assumption | rfl | exact .inl rfl | exact .inr rfl)) ?_ | refine rt_eq (q_X12_clause_185) ?_ | refine rt_eq (q_X12_clause_259 (by first | assumption | rfl | exact .inl rfl | exact .inr rfl)) ?_ | refine rt_eq (q_X12_clause_285 (by first | assumption | rfl | exact .inl rfl | exact .inr rfl)) ?_ | refine rt_eq (q_X12_clause_150 (by first | assumption | rfl | exact .inl rfl | exact .inr rfl)) ?_ | refine rt_eq (q_X12_clause_190) ?_ | refine rt_eq (q_X12_clause_274 (by first | assumption | rfl | exact .inl rfl | exact .inr rfl)) ?_ | refine rt_eq (q_X12_clause_303) ?_ | refine rt_eq (q_X12_clause_162 (by first | assumption | rfl | exact .inl rfl | exact .inr rfl)) ?_ | refine rt_eq (q_X12_clause_200) ?_ | refine rt_eq (q_X12_clause_309) ?_ | refine rt_eq (q_X12_clause_177 (by first | assumption | rfl | exact .inl rfl | exact .inr rfl)) ?_ | refine rt_eq (q_X12_clause_222) ?_ | refine rt_eq (q_X12_clause_333) ?_)
                refine rt_gd (by decide) ?_
                rw [show (nI 1).toNatClampNeg = 1 by decide]
                refine fin _ _ _ _ _ _ em (fX_C i103 (fX_up xA)) v2.2.1 ?_ ?_ ?_ ?_
                · rw [up2_n (by omega), t4]
                · rw [up2_n (by omega), t5]
                · rw [up2_n (by omega), s1 72 7 rfl, e75]
                · intro I' j1 j2
                  have cell : ∀ x y, ¬ x = 72 → ¬ x = 75 → ¬ x = 103 + h 0 2 → I' x y = I x y := fun x y g1 g2 g3 => by rw [j2 x y g1 g2, up2_n g3, oldX xA g3 g1]
                  have rowN : ∀ y, I' (103 + h 0 2) y = (up2 IA (103 + h 0 2) 1 (nI (nmV W z (nmV W z (wE W z a)).1).2)) (103 + h 0 2) y := fun y => j2 _ y (by omega) (by omega)
                  have o75 : ∀ y, (up2 IA (103 + h 0 2) 1 (nI (nmV W z (nmV W z (wE W z a)).1).2)) 75 y = I 75 y := fun y => by rw [up2_n (by omega), oldX xA (by omega) (by decide)]
                  unfold hAdd
                  rw [if_neg (by decide), if_neg (by decide), if_pos rfl]
                  refine ⟨fun k hk => ?_, fun p hp' => ?_, fun e he' => ?_, fun f hf' => ?_⟩
                  · rw [j1, o75, hf_0]
                    by_cases e : k = 2
                    · rw [if_pos ⟨e, by decide⟩, if_pos e, e, r1 2 (by decide), nI_add]
                    · rw [if_neg (fun q => e q.1), if_neg e, r1 k hk]
                  · rw [hf_0, if_neg (by decide)] at hp'
                    rw [hf_i (by decide) (by decide) (by decide), hf_i (by decide) (by decide) (by decide), hf_i (by decide) (by decide) (by decide), hf_i (by decide) (by decide) (by decide), cell _ 0 (by omega) (by omega) (by omega), cell _ 1 (by omega) (by omega) (by omega), cell _ 2 (by omega) (by omega) (by omega), cell _ 3 (by omega) (by omega) (by omega)]
                    exact r2 p hp'
                  · rw [hf_0, if_neg (by decide)] at he'
                    rw [hf_i (by decide) (by decide) (by decide), hf_i (by decide) (by decide) (by decide), cell _ 0 (by omega) (by omega) (by omega), cell _ 1 (by omega) (by omega) (by omega)]
                    exact r3 e he'
                  · rw [hf_0, if_pos rfl] at hf'
                    rw [hf_7, hf_8]
                    by_cases e : f = h 0 2
                    · subst e
                      rw [if_pos rfl, if_pos rfl, rowN, rowN, up2_k (by decide), up2_s, cA]
                      exact ⟨a0, rfl⟩
                    · rw [if_neg e, if_neg e, cell _ 0 (by omega) (by omega) (by omega), cell _ 1 (by omega) (by omega) (by omega)]
                      exact r4 f (by omega)
              · obtain ⟨t5, t6⟩ := s4 n4
                rw [nq_f n4] at em
                rw [if_neg n4]
                refine rt_mono (fh_274 (z := z) w2 hlt (by rw [t5]; exact nI_ne0 (by omega) nmF_lt) s2) ?_
                rintro IB JB ⟨P, rfl⟩
                exact ⟨flt _ _ IA IB em n4 yA t5 t6 P, rfl⟩
            · obtain ⟨t5, t6⟩ := p4 n1
              rw [nq_f n1] at em
              rw [if_neg n1]
              refine rt_mono (fh_259 (z := z) w2 hlt (by rw [t5]; exact nI_ne0 (by omega) nmF_lt) p2) ?_
              rintro IB JB ⟨P, rfl⟩
              exact ⟨flt _ _ I4 IB em n1 y4 t5 t6 P, rfl⟩
          · have k3 : K = 3 := by omega
            subst k3
            have em : hm W z 3 (wE W z a) = nq W z [(0, 99)] (wE W z a) := hm_q (by decide) rfl
            refine rt_t (by decide) ?_
            (first | refine rt_eq (q_X12_clause_0) ?_ | refine rt_eq (q_X12_clause_4) ?_ | refine rt_eq (q_X12_clause_49) ?_ | refine rt_eq (q_X12_clause_58) ?_ | refine rt_eq (q_X12_clause_46) ?_ | refine rt_eq (q_X12_clause_19) ?_ | refine rt_eq (q_X12_clause_70) ?_ | refine rt_eq (q_X12_clause_95) ?_ | refine rt_eq (q_X12_clause_97) ?_ | refine rt_eq (q_X12_clause_124) ?_ | refine rt_eq (q_X12_clause_181) ?_ | refine rt_eq (q_X12_clause_244) ?_ | refine rt_eq (q_X12_clause_278) ?_ | refine rt_eq (q_X12_clause_138 (by first | assumption | rfl | exact .inl rfl | exact .inr rfl)) ?_ | refine rt_eq (q_X12_clause_185) ?_ | refine rt_eq (q_X12_clause_259 (by first | assumption | rfl | exact .inl rfl | exact .inr rfl)) ?_ | refine rt_eq (q_X12_clause_285 (by first | assumption | rfl | exact .inl rfl | exact .inr rfl)) ?_ | refine rt_eq (q_X12_clause_150 (by first | assumption | rfl | exact .inl rfl | exact .inr rfl)) ?_ | refine rt_eq (q_X12_clause_190) ?_ | refine rt_eq (q_X12_clause_274 (by first | assumption | rfl | exact .inl rfl | exact .inr rfl)) ?_ | refine rt_eq (q_X12_clause_303) ?_ | refine rt_eq (q_X12_clause_162 (by first | assumption | rfl | exact .inl rfl | exact .inr rfl)) ?_ | refine rt_eq (q_X12_clause_200) ?_ | refine rt_eq (q_X12_clause_309) ?_ | refine rt_eq (q_X12_clause_177 (by first | assumption | rfl | exact .inl rfl | exact .inr rfl)) ?_ | refine rt_eq (q_X12_clause_222) ?_ | refine rt_eq (q_X12_clause_333) ?_)
            (first | refine rt_eq (q_X12_clause_0) ?_ | refine rt_eq (q_X12_clause_4) ?_ | refine rt_eq (q_X12_clause_49) ?_ | refine rt_eq (q_X12_clause_58) ?_ | refine rt_eq (q_X12_clause_46) ?_ | refine rt_eq (q_X12_clause_19) ?_ | refine rt_eq (q_X12_clause_70) ?_ | refine rt_eq (q_X12_clause_95) ?_ | refine rt_eq (q_X12_clause_97) ?_ | refine rt_eq (q_X12_clause_124) ?_ | refine rt_eq (q_X12_clause_181) ?_ | refine rt_eq (q_X12_clause_244) ?_ | refine rt_eq (q_X12_clause_278) ?_ | refine rt_eq (q_X12_clause_138 (by first | assumption | rfl | exact .inl rfl | exact .inr rfl)) ?_ | refine rt_eq (q_X12_clause_185) ?_ | refine rt_eq (q_X12_clause_259 (by first | assumption | rfl | exact .inl rfl | exact .inr rfl)) ?_ | refine rt_eq (q_X12_clause_285 (by first | assumption | rfl | exact .inl rfl | exact .inr rfl)) ?_ | refine rt_eq (q_X12_clause_150 (by first | assumption | rfl | exact .inl rfl | exact .inr rfl)) ?_ | refine rt_eq (q_X12_clause_190) ?_ | refine rt_eq (q_X12_clause_274 (by first | assumption | rfl | exact .inl rfl | exact .inr rfl)) ?_ | refine rt_eq (q_X12_clause_303) ?_ | refine rt_eq (q_X12_clause_162 (by first | assumption | rfl | exact .inl rfl | exact .inr rfl)) ?_ | refine rt_eq (q_X12_clause_200) ?_ | refine rt_eq (q_X12_clause_309) ?_ | refine rt_eq (q_X12_clause_177 (by first | assumption | rfl | exact .inl rfl | exact .inr rfl)) ?_ | refine rt_eq (q_X12_clause_222) ?_ | refine rt_eq (q_X12_clause_333) ?_)
            refine rt_f (by decide) (rt_f (by decide) (rt_f (by decide) ?_))
            (first | refine rt_eq (q_X12_clause_0) ?_ | refine rt_eq (q_X12_clause_4) ?_ | refine rt_eq (q_X12_clause_49) ?_ | refine rt_eq (q_X12_clause_58) ?_ | refine rt_eq (q_X12_clause_46) ?_ | refine rt_eq (q_X12_clause_19) ?_ | refine rt_eq (q_X12_clause_70) ?_ | refine rt_eq (q_X12_clause_95) ?_ | refine rt_eq (q_X12_clause_97) ?_ | refine rt_eq (q_X12_clause_124) ?_ | refine rt_eq (q_X12_clause_181) ?_ | refine rt_eq (q_X12_clause_244) ?_ | refine rt_eq (q_X12_clause_278) ?_ | refine rt_eq (q_X12_clause_138 (by first | assumption | rfl | exact .inl rfl | exact .inr rfl)) ?_ | refine rt_eq (q_X12_clause_185) ?_ | refine rt_eq (q_X12_clause_259 (by first | assumption | rfl | exact .inl rfl | exact .inr rfl)) ?_ | refine rt_eq (q_X12_clause_285 (by first | assumption | rfl | exact .inl rfl | exact .inr rfl)) ?_ | refine rt_eq (q_X12_clause_150 (by first | assumption | rfl | exact .inl rfl | exact .inr rfl)) ?_ | refine rt_eq (q_X12_clause_190) ?_ | refine rt_eq (q_X12_clause_274 (by first | assumption | rfl | exact .inl rfl | exact .inr rfl)) ?_ | refine rt_eq (q_X12_clause_303) ?_ | refine rt_eq (q_X12_clause_162 (by first | assumption | rfl | exact .inl rfl | exact .inr rfl)) ?_ | refine rt_eq (q_X12_clause_200) ?_ | refine rt_eq (q_X12_clause_309) ?_ | refine rt_eq (q_X12_clause_177 (by first | assumption | rfl | exact .inl rfl | exact .inr rfl)) ?_ | refine rt_eq (q_X12_clause_222) ?_ | refine rt_eq (q_X12_clause_333) ?_)
            refine rt_bnd (sp_number B3 B2 z3 hz2 he.2 e43 e53) ?_
            rintro I4 J4 ⟨⟨p1, p2, p3, p4⟩, rfl⟩
            have i75 : ∀ j, inF fCM 75 j = true := fun j => by
              unfold fCM
              rw [inF_app, inF_app, inF_app]
              simp [inF]
            have x4 : Fr (fTM ++ [(72, 8), (75, 0)]) I I4 := fX_T (fX _) p1
            have y4 : Fr fCM I I4 := fX_C i75 x4
            have hu2 : okv (some (.int (nI 0))) = true := rfl
            (first | refine rt_eq (q_X12_clause_0) ?_ | refine rt_eq (q_X12_clause_4) ?_ | refine rt_eq (q_X12_clause_49) ?_ | refine rt_eq (q_X12_clause_58) ?_ | refine rt_eq (q_X12_clause_46) ?_ | refine rt_eq (q_X12_clause_19) ?_ | refine rt_eq (q_X12_clause_70) ?_ | refine rt_eq (q_X12_clause_95) ?_ | refine rt_eq (q_X12_clause_97) ?_ | refine rt_eq (q_X12_clause_124) ?_ | refine rt_eq (q_X12_clause_181) ?_ | refine rt_eq (q_X12_clause_244) ?_ | refine rt_eq (q_X12_clause_278) ?_ | refine rt_eq (q_X12_clause_138 (by first | assumption | rfl | exact .inl rfl | exact .inr rfl)) ?_ | refine rt_eq (q_X12_clause_185) ?_ | refine rt_eq (q_X12_clause_259 (by first | assumption | rfl | exact .inl rfl | exact .inr rfl)) ?_ | refine rt_eq (q_X12_clause_285 (by first | assumption | rfl | exact .inl rfl | exact .inr rfl)) ?_ | refine rt_eq (q_X12_clause_150 (by first | assumption | rfl | exact .inl rfl | exact .inr rfl)) ?_ | refine rt_eq (q_X12_clause_190) ?_ | refine rt_eq (q_X12_clause_274 (by first | assumption | rfl | exact .inl rfl | exact .inr rfl)) ?_ | refine rt_eq (q_X12_clause_303) ?_ | refine rt_eq (q_X12_clause_162 (by first | assumption | rfl | exact .inl rfl | exact .inr rfl)) ?_ | refine rt_eq (q_X12_clause_200) ?_ | refine rt_eq (q_X12_clause_309) ?_ | refine rt_eq (q_X12_clause_177 (by first | assumption | rfl | exact .inl rfl | exact .inr rfl)) ?_ | refine rt_eq (q_X12_clause_222) ?_ | refine rt_eq (q_X12_clause_333) ?_)
            by_cases n1 : nmF W z (wE W z a) (nI 0) (nI 99) = 0
            · obtain ⟨t4, t5⟩ := p3 n1
              rw [nq_t n1] at em
              rw [if_pos n1]
              refine rt_t t5 ?_
              refine fin _ _ _ _ _ _ em (fX_C i75 (fX_up x4)) v1.2.1 ?_ ?_ ?_ ?_
              · rw [up2_n (by decide), t4]
              · rw [up2_n (by decide), t5]
              · rw [up2_n (by decide), p1 72 7 rfl, e73]
              · intro I' j1 j2
                have cell : ∀ x y, ¬ x = 72 → ¬ x = 75 → I' x y = I x y := fun x y g1 g2 => by rw [j2 x y g1 g2, up2_n g2, oldX x4 g2 g1]
                have p75 : ∀ y, I4 75 y = I 75 y := fun y => by rw [p1 75 y rfl, fT 75 y rfl]
                unfold hAdd
                rw [if_neg (by decide), if_neg (by decide), if_neg (by decide)]
                refine ⟨fun k hk => ?_, fun p hp' => ?_, fun e he' => ?_, fun f hf' => ?_⟩
                · rw [j1, if_neg (fun q => absurd q.2 (by decide)), up2_at, hh_0]
                  by_cases e : k = 3
                  · rw [if_pos e, if_pos e]
                  · rw [if_neg e, if_neg e, p75, r1 k hk]
                · rw [hh_0, if_neg (by decide)] at hp'
                  rw [hh_i (by decide), hh_i (by decide), hh_i (by decide), hh_i (by decide), cell _ 0 (by omega) (by omega), cell _ 1 (by omega) (by omega), cell _ 2 (by omega) (by omega), cell _ 3 (by omega) (by omega)]
                  exact r2 p hp'
                · rw [hh_0, if_neg (by decide)] at he'
                  rw [hh_i (by decide), hh_i (by decide), cell _ 0 (by omega) (by omega), cell _ 1 (by omega) (by omega)]
                  exact r3 e he'
                · rw [hh_0, if_neg (by decide)] at hf'
                  rw [hh_i (by decide), hh_i (by decide), cell _ 0 (by omega) (by omega), cell _ 1 (by omega) (by omega)]
                  exact r4 f hf'
            · obtain ⟨t5, t6⟩ := p4 n1
              rw [nq_f n1] at em
              rw [if_neg n1]
              have x0 : ¬ I4 72 5 = nI 0 := by
                rw [t5]
                exact nI_ne0 (by omega) nmF_lt
              refine rt_f x0 (rt_mono (fh_303 (z := z) w2 x0 p2) ?_)
              rintro IB JB ⟨P, rfl⟩
              exact ⟨flt _ _ I4 IB em n1 y4 t5 t6 P, rfl⟩
    by_cases c2 : c = 60
    · refine rt_t ?_ (many (.inl c2) _ _ _ _)
      rw [f1 72 7 rfl, h7, c2]
    · refine rt_f ?_ ?_
      · rw [f1 72 7 rfl, h7, nI_eq (by omega) (by decide)]
        exact c2
      · by_cases c3 : 3 ≤ K
        · refine rt_t (by (try simp (disch := omega) only [nI_leI, nI_ltI, nI_eq, nI_add, pk_mul, n_0add, Nat.zero_add, nI_clamp]) <;> omega) (good ?_ _ _ _ _)
          rintro (q | q | q | q)
          · exact c2 q
          · omega
          · omega
          · omega
        · refine rt_f (by (try simp (disch := omega) only [nI_leI, nI_ltI, nI_eq, nI_add, pk_mul, n_0add, Nat.zero_add, nI_clamp]) <;> omega) (rt_gd (inb_n w2 (by decide)) (rt_bne (sp_mostOf (by omega)) ?_))
          rw [nI_clamp (by omega), f1 75 K rfl, r1 K (by omega)]
          (first | refine rt_eq (q_X12_clause_0) ?_ | refine rt_eq (q_X12_clause_4) ?_ | refine rt_eq (q_X12_clause_49) ?_ | refine rt_eq (q_X12_clause_58) ?_ | refine rt_eq (q_X12_clause_46) ?_ | refine rt_eq (q_X12_clause_19) ?_ | refine rt_eq (q_X12_clause_70) ?_ | refine rt_eq (q_X12_clause_95) ?_ | refine rt_eq (q_X12_clause_97) ?_ | refine rt_eq (q_X12_clause_124) ?_ | refine rt_eq (q_X12_clause_181) ?_ | refine rt_eq (q_X12_clause_244) ?_ | refine rt_eq (q_X12_clause_278) ?_ | refine rt_eq (q_X12_clause_138 (by first | assumption | rfl | exact .inl rfl | exact .inr rfl)) ?_ | refine rt_eq (q_X12_clause_185) ?_ | refine rt_eq (q_X12_clause_259 (by first | assumption | rfl | exact .inl rfl | exact .inr rfl)) ?_ | refine rt_eq (q_X12_clause_285 (by first | assumption | rfl | exact .inl rfl | exact .inr rfl)) ?_ | refine rt_eq (q_X12_clause_150 (by first | assumption | rfl | exact .inl rfl | exact .inr rfl)) ?_ | refine rt_eq (q_X12_clause_190) ?_ | refine rt_eq (q_X12_clause_274 (by first | assumption | rfl | exact .inl rfl | exact .inr rfl)) ?_ | refine rt_eq (q_X12_clause_303) ?_ | refine rt_eq (q_X12_clause_162 (by first | assumption | rfl | exact .inl rfl | exact .inr rfl)) ?_ | refine rt_eq (q_X12_clause_200) ?_ | refine rt_eq (q_X12_clause_309) ?_ | refine rt_eq (q_X12_clause_177 (by first | assumption | rfl | exact .inl rfl | exact .inr rfl)) ?_ | refine rt_eq (q_X12_clause_222) ?_ | refine rt_eq (q_X12_clause_333) ?_)
          have b0 : h 0 K < 2 ^ 31 := by
            have : K = 0 ∨ K = 1 ∨ K = 2 := by omega
            rcases this with rfl | rfl | rfl
            · omega
            · omega
            · omega
          by_cases c4 : h 0 K = (if K = 0 then 6 else if K = 1 then 4 else 5)
          · refine rt_t (congrArg nI c4) (many ?_ _ _ _ _)
            have : K = 0 ∨ K = 1 ∨ K = 2 := by omega
            rcases this with rfl | rfl | rfl
            · exact .inr (.inl ⟨rfl, c4⟩)
            · exact .inr (.inr (.inl ⟨rfl, c4⟩))
            · exact .inr (.inr (.inr ⟨rfl, c4⟩))
          · refine rt_f (fun q => c4 ((nI_eq b0 ?_).mp q)) (good ?_ _ _ _ _)
            · by_cases k0 : K = 0
              · rw [if_pos k0]
                decide
              · rw [if_neg k0]
                by_cases k1 : K = 1
                · rw [if_pos k1]
                  decide
                · rw [if_neg k1]
                  decide
            · rintro (q | ⟨q1, q2⟩ | ⟨q1, q2⟩ | ⟨q1, q2⟩)
              · exact c2 q
              · subst q1
                exact c4 q2
              · subst q1
                exact c4 q2
              · subst q1
                exact c4 q2
end HF
