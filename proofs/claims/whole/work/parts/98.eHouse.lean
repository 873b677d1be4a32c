/-! THE READER OF A HOUSE, BY THE MODEL -/
section HE
variable {d L X : Nat} {I : MI32} {J : MI64} {W : Nat → Nat} {z a b c K n : Nat} {h : Hs} {u2 u3 u4 u5 : Option Value} {x1 x2 s2 : Int32}
theorem sp_kindHere (B : BM I W) (B2 : ∀ k, k < 600 → W k < 256) (hz : I 72 2 = nI z) (hz2 : z ≤ 600) (ha : a ≤ z) (h4 : I 72 4 = nI a) (h0 : I 72 5 = nI 0) : Rt L X (runM (d + 5) nX12_kindHere [.ref 72] (mm L X I J)) (some (.int (hkI W z a))) (fun I' J' => (Fr [(72, 5)] I I' ∧ I' 72 4 = nI (sk W z a)) ∧ J' = J) := by
  rw [e_X12_kindHere]
  unfold hkI wdH
  (first | refine rt_eq (q_X12_kindHere_0) ?_ | refine rt_eq (q_X12_kindHere_12) ?_ | refine rt_eq (q_X12_kindHere_31) ?_ | refine rt_eq (q_X12_kindHere_49) ?_ | refine rt_eq (q_X12_kindHere_67) ?_)
  refine rt_bnd (sp_isW (w := [112, 105, 101, 99, 101]) (by unfold WdA; decide +kernel) B B2 hz hz2 ha h0 fr_rfl (.inl h4)) ?_
  rintro I0 J0 ⟨⟨f0, g0⟩, rfl⟩
  (first | refine rt_eq (q_X12_kindHere_0) ?_ | refine rt_eq (q_X12_kindHere_12) ?_ | refine rt_eq (q_X12_kindHere_31) ?_ | refine rt_eq (q_X12_kindHere_49) ?_ | refine rt_eq (q_X12_kindHere_67) ?_)
  cases q0 : isWd W z a [112, 105, 101, 99, 101] with
  | true =>
    rw [plA_t q0]
    exact rt_f (show ¬ bI true = nI 0 by decide) (rt_ret ⟨⟨f0, g0⟩, rfl⟩)
  | false =>
  rw [plA_f q0]
  refine rt_t bI_f ?_
  refine rt_bnd (sp_isW (w := [99, 111, 108, 108, 97, 114]) (by unfold WdA; decide +kernel) B B2 hz hz2 ha h0 f0 (.inr g0)) ?_
  rintro I1 J1 ⟨⟨f1, g1⟩, rfl⟩
  (first | refine rt_eq (q_X12_kindHere_0) ?_ | refine rt_eq (q_X12_kindHere_12) ?_ | refine rt_eq (q_X12_kindHere_31) ?_ | refine rt_eq (q_X12_kindHere_49) ?_ | refine rt_eq (q_X12_kindHere_67) ?_)
  cases q1 : isWd W z a [99, 111, 108, 108, 97, 114] with
  | true =>
    rw [plA_t q1]
    exact rt_f (show ¬ bI true = nI 0 by decide) (rt_ret ⟨⟨f1, g1⟩, rfl⟩)
  | false =>
  rw [plA_f q1]
  refine rt_t bI_f ?_
  refine rt_bnd (sp_isW (w := [102, 105, 114, 101]) (by unfold WdA; decide +kernel) B B2 hz hz2 ha h0 f1 (.inr g1)) ?_
  rintro I2 J2 ⟨⟨f2, g2⟩, rfl⟩
  (first | refine rt_eq (q_X12_kindHere_0) ?_ | refine rt_eq (q_X12_kindHere_12) ?_ | refine rt_eq (q_X12_kindHere_31) ?_ | refine rt_eq (q_X12_kindHere_49) ?_ | refine rt_eq (q_X12_kindHere_67) ?_)
  cases q2 : isWd W z a [102, 105, 114, 101] with
  | true =>
    rw [plA_t q2]
    exact rt_f (show ¬ bI true = nI 0 by decide) (rt_ret ⟨⟨f2, g2⟩, rfl⟩)
  | false =>
  rw [plA_f q2]
  refine rt_t bI_f ?_
  refine rt_bnd (sp_isW (w := [104, 111, 112, 101]) (by unfold WdA; decide +kernel) B B2 hz hz2 ha h0 f2 (.inr g2)) ?_
  rintro I3 J3 ⟨⟨f3, g3⟩, rfl⟩
  (first | refine rt_eq (q_X12_kindHere_0) ?_ | refine rt_eq (q_X12_kindHere_12) ?_ | refine rt_eq (q_X12_kindHere_31) ?_ | refine rt_eq (q_X12_kindHere_49) ?_ | refine rt_eq (q_X12_kindHere_67) ?_)
  cases q3 : isWd W z a [104, 111, 112, 101] with
  | true =>
    rw [plA_t q3]
    exact rt_f (show ¬ bI true = nI 0 by decide) (rt_ret ⟨⟨f3, g3⟩, rfl⟩)
  | false =>
  rw [plA_f q3]
  refine rt_t bI_f ?_
  exact rt_ret ⟨⟨f3, g3⟩, rfl⟩
def fCM : Fls := fTM ++ [(72, 8), (75, 0)] ++ cells 78 6 ++ cells 92 4 ++ cells 103 5
theorem in_78 {j : Nat} (hn : n < 6) : inF fCM (78 + n) j = true := by
  unfold fCM
  rw [inF_app, inF_app, inF_app, in_cells hn, Bool.or_true, Bool.true_or, Bool.true_or]
theorem in_92 {j : Nat} (hn : n < 4) : inF fCM (92 + n) j = true := by
  unfold fCM
  rw [inF_app, inF_app, in_cells hn, Bool.or_true, Bool.true_or]
theorem in_103 {j : Nat} (hn : n < 5) : inF fCM (103 + n) j = true := by
  unfold fCM
  rw [inF_app, in_cells hn, Bool.or_true]
theorem ka_78 (hn : n < 6) : ka (78 + n) 1 4 := by
  have q : ∀ s, s < 6 → (Nat.blt (78 + s) 1000000 && (K0[78 + s]? == some (1, 4))) = true := by decide +kernel
  exact ka_of (q n hn)
theorem ka_92 (hn : n < 4) : ka (92 + n) 1 2 := by
  have q : ∀ s, s < 4 → (Nat.blt (92 + s) 1000000 && (K0[92 + s]? == some (1, 2))) = true := by decide +kernel
  exact ka_of (q n hn)
theorem ka_103 (hn : n < 5) : ka (103 + n) 1 2 := by
  have q : ∀ s, s < 5 → (Nat.blt (103 + s) 1000000 && (K0[103 + s]? == some (1, 2))) = true := by decide +kernel
  exact ka_of (q n hn)
theorem cm_T : sbF fTM fCM = true := by decide +kernel
theorem cm_5 : sbF [(72, 5)] fCM = true := by decide +kernel
theorem BM_cm {I' : MI32} (B : BM I W) (g : Fr fCM I I') : BM I' W := BM_fr B g (by decide +kernel)
theorem cm_2 {I' : MI32} (g : Fr fCM I I') : I' 72 2 = I 72 2 := ag_of (s := [(72, 3)]) g (by decide +kernel) 72 2 rfl
/-- behind a FAULT -/
def PH (z : Nat) (I I' : MI32) : Prop := Fr fCM I I' ∧ I' 72 5 = I 72 5 ∧ I' 72 6 = I 72 6 ∧ ∃ a', a' ≤ z ∧ I' 72 4 = nI a'
theorem PH_up {I' : MI32} {r j : Nat} {x : Int32} (hr : ¬ r = 72) (hi : inF fCM r j = true) (P : PH z (up2 I r j x) I') : PH z I I' := by
  obtain ⟨f1, f2, f3, f4⟩ := P
  refine ⟨fr_tr (fr_up fr_rfl hi) f1, ?_, ?_, f4⟩
  · rw [f2, up2_n (fun e => hr e.symm)]
  · rw [f3, up2_n (fun e => hr e.symm)]
theorem fh_303 (hK : K < 4) (h0 : ¬ I 72 5 = nI 0) (hp : ∃ a', a' ≤ z ∧ I 72 4 = nI a') : Rt L X (runI (runM (d + 5)) iX12_clause (303, [some (.ref 72), some (.int (nI K)), u2, u3, u4, u5], [], mm L X I J)) none (fun I' J' => PH z I I' ∧ J' = J) := by
  (first | refine rt_eq (q_X12_clause_0) ?_ | refine rt_eq (q_X12_clause_4) ?_ | refine rt_eq (q_X12_clause_49) ?_ | refine rt_eq (q_X12_clause_58) ?_ | refine rt_eq (q_X12_clause_46) ?_ | refine rt_eq (q_X12_clause_19) ?_ | refine rt_eq (q_X12_clause_70) ?_ | refine rt_eq (q_X12_clause_95) ?_ | refine rt_eq (q_X12_clause_97) ?_ | refine rt_eq (q_X12_clause_124) ?_ | refine rt_eq (q_X12_clause_181) ?_ | refine rt_eq (q_X12_clause_244) ?_ | refine rt_eq (q_X12_clause_278) ?_ | refine rt_eq (q_X12_clause_138 (by first | assumption | rfl | exact .inl rfl | exact .inr rfl)) ?_ | refine rt_eq (q_X12_clause_185) ?_ | refine rt_eq (q_X12_clause_259 (by first | assumption | rfl | exact .inl rfl | exact .inr rfl)) ?_ | refine rt_eq (q_X12_clause_285 (by first | assumption | rfl | exact .inl rfl | exact .inr rfl)) ?_ | refine rt_eq (q_X12_clause_150 (by first | assumption | rfl | exact .inl rfl | exact .inr rfl)) ?_ | refine rt_eq (q_X12_clause_190) ?_ | refine rt_eq (q_X12_clause_274 (by first | assumption | rfl | exact .inl rfl | exact .inr rfl)) ?_ | refine rt_eq (q_X12_clause_303) ?_ | refine rt_eq (q_X12_clause_162 (by first | assumption | rfl | exact .inl rfl | exact .inr rfl)) ?_ | refine rt_eq (q_X12_clause_200) ?_ | refine rt_eq (q_X12_clause_309) ?_ | refine rt_eq (q_X12_clause_177 (by first | assumption | rfl | exact .inl rfl | exact .inr rfl)) ?_ | refine rt_eq (q_X12_clause_222) ?_ | refine rt_eq (q_X12_clause_333) ?_)
  refine rt_be (sp_signF h0) ?_
  (first | refine rt_eq (q_X12_clause_0) ?_ | refine rt_eq (q_X12_clause_4) ?_ | refine rt_eq (q_X12_clause_49) ?_ | refine rt_eq (q_X12_clause_58) ?_ | refine rt_eq (q_X12_clause_46) ?_ | refine rt_eq (q_X12_clause_19) ?_ | refine rt_eq (q_X12_clause_70) ?_ | refine rt_eq (q_X12_clause_95) ?_ | refine rt_eq (q_X12_clause_97) ?_ | refine rt_eq (q_X12_clause_124) ?_ | refine rt_eq (q_X12_clause_181) ?_ | refine rt_eq (q_X12_clause_244) ?_ | refine rt_eq (q_X12_clause_278) ?_ | refine rt_eq (q_X12_clause_138 (by first | assumption | rfl | exact .inl rfl | exact .inr rfl)) ?_ | refine rt_eq (q_X12_clause_185) ?_ | refine rt_eq (q_X12_clause_259 (by first | assumption | rfl | exact .inl rfl | exact .inr rfl)) ?_ | refine rt_eq (q_X12_clause_285 (by first | assumption | rfl | exact .inl rfl | exact .inr rfl)) ?_ | refine rt_eq (q_X12_clause_150 (by first | assumption | rfl | exact .inl rfl | exact .inr rfl)) ?_ | refine rt_eq (q_X12_clause_190) ?_ | refine rt_eq (q_X12_clause_274 (by first | assumption | rfl | exact .inl rfl | exact .inr rfl)) ?_ | refine rt_eq (q_X12_clause_303) ?_ | refine rt_eq (q_X12_clause_162 (by first | assumption | rfl | exact .inl rfl | exact .inr rfl)) ?_ | refine rt_eq (q_X12_clause_200) ?_ | refine rt_eq (q_X12_clause_309) ?_ | refine rt_eq (q_X12_clause_177 (by first | assumption | rfl | exact .inl rfl | exact .inr rfl)) ?_ | refine rt_eq (q_X12_clause_222) ?_ | refine rt_eq (q_X12_clause_333) ?_)
  by_cases q : 3 ≤ K
  · exact rt_t (by (try simp (disch := omega) only [nI_leI, nI_ltI, nI_eq, nI_add, pk_mul, n_0add, Nat.zero_add, nI_clamp]) <;> omega) (rt_ret ⟨⟨fr_rfl, rfl, rfl, hp⟩, rfl⟩)
  · refine rt_f (by (try simp (disch := omega) only [nI_leI, nI_ltI, nI_eq, nI_add, pk_mul, n_0add, Nat.zero_add, nI_clamp]) <;> omega) (rt_gd (inb_n hK (by decide)) (rt_f h0 ?_))
    (first | refine rt_eq (q_X12_clause_0) ?_ | refine rt_eq (q_X12_clause_4) ?_ | refine rt_eq (q_X12_clause_49) ?_ | refine rt_eq (q_X12_clause_58) ?_ | refine rt_eq (q_X12_clause_46) ?_ | refine rt_eq (q_X12_clause_19) ?_ | refine rt_eq (q_X12_clause_70) ?_ | refine rt_eq (q_X12_clause_95) ?_ | refine rt_eq (q_X12_clause_97) ?_ | refine rt_eq (q_X12_clause_124) ?_ | refine rt_eq (q_X12_clause_181) ?_ | refine rt_eq (q_X12_clause_244) ?_ | refine rt_eq (q_X12_clause_278) ?_ | refine rt_eq (q_X12_clause_138 (by first | assumption | rfl | exact .inl rfl | exact .inr rfl)) ?_ | refine rt_eq (q_X12_clause_185) ?_ | refine rt_eq (q_X12_clause_259 (by first | assumption | rfl | exact .inl rfl | exact .inr rfl)) ?_ | refine rt_eq (q_X12_clause_285 (by first | assumption | rfl | exact .inl rfl | exact .inr rfl)) ?_ | refine rt_eq (q_X12_clause_150 (by first | assumption | rfl | exact .inl rfl | exact .inr rfl)) ?_ | refine rt_eq (q_X12_clause_190) ?_ | refine rt_eq (q_X12_clause_274 (by first | assumption | rfl | exact .inl rfl | exact .inr rfl)) ?_ | refine rt_eq (q_X12_clause_303) ?_ | refine rt_eq (q_X12_clause_162 (by first | assumption | rfl | exact .inl rfl | exact .inr rfl)) ?_ | refine rt_eq (q_X12_clause_200) ?_ | refine rt_eq (q_X12_clause_309) ?_ | refine rt_eq (q_X12_clause_177 (by first | assumption | rfl | exact .inl rfl | exact .inr rfl)) ?_ | refine rt_eq (q_X12_clause_222) ?_ | refine rt_eq (q_X12_clause_333) ?_)
    refine rt_gd (inb_n hK (by decide)) (rt_ret ⟨⟨fr_up fr_rfl (by unfold fCM; rw [inF_app, inF_app, inF_app]; simp [inF]), ?_, ?_, ?_⟩, rfl⟩)
    · rw [up2_n (by decide)]
    · rw [up2_n (by decide)]
    · rw [up2_n (by decide)]
      exact hp
theorem sp_readThreadF (h0 : ¬ I 72 5 = nI 0) : runM (d + 2) nX12_readThread [.ref 72] (mm L X I J) = rI (nI 0) (mm L X I J) := by
  rw [e_X12_readThread]
  (first | refine Eq.trans (q_X12_readThread_0) ?_ | refine Eq.trans (q_X12_readThread_7) ?_)
  refine Eq.trans (bnd_e (sp_numberF h0)) ?_
  (first | refine Eq.trans (q_X12_readThread_0) ?_ | refine Eq.trans (q_X12_readThread_7) ?_)
  rfl
theorem sp_readThread (B : BM I W) (B2 : ∀ k, k < 600 → W k < 256) (hz : I 72 2 = nI z) (hz2 : z ≤ 600) (ha : a ≤ z) (h4 : I 72 4 = nI a) (h0 : I 72 5 = nI 0) : Rt L X (runM (d + 4) nX12_readThread [.ref 72] (mm L X I J)) (some (.int (nI (if nmF W z a (nI 0) (nI 9) = 0 then (nmV W z a).2 else 0)))) (fun I' J' => (Fr fTM I I' ∧ (∃ a', a' ≤ z ∧ I' 72 4 = nI a') ∧ (nmF W z a (nI 0) (nI 9) = 0 → I' 72 4 = nI (nmV W z a).1 ∧ I' 72 5 = nI 0) ∧ (¬ nmF W z a (nI 0) (nI 9) = 0 → I' 72 5 = nI (nmF W z a (nI 0) (nI 9)) ∧ I' 72 6 = nI (sk W z a))) ∧ J' = J) := by
  rw [e_X12_readThread]
  (first | refine rt_eq (q_X12_readThread_0) ?_ | refine rt_eq (q_X12_readThread_7) ?_)
  refine rt_bnd (sp_number B B2 hz hz2 ha h4 h0) ?_
  rintro I1 J1 ⟨f, rfl⟩
  (first | refine rt_eq (q_X12_readThread_0) ?_ | refine rt_eq (q_X12_readThread_7) ?_)
  exact rt_ret ⟨f, rfl⟩
theorem fh_177 (hK : K < 4) (hn : n < 6) (h0 : ¬ I 72 5 = nI 0) (hp : ∃ a', a' ≤ z ∧ I 72 4 = nI a') : Rt L X (runI (runM (d + 5)) iX12_clause (177, [some (.ref 72), some (.int (nI K)), u2, u3, u4, u5], [.int s2, .int (nI 3), .ref (78 + n)], mm L X I J)) none (fun I' J' => PH z I I' ∧ J' = J) := by
  have kr := ka_78 hn
  (first | refine rt_eq (q_X12_clause_0) ?_ | refine rt_eq (q_X12_clause_4) ?_ | refine rt_eq (q_X12_clause_49) ?_ | refine rt_eq (q_X12_clause_58) ?_ | refine rt_eq (q_X12_clause_46) ?_ | refine rt_eq (q_X12_clause_19) ?_ | refine rt_eq (q_X12_clause_70) ?_ | refine rt_eq (q_X12_clause_95) ?_ | refine rt_eq (q_X12_clause_97) ?_ | refine rt_eq (q_X12_clause_124) ?_ | refine rt_eq (q_X12_clause_181) ?_ | refine rt_eq (q_X12_clause_244) ?_ | refine rt_eq (q_X12_clause_278) ?_ | refine rt_eq (q_X12_clause_138 (by first | assumption | rfl | exact .inl rfl | exact .inr rfl)) ?_ | refine rt_eq (q_X12_clause_185) ?_ | refine rt_eq (q_X12_clause_259 (by first | assumption | rfl | exact .inl rfl | exact .inr rfl)) ?_ | refine rt_eq (q_X12_clause_285 (by first | assumption | rfl | exact .inl rfl | exact .inr rfl)) ?_ | refine rt_eq (q_X12_clause_150 (by first | assumption | rfl | exact .inl rfl | exact .inr rfl)) ?_ | refine rt_eq (q_X12_clause_190) ?_ | refine rt_eq (q_X12_clause_274 (by first | assumption | rfl | exact .inl rfl | exact .inr rfl)) ?_ | refine rt_eq (q_X12_clause_303) ?_ | refine rt_eq (q_X12_clause_162 (by first | assumption | rfl | exact .inl rfl | exact .inr rfl)) ?_ | refine rt_eq (q_X12_clause_200) ?_ | refine rt_eq (q_X12_clause_309) ?_ | refine rt_eq (q_X12_clause_177 (by first | assumption | rfl | exact .inl rfl | exact .inr rfl)) ?_ | refine rt_eq (q_X12_clause_222) ?_ | refine rt_eq (q_X12_clause_333) ?_)
  refine rt_gd (by decide) (rt_mono (fh_303 hK (by rw [up2_n (by omega)]; exact h0) (by rw [up2_n (by omega)]; exact hp)) ?_)
  rintro I1 J1 ⟨P, rfl⟩
  exact ⟨PH_up (by omega) (in_78 hn) P, rfl⟩
theorem fh_162 (hK : K < 4) (hn : n < 6) (h0 : ¬ I 72 5 = nI 0) (hp : ∃ a', a' ≤ z ∧ I 72 4 = nI a') : Rt L X (runI (runM (d + 5)) iX12_clause (162, [some (.ref 72), some (.int (nI K)), some (.int (nI n)), u3, u4, u5], [.int s2, .int (nI 2), .ref (78 + n)], mm L X I J)) none (fun I' J' => PH z I I' ∧ J' = J) := by
  have kr := ka_78 hn
  (first | refine rt_eq (q_X12_clause_0) ?_ | refine rt_eq (q_X12_clause_4) ?_ | refine rt_eq (q_X12_clause_49) ?_ | refine rt_eq (q_X12_clause_58) ?_ | refine rt_eq (q_X12_clause_46) ?_ | refine rt_eq (q_X12_clause_19) ?_ | refine rt_eq (q_X12_clause_70) ?_ | refine rt_eq (q_X12_clause_95) ?_ | refine rt_eq (q_X12_clause_97) ?_ | refine rt_eq (q_X12_clause_124) ?_ | refine rt_eq (q_X12_clause_181) ?_ | refine rt_eq (q_X12_clause_244) ?_ | refine rt_eq (q_X12_clause_278) ?_ | refine rt_eq (q_X12_clause_138 (by first | assumption | rfl | exact .inl rfl | exact .inr rfl)) ?_ | refine rt_eq (q_X12_clause_185) ?_ | refine rt_eq (q_X12_clause_259 (by first | assumption | rfl | exact .inl rfl | exact .inr rfl)) ?_ | refine rt_eq (q_X12_clause_285 (by first | assumption | rfl | exact .inl rfl | exact .inr rfl)) ?_ | refine rt_eq (q_X12_clause_150 (by first | assumption | rfl | exact .inl rfl | exact .inr rfl)) ?_ | refine rt_eq (q_X12_clause_190) ?_ | refine rt_eq (q_X12_clause_274 (by first | assumption | rfl | exact .inl rfl | exact .inr rfl)) ?_ | refine rt_eq (q_X12_clause_303) ?_ | refine rt_eq (q_X12_clause_162 (by first | assumption | rfl | exact .inl rfl | exact .inr rfl)) ?_ | refine rt_eq (q_X12_clause_200) ?_ | refine rt_eq (q_X12_clause_309) ?_ | refine rt_eq (q_X12_clause_177 (by first | assumption | rfl | exact .inl rfl | exact .inr rfl)) ?_ | refine rt_eq (q_X12_clause_222) ?_ | refine rt_eq (q_X12_clause_333) ?_)
  refine rt_gd (by decide) (rt_gd (inb_n hn (by decide)) (rt_be (sp_numberF (by rw [up2_n (by omega)]; exact h0)) ?_))
  rw [nI_clamp (by omega)]
  refine rt_mono (fh_177 hK hn (by rw [up2_n (by omega)]; exact h0) (by rw [up2_n (by omega)]; exact hp)) ?_
  rintro I1 J1 ⟨P, rfl⟩
  exact ⟨PH_up (by omega) (in_78 hn) P, rfl⟩
theorem fh_150 (hK : K < 4) (hn : n < 6) (h0 : ¬ I 72 5 = nI 0) (hp : ∃ a', a' ≤ z ∧ I 72 4 = nI a') : Rt L X (runI (runM (d + 5)) iX12_clause (150, [some (.ref 72), some (.int (nI K)), some (.int (nI n)), u3, u4, u5], [.int s2, .int (nI 1), .ref (78 + n)], mm L X I J)) none (fun I' J' => PH z I I' ∧ J' = J) := by
  have kr := ka_78 hn
  (first | refine rt_eq (q_X12_clause_0) ?_ | refine rt_eq (q_X12_clause_4) ?_ | refine rt_eq (q_X12_clause_49) ?_ | refine rt_eq (q_X12_clause_58) ?_ | refine rt_eq (q_X12_clause_46) ?_ | refine rt_eq (q_X12_clause_19) ?_ | refine rt_eq (q_X12_clause_70) ?_ | refine rt_eq (q_X12_clause_95) ?_ | refine rt_eq (q_X12_clause_97) ?_ | refine rt_eq (q_X12_clause_124) ?_ | refine rt_eq (q_X12_clause_181) ?_ | refine rt_eq (q_X12_clause_244) ?_ | refine rt_eq (q_X12_clause_278) ?_ | refine rt_eq (q_X12_clause_138 (by first | assumption | rfl | exact .inl rfl | exact .inr rfl)) ?_ | refine rt_eq (q_X12_clause_185) ?_ | refine rt_eq (q_X12_clause_259 (by first | assumption | rfl | exact .inl rfl | exact .inr rfl)) ?_ | refine rt_eq (q_X12_clause_285 (by first | assumption | rfl | exact .inl rfl | exact .inr rfl)) ?_ | refine rt_eq (q_X12_clause_150 (by first | assumption | rfl | exact .inl rfl | exact .inr rfl)) ?_ | refine rt_eq (q_X12_clause_190) ?_ | refine rt_eq (q_X12_clause_274 (by first | assumption | rfl | exact .inl rfl | exact .inr rfl)) ?_ | refine rt_eq (q_X12_clause_303) ?_ | refine rt_eq (q_X12_clause_162 (by first | assumption | rfl | exact .inl rfl | exact .inr rfl)) ?_ | refine rt_eq (q_X12_clause_200) ?_ | refine rt_eq (q_X12_clause_309) ?_ | refine rt_eq (q_X12_clause_177 (by first | assumption | rfl | exact .inl rfl | exact .inr rfl)) ?_ | refine rt_eq (q_X12_clause_222) ?_ | refine rt_eq (q_X12_clause_333) ?_)
  refine rt_gd (by decide) (rt_gd (inb_n hn (by decide)) (rt_be (sp_readThreadF (by rw [up2_n (by omega)]; exact h0)) ?_))
  rw [nI_clamp (by omega)]
  refine rt_mono (fh_162 hK hn (by rw [up2_n (by omega)]; exact h0) (by rw [up2_n (by omega)]; exact hp)) ?_
  rintro I1 J1 ⟨P, rfl⟩
  exact ⟨PH_up (by omega) (in_78 hn) P, rfl⟩
theorem fh_138 (hK : K < 4) (hn : n < 6) (h0 : ¬ I 72 5 = nI 0) (hp : ∃ a', a' ≤ z ∧ I 72 4 = nI a') : Rt L X (runI (runM (d + 5)) iX12_clause (138, [some (.ref 72), some (.int (nI K)), some (.int (nI n)), u3, u4, u5], [.int s2, .int (nI 0), .ref (78 + n)], mm L X I J)) none (fun I' J' => PH z I I' ∧ J' = J) := by
  have kr := ka_78 hn
  (first | refine rt_eq (q_X12_clause_0) ?_ | refine rt_eq (q_X12_clause_4) ?_ | refine rt_eq (q_X12_clause_49) ?_ | refine rt_eq (q_X12_clause_58) ?_ | refine rt_eq (q_X12_clause_46) ?_ | refine rt_eq (q_X12_clause_19) ?_ | refine rt_eq (q_X12_clause_70) ?_ | refine rt_eq (q_X12_clause_95) ?_ | refine rt_eq (q_X12_clause_97) ?_ | refine rt_eq (q_X12_clause_124) ?_ | refine rt_eq (q_X12_clause_181) ?_ | refine rt_eq (q_X12_clause_244) ?_ | refine rt_eq (q_X12_clause_278) ?_ | refine rt_eq (q_X12_clause_138 (by first | assumption | rfl | exact .inl rfl | exact .inr rfl)) ?_ | refine rt_eq (q_X12_clause_185) ?_ | refine rt_eq (q_X12_clause_259 (by first | assumption | rfl | exact .inl rfl | exact .inr rfl)) ?_ | refine rt_eq (q_X12_clause_285 (by first | assumption | rfl | exact .inl rfl | exact .inr rfl)) ?_ | refine rt_eq (q_X12_clause_150 (by first | assumption | rfl | exact .inl rfl | exact .inr rfl)) ?_ | refine rt_eq (q_X12_clause_190) ?_ | refine rt_eq (q_X12_clause_274 (by first | assumption | rfl | exact .inl rfl | exact .inr rfl)) ?_ | refine rt_eq (q_X12_clause_303) ?_ | refine rt_eq (q_X12_clause_162 (by first | assumption | rfl | exact .inl rfl | exact .inr rfl)) ?_ | refine rt_eq (q_X12_clause_200) ?_ | refine rt_eq (q_X12_clause_309) ?_ | refine rt_eq (q_X12_clause_177 (by first | assumption | rfl | exact .inl rfl | exact .inr rfl)) ?_ | refine rt_eq (q_X12_clause_222) ?_ | refine rt_eq (q_X12_clause_333) ?_)
  refine rt_gd (by decide) (rt_gd (inb_n hn (by decide)) (rt_be (sp_readThreadF (by rw [up2_n (by omega)]; exact h0)) ?_))
  rw [nI_clamp (by omega)]
  refine rt_mono (fh_150 hK hn (by rw [up2_n (by omega)]; exact h0) (by rw [up2_n (by omega)]; exact hp)) ?_
  rintro I1 J1 ⟨P, rfl⟩
  exact ⟨PH_up (by omega) (in_78 hn) P, rfl⟩
theorem fh_274 (hK : K < 4) (hn : n < 5) (h0 : ¬ I 72 5 = nI 0) (hp : ∃ a', a' ≤ z ∧ I 72 4 = nI a') : Rt L X (runI (runM (d + 5)) iX12_clause (274, [some (.ref 72), some (.int (nI K)), u2, u3, u4, u5], [.int s2, .int (nI 1), .ref (103 + n)], mm L X I J)) none (fun I' J' => PH z I I' ∧ J' = J) := by
  have kr := ka_103 hn
  (first | refine rt_eq (q_X12_clause_0) ?_ | refine rt_eq (q_X12_clause_4) ?_ | refine rt_eq (q_X12_clause_49) ?_ | refine rt_eq (q_X12_clause_58) ?_ | refine rt_eq (q_X12_clause_46) ?_ | refine rt_eq (q_X12_clause_19) ?_ | refine rt_eq (q_X12_clause_70) ?_ | refine rt_eq (q_X12_clause_95) ?_ | refine rt_eq (q_X12_clause_97) ?_ | refine rt_eq (q_X12_clause_124) ?_ | refine rt_eq (q_X12_clause_181) ?_ | refine rt_eq (q_X12_clause_244) ?_ | refine rt_eq (q_X12_clause_278) ?_ | refine rt_eq (q_X12_clause_138 (by first | assumption | rfl | exact .inl rfl | exact .inr rfl)) ?_ | refine rt_eq (q_X12_clause_185) ?_ | refine rt_eq (q_X12_clause_259 (by first | assumption | rfl | exact .inl rfl | exact .inr rfl)) ?_ | refine rt_eq (q_X12_clause_285 (by first | assumption | rfl | exact .inl rfl | exact .inr rfl)) ?_ | refine rt_eq (q_X12_clause_150 (by first | assumption | rfl | exact .inl rfl | exact .inr rfl)) ?_ | refine rt_eq (q_X12_clause_190) ?_ | refine rt_eq (q_X12_clause_274 (by first | assumption | rfl | exact .inl rfl | exact .inr rfl)) ?_ | refine rt_eq (q_X12_clause_303) ?_ | refine rt_eq (q_X12_clause_162 (by first | assumption | rfl | exact .inl rfl | exact .inr rfl)) ?_ | refine rt_eq (q_X12_clause_200) ?_ | refine rt_eq (q_X12_clause_309) ?_ | refine rt_eq (q_X12_clause_177 (by first | assumption | rfl | exact .inl rfl | exact .inr rfl)) ?_ | refine rt_eq (q_X12_clause_222) ?_ | refine rt_eq (q_X12_clause_333) ?_)
  refine rt_gd (by decide) (rt_mono (fh_303 hK (by rw [up2_n (by omega)]; exact h0) (by rw [up2_n (by omega)]; exact hp)) ?_)
  rintro I1 J1 ⟨P, rfl⟩
  exact ⟨PH_up (by omega) (in_103 hn) P, rfl⟩
theorem fh_259 (hK : K < 4) (hn : n < 5) (h0 : ¬ I 72 5 = nI 0) (hp : ∃ a', a' ≤ z ∧ I 72 4 = nI a') : Rt L X (runI (runM (d + 5)) iX12_clause (259, [some (.ref 72), some (.int (nI K)), some (.int (nI n)), u3, u4, u5], [.int s2, .int (nI 0), .ref (103 + n)], mm L X I J)) none (fun I' J' => PH z I I' ∧ J' = J) := by
  have kr := ka_103 hn
  (first | refine rt_eq (q_X12_clause_0) ?_ | refine rt_eq (q_X12_clause_4) ?_ | refine rt_eq (q_X12_clause_49) ?_ | refine rt_eq (q_X12_clause_58) ?_ | refine rt_eq (q_X12_clause_46) ?_ | refine rt_eq (q_X12_clause_19) ?_ | refine rt_eq (q_X12_clause_70) ?_ | refine rt_eq (q_X12_clause_95) ?_ | refine rt_eq (q_X12_clause_97) ?_ | refine rt_eq (q_X12_clause_124) ?_ | refine rt_eq (q_X12_clause_181) ?_ | refine rt_eq (q_X12_clause_244) ?_ | refine rt_eq (q_X12_clause_278) ?_ | refine rt_eq (q_X12_clause_138 (by first | assumption | rfl | exact .inl rfl | exact .inr rfl)) ?_ | refine rt_eq (q_X12_clause_185) ?_ | refine rt_eq (q_X12_clause_259 (by first | assumption | rfl | exact .inl rfl | exact .inr rfl)) ?_ | refine rt_eq (q_X12_clause_285 (by first | assumption | rfl | exact .inl rfl | exact .inr rfl)) ?_ | refine rt_eq (q_X12_clause_150 (by first | assumption | rfl | exact .inl rfl | exact .inr rfl)) ?_ | refine rt_eq (q_X12_clause_190) ?_ | refine rt_eq (q_X12_clause_274 (by first | assumption | rfl | exact .inl rfl | exact .inr rfl)) ?_ | refine rt_eq (q_X12_clause_303) ?_ | refine rt_eq (q_X12_clause_162 (by first | assumption | rfl | exact .inl rfl | exact .inr rfl)) ?_ | refine rt_eq (q_X12_clause_200) ?_ | refine rt_eq (q_X12_clause_309) ?_ | refine rt_eq (q_X12_clause_177 (by first | assumption | rfl | exact .inl rfl | exact .inr rfl)) ?_ | refine rt_eq (q_X12_clause_222) ?_ | refine rt_eq (q_X12_clause_333) ?_)
  refine rt_gd (by decide) (rt_gd (inb_n hn (by decide)) (rt_be (sp_numberF (by rw [up2_n (by omega)]; exact h0)) ?_))
  rw [nI_clamp (by omega)]
  refine rt_mono (fh_274 hK hn (by rw [up2_n (by omega)]; exact h0) (by rw [up2_n (by omega)]; exact hp)) ?_
  rintro I1 J1 ⟨P, rfl⟩
  exact ⟨PH_up (by omega) (in_103 hn) P, rfl⟩
theorem fh_222 {x3 x5 : Int32} (hK : K < 4) (hn : n < 4) (h0 : ¬ I 72 5 = nI 0) (hp : ∃ a', a' ≤ z ∧ I 72 4 = nI a') : Rt L X (runI (runM (d + 5)) iX12_clause (222, [some (.ref 72), some (.int (nI K)), some (.int (nI n)), some (.int x3), u4, some (.int x5)], [], mm L X I J)) none (fun I' J' => PH z I I' ∧ J' = J) := by
  have kr := ka_92 hn
  (first | refine rt_eq (q_X12_clause_0) ?_ | refine rt_eq (q_X12_clause_4) ?_ | refine rt_eq (q_X12_clause_49) ?_ | refine rt_eq (q_X12_clause_58) ?_ | refine rt_eq (q_X12_clause_46) ?_ | refine rt_eq (q_X12_clause_19) ?_ | refine rt_eq (q_X12_clause_70) ?_ | refine rt_eq (q_X12_clause_95) ?_ | refine rt_eq (q_X12_clause_97) ?_ | refine rt_eq (q_X12_clause_124) ?_ | refine rt_eq (q_X12_clause_181) ?_ | refine rt_eq (q_X12_clause_244) ?_ | refine rt_eq (q_X12_clause_278) ?_ | refine rt_eq (q_X12_clause_138 (by first | assumption | rfl | exact .inl rfl | exact .inr rfl)) ?_ | refine rt_eq (q_X12_clause_185) ?_ | refine rt_eq (q_X12_clause_259 (by first | assumption | rfl | exact .inl rfl | exact .inr rfl)) ?_ | refine rt_eq (q_X12_clause_285 (by first | assumption | rfl | exact .inl rfl | exact .inr rfl)) ?_ | refine rt_eq (q_X12_clause_150 (by first | assumption | rfl | exact .inl rfl | exact .inr rfl)) ?_ | refine rt_eq (q_X12_clause_190) ?_ | refine rt_eq (q_X12_clause_274 (by first | assumption | rfl | exact .inl rfl | exact .inr rfl)) ?_ | refine rt_eq (q_X12_clause_303) ?_ | refine rt_eq (q_X12_clause_162 (by first | assumption | rfl | exact .inl rfl | exact .inr rfl)) ?_ | refine rt_eq (q_X12_clause_200) ?_ | refine rt_eq (q_X12_clause_309) ?_ | refine rt_eq (q_X12_clause_177 (by first | assumption | rfl | exact .inl rfl | exact .inr rfl)) ?_ | refine rt_eq (q_X12_clause_222) ?_ | refine rt_eq (q_X12_clause_333) ?_)
  refine rt_gd (inb_n hn (by decide)) ?_
  rw [nI_clamp (by omega)]
  refine rt_mono (fh_303 hK (by rw [up2_n (by omega), up2_n (by omega)]; exact h0) (by rw [up2_n (by omega), up2_n (by omega)]; exact hp)) ?_
  rintro I1 J1 ⟨P, rfl⟩
  exact ⟨PH_up (by omega) (in_92 hn) (PH_up (by omega) (in_92 hn) P), rfl⟩
theorem fh_200 {x3 x4 : Int32} (hK : K < 4) (hn : n < 4) (h0 : ¬ I 72 5 = nI 0) (hp : ∃ a', a' ≤ z ∧ I 72 4 = nI a') : Rt L X (runI (runM (d + 5)) iX12_clause (200, [some (.ref 72), some (.int (nI K)), some (.int (nI n)), some (.int x3), some (.int x4), u5], [.int s2], mm L X I J)) none (fun I' J' => PH z I I' ∧ J' = J) := by
  (first | refine rt_eq (q_X12_clause_0) ?_ | refine rt_eq (q_X12_clause_4) ?_ | refine rt_eq (q_X12_clause_49) ?_ | refine rt_eq (q_X12_clause_58) ?_ | refine rt_eq (q_X12_clause_46) ?_ | refine rt_eq (q_X12_clause_19) ?_ | refine rt_eq (q_X12_clause_70) ?_ | refine rt_eq (q_X12_clause_95) ?_ | refine rt_eq (q_X12_clause_97) ?_ | refine rt_eq (q_X12_clause_124) ?_ | refine rt_eq (q_X12_clause_181) ?_ | refine rt_eq (q_X12_clause_244) ?_ | refine rt_eq (q_X12_clause_278) ?_ | refine rt_eq (q_X12_clause_138 (by first | assumption | rfl | exact .inl rfl | exact .inr rfl)) ?_ | refine rt_eq (q_X12_clause_185) ?_ | refine rt_eq (q_X12_clause_259 (by first | assumption | rfl | exact .inl rfl | exact .inr rfl)) ?_ | refine rt_eq (q_X12_clause_285 (by first | assumption | rfl | exact .inl rfl | exact .inr rfl)) ?_ | refine rt_eq (q_X12_clause_150 (by first | assumption | rfl | exact .inl rfl | exact .inr rfl)) ?_ | refine rt_eq (q_X12_clause_190) ?_ | refine rt_eq (q_X12_clause_274 (by first | assumption | rfl | exact .inl rfl | exact .inr rfl)) ?_ | refine rt_eq (q_X12_clause_303) ?_ | refine rt_eq (q_X12_clause_162 (by first | assumption | rfl | exact .inl rfl | exact .inr rfl)) ?_ | refine rt_eq (q_X12_clause_200) ?_ | refine rt_eq (q_X12_clause_309) ?_ | refine rt_eq (q_X12_clause_177 (by first | assumption | rfl | exact .inl rfl | exact .inr rfl)) ?_ | refine rt_eq (q_X12_clause_222) ?_ | refine rt_eq (q_X12_clause_333) ?_)
  exact rt_f h0 (fh_222 hK hn h0 hp)
theorem fh_185 (B : BM I W) (B2 : ∀ k, k < 600 → W k < 256) (hz : I 72 2 = nI z) (hz2 : z ≤ 600) (hK : K < 4) (hn : n < 4) (h0 : ¬ I 72 5 = nI 0) (hp : ∃ a', a' ≤ z ∧ I 72 4 = nI a') : Rt L X (runI (runM (d + 5)) iX12_clause (185, [some (.ref 72), some (.int (nI K)), some (.int (nI n)), u3, u4, u5], [.int s2], mm L X I J)) none (fun I' J' => PH z I I' ∧ J' = J) := by
  obtain ⟨a', p1, p2⟩ := hp
  have ps := sk_le (W := W) p1
  (first | refine rt_eq (q_X12_clause_0) ?_ | refine rt_eq (q_X12_clause_4) ?_ | refine rt_eq (q_X12_clause_49) ?_ | refine rt_eq (q_X12_clause_58) ?_ | refine rt_eq (q_X12_clause_46) ?_ | refine rt_eq (q_X12_clause_19) ?_ | refine rt_eq (q_X12_clause_70) ?_ | refine rt_eq (q_X12_clause_95) ?_ | refine rt_eq (q_X12_clause_97) ?_ | refine rt_eq (q_X12_clause_124) ?_ | refine rt_eq (q_X12_clause_181) ?_ | refine rt_eq (q_X12_clause_244) ?_ | refine rt_eq (q_X12_clause_278) ?_ | refine rt_eq (q_X12_clause_138 (by first | assumption | rfl | exact .inl rfl | exact .inr rfl)) ?_ | refine rt_eq (q_X12_clause_185) ?_ | refine rt_eq (q_X12_clause_259 (by first | assumption | rfl | exact .inl rfl | exact .inr rfl)) ?_ | refine rt_eq (q_X12_clause_285 (by first | assumption | rfl | exact .inl rfl | exact .inr rfl)) ?_ | refine rt_eq (q_X12_clause_150 (by first | assumption | rfl | exact .inl rfl | exact .inr rfl)) ?_ | refine rt_eq (q_X12_clause_190) ?_ | refine rt_eq (q_X12_clause_274 (by first | assumption | rfl | exact .inl rfl | exact .inr rfl)) ?_ | refine rt_eq (q_X12_clause_303) ?_ | refine rt_eq (q_X12_clause_162 (by first | assumption | rfl | exact .inl rfl | exact .inr rfl)) ?_ | refine rt_eq (q_X12_clause_200) ?_ | refine rt_eq (q_X12_clause_309) ?_ | refine rt_eq (q_X12_clause_177 (by first | assumption | rfl | exact .inl rfl | exact .inr rfl)) ?_ | refine rt_eq (q_X12_clause_222) ?_ | refine rt_eq (q_X12_clause_333) ?_)
  refine rt_bnd (sp_blanks B B2 hz hz2 p1 p2) ?_
  rintro I1 J1 ⟨⟨f1, f2⟩, rfl⟩
  have h01 : ¬ I1 72 5 = nI 0 := by
    rw [f1 72 5 rfl]
    exact h0
  (first | refine rt_eq (q_X12_clause_0) ?_ | refine rt_eq (q_X12_clause_4) ?_ | refine rt_eq (q_X12_clause_49) ?_ | refine rt_eq (q_X12_clause_58) ?_ | refine rt_eq (q_X12_clause_46) ?_ | refine rt_eq (q_X12_clause_19) ?_ | refine rt_eq (q_X12_clause_70) ?_ | refine rt_eq (q_X12_clause_95) ?_ | refine rt_eq (q_X12_clause_97) ?_ | refine rt_eq (q_X12_clause_124) ?_ | refine rt_eq (q_X12_clause_181) ?_ | refine rt_eq (q_X12_clause_244) ?_ | refine rt_eq (q_X12_clause_278) ?_ | refine rt_eq (q_X12_clause_138 (by first | assumption | rfl | exact .inl rfl | exact .inr rfl)) ?_ | refine rt_eq (q_X12_clause_185) ?_ | refine rt_eq (q_X12_clause_259 (by first | assumption | rfl | exact .inl rfl | exact .inr rfl)) ?_ | refine rt_eq (q_X12_clause_285 (by first | assumption | rfl | exact .inl rfl | exact .inr rfl)) ?_ | refine rt_eq (q_X12_clause_150 (by first | assumption | rfl | exact .inl rfl | exact .inr rfl)) ?_ | refine rt_eq (q_X12_clause_190) ?_ | refine rt_eq (q_X12_clause_274 (by first | assumption | rfl | exact .inl rfl | exact .inr rfl)) ?_ | refine rt_eq (q_X12_clause_303) ?_ | refine rt_eq (q_X12_clause_162 (by first | assumption | rfl | exact .inl rfl | exact .inr rfl)) ?_ | refine rt_eq (q_X12_clause_200) ?_ | refine rt_eq (q_X12_clause_309) ?_ | refine rt_eq (q_X12_clause_177 (by first | assumption | rfl | exact .inl rfl | exact .inr rfl)) ?_ | refine rt_eq (q_X12_clause_222) ?_ | refine rt_eq (q_X12_clause_333) ?_)
  refine rt_be (sp_readThreadF h01) ?_
  refine rt_mono (fh_200 hK hn h01 ⟨_, ps.2, f2⟩) ?_
  rintro I2 J2 ⟨⟨g1, g2, g3, g4⟩, rfl⟩
  exact ⟨⟨fr_tr (fr_mono f1 cm_5) g1, g2.trans (f1 72 5 rfl), g3.trans (f1 72 6 rfl), g4⟩, rfl⟩
/-- a clause ends well, or not -/
theorem gh_303 (B : BM I W) (B2 : ∀ k, k < 600 → W k < 256) (hz : I 72 2 = nI z) (hz2 : z ≤ 600) (hK : K < 4) (hb : b ≤ z) (h4 : I 72 4 = nI b) (h0 : I 72 5 = nI 0) : Rt L X (runI (runM (d + 5)) iX12_clause (303, [some (.ref 72), some (.int (nI K)), u2, u3, u4, u5], [], mm L X I J)) none (fun I' J' => (Fr (fTM ++ [(75, 0)]) I I' ∧ (sgn W z b 59 → I' 72 4 = nI (sk W z b + 1) ∧ I' 72 5 = nI 0 ∧ ∀ j, I' 75 j = if j = K ∧ K < 3 then I 75 j + nI 1 else I 75 j) ∧ (¬ sgn W z b 59 → I' 72 5 = nI 1 ∧ I' 72 6 = nI (sk W z b) ∧ ∃ a', a' ≤ z ∧ I' 72 4 = nI a')) ∧ J' = J) := by
  (first | refine rt_eq (q_X12_clause_0) ?_ | refine rt_eq (q_X12_clause_4) ?_ | refine rt_eq (q_X12_clause_49) ?_ | refine rt_eq (q_X12_clause_58) ?_ | refine rt_eq (q_X12_clause_46) ?_ | refine rt_eq (q_X12_clause_19) ?_ | refine rt_eq (q_X12_clause_70) ?_ | refine rt_eq (q_X12_clause_95) ?_ | refine rt_eq (q_X12_clause_97) ?_ | refine rt_eq (q_X12_clause_124) ?_ | refine rt_eq (q_X12_clause_181) ?_ | refine rt_eq (q_X12_clause_244) ?_ | refine rt_eq (q_X12_clause_278) ?_ | refine rt_eq (q_X12_clause_138 (by first | assumption | rfl | exact .inl rfl | exact .inr rfl)) ?_ | refine rt_eq (q_X12_clause_185) ?_ | refine rt_eq (q_X12_clause_259 (by first | assumption | rfl | exact .inl rfl | exact .inr rfl)) ?_ | refine rt_eq (q_X12_clause_285 (by first | assumption | rfl | exact .inl rfl | exact .inr rfl)) ?_ | refine rt_eq (q_X12_clause_150 (by first | assumption | rfl | exact .inl rfl | exact .inr rfl)) ?_ | refine rt_eq (q_X12_clause_190) ?_ | refine rt_eq (q_X12_clause_274 (by first | assumption | rfl | exact .inl rfl | exact .inr rfl)) ?_ | refine rt_eq (q_X12_clause_303) ?_ | refine rt_eq (q_X12_clause_162 (by first | assumption | rfl | exact .inl rfl | exact .inr rfl)) ?_ | refine rt_eq (q_X12_clause_200) ?_ | refine rt_eq (q_X12_clause_309) ?_ | refine rt_eq (q_X12_clause_177 (by first | assumption | rfl | exact .inl rfl | exact .inr rfl)) ?_ | refine rt_eq (q_X12_clause_222) ?_ | refine rt_eq (q_X12_clause_333) ?_)
  refine rt_bnd (sp_signM (c := 59) B B2 hz hz2 hb h4 h0 (by decide)) ?_
  rintro I1 J1 ⟨⟨f1, f2, f3, f4⟩, rfl⟩
  have f1' : Fr (fTM ++ [(75, 0)]) I I1 := fr_mono f1 (by decide)
  (first | refine rt_eq (q_X12_clause_0) ?_ | refine rt_eq (q_X12_clause_4) ?_ | refine rt_eq (q_X12_clause_49) ?_ | refine rt_eq (q_X12_clause_58) ?_ | refine rt_eq (q_X12_clause_46) ?_ | refine rt_eq (q_X12_clause_19) ?_ | refine rt_eq (q_X12_clause_70) ?_ | refine rt_eq (q_X12_clause_95) ?_ | refine rt_eq (q_X12_clause_97) ?_ | refine rt_eq (q_X12_clause_124) ?_ | refine rt_eq (q_X12_clause_181) ?_ | refine rt_eq (q_X12_clause_244) ?_ | refine rt_eq (q_X12_clause_278) ?_ | refine rt_eq (q_X12_clause_138 (by first | assumption | rfl | exact .inl rfl | exact .inr rfl)) ?_ | refine rt_eq (q_X12_clause_185) ?_ | refine rt_eq (q_X12_clause_259 (by first | assumption | rfl | exact .inl rfl | exact .inr rfl)) ?_ | refine rt_eq (q_X12_clause_285 (by first | assumption | rfl | exact .inl rfl | exact .inr rfl)) ?_ | refine rt_eq (q_X12_clause_150 (by first | assumption | rfl | exact .inl rfl | exact .inr rfl)) ?_ | refine rt_eq (q_X12_clause_190) ?_ | refine rt_eq (q_X12_clause_274 (by first | assumption | rfl | exact .inl rfl | exact .inr rfl)) ?_ | refine rt_eq (q_X12_clause_303) ?_ | refine rt_eq (q_X12_clause_162 (by first | assumption | rfl | exact .inl rfl | exact .inr rfl)) ?_ | refine rt_eq (q_X12_clause_200) ?_ | refine rt_eq (q_X12_clause_309) ?_ | refine rt_eq (q_X12_clause_177 (by first | assumption | rfl | exact .inl rfl | exact .inr rfl)) ?_ | refine rt_eq (q_X12_clause_222) ?_ | refine rt_eq (q_X12_clause_333) ?_)
  by_cases q : 3 ≤ K
  · refine rt_t (by (try simp (disch := omega) only [nI_leI, nI_ltI, nI_eq, nI_add, pk_mul, n_0add, Nat.zero_add, nI_clamp]) <;> omega) (rt_ret ⟨⟨f1', fun s => ⟨(f3 s).1, (f3 s).2, fun j => ?_⟩, fun s => ⟨(f4 s).1, (f4 s).2, f2⟩⟩, rfl⟩)
    rw [f1 75 j rfl, if_neg (fun e => by omega)]
  · refine rt_f (by (try simp (disch := omega) only [nI_leI, nI_ltI, nI_eq, nI_add, pk_mul, n_0add, Nat.zero_add, nI_clamp]) <;> omega) (rt_gd (inb_n hK (by decide)) ?_)
    rw [nI_clamp (by omega)]
    by_cases s : sgn W z b 59
    · refine rt_t (f3 s).2 ?_
      (first | refine rt_eq (q_X12_clause_0) ?_ | refine rt_eq (q_X12_clause_4) ?_ | refine rt_eq (q_X12_clause_49) ?_ | refine rt_eq (q_X12_clause_58) ?_ | refine rt_eq (q_X12_clause_46) ?_ | refine rt_eq (q_X12_clause_19) ?_ | refine rt_eq (q_X12_clause_70) ?_ | refine rt_eq (q_X12_clause_95) ?_ | refine rt_eq (q_X12_clause_97) ?_ | refine rt_eq (q_X12_clause_124) ?_ | refine rt_eq (q_X12_clause_181) ?_ | refine rt_eq (q_X12_clause_244) ?_ | refine rt_eq (q_X12_clause_278) ?_ | refine rt_eq (q_X12_clause_138 (by first | assumption | rfl | exact .inl rfl | exact .inr rfl)) ?_ | refine rt_eq (q_X12_clause_185) ?_ | refine rt_eq (q_X12_clause_259 (by first | assumption | rfl | exact .inl rfl | exact .inr rfl)) ?_ | refine rt_eq (q_X12_clause_285 (by first | assumption | rfl | exact .inl rfl | exact .inr rfl)) ?_ | refine rt_eq (q_X12_clause_150 (by first | assumption | rfl | exact .inl rfl | exact .inr rfl)) ?_ | refine rt_eq (q_X12_clause_190) ?_ | refine rt_eq (q_X12_clause_274 (by first | assumption | rfl | exact .inl rfl | exact .inr rfl)) ?_ | refine rt_eq (q_X12_clause_303) ?_ | refine rt_eq (q_X12_clause_162 (by first | assumption | rfl | exact .inl rfl | exact .inr rfl)) ?_ | refine rt_eq (q_X12_clause_200) ?_ | refine rt_eq (q_X12_clause_309) ?_ | refine rt_eq (q_X12_clause_177 (by first | assumption | rfl | exact .inl rfl | exact .inr rfl)) ?_ | refine rt_eq (q_X12_clause_222) ?_ | refine rt_eq (q_X12_clause_333) ?_)
      refine rt_gd (inb_n hK (by decide)) ?_
      rw [nI_clamp (by omega)]
      refine rt_ret ⟨⟨fr_up f1' (by simp [fTM, inF]), fun _ => ⟨?_, ?_, fun j => ?_⟩, fun e => absurd s e⟩, rfl⟩
      · rw [up2_n (by decide), (f3 s).1]
      · rw [up2_n (by decide), (f3 s).2]
      · rw [up2_at, f1 75 K rfl, f1 75 j rfl]
        by_cases e : j = K
        · rw [if_pos e, if_pos ⟨e, by omega⟩, e]
        · rw [if_neg e, if_neg (fun e2 => e e2.1)]
    · have e5 := (f4 s).1
      refine rt_f (by rw [e5]; decide) ?_
      (first | refine rt_eq (q_X12_clause_0) ?_ | refine rt_eq (q_X12_clause_4) ?_ | refine rt_eq (q_X12_clause_49) ?_ | refine rt_eq (q_X12_clause_58) ?_ | refine rt_eq (q_X12_clause_46) ?_ | refine rt_eq (q_X12_clause_19) ?_ | refine rt_eq (q_X12_clause_70) ?_ | refine rt_eq (q_X12_clause_95) ?_ | refine rt_eq (q_X12_clause_97) ?_ | refine rt_eq (q_X12_clause_124) ?_ | refine rt_eq (q_X12_clause_181) ?_ | refine rt_eq (q_X12_clause_244) ?_ | refine rt_eq (q_X12_clause_278) ?_ | refine rt_eq (q_X12_clause_138 (by first | assumption | rfl | exact .inl rfl | exact .inr rfl)) ?_ | refine rt_eq (q_X12_clause_185) ?_ | refine rt_eq (q_X12_clause_259 (by first | assumption | rfl | exact .inl rfl | exact .inr rfl)) ?_ | refine rt_eq (q_X12_clause_285 (by first | assumption | rfl | exact .inl rfl | exact .inr rfl)) ?_ | refine rt_eq (q_X12_clause_150 (by first | assumption | rfl | exact .inl rfl | exact .inr rfl)) ?_ | refine rt_eq (q_X12_clause_190) ?_ | refine rt_eq (q_X12_clause_274 (by first | assumption | rfl | exact .inl rfl | exact .inr rfl)) ?_ | refine rt_eq (q_X12_clause_303) ?_ | refine rt_eq (q_X12_clause_162 (by first | assumption | rfl | exact .inl rfl | exact .inr rfl)) ?_ | refine rt_eq (q_X12_clause_200) ?_ | refine rt_eq (q_X12_clause_309) ?_ | refine rt_eq (q_X12_clause_177 (by first | assumption | rfl | exact .inl rfl | exact .inr rfl)) ?_ | refine rt_eq (q_X12_clause_222) ?_ | refine rt_eq (q_X12_clause_333) ?_)
      refine rt_gd (inb_n hK (by decide)) ?_
      rw [nI_clamp (by omega)]
      refine rt_ret ⟨⟨fr_up f1' (by simp [fTM, inF]), fun e => absurd e s, fun _ => ⟨?_, ?_, ?_⟩⟩, rfl⟩
      · rw [up2_n (by decide), e5]
      · rw [up2_n (by decide), (f4 s).2]
      · rw [up2_n (by decide)]
        exact f2
/-- the house that the model reads -/
def HR (I : MI32) (h : Hs) : Prop := (∀ k, k < 4 → I 75 k = nI (h 0 k)) ∧ (∀ p, p < h 0 0 → I (78 + p) 0 = nI (h 1 p) ∧ I (78 + p) 1 = nI (h 2 p) ∧ I (78 + p) 2 = nI (h 3 p) ∧ I (78 + p) 3 = nI (h 4 p)) ∧ (∀ e, e < h 0 1 → I (92 + e) 0 = nI (h 5 e) ∧ I (92 + e) 1 = nI (h 6 e)) ∧ ∀ f, f < h 0 2 → I (103 + f) 0 = nI (h 7 f) ∧ I (103 + f) 1 = nI (h 8 f)
/-- what a clause leaves -/
def okH (z : Nat) (I I' : MI32) (c : Nat) (R : Nat × Nat × Nat × Hs) : Prop := Fr fCM I I' ∧ (R.1 = 0 → I' 72 4 = nI R.2.2.1 ∧ I' 72 5 = nI 0 ∧ I' 72 7 = nI (c + 1) ∧ HR I' R.2.2.2) ∧ (¬ R.1 = 0 → I' 72 5 = nI R.1 ∧ I' 72 6 = nI R.2.1 ∧ ∃ a', a' ≤ z ∧ I' 72 4 = nI a')
theorem okH_f {I1 I' : MI32} {R : Nat × Nat × Nat × Hs} (hf : ¬ R.1 = 0) (g : Fr fCM I I1) (h5 : I1 72 5 = nI R.1) (h6 : I1 72 6 = nI R.2.1) (P : PH z I1 I') : okH z I I' c R := ⟨fr_tr g P.1, fun q => absurd q hf, fun _ => ⟨P.2.1.trans h5, P.2.2.1.trans h6, P.2.2.2⟩⟩
theorem inP_n {r x y : Nat} (h : ¬ x = r) (h72 : ¬ x = 72) : inF (fTM ++ [(72, 8), (r, 0)]) x y = false := by
  simp [fTM, inF]
  omega
end HE
