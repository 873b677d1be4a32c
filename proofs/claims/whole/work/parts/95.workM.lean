/-! THE READER OF WORK, BY THE MODEL -/
section WM
variable {d L X : Nat} {I : MI32} {J : MI64} {W : Nat → Nat} {z np a b : Nat} {o s : Nat}
theorem plA_t {w : List Nat} {ws : List (List Nat)} {i : Nat} (q : isWd W z a w = true) : plA W (sk W z a) (wE W z a) (w :: ws) i = nI i := if_pos (of_decide_eq_true q)
theorem plA_f {w : List Nat} {ws : List (List Nat)} {i : Nat} (q : isWd W z a w = false) : plA W (sk W z a) (wE W z a) (w :: ws) i = plA W (sk W z a) (wE W z a) ws (i + 1) := if_neg (of_decide_eq_false q)
/-- a word, the place being a or behind its blanks -/
theorem sp_isW {w : List Nat} {x1 x2 x3 x4 x5 x6 : Nat} {I1 : MI32} (A : WdA w x1 x2 x3 x4 x5 x6) (B : BM I W) (B2 : ∀ k, k < 600 → W k < 256) (hz : I 72 2 = nI z) (hz2 : z ≤ 600) (ha : a ≤ z) (h0 : I 72 5 = nI 0) (f1 : Fr [(72, 5)] I I1) (f2 : I1 72 4 = nI a ∨ I1 72 4 = nI (sk W z a)) : Rt L X (runM (d + 4) nX12_isWord [.ref 72, .int (nI x1), .int (nI x2), .int (nI x3), .int (nI x4), .int (nI x5), .int (nI x6)] (mm L X I1 J)) (some (.int (bI (isWd W z a w)))) (fun I' J' => (Fr [(72, 5)] I I' ∧ I' 72 4 = nI (sk W z a)) ∧ J' = J) := by
  have B1 := BM_fr B f1 (by decide)
  have z1 : I1 72 2 = nI z := (f1 72 2 rfl).trans hz
  have h01 : I1 72 5 = nI 0 := (f1 72 5 rfl).trans h0
  rcases f2 with f2 | f2
  · refine rt_mono (sp_isWord A B1 B2 z1 hz2 ha f2 h01) ?_
    rintro I2 J2 ⟨⟨g1, g2⟩, rfl⟩
    exact ⟨⟨fr_tr f1 g1, g2⟩, rfl⟩
  · have hs := sk_le (W := W) ha
    have q := sp_isWord (d := d) (L := L) (X := X) (J := J) A B1 B2 z1 hz2 hs.2 f2 h01
    rw [isWd_sk ha, sk_sk ha] at q
    refine rt_mono q ?_
    rintro I2 J2 ⟨⟨g1, g2⟩, rfl⟩
    exact ⟨⟨fr_tr f1 g1, g2⟩, rfl⟩
theorem sp_stepHere (B : BM I W) (B2 : ∀ k, k < 600 → W k < 256) (hz : I 72 2 = nI z) (hz2 : z ≤ 600) (ha : a ≤ z) (h4 : I 72 4 = nI a) (h0 : I 72 5 = nI 0) : Rt L X (runM (d + 5) nX12_stepHere [.ref 72] (mm L X I J)) (some (.int (wkI W z a))) (fun I' J' => (Fr [(72, 5)] I I' ∧ I' 72 4 = nI (sk W z a)) ∧ J' = J) := by
  rw [e_X12_stepHere]
  unfold wkI wdW
  (first | refine rt_eq (q_X12_stepHere_0) ?_ | refine rt_eq (q_X12_stepHere_14) ?_ | refine rt_eq (q_X12_stepHere_31) ?_ | refine rt_eq (q_X12_stepHere_50) ?_ | refine rt_eq (q_X12_stepHere_66) ?_ | refine rt_eq (q_X12_stepHere_85) ?_ | refine rt_eq (q_X12_stepHere_103) ?_ | refine rt_eq (q_X12_stepHere_121) ?_ | refine rt_eq (q_X12_stepHere_141) ?_ | refine rt_eq (q_X12_stepHere_160) ?_)
  refine rt_bnd (sp_isW (w := [116, 117, 114, 110]) (by unfold WdA; decide +kernel) B B2 hz hz2 ha h0 fr_rfl (.inl h4)) ?_
  rintro I0 J0 ⟨⟨f0, g0⟩, rfl⟩
  (first | refine rt_eq (q_X12_stepHere_0) ?_ | refine rt_eq (q_X12_stepHere_14) ?_ | refine rt_eq (q_X12_stepHere_31) ?_ | refine rt_eq (q_X12_stepHere_50) ?_ | refine rt_eq (q_X12_stepHere_66) ?_ | refine rt_eq (q_X12_stepHere_85) ?_ | refine rt_eq (q_X12_stepHere_103) ?_ | refine rt_eq (q_X12_stepHere_121) ?_ | refine rt_eq (q_X12_stepHere_141) ?_ | refine rt_eq (q_X12_stepHere_160) ?_)
  cases q0 : isWd W z a [116, 117, 114, 110] with
  | true =>
    rw [plA_t q0]
    exact rt_f (show ¬ bI true = nI 0 by decide) (rt_ret ⟨⟨f0, g0⟩, rfl⟩)
  | false =>
  rw [plA_f q0]
  refine rt_t bI_f ?_
  refine rt_bnd (sp_isW (w := [108, 97, 121]) (by unfold WdA; decide +kernel) B B2 hz hz2 ha h0 f0 (.inr g0)) ?_
  rintro I1 J1 ⟨⟨f1, g1⟩, rfl⟩
  (first | refine rt_eq (q_X12_stepHere_0) ?_ | refine rt_eq (q_X12_stepHere_14) ?_ | refine rt_eq (q_X12_stepHere_31) ?_ | refine rt_eq (q_X12_stepHere_50) ?_ | refine rt_eq (q_X12_stepHere_66) ?_ | refine rt_eq (q_X12_stepHere_85) ?_ | refine rt_eq (q_X12_stepHere_103) ?_ | refine rt_eq (q_X12_stepHere_121) ?_ | refine rt_eq (q_X12_stepHere_141) ?_ | refine rt_eq (q_X12_stepHere_160) ?_)
  cases q1 : isWd W z a [108, 97, 121] with
  | true =>
    rw [plA_t q1]
    exact rt_f (show ¬ bI true = nI 0 by decide) (rt_ret ⟨⟨f1, g1⟩, rfl⟩)
  | false =>
  rw [plA_f q1]
  refine rt_t bI_f ?_
  refine rt_bnd (sp_isW (w := [108, 105, 102, 116]) (by unfold WdA; decide +kernel) B B2 hz hz2 ha h0 f1 (.inr g1)) ?_
  rintro I2 J2 ⟨⟨f2, g2⟩, rfl⟩
  (first | refine rt_eq (q_X12_stepHere_0) ?_ | refine rt_eq (q_X12_stepHere_14) ?_ | refine rt_eq (q_X12_stepHere_31) ?_ | refine rt_eq (q_X12_stepHere_50) ?_ | refine rt_eq (q_X12_stepHere_66) ?_ | refine rt_eq (q_X12_stepHere_85) ?_ | refine rt_eq (q_X12_stepHere_103) ?_ | refine rt_eq (q_X12_stepHere_121) ?_ | refine rt_eq (q_X12_stepHere_141) ?_ | refine rt_eq (q_X12_stepHere_160) ?_)
  cases q2 : isWd W z a [108, 105, 102, 116] with
  | true =>
    rw [plA_t q2]
    exact rt_f (show ¬ bI true = nI 0 by decide) (rt_ret ⟨⟨f2, g2⟩, rfl⟩)
  | false =>
  rw [plA_f q2]
  refine rt_t bI_f ?_
  refine rt_bnd (sp_isW (w := [98, 101, 110, 100]) (by unfold WdA; decide +kernel) B B2 hz hz2 ha h0 f2 (.inr g2)) ?_
  rintro I3 J3 ⟨⟨f3, g3⟩, rfl⟩
  (first | refine rt_eq (q_X12_stepHere_0) ?_ | refine rt_eq (q_X12_stepHere_14) ?_ | refine rt_eq (q_X12_stepHere_31) ?_ | refine rt_eq (q_X12_stepHere_50) ?_ | refine rt_eq (q_X12_stepHere_66) ?_ | refine rt_eq (q_X12_stepHere_85) ?_ | refine rt_eq (q_X12_stepHere_103) ?_ | refine rt_eq (q_X12_stepHere_121) ?_ | refine rt_eq (q_X12_stepHere_141) ?_ | refine rt_eq (q_X12_stepHere_160) ?_)
  cases q3 : isWd W z a [98, 101, 110, 100] with
  | true =>
    rw [plA_t q3]
    exact rt_f (show ¬ bI true = nI 0 by decide) (rt_ret ⟨⟨f3, g3⟩, rfl⟩)
  | false =>
  rw [plA_f q3]
  refine rt_t bI_f ?_
  refine rt_bnd (sp_isW (w := [98, 117, 114, 115, 116]) (by unfold WdA; decide +kernel) B B2 hz hz2 ha h0 f3 (.inr g3)) ?_
  rintro I4 J4 ⟨⟨f4, g4⟩, rfl⟩
  (first | refine rt_eq (q_X12_stepHere_0) ?_ | refine rt_eq (q_X12_stepHere_14) ?_ | refine rt_eq (q_X12_stepHere_31) ?_ | refine rt_eq (q_X12_stepHere_50) ?_ | refine rt_eq (q_X12_stepHere_66) ?_ | refine rt_eq (q_X12_stepHere_85) ?_ | refine rt_eq (q_X12_stepHere_103) ?_ | refine rt_eq (q_X12_stepHere_121) ?_ | refine rt_eq (q_X12_stepHere_141) ?_ | refine rt_eq (q_X12_stepHere_160) ?_)
  cases q4 : isWd W z a [98, 117, 114, 115, 116] with
  | true =>
    rw [plA_t q4]
    exact rt_f (show ¬ bI true = nI 0 by decide) (rt_ret ⟨⟨f4, g4⟩, rfl⟩)
  | false =>
  rw [plA_f q4]
  refine rt_t bI_f ?_
  refine rt_bnd (sp_isW (w := [112, 97, 116, 99, 104]) (by unfold WdA; decide +kernel) B B2 hz hz2 ha h0 f4 (.inr g4)) ?_
  rintro I5 J5 ⟨⟨f5, g5⟩, rfl⟩
  (first | refine rt_eq (q_X12_stepHere_0) ?_ | refine rt_eq (q_X12_stepHere_14) ?_ | refine rt_eq (q_X12_stepHere_31) ?_ | refine rt_eq (q_X12_stepHere_50) ?_ | refine rt_eq (q_X12_stepHere_66) ?_ | refine rt_eq (q_X12_stepHere_85) ?_ | refine rt_eq (q_X12_stepHere_103) ?_ | refine rt_eq (q_X12_stepHere_121) ?_ | refine rt_eq (q_X12_stepHere_141) ?_ | refine rt_eq (q_X12_stepHere_160) ?_)
  cases q5 : isWd W z a [112, 97, 116, 99, 104] with
  | true =>
    rw [plA_t q5]
    exact rt_f (show ¬ bI true = nI 0 by decide) (rt_ret ⟨⟨f5, g5⟩, rfl⟩)
  | false =>
  rw [plA_f q5]
  refine rt_t bI_f ?_
  refine rt_bnd (sp_isW (w := [104, 111, 112, 101]) (by unfold WdA; decide +kernel) B B2 hz hz2 ha h0 f5 (.inr g5)) ?_
  rintro I6 J6 ⟨⟨f6, g6⟩, rfl⟩
  (first | refine rt_eq (q_X12_stepHere_0) ?_ | refine rt_eq (q_X12_stepHere_14) ?_ | refine rt_eq (q_X12_stepHere_31) ?_ | refine rt_eq (q_X12_stepHere_50) ?_ | refine rt_eq (q_X12_stepHere_66) ?_ | refine rt_eq (q_X12_stepHere_85) ?_ | refine rt_eq (q_X12_stepHere_103) ?_ | refine rt_eq (q_X12_stepHere_121) ?_ | refine rt_eq (q_X12_stepHere_141) ?_ | refine rt_eq (q_X12_stepHere_160) ?_)
  cases q6 : isWd W z a [104, 111, 112, 101] with
  | true =>
    rw [plA_t q6]
    exact rt_f (show ¬ bI true = nI 0 by decide) (rt_ret ⟨⟨f6, g6⟩, rfl⟩)
  | false =>
  rw [plA_f q6]
  refine rt_t bI_f ?_
  refine rt_bnd (sp_isW (w := [104, 111, 117, 114]) (by unfold WdA; decide +kernel) B B2 hz hz2 ha h0 f6 (.inr g6)) ?_
  rintro I7 J7 ⟨⟨f7, g7⟩, rfl⟩
  (first | refine rt_eq (q_X12_stepHere_0) ?_ | refine rt_eq (q_X12_stepHere_14) ?_ | refine rt_eq (q_X12_stepHere_31) ?_ | refine rt_eq (q_X12_stepHere_50) ?_ | refine rt_eq (q_X12_stepHere_66) ?_ | refine rt_eq (q_X12_stepHere_85) ?_ | refine rt_eq (q_X12_stepHere_103) ?_ | refine rt_eq (q_X12_stepHere_121) ?_ | refine rt_eq (q_X12_stepHere_141) ?_ | refine rt_eq (q_X12_stepHere_160) ?_)
  cases q7 : isWd W z a [104, 111, 117, 114] with
  | true =>
    rw [plA_t q7]
    exact rt_f (show ¬ bI true = nI 0 by decide) (rt_ret ⟨⟨f7, g7⟩, rfl⟩)
  | false =>
  rw [plA_f q7]
  refine rt_t bI_f ?_
  refine rt_bnd (sp_isW (w := [97, 103, 97, 105, 110]) (by unfold WdA; decide +kernel) B B2 hz hz2 ha h0 f7 (.inr g7)) ?_
  rintro I8 J8 ⟨⟨f8, g8⟩, rfl⟩
  (first | refine rt_eq (q_X12_stepHere_0) ?_ | refine rt_eq (q_X12_stepHere_14) ?_ | refine rt_eq (q_X12_stepHere_31) ?_ | refine rt_eq (q_X12_stepHere_50) ?_ | refine rt_eq (q_X12_stepHere_66) ?_ | refine rt_eq (q_X12_stepHere_85) ?_ | refine rt_eq (q_X12_stepHere_103) ?_ | refine rt_eq (q_X12_stepHere_121) ?_ | refine rt_eq (q_X12_stepHere_141) ?_ | refine rt_eq (q_X12_stepHere_160) ?_)
  cases q8 : isWd W z a [97, 103, 97, 105, 110] with
  | true =>
    rw [plA_t q8]
    exact rt_f (show ¬ bI true = nI 0 by decide) (rt_ret ⟨⟨f8, g8⟩, rfl⟩)
  | false =>
  rw [plA_f q8]
  refine rt_t bI_f ?_
  exact rt_ret ⟨⟨f8, g8⟩, rfl⟩
theorem sp_opensOne (h0 : I 72 5 = nI 0) : runM (d + 2) nX12_opensOne [.ref 72] (mm L X I J) = if I 72 8 = nI 6 then rI (nI 0) (mm L X (up2 (up2 I 72 5 (nI 3)) 72 6 (I 72 4)) J) else rI (nI 1) (mm L X (up2 I 72 8 (I 72 8 + nI 1)) J) := by
  rw [e_X12_opensOne]
  (first | refine Eq.trans (q_X12_opensOne_0) ?_ | refine Eq.trans (q_X12_opensOne_28) ?_ | refine Eq.trans (q_X12_opensOne_25) ?_ | refine Eq.trans (q_X12_opensOne_45) ?_)
  rw [if_pos h0]
  by_cases q : I 72 8 = nI 6
  · rw [if_pos q, if_pos q]
    refine Eq.trans (bnd_e (sp_wrong.trans (if_pos h0))) ?_
    (first | refine Eq.trans (q_X12_opensOne_0) ?_ | refine Eq.trans (q_X12_opensOne_28) ?_ | refine Eq.trans (q_X12_opensOne_25) ?_ | refine Eq.trans (q_X12_opensOne_45) ?_)
    (first | refine Eq.trans (q_X12_opensOne_0) ?_ | refine Eq.trans (q_X12_opensOne_28) ?_ | refine Eq.trans (q_X12_opensOne_25) ?_ | refine Eq.trans (q_X12_opensOne_45) ?_)
    refine if_neg ?_
    rw [up2_k (by decide), up2_s]
    decide
  · rw [if_neg q, if_neg q]
    (first | refine Eq.trans (q_X12_opensOne_0) ?_ | refine Eq.trans (q_X12_opensOne_28) ?_ | refine Eq.trans (q_X12_opensOne_25) ?_ | refine Eq.trans (q_X12_opensOne_45) ?_)
    rw [if_pos h0]
    (first | refine Eq.trans (q_X12_opensOne_0) ?_ | refine Eq.trans (q_X12_opensOne_28) ?_ | refine Eq.trans (q_X12_opensOne_25) ?_ | refine Eq.trans (q_X12_opensOne_45) ?_)
    refine if_pos ?_
    rw [up2_k (by decide), h0]
def fRM : Fls := fTM ++ [(72, 9), (72, 29)] ++ cells 453 80
theorem in_RM {j : Nat} (hs : s < 80) : inF fRM (453 + s) j = true := by
  unfold fRM
  rw [inF_app, in_cells hs, Bool.or_true]
theorem rm_T : sbF fTM fRM = true := by decide +kernel
theorem rm_5 : sbF [(72, 5)] fRM = true := by decide +kernel
theorem BM_rm {I' : MI32} (B : BM I W) (g : Fr fRM I I') : BM I' W := BM_fr B g (by decide +kernel)
theorem rm_2 {I' : MI32} (g : Fr fRM I I') : I' 72 2 = I 72 2 := ag_of (s := [(72, 3)]) g (by decide +kernel) 72 2 rfl
theorem rm_np {I' : MI32} (g : Fr fRM I I') : I' 76 0 = I 76 0 := ag_of (s := [(76, 0)]) g (by decide +kernel) 76 0 rfl
theorem tm_row {I' : MI32} {j : Nat} (hs : s < 80) (g : Fr fTM I I') : I' (453 + s) j = I (453 + s) j := ag_of (s := cells 453 80) g (by decide +kernel) _ j (in_cells hs)
theorem t5_row {I' : MI32} {j : Nat} (hs : s < 80) (g : Fr [(72, 5)] I I') : I' (453 + s) j = I (453 + s) j := ag_of (s := cells 453 80) g (by decide +kernel) _ j (in_cells hs)
/-- behind a FAULT nothing more is told -/
def PF (z : Nat) (I I' : MI32) : Prop := Fr fRM I I' ∧ I' 72 5 = I 72 5 ∧ I' 72 6 = I 72 6 ∧ ∃ a', a' ≤ z ∧ I' 72 4 = nI a'
theorem fl_200 {u1 : Option Value} (hs : s < 80) (h0 : ¬ I 72 5 = nI 0) (hp : ∃ a', a' ≤ z ∧ I 72 4 = nI a') : Rt L X (runI (runM (d + 3)) iX12_readsStep (200, [some (.ref 72), u1, some (.ref (453 + s))], [], mm L X I J)) none (fun I' J' => PF z I I' ∧ J' = J) := by
  have kr := ka_row s hs
  (first | refine rt_eq (q_X12_readsStep_0) ?_ | refine rt_eq (q_X12_readsStep_4) ?_ | refine rt_eq (q_X12_readsStep_19) ?_ | refine rt_eq (q_X12_readsStep_33) ?_ | refine rt_eq (q_X12_readsStep_29) ?_ | refine rt_eq (q_X12_readsStep_45) ?_ | refine rt_eq (q_X12_readsStep_96 (by first | assumption | rfl | exact .inl rfl | exact .inr rfl)) ?_ | refine rt_eq (q_X12_readsStep_95 (by first | assumption | rfl | exact .inl rfl | exact .inr rfl) (by first | assumption | rfl | exact .inl rfl | exact .inr rfl)) ?_ | refine rt_eq (q_X12_readsStep_111 (by first | assumption | rfl | exact .inl rfl | exact .inr rfl)) ?_ | refine rt_eq (q_X12_readsStep_110 (by first | assumption | rfl | exact .inl rfl | exact .inr rfl)) ?_ | refine rt_eq (q_X12_readsStep_127 (by first | assumption | rfl | exact .inl rfl | exact .inr rfl)) ?_ | refine rt_eq (q_X12_readsStep_126 (by first | assumption | rfl | exact .inl rfl | exact .inr rfl)) ?_ | refine rt_eq (q_X12_readsStep_200 (by first | assumption | rfl | exact .inl rfl | exact .inr rfl)) ?_ | refine rt_eq (q_X12_readsStep_142 (by first | assumption | rfl | exact .inl rfl | exact .inr rfl)) ?_ | refine rt_eq (q_X12_readsStep_213) ?_ | refine rt_eq (q_X12_readsStep_149 (by first | assumption | rfl | exact .inl rfl | exact .inr rfl)) ?_ | refine rt_eq (q_X12_readsStep_153 (by first | assumption | rfl | exact .inl rfl | exact .inr rfl)) ?_ | refine rt_eq (q_X12_readsStep_184 (by first | assumption | rfl | exact .inl rfl | exact .inr rfl)) ?_ | refine rt_eq (q_X12_readsStep_168 (by first | assumption | rfl | exact .inl rfl | exact .inr rfl)) ?_ | refine rt_eq (q_X12_readsStep_190 (by first | assumption | rfl | exact .inl rfl | exact .inr rfl)) ?_ | refine rt_eq (q_X12_readsStep_177 (by first | assumption | rfl | exact .inl rfl | exact .inr rfl)) ?_ | refine rt_eq (q_X12_readsStep_181 (by first | assumption | rfl | exact .inl rfl | exact .inr rfl)) ?_)
  refine rt_be (sp_signF (by rw [up2_n (by omega)]; exact h0)) ?_
  (first | refine rt_eq (q_X12_readsStep_0) ?_ | refine rt_eq (q_X12_readsStep_4) ?_ | refine rt_eq (q_X12_readsStep_19) ?_ | refine rt_eq (q_X12_readsStep_33) ?_ | refine rt_eq (q_X12_readsStep_29) ?_ | refine rt_eq (q_X12_readsStep_45) ?_ | refine rt_eq (q_X12_readsStep_96 (by first | assumption | rfl | exact .inl rfl | exact .inr rfl)) ?_ | refine rt_eq (q_X12_readsStep_95 (by first | assumption | rfl | exact .inl rfl | exact .inr rfl) (by first | assumption | rfl | exact .inl rfl | exact .inr rfl)) ?_ | refine rt_eq (q_X12_readsStep_111 (by first | assumption | rfl | exact .inl rfl | exact .inr rfl)) ?_ | refine rt_eq (q_X12_readsStep_110 (by first | assumption | rfl | exact .inl rfl | exact .inr rfl)) ?_ | refine rt_eq (q_X12_readsStep_127 (by first | assumption | rfl | exact .inl rfl | exact .inr rfl)) ?_ | refine rt_eq (q_X12_readsStep_126 (by first | assumption | rfl | exact .inl rfl | exact .inr rfl)) ?_ | refine rt_eq (q_X12_readsStep_200 (by first | assumption | rfl | exact .inl rfl | exact .inr rfl)) ?_ | refine rt_eq (q_X12_readsStep_142 (by first | assumption | rfl | exact .inl rfl | exact .inr rfl)) ?_ | refine rt_eq (q_X12_readsStep_213) ?_ | refine rt_eq (q_X12_readsStep_149 (by first | assumption | rfl | exact .inl rfl | exact .inr rfl)) ?_ | refine rt_eq (q_X12_readsStep_153 (by first | assumption | rfl | exact .inl rfl | exact .inr rfl)) ?_ | refine rt_eq (q_X12_readsStep_184 (by first | assumption | rfl | exact .inl rfl | exact .inr rfl)) ?_ | refine rt_eq (q_X12_readsStep_168 (by first | assumption | rfl | exact .inl rfl | exact .inr rfl)) ?_ | refine rt_eq (q_X12_readsStep_190 (by first | assumption | rfl | exact .inl rfl | exact .inr rfl)) ?_ | refine rt_eq (q_X12_readsStep_177 (by first | assumption | rfl | exact .inl rfl | exact .inr rfl)) ?_ | refine rt_eq (q_X12_readsStep_181 (by first | assumption | rfl | exact .inl rfl | exact .inr rfl)) ?_)
  refine rt_ret ⟨⟨fr_up fr_rfl (in_RM hs), ?_, ?_, ?_⟩, rfl⟩
  · rw [up2_n (by omega)]
  · rw [up2_n (by omega)]
  · rw [up2_n (by omega)]
    exact hp
theorem fl_184 {u1 : Option Value} (hs : s < 80) (h0 : ¬ I 72 5 = nI 0) (hp : ∃ a', a' ≤ z ∧ I 72 4 = nI a') : Rt L X (runI (runM (d + 3)) iX12_readsStep (184, [some (.ref 72), u1, some (.ref (453 + s))], [], mm L X I J)) none (fun I' J' => PF z I I' ∧ J' = J) := by
  have kr := ka_row s hs
  (first | refine rt_eq (q_X12_readsStep_0) ?_ | refine rt_eq (q_X12_readsStep_4) ?_ | refine rt_eq (q_X12_readsStep_19) ?_ | refine rt_eq (q_X12_readsStep_33) ?_ | refine rt_eq (q_X12_readsStep_29) ?_ | refine rt_eq (q_X12_readsStep_45) ?_ | refine rt_eq (q_X12_readsStep_96 (by first | assumption | rfl | exact .inl rfl | exact .inr rfl)) ?_ | refine rt_eq (q_X12_readsStep_95 (by first | assumption | rfl | exact .inl rfl | exact .inr rfl) (by first | assumption | rfl | exact .inl rfl | exact .inr rfl)) ?_ | refine rt_eq (q_X12_readsStep_111 (by first | assumption | rfl | exact .inl rfl | exact .inr rfl)) ?_ | refine rt_eq (q_X12_readsStep_110 (by first | assumption | rfl | exact .inl rfl | exact .inr rfl)) ?_ | refine rt_eq (q_X12_readsStep_127 (by first | assumption | rfl | exact .inl rfl | exact .inr rfl)) ?_ | refine rt_eq (q_X12_readsStep_126 (by first | assumption | rfl | exact .inl rfl | exact .inr rfl)) ?_ | refine rt_eq (q_X12_readsStep_200 (by first | assumption | rfl | exact .inl rfl | exact .inr rfl)) ?_ | refine rt_eq (q_X12_readsStep_142 (by first | assumption | rfl | exact .inl rfl | exact .inr rfl)) ?_ | refine rt_eq (q_X12_readsStep_213) ?_ | refine rt_eq (q_X12_readsStep_149 (by first | assumption | rfl | exact .inl rfl | exact .inr rfl)) ?_ | refine rt_eq (q_X12_readsStep_153 (by first | assumption | rfl | exact .inl rfl | exact .inr rfl)) ?_ | refine rt_eq (q_X12_readsStep_184 (by first | assumption | rfl | exact .inl rfl | exact .inr rfl)) ?_ | refine rt_eq (q_X12_readsStep_168 (by first | assumption | rfl | exact .inl rfl | exact .inr rfl)) ?_ | refine rt_eq (q_X12_readsStep_190 (by first | assumption | rfl | exact .inl rfl | exact .inr rfl)) ?_ | refine rt_eq (q_X12_readsStep_177 (by first | assumption | rfl | exact .inl rfl | exact .inr rfl)) ?_ | refine rt_eq (q_X12_readsStep_181 (by first | assumption | rfl | exact .inl rfl | exact .inr rfl)) ?_)
  refine rt_be (sp_signF h0) ?_
  (first | refine rt_eq (q_X12_readsStep_0) ?_ | refine rt_eq (q_X12_readsStep_4) ?_ | refine rt_eq (q_X12_readsStep_19) ?_ | refine rt_eq (q_X12_readsStep_33) ?_ | refine rt_eq (q_X12_readsStep_29) ?_ | refine rt_eq (q_X12_readsStep_45) ?_ | refine rt_eq (q_X12_readsStep_96 (by first | assumption | rfl | exact .inl rfl | exact .inr rfl)) ?_ | refine rt_eq (q_X12_readsStep_95 (by first | assumption | rfl | exact .inl rfl | exact .inr rfl) (by first | assumption | rfl | exact .inl rfl | exact .inr rfl)) ?_ | refine rt_eq (q_X12_readsStep_111 (by first | assumption | rfl | exact .inl rfl | exact .inr rfl)) ?_ | refine rt_eq (q_X12_readsStep_110 (by first | assumption | rfl | exact .inl rfl | exact .inr rfl)) ?_ | refine rt_eq (q_X12_readsStep_127 (by first | assumption | rfl | exact .inl rfl | exact .inr rfl)) ?_ | refine rt_eq (q_X12_readsStep_126 (by first | assumption | rfl | exact .inl rfl | exact .inr rfl)) ?_ | refine rt_eq (q_X12_readsStep_200 (by first | assumption | rfl | exact .inl rfl | exact .inr rfl)) ?_ | refine rt_eq (q_X12_readsStep_142 (by first | assumption | rfl | exact .inl rfl | exact .inr rfl)) ?_ | refine rt_eq (q_X12_readsStep_213) ?_ | refine rt_eq (q_X12_readsStep_149 (by first | assumption | rfl | exact .inl rfl | exact .inr rfl)) ?_ | refine rt_eq (q_X12_readsStep_153 (by first | assumption | rfl | exact .inl rfl | exact .inr rfl)) ?_ | refine rt_eq (q_X12_readsStep_184 (by first | assumption | rfl | exact .inl rfl | exact .inr rfl)) ?_ | refine rt_eq (q_X12_readsStep_168 (by first | assumption | rfl | exact .inl rfl | exact .inr rfl)) ?_ | refine rt_eq (q_X12_readsStep_190 (by first | assumption | rfl | exact .inl rfl | exact .inr rfl)) ?_ | refine rt_eq (q_X12_readsStep_177 (by first | assumption | rfl | exact .inl rfl | exact .inr rfl)) ?_ | refine rt_eq (q_X12_readsStep_181 (by first | assumption | rfl | exact .inl rfl | exact .inr rfl)) ?_)
  refine rt_mono (fl_200 (z := z) hs (by rw [up2_k (by decide)]; exact h0) (by rw [up2_k (by decide)]; exact hp)) ?_
  rintro I1 J1 ⟨⟨f1, f2, f3, f4⟩, rfl⟩
  refine ⟨⟨fr_tr (fr_up fr_rfl (by decide +kernel)) f1, ?_, ?_, f4⟩, rfl⟩
  · rw [f2, up2_k (by decide)]
  · rw [f3, up2_k (by decide)]
theorem fl_149 {u1 : Option Value} (B : BM I W) (B2 : ∀ k, k < 600 → W k < 256) (hz : I 72 2 = nI z) (hz2 : z ≤ 600) (hs : s < 80) (h0 : ¬ I 72 5 = nI 0) (hp : ∃ a', a' ≤ z ∧ I 72 4 = nI a') : Rt L X (runI (runM (d + 3)) iX12_readsStep (149, [some (.ref 72), u1, some (.ref (453 + s))], [], mm L X I J)) none (fun I' J' => PF z I I' ∧ J' = J) := by
  have kr := ka_row s hs
  obtain ⟨a', p1, p2⟩ := hp
  have ps := sk_le (W := W) p1
  (first | refine rt_eq (q_X12_readsStep_0) ?_ | refine rt_eq (q_X12_readsStep_4) ?_ | refine rt_eq (q_X12_readsStep_19) ?_ | refine rt_eq (q_X12_readsStep_33) ?_ | refine rt_eq (q_X12_readsStep_29) ?_ | refine rt_eq (q_X12_readsStep_45) ?_ | refine rt_eq (q_X12_readsStep_96 (by first | assumption | rfl | exact .inl rfl | exact .inr rfl)) ?_ | refine rt_eq (q_X12_readsStep_95 (by first | assumption | rfl | exact .inl rfl | exact .inr rfl) (by first | assumption | rfl | exact .inl rfl | exact .inr rfl)) ?_ | refine rt_eq (q_X12_readsStep_111 (by first | assumption | rfl | exact .inl rfl | exact .inr rfl)) ?_ | refine rt_eq (q_X12_readsStep_110 (by first | assumption | rfl | exact .inl rfl | exact .inr rfl)) ?_ | refine rt_eq (q_X12_readsStep_127 (by first | assumption | rfl | exact .inl rfl | exact .inr rfl)) ?_ | refine rt_eq (q_X12_readsStep_126 (by first | assumption | rfl | exact .inl rfl | exact .inr rfl)) ?_ | refine rt_eq (q_X12_readsStep_200 (by first | assumption | rfl | exact .inl rfl | exact .inr rfl)) ?_ | refine rt_eq (q_X12_readsStep_142 (by first | assumption | rfl | exact .inl rfl | exact .inr rfl)) ?_ | refine rt_eq (q_X12_readsStep_213) ?_ | refine rt_eq (q_X12_readsStep_149 (by first | assumption | rfl | exact .inl rfl | exact .inr rfl)) ?_ | refine rt_eq (q_X12_readsStep_153 (by first | assumption | rfl | exact .inl rfl | exact .inr rfl)) ?_ | refine rt_eq (q_X12_readsStep_184 (by first | assumption | rfl | exact .inl rfl | exact .inr rfl)) ?_ | refine rt_eq (q_X12_readsStep_168 (by first | assumption | rfl | exact .inl rfl | exact .inr rfl)) ?_ | refine rt_eq (q_X12_readsStep_190 (by first | assumption | rfl | exact .inl rfl | exact .inr rfl)) ?_ | refine rt_eq (q_X12_readsStep_177 (by first | assumption | rfl | exact .inl rfl | exact .inr rfl)) ?_ | refine rt_eq (q_X12_readsStep_181 (by first | assumption | rfl | exact .inl rfl | exact .inr rfl)) ?_)
  refine rt_bnd (sp_blanks B B2 hz hz2 p1 p2) ?_
  rintro I1 J1 ⟨⟨f1, f2⟩, rfl⟩
  have h01 : ¬ I1 72 5 = nI 0 := by
    rw [f1 72 5 rfl]
    exact h0
  (first | refine rt_eq (q_X12_readsStep_0) ?_ | refine rt_eq (q_X12_readsStep_4) ?_ | refine rt_eq (q_X12_readsStep_19) ?_ | refine rt_eq (q_X12_readsStep_33) ?_ | refine rt_eq (q_X12_readsStep_29) ?_ | refine rt_eq (q_X12_readsStep_45) ?_ | refine rt_eq (q_X12_readsStep_96 (by first | assumption | rfl | exact .inl rfl | exact .inr rfl)) ?_ | refine rt_eq (q_X12_readsStep_95 (by first | assumption | rfl | exact .inl rfl | exact .inr rfl) (by first | assumption | rfl | exact .inl rfl | exact .inr rfl)) ?_ | refine rt_eq (q_X12_readsStep_111 (by first | assumption | rfl | exact .inl rfl | exact .inr rfl)) ?_ | refine rt_eq (q_X12_readsStep_110 (by first | assumption | rfl | exact .inl rfl | exact .inr rfl)) ?_ | refine rt_eq (q_X12_readsStep_127 (by first | assumption | rfl | exact .inl rfl | exact .inr rfl)) ?_ | refine rt_eq (q_X12_readsStep_126 (by first | assumption | rfl | exact .inl rfl | exact .inr rfl)) ?_ | refine rt_eq (q_X12_readsStep_200 (by first | assumption | rfl | exact .inl rfl | exact .inr rfl)) ?_ | refine rt_eq (q_X12_readsStep_142 (by first | assumption | rfl | exact .inl rfl | exact .inr rfl)) ?_ | refine rt_eq (q_X12_readsStep_213) ?_ | refine rt_eq (q_X12_readsStep_149 (by first | assumption | rfl | exact .inl rfl | exact .inr rfl)) ?_ | refine rt_eq (q_X12_readsStep_153 (by first | assumption | rfl | exact .inl rfl | exact .inr rfl)) ?_ | refine rt_eq (q_X12_readsStep_184 (by first | assumption | rfl | exact .inl rfl | exact .inr rfl)) ?_ | refine rt_eq (q_X12_readsStep_168 (by first | assumption | rfl | exact .inl rfl | exact .inr rfl)) ?_ | refine rt_eq (q_X12_readsStep_190 (by first | assumption | rfl | exact .inl rfl | exact .inr rfl)) ?_ | refine rt_eq (q_X12_readsStep_177 (by first | assumption | rfl | exact .inl rfl | exact .inr rfl)) ?_ | refine rt_eq (q_X12_readsStep_181 (by first | assumption | rfl | exact .inl rfl | exact .inr rfl)) ?_)
  refine rt_f h01 ?_
  refine rt_mono (fl_184 (z := z) hs h01 ⟨_, ps.2, f2⟩) ?_
  rintro I2 J2 ⟨⟨g1, g2, g3, g4⟩, rfl⟩
  exact ⟨⟨fr_tr (fr_mono f1 rm_5) g1, g2.trans (f1 72 5 rfl), g3.trans (f1 72 6 rfl), g4⟩, rfl⟩
theorem fl_127 {k : Nat} (hk : ¬ k = 8) (hk2 : k < 9) (hs : s < 80) (h0 : ¬ I 72 5 = nI 0) (hp : ∃ a', a' ≤ z ∧ I 72 4 = nI a') : Rt L X (runI (runM (d + 3)) iX12_readsStep (127, [some (.ref 72), some (.int (nI k)), some (.ref (453 + s))], [], mm L X I J)) none (fun I' J' => PF z I I' ∧ J' = J) := by
  have kr := ka_row s hs
  (first | refine rt_eq (q_X12_readsStep_0) ?_ | refine rt_eq (q_X12_readsStep_4) ?_ | refine rt_eq (q_X12_readsStep_19) ?_ | refine rt_eq (q_X12_readsStep_33) ?_ | refine rt_eq (q_X12_readsStep_29) ?_ | refine rt_eq (q_X12_readsStep_45) ?_ | refine rt_eq (q_X12_readsStep_96 (by first | assumption | rfl | exact .inl rfl | exact .inr rfl)) ?_ | refine rt_eq (q_X12_readsStep_95 (by first | assumption | rfl | exact .inl rfl | exact .inr rfl) (by first | assumption | rfl | exact .inl rfl | exact .inr rfl)) ?_ | refine rt_eq (q_X12_readsStep_111 (by first | assumption | rfl | exact .inl rfl | exact .inr rfl)) ?_ | refine rt_eq (q_X12_readsStep_110 (by first | assumption | rfl | exact .inl rfl | exact .inr rfl)) ?_ | refine rt_eq (q_X12_readsStep_127 (by first | assumption | rfl | exact .inl rfl | exact .inr rfl)) ?_ | refine rt_eq (q_X12_readsStep_126 (by first | assumption | rfl | exact .inl rfl | exact .inr rfl)) ?_ | refine rt_eq (q_X12_readsStep_200 (by first | assumption | rfl | exact .inl rfl | exact .inr rfl)) ?_ | refine rt_eq (q_X12_readsStep_142 (by first | assumption | rfl | exact .inl rfl | exact .inr rfl)) ?_ | refine rt_eq (q_X12_readsStep_213) ?_ | refine rt_eq (q_X12_readsStep_149 (by first | assumption | rfl | exact .inl rfl | exact .inr rfl)) ?_ | refine rt_eq (q_X12_readsStep_153 (by first | assumption | rfl | exact .inl rfl | exact .inr rfl)) ?_ | refine rt_eq (q_X12_readsStep_184 (by first | assumption | rfl | exact .inl rfl | exact .inr rfl)) ?_ | refine rt_eq (q_X12_readsStep_168 (by first | assumption | rfl | exact .inl rfl | exact .inr rfl)) ?_ | refine rt_eq (q_X12_readsStep_190 (by first | assumption | rfl | exact .inl rfl | exact .inr rfl)) ?_ | refine rt_eq (q_X12_readsStep_177 (by first | assumption | rfl | exact .inl rfl | exact .inr rfl)) ?_ | refine rt_eq (q_X12_readsStep_181 (by first | assumption | rfl | exact .inl rfl | exact .inr rfl)) ?_)
  exact rt_f (by (try simp (disch := omega) only [nI_leI, nI_ltI, nI_eq, nI_add, pk_mul, n_0add, Nat.zero_add, nI_clamp]) <;> omega) (fl_200 hs h0 hp)
theorem PF_up {I' : MI32} {j : Nat} {x : Int32} (hs : s < 80) (P : PF z (up2 I (453 + s) j x) I') : PF z I I' := by
  obtain ⟨f1, f2, f3, f4⟩ := P
  refine ⟨fr_tr (fr_up fr_rfl (in_RM hs)) f1, ?_, ?_, f4⟩
  · rw [f2, up2_n (by omega)]
  · rw [f3, up2_n (by omega)]
theorem fl_111 {k : Nat} (hk : ¬ k = 8) (hk2 : k < 9) (hs : s < 80) (h0 : ¬ I 72 5 = nI 0) (hp : ∃ a', a' ≤ z ∧ I 72 4 = nI a') : Rt L X (runI (runM (d + 3)) iX12_readsStep (111, [some (.ref 72), some (.int (nI k)), some (.ref (453 + s))], [], mm L X I J)) none (fun I' J' => PF z I I' ∧ J' = J) := by
  have kr := ka_row s hs
  (first | refine rt_eq (q_X12_readsStep_0) ?_ | refine rt_eq (q_X12_readsStep_4) ?_ | refine rt_eq (q_X12_readsStep_19) ?_ | refine rt_eq (q_X12_readsStep_33) ?_ | refine rt_eq (q_X12_readsStep_29) ?_ | refine rt_eq (q_X12_readsStep_45) ?_ | refine rt_eq (q_X12_readsStep_96 (by first | assumption | rfl | exact .inl rfl | exact .inr rfl)) ?_ | refine rt_eq (q_X12_readsStep_95 (by first | assumption | rfl | exact .inl rfl | exact .inr rfl) (by first | assumption | rfl | exact .inl rfl | exact .inr rfl)) ?_ | refine rt_eq (q_X12_readsStep_111 (by first | assumption | rfl | exact .inl rfl | exact .inr rfl)) ?_ | refine rt_eq (q_X12_readsStep_110 (by first | assumption | rfl | exact .inl rfl | exact .inr rfl)) ?_ | refine rt_eq (q_X12_readsStep_127 (by first | assumption | rfl | exact .inl rfl | exact .inr rfl)) ?_ | refine rt_eq (q_X12_readsStep_126 (by first | assumption | rfl | exact .inl rfl | exact .inr rfl)) ?_ | refine rt_eq (q_X12_readsStep_200 (by first | assumption | rfl | exact .inl rfl | exact .inr rfl)) ?_ | refine rt_eq (q_X12_readsStep_142 (by first | assumption | rfl | exact .inl rfl | exact .inr rfl)) ?_ | refine rt_eq (q_X12_readsStep_213) ?_ | refine rt_eq (q_X12_readsStep_149 (by first | assumption | rfl | exact .inl rfl | exact .inr rfl)) ?_ | refine rt_eq (q_X12_readsStep_153 (by first | assumption | rfl | exact .inl rfl | exact .inr rfl)) ?_ | refine rt_eq (q_X12_readsStep_184 (by first | assumption | rfl | exact .inl rfl | exact .inr rfl)) ?_ | refine rt_eq (q_X12_readsStep_168 (by first | assumption | rfl | exact .inl rfl | exact .inr rfl)) ?_ | refine rt_eq (q_X12_readsStep_190 (by first | assumption | rfl | exact .inl rfl | exact .inr rfl)) ?_ | refine rt_eq (q_X12_readsStep_177 (by first | assumption | rfl | exact .inl rfl | exact .inr rfl)) ?_ | refine rt_eq (q_X12_readsStep_181 (by first | assumption | rfl | exact .inl rfl | exact .inr rfl)) ?_)
  by_cases q : k = 6
  · refine rt_t (by rw [q]) (rt_be (sp_numberF h0) ?_)
    (first | refine rt_eq (q_X12_readsStep_0) ?_ | refine rt_eq (q_X12_readsStep_4) ?_ | refine rt_eq (q_X12_readsStep_19) ?_ | refine rt_eq (q_X12_readsStep_33) ?_ | refine rt_eq (q_X12_readsStep_29) ?_ | refine rt_eq (q_X12_readsStep_45) ?_ | refine rt_eq (q_X12_readsStep_96 (by first | assumption | rfl | exact .inl rfl | exact .inr rfl)) ?_ | refine rt_eq (q_X12_readsStep_95 (by first | assumption | rfl | exact .inl rfl | exact .inr rfl) (by first | assumption | rfl | exact .inl rfl | exact .inr rfl)) ?_ | refine rt_eq (q_X12_readsStep_111 (by first | assumption | rfl | exact .inl rfl | exact .inr rfl)) ?_ | refine rt_eq (q_X12_readsStep_110 (by first | assumption | rfl | exact .inl rfl | exact .inr rfl)) ?_ | refine rt_eq (q_X12_readsStep_127 (by first | assumption | rfl | exact .inl rfl | exact .inr rfl)) ?_ | refine rt_eq (q_X12_readsStep_126 (by first | assumption | rfl | exact .inl rfl | exact .inr rfl)) ?_ | refine rt_eq (q_X12_readsStep_200 (by first | assumption | rfl | exact .inl rfl | exact .inr rfl)) ?_ | refine rt_eq (q_X12_readsStep_142 (by first | assumption | rfl | exact .inl rfl | exact .inr rfl)) ?_ | refine rt_eq (q_X12_readsStep_213) ?_ | refine rt_eq (q_X12_readsStep_149 (by first | assumption | rfl | exact .inl rfl | exact .inr rfl)) ?_ | refine rt_eq (q_X12_readsStep_153 (by first | assumption | rfl | exact .inl rfl | exact .inr rfl)) ?_ | refine rt_eq (q_X12_readsStep_184 (by first | assumption | rfl | exact .inl rfl | exact .inr rfl)) ?_ | refine rt_eq (q_X12_readsStep_168 (by first | assumption | rfl | exact .inl rfl | exact .inr rfl)) ?_ | refine rt_eq (q_X12_readsStep_190 (by first | assumption | rfl | exact .inl rfl | exact .inr rfl)) ?_ | refine rt_eq (q_X12_readsStep_177 (by first | assumption | rfl | exact .inl rfl | exact .inr rfl)) ?_ | refine rt_eq (q_X12_readsStep_181 (by first | assumption | rfl | exact .inl rfl | exact .inr rfl)) ?_)
    refine rt_gd (by decide) ?_
    refine rt_mono (fl_127 hk hk2 hs (by rw [up2_n (by omega)]; exact h0) (by rw [up2_n (by omega)]; exact hp)) ?_
    rintro I1 J1 ⟨f1, rfl⟩
    exact ⟨PF_up hs f1, rfl⟩
  · exact rt_f (by (try simp (disch := omega) only [nI_leI, nI_ltI, nI_eq, nI_add, pk_mul, n_0add, Nat.zero_add, nI_clamp]) <;> omega) (fl_127 hk hk2 hs h0 hp)
theorem fl_96 {k : Nat} (hk : ¬ k = 8) (hk2 : k < 9) (hs : s < 80) (h0 : ¬ I 72 5 = nI 0) (hp : ∃ a', a' ≤ z ∧ I 72 4 = nI a') : Rt L X (runI (runM (d + 3)) iX12_readsStep (96, [some (.ref 72), some (.int (nI k)), some (.ref (453 + s))], [], mm L X I J)) none (fun I' J' => PF z I I' ∧ J' = J) := by
  have kr := ka_row s hs
  (first | refine rt_eq (q_X12_readsStep_0) ?_ | refine rt_eq (q_X12_readsStep_4) ?_ | refine rt_eq (q_X12_readsStep_19) ?_ | refine rt_eq (q_X12_readsStep_33) ?_ | refine rt_eq (q_X12_readsStep_29) ?_ | refine rt_eq (q_X12_readsStep_45) ?_ | refine rt_eq (q_X12_readsStep_96 (by first | assumption | rfl | exact .inl rfl | exact .inr rfl)) ?_ | refine rt_eq (q_X12_readsStep_95 (by first | assumption | rfl | exact .inl rfl | exact .inr rfl) (by first | assumption | rfl | exact .inl rfl | exact .inr rfl)) ?_ | refine rt_eq (q_X12_readsStep_111 (by first | assumption | rfl | exact .inl rfl | exact .inr rfl)) ?_ | refine rt_eq (q_X12_readsStep_110 (by first | assumption | rfl | exact .inl rfl | exact .inr rfl)) ?_ | refine rt_eq (q_X12_readsStep_127 (by first | assumption | rfl | exact .inl rfl | exact .inr rfl)) ?_ | refine rt_eq (q_X12_readsStep_126 (by first | assumption | rfl | exact .inl rfl | exact .inr rfl)) ?_ | refine rt_eq (q_X12_readsStep_200 (by first | assumption | rfl | exact .inl rfl | exact .inr rfl)) ?_ | refine rt_eq (q_X12_readsStep_142 (by first | assumption | rfl | exact .inl rfl | exact .inr rfl)) ?_ | refine rt_eq (q_X12_readsStep_213) ?_ | refine rt_eq (q_X12_readsStep_149 (by first | assumption | rfl | exact .inl rfl | exact .inr rfl)) ?_ | refine rt_eq (q_X12_readsStep_153 (by first | assumption | rfl | exact .inl rfl | exact .inr rfl)) ?_ | refine rt_eq (q_X12_readsStep_184 (by first | assumption | rfl | exact .inl rfl | exact .inr rfl)) ?_ | refine rt_eq (q_X12_readsStep_168 (by first | assumption | rfl | exact .inl rfl | exact .inr rfl)) ?_ | refine rt_eq (q_X12_readsStep_190 (by first | assumption | rfl | exact .inl rfl | exact .inr rfl)) ?_ | refine rt_eq (q_X12_readsStep_177 (by first | assumption | rfl | exact .inl rfl | exact .inr rfl)) ?_ | refine rt_eq (q_X12_readsStep_181 (by first | assumption | rfl | exact .inl rfl | exact .inr rfl)) ?_)
  by_cases q : k = 3
  · refine rt_t (by rw [q]) (rt_be (sp_numberF h0) ?_)
    (first | refine rt_eq (q_X12_readsStep_0) ?_ | refine rt_eq (q_X12_readsStep_4) ?_ | refine rt_eq (q_X12_readsStep_19) ?_ | refine rt_eq (q_X12_readsStep_33) ?_ | refine rt_eq (q_X12_readsStep_29) ?_ | refine rt_eq (q_X12_readsStep_45) ?_ | refine rt_eq (q_X12_readsStep_96 (by first | assumption | rfl | exact .inl rfl | exact .inr rfl)) ?_ | refine rt_eq (q_X12_readsStep_95 (by first | assumption | rfl | exact .inl rfl | exact .inr rfl) (by first | assumption | rfl | exact .inl rfl | exact .inr rfl)) ?_ | refine rt_eq (q_X12_readsStep_111 (by first | assumption | rfl | exact .inl rfl | exact .inr rfl)) ?_ | refine rt_eq (q_X12_readsStep_110 (by first | assumption | rfl | exact .inl rfl | exact .inr rfl)) ?_ | refine rt_eq (q_X12_readsStep_127 (by first | assumption | rfl | exact .inl rfl | exact .inr rfl)) ?_ | refine rt_eq (q_X12_readsStep_126 (by first | assumption | rfl | exact .inl rfl | exact .inr rfl)) ?_ | refine rt_eq (q_X12_readsStep_200 (by first | assumption | rfl | exact .inl rfl | exact .inr rfl)) ?_ | refine rt_eq (q_X12_readsStep_142 (by first | assumption | rfl | exact .inl rfl | exact .inr rfl)) ?_ | refine rt_eq (q_X12_readsStep_213) ?_ | refine rt_eq (q_X12_readsStep_149 (by first | assumption | rfl | exact .inl rfl | exact .inr rfl)) ?_ | refine rt_eq (q_X12_readsStep_153 (by first | assumption | rfl | exact .inl rfl | exact .inr rfl)) ?_ | refine rt_eq (q_X12_readsStep_184 (by first | assumption | rfl | exact .inl rfl | exact .inr rfl)) ?_ | refine rt_eq (q_X12_readsStep_168 (by first | assumption | rfl | exact .inl rfl | exact .inr rfl)) ?_ | refine rt_eq (q_X12_readsStep_190 (by first | assumption | rfl | exact .inl rfl | exact .inr rfl)) ?_ | refine rt_eq (q_X12_readsStep_177 (by first | assumption | rfl | exact .inl rfl | exact .inr rfl)) ?_ | refine rt_eq (q_X12_readsStep_181 (by first | assumption | rfl | exact .inl rfl | exact .inr rfl)) ?_)
    refine rt_gd (by decide) ?_
    refine rt_mono (fl_111 hk hk2 hs (by rw [up2_n (by omega)]; exact h0) (by rw [up2_n (by omega)]; exact hp)) ?_
    rintro I1 J1 ⟨f1, rfl⟩
    exact ⟨PF_up hs f1, rfl⟩
  · exact rt_f (by (try simp (disch := omega) only [nI_leI, nI_ltI, nI_eq, nI_add, pk_mul, n_0add, Nat.zero_add, nI_clamp]) <;> omega) (fl_111 hk hk2 hs h0 hp)
/-- a row as the model has it -/
def rowM (I : MI32) (T : TT) (i : Nat) : Prop := I (453 + i) 0 = nI (T i 0) ∧ ((T i 0 = 2 ∨ T i 0 = 7) ∨ I (453 + i) 1 = nI (T i 1)) ∧ (T i 0 = 3 → I (453 + i) 2 = nI (T i 2)) ∧ I (453 + i) 3 = nI (T i 3)
/-- place a, s rows, o open, no FAULT -/
def hdM (I0 : MI32) (z : Nat) (I' : MI32) (p s o : Nat) : Prop := p ≤ z ∧ 2 * s ≤ p ∧ o ≤ 6 ∧ Fr fRM I0 I' ∧ I' 72 4 = nI p ∧ I' 72 5 = nI 0 ∧ I' 72 8 = nI o ∧ I' 72 28 = nI s
/-- what reading leaves, the place being p -/
def okM (I0 : MI32) (z : Nat) (I' I'' : MI32) (s o : Nat) (R : Rs) (p : Nat) : Prop := Fr fRM I0 I'' ∧ (R.1 = 0 → I'' 72 4 = nI p ∧ I'' 72 5 = nI 0 ∧ I'' 72 8 = nI o ∧ I'' 72 28 = nI R.2.2.2.1 ∧ (∀ i j, i < s → I'' (453 + i) j = I' (453 + i) j) ∧ ∀ i, s ≤ i → i < R.2.2.2.1 → rowM I'' R.2.2.2.2 i) ∧ (¬ R.1 = 0 → I'' 72 5 = nI R.1 ∧ I'' 72 6 = nI R.2.1 ∧ ∃ a', a' ≤ z ∧ I'' 72 4 = nI a')
theorem okM_f {I' I1 I'' : MI32} {R : Rs} {p : Nat} (hf : ¬ R.1 = 0) (g : Fr fRM I I1) (h5 : I1 72 5 = nI R.1) (h6 : I1 72 6 = nI R.2.1) (P : PF z I1 I'') : okM I z I' I'' s o R p := ⟨fr_tr g P.1, fun q => absurd q hf, fun _ => ⟨P.2.1.trans h5, P.2.2.1.trans h6, P.2.2.2⟩⟩
end WM
