/-! THE READER OF A LAW, BY THE MODEL -/
section LM
variable {d L X : Nat} {I I1 I2 : MI32} {J : MI64} {W : Nat → Nat} {z a b c e o : Nat} {cd : Cd}
theorem isWd_eq {w v : List Nat} (h1 : isWd W z a w = true) (h2 : isWd W z a v = true) : w = v := by
  have a1 := of_decide_eq_true h1
  have a2 := of_decide_eq_true h2
  rw [mt_iff] at a1 a2
  have hl : w.length = v.length := by omega
  refine List.ext_getElem hl (fun i h1 h2 => ?_)
  have b1 := (a1.1 i h1).2
  have b2 := (a2.1 i h2).2
  rw [b1, List.getD_eq_getElem?_getD, List.getD_eq_getElem?_getD, List.getElem?_eq_getElem h1, List.getElem?_eq_getElem h2] at b2
  exact b2
theorem isWd_ne {w v : List Nat} (h1 : isWd W z a w = true) (hne : ¬ w = v) : isWd W z a v = false := by
  cases q : isWd W z a v with
  | false => rfl
  | true => exact absurd (isWd_eq h1 q) hne
def wd9 : List (List Nat) := [[102, 108, 111, 119], [108, 111, 115, 115], [108, 101, 110, 103, 116, 104], [98, 101, 110, 100, 115], [98, 117, 114, 115, 116], [112, 108, 97, 99, 101], [116, 117, 114, 110, 101, 100], [104, 111, 112, 101], [112, 105, 101, 99, 101]]
theorem lk_least (q : isWd W z a [108, 101, 97, 115, 116] = true) : lkI W z a = nI 9 := by
  unfold lkI wdL
  rw [plA_f (isWd_ne q (by decide)), plA_f (isWd_ne q (by decide)), plA_f (isWd_ne q (by decide)), plA_f (isWd_ne q (by decide)), plA_f (isWd_ne q (by decide)), plA_f (isWd_ne q (by decide)), plA_f (isWd_ne q (by decide)), plA_f (isWd_ne q (by decide)), plA_f (isWd_ne q (by decide)), plA_t q]
theorem lk_most (q : isWd W z a [109, 111, 115, 116] = true) : lkI W z a = nI 10 := by
  unfold lkI wdL
  rw [plA_f (isWd_ne q (by decide)), plA_f (isWd_ne q (by decide)), plA_f (isWd_ne q (by decide)), plA_f (isWd_ne q (by decide)), plA_f (isWd_ne q (by decide)), plA_f (isWd_ne q (by decide)), plA_f (isWd_ne q (by decide)), plA_f (isWd_ne q (by decide)), plA_f (isWd_ne q (by decide)), plA_f (isWd_ne q (by decide)), plA_t q]
theorem plA_app {t e : Nat} : ∀ (ws vs : List (List Nat)) i, i + ws.length < 100 → plA W t e (ws ++ vs) i = if plA W t e ws i = -1 then plA W t e vs (i + ws.length) else plA W t e ws i
  | [], vs, i, _ => by
    exact (if_pos rfl).symm
  | w :: ws, vs, i, h => by
    have ih := plA_app (t := t) (e := e) ws vs (i + 1) (by rw [List.length_cons] at h; omega)
    have e1 : plA W t e (w :: ws ++ vs) i = if mt W e w t = true ∧ t + w.length = e then nI i else plA W t e (ws ++ vs) (i + 1) := rfl
    have e2 : plA W t e (w :: ws) i = if mt W e w t = true ∧ t + w.length = e then nI i else plA W t e ws (i + 1) := rfl
    rw [e1, e2]
    by_cases q : mt W e w t = true ∧ t + w.length = e
    · rw [if_pos q, if_pos q, if_neg (nI_m1 i (by omega))]
    · rw [if_neg q, if_neg q, ih, List.length_cons, show i + 1 + ws.length = i + (ws.length + 1) by omega]
theorem lk_9 (q1 : isWd W z a [108, 101, 97, 115, 116] = false) (q2 : isWd W z a [109, 111, 115, 116] = false) : lkI W z a = plA W (sk W z a) (wE W z a) wd9 0 := by
  have e1 : lkI W z a = plA W (sk W z a) (wE W z a) (wd9 ++ [[108, 101, 97, 115, 116], [109, 111, 115, 116]]) 0 := rfl
  rw [e1, plA_app wd9 _ 0 (by decide)]
  by_cases q : plA W (sk W z a) (wE W z a) wd9 0 = -1
  · rw [if_pos q, plA_f q1, plA_f q2, q]
    rfl
  · rw [if_neg q]
theorem lk_let (ha : a ≤ z) (q : ¬ lkI W z a = -1) : ¬ dgt W z a ∧ ¬ sgn W z a 40 := by
  obtain ⟨w1, w2, w3⟩ := lk_n q
  have s := wE_S (W := W) (z := z) (a := a) (sk W z a) (Nat.le_refl _) (by omega)
  refine ⟨fun h => ?_, fun h => ?_⟩
  · have := of_decide_eq_true h.2
    omega
  · have := h.2
    omega
/-- a word taken, the place being a or behind its blanks -/
theorem sp_takeW {w : List Nat} {x1 x2 x3 x4 x5 x6 : Nat} {I1 : MI32} (A : WdA w x1 x2 x3 x4 x5 x6) (B : BM I W) (B2 : ∀ k, k < 600 → W k < 256) (hz : I 72 2 = nI z) (hz2 : z ≤ 600) (ha : a ≤ z) (h0 : I 72 5 = nI 0) (f1 : Fr [(72, 5)] I I1) (f2 : I1 72 4 = nI (sk W z a)) : Rt L X (runM (d + 5) nX12_takes [.ref 72, .int (nI x1), .int (nI x2), .int (nI x3), .int (nI x4), .int (nI x5), .int (nI x6)] (mm L X I1 J)) (some (.int (bI (isWd W z a w)))) (fun I' J' => (Fr [(72, 5)] I I' ∧ I' 72 4 = nI (if isWd W z a w = true then wE W z a else sk W z a)) ∧ J' = J) := by
  have hs := sk_le (W := W) ha
  have q := sp_takes (d := d) (L := L) (X := X) (J := J) A (BM_fr B f1 (by decide)) B2 ((f1 72 2 rfl).trans hz) hz2 hs.2 f2 ((f1 72 5 rfl).trans h0)
  rw [isWd_sk ha, sk_sk ha, wE_sk ha] at q
  refine rt_mono q ?_
  rintro I2 J2 ⟨⟨g1, g2⟩, rfl⟩
  exact ⟨⟨fr_tr f1 g1, g2⟩, rfl⟩
theorem sp_knownHere (B : BM I W) (B2 : ∀ k, k < 600 → W k < 256) (hz : I 72 2 = nI z) (hz2 : z ≤ 600) (ha : a ≤ z) (h4 : I 72 4 = nI (sk W z a)) (h0 : I 72 5 = nI 0) : Rt L X (runM (d + 6) nX12_knownHere [.ref 72] (mm L X I J)) (some (.int (plA W (sk W z a) (wE W z a) wd9 0))) (fun I' J' => (Fr [(72, 5)] I I' ∧ (plA W (sk W z a) (wE W z a) wd9 0 = -1 → I' 72 4 = nI (sk W z a)) ∧ (¬ plA W (sk W z a) (wE W z a) wd9 0 = -1 → I' 72 4 = nI (wE W z a))) ∧ J' = J) := by
  rw [e_X12_knownHere]
  unfold wd9
  (first | refine rt_eq (q_X12_knownHere_0) ?_ | refine rt_eq (q_X12_knownHere_14) ?_ | refine rt_eq (q_X12_knownHere_33) ?_ | refine rt_eq (q_X12_knownHere_53) ?_ | refine rt_eq (q_X12_knownHere_70) ?_ | refine rt_eq (q_X12_knownHere_89) ?_ | refine rt_eq (q_X12_knownHere_106) ?_ | refine rt_eq (q_X12_knownHere_125) ?_ | refine rt_eq (q_X12_knownHere_144) ?_ | refine rt_eq (q_X12_knownHere_162) ?_)
  refine rt_bnd (sp_takeW (w := [102, 108, 111, 119]) (by unfold WdA; decide +kernel) B B2 hz hz2 ha h0 fr_rfl h4) ?_
  rintro I0 J0 ⟨⟨f0, g0⟩, rfl⟩
  (first | refine rt_eq (q_X12_knownHere_0) ?_ | refine rt_eq (q_X12_knownHere_14) ?_ | refine rt_eq (q_X12_knownHere_33) ?_ | refine rt_eq (q_X12_knownHere_53) ?_ | refine rt_eq (q_X12_knownHere_70) ?_ | refine rt_eq (q_X12_knownHere_89) ?_ | refine rt_eq (q_X12_knownHere_106) ?_ | refine rt_eq (q_X12_knownHere_125) ?_ | refine rt_eq (q_X12_knownHere_144) ?_ | refine rt_eq (q_X12_knownHere_162) ?_)
  cases q0 : isWd W z a [102, 108, 111, 119] with
  | true =>
    rw [q0, if_pos rfl] at g0
    rw [plA_t q0]
    exact rt_f (show ¬ bI true = nI 0 by decide) (rt_ret ⟨⟨f0, fun q => absurd q (nI_m1 _ (by decide)), fun _ => g0⟩, rfl⟩)
  | false =>
  rw [q0, if_neg (by decide)] at g0
  rw [plA_f q0]
  refine rt_t bI_f ?_
  refine rt_bnd (sp_takeW (w := [108, 111, 115, 115]) (by unfold WdA; decide +kernel) B B2 hz hz2 ha h0 f0 g0) ?_
  rintro I1 J1 ⟨⟨f1, g1⟩, rfl⟩
  (first | refine rt_eq (q_X12_knownHere_0) ?_ | refine rt_eq (q_X12_knownHere_14) ?_ | refine rt_eq (q_X12_knownHere_33) ?_ | refine rt_eq (q_X12_knownHere_53) ?_ | refine rt_eq (q_X12_knownHere_70) ?_ | refine rt_eq (q_X12_knownHere_89) ?_ | refine rt_eq (q_X12_knownHere_106) ?_ | refine rt_eq (q_X12_knownHere_125) ?_ | refine rt_eq (q_X12_knownHere_144) ?_ | refine rt_eq (q_X12_knownHere_162) ?_)
  cases q1 : isWd W z a [108, 111, 115, 115] with
  | true =>
    rw [q1, if_pos rfl] at g1
    rw [plA_t q1]
    exact rt_f (show ¬ bI true = nI 0 by decide) (rt_ret ⟨⟨f1, fun q => absurd q (nI_m1 _ (by decide)), fun _ => g1⟩, rfl⟩)
  | false =>
  rw [q1, if_neg (by decide)] at g1
  rw [plA_f q1]
  refine rt_t bI_f ?_
  refine rt_bnd (sp_takeW (w := [108, 101, 110, 103, 116, 104]) (by unfold WdA; decide +kernel) B B2 hz hz2 ha h0 f1 g1) ?_
  rintro I2 J2 ⟨⟨f2, g2⟩, rfl⟩
  (first | refine rt_eq (q_X12_knownHere_0) ?_ | refine rt_eq (q_X12_knownHere_14) ?_ | refine rt_eq (q_X12_knownHere_33) ?_ | refine rt_eq (q_X12_knownHere_53) ?_ | refine rt_eq (q_X12_knownHere_70) ?_ | refine rt_eq (q_X12_knownHere_89) ?_ | refine rt_eq (q_X12_knownHere_106) ?_ | refine rt_eq (q_X12_knownHere_125) ?_ | refine rt_eq (q_X12_knownHere_144) ?_ | refine rt_eq (q_X12_knownHere_162) ?_)
  cases q2 : isWd W z a [108, 101, 110, 103, 116, 104] with
  | true =>
    rw [q2, if_pos rfl] at g2
    rw [plA_t q2]
    exact rt_f (show ¬ bI true = nI 0 by decide) (rt_ret ⟨⟨f2, fun q => absurd q (nI_m1 _ (by decide)), fun _ => g2⟩, rfl⟩)
  | false =>
  rw [q2, if_neg (by decide)] at g2
  rw [plA_f q2]
  refine rt_t bI_f ?_
  refine rt_bnd (sp_takeW (w := [98, 101, 110, 100, 115]) (by unfold WdA; decide +kernel) B B2 hz hz2 ha h0 f2 g2) ?_
  rintro I3 J3 ⟨⟨f3, g3⟩, rfl⟩
  (first | refine rt_eq (q_X12_knownHere_0) ?_ | refine rt_eq (q_X12_knownHere_14) ?_ | refine rt_eq (q_X12_knownHere_33) ?_ | refine rt_eq (q_X12_knownHere_53) ?_ | refine rt_eq (q_X12_knownHere_70) ?_ | refine rt_eq (q_X12_knownHere_89) ?_ | refine rt_eq (q_X12_knownHere_106) ?_ | refine rt_eq (q_X12_knownHere_125) ?_ | refine rt_eq (q_X12_knownHere_144) ?_ | refine rt_eq (q_X12_knownHere_162) ?_)
  cases q3 : isWd W z a [98, 101, 110, 100, 115] with
  | true =>
    rw [q3, if_pos rfl] at g3
    rw [plA_t q3]
    exact rt_f (show ¬ bI true = nI 0 by decide) (rt_ret ⟨⟨f3, fun q => absurd q (nI_m1 _ (by decide)), fun _ => g3⟩, rfl⟩)
  | false =>
  rw [q3, if_neg (by decide)] at g3
  rw [plA_f q3]
  refine rt_t bI_f ?_
  refine rt_bnd (sp_takeW (w := [98, 117, 114, 115, 116]) (by unfold WdA; decide +kernel) B B2 hz hz2 ha h0 f3 g3) ?_
  rintro I4 J4 ⟨⟨f4, g4⟩, rfl⟩
  (first | refine rt_eq (q_X12_knownHere_0) ?_ | refine rt_eq (q_X12_knownHere_14) ?_ | refine rt_eq (q_X12_knownHere_33) ?_ | refine rt_eq (q_X12_knownHere_53) ?_ | refine rt_eq (q_X12_knownHere_70) ?_ | refine rt_eq (q_X12_knownHere_89) ?_ | refine rt_eq (q_X12_knownHere_106) ?_ | refine rt_eq (q_X12_knownHere_125) ?_ | refine rt_eq (q_X12_knownHere_144) ?_ | refine rt_eq (q_X12_knownHere_162) ?_)
  cases q4 : isWd W z a [98, 117, 114, 115, 116] with
  | true =>
    rw [q4, if_pos rfl] at g4
    rw [plA_t q4]
    exact rt_f (show ¬ bI true = nI 0 by decide) (rt_ret ⟨⟨f4, fun q => absurd q (nI_m1 _ (by decide)), fun _ => g4⟩, rfl⟩)
  | false =>
  rw [q4, if_neg (by decide)] at g4
  rw [plA_f q4]
  refine rt_t bI_f ?_
  refine rt_bnd (sp_takeW (w := [112, 108, 97, 99, 101]) (by unfold WdA; decide +kernel) B B2 hz hz2 ha h0 f4 g4) ?_
  rintro I5 J5 ⟨⟨f5, g5⟩, rfl⟩
  (first | refine rt_eq (q_X12_knownHere_0) ?_ | refine rt_eq (q_X12_knownHere_14) ?_ | refine rt_eq (q_X12_knownHere_33) ?_ | refine rt_eq (q_X12_knownHere_53) ?_ | refine rt_eq (q_X12_knownHere_70) ?_ | refine rt_eq (q_X12_knownHere_89) ?_ | refine rt_eq (q_X12_knownHere_106) ?_ | refine rt_eq (q_X12_knownHere_125) ?_ | refine rt_eq (q_X12_knownHere_144) ?_ | refine rt_eq (q_X12_knownHere_162) ?_)
  cases q5 : isWd W z a [112, 108, 97, 99, 101] with
  | true =>
    rw [q5, if_pos rfl] at g5
    rw [plA_t q5]
    exact rt_f (show ¬ bI true = nI 0 by decide) (rt_ret ⟨⟨f5, fun q => absurd q (nI_m1 _ (by decide)), fun _ => g5⟩, rfl⟩)
  | false =>
  rw [q5, if_neg (by decide)] at g5
  rw [plA_f q5]
  refine rt_t bI_f ?_
  refine rt_bnd (sp_takeW (w := [116, 117, 114, 110, 101, 100]) (by unfold WdA; decide +kernel) B B2 hz hz2 ha h0 f5 g5) ?_
  rintro I6 J6 ⟨⟨f6, g6⟩, rfl⟩
  (first | refine rt_eq (q_X12_knownHere_0) ?_ | refine rt_eq (q_X12_knownHere_14) ?_ | refine rt_eq (q_X12_knownHere_33) ?_ | refine rt_eq (q_X12_knownHere_53) ?_ | refine rt_eq (q_X12_knownHere_70) ?_ | refine rt_eq (q_X12_knownHere_89) ?_ | refine rt_eq (q_X12_knownHere_106) ?_ | refine rt_eq (q_X12_knownHere_125) ?_ | refine rt_eq (q_X12_knownHere_144) ?_ | refine rt_eq (q_X12_knownHere_162) ?_)
  cases q6 : isWd W z a [116, 117, 114, 110, 101, 100] with
  | true =>
    rw [q6, if_pos rfl] at g6
    rw [plA_t q6]
    exact rt_f (show ¬ bI true = nI 0 by decide) (rt_ret ⟨⟨f6, fun q => absurd q (nI_m1 _ (by decide)), fun _ => g6⟩, rfl⟩)
  | false =>
  rw [q6, if_neg (by decide)] at g6
  rw [plA_f q6]
  refine rt_t bI_f ?_
  refine rt_bnd (sp_takeW (w := [104, 111, 112, 101]) (by unfold WdA; decide +kernel) B B2 hz hz2 ha h0 f6 g6) ?_
  rintro I7 J7 ⟨⟨f7, g7⟩, rfl⟩
  (first | refine rt_eq (q_X12_knownHere_0) ?_ | refine rt_eq (q_X12_knownHere_14) ?_ | refine rt_eq (q_X12_knownHere_33) ?_ | refine rt_eq (q_X12_knownHere_53) ?_ | refine rt_eq (q_X12_knownHere_70) ?_ | refine rt_eq (q_X12_knownHere_89) ?_ | refine rt_eq (q_X12_knownHere_106) ?_ | refine rt_eq (q_X12_knownHere_125) ?_ | refine rt_eq (q_X12_knownHere_144) ?_ | refine rt_eq (q_X12_knownHere_162) ?_)
  cases q7 : isWd W z a [104, 111, 112, 101] with
  | true =>
    rw [q7, if_pos rfl] at g7
    rw [plA_t q7]
    exact rt_f (show ¬ bI true = nI 0 by decide) (rt_ret ⟨⟨f7, fun q => absurd q (nI_m1 _ (by decide)), fun _ => g7⟩, rfl⟩)
  | false =>
  rw [q7, if_neg (by decide)] at g7
  rw [plA_f q7]
  refine rt_t bI_f ?_
  refine rt_bnd (sp_takeW (w := [112, 105, 101, 99, 101]) (by unfold WdA; decide +kernel) B B2 hz hz2 ha h0 f7 g7) ?_
  rintro I8 J8 ⟨⟨f8, g8⟩, rfl⟩
  (first | refine rt_eq (q_X12_knownHere_0) ?_ | refine rt_eq (q_X12_knownHere_14) ?_ | refine rt_eq (q_X12_knownHere_33) ?_ | refine rt_eq (q_X12_knownHere_53) ?_ | refine rt_eq (q_X12_knownHere_70) ?_ | refine rt_eq (q_X12_knownHere_89) ?_ | refine rt_eq (q_X12_knownHere_106) ?_ | refine rt_eq (q_X12_knownHere_125) ?_ | refine rt_eq (q_X12_knownHere_144) ?_ | refine rt_eq (q_X12_knownHere_162) ?_)
  cases q8 : isWd W z a [112, 105, 101, 99, 101] with
  | true =>
    rw [q8, if_pos rfl] at g8
    rw [plA_t q8]
    exact rt_f (show ¬ bI true = nI 0 by decide) (rt_ret ⟨⟨f8, fun q => absurd q (nI_m1 _ (by decide)), fun _ => g8⟩, rfl⟩)
  | false =>
  rw [q8, if_neg (by decide)] at g8
  rw [plA_f q8]
  refine rt_t bI_f ?_
  exact rt_ret ⟨⟨f8, fun _ => g8, fun q => absurd rfl q⟩, rfl⟩
def fLM : Fls := fTM ++ [(72, 9), (72, 21)] ++ cells 276 160
theorem in_276 {j : Nat} (hn : e < 160) : inF fLM (276 + e) j = true := by
  unfold fLM
  rw [inF_app, in_cells hn, Bool.or_true]
theorem lm_T : sbF fTM fLM = true := by decide +kernel
theorem lm_5 : sbF [(72, 5)] fLM = true := by decide +kernel
theorem BM_lm {I' : MI32} (B : BM I W) (g : Fr fLM I I') : BM I' W := BM_fr B g (by decide +kernel)
theorem lm_2 {I' : MI32} (g : Fr fLM I I') : I' 72 2 = I 72 2 := ag_of (s := [(72, 3)]) g (by decide +kernel) 72 2 rfl
theorem lt_row {I' : MI32} {j : Nat} (hs : e < 160) (g : Fr fTM I I') : I' (276 + e) j = I (276 + e) j := ag_of (s := cells 276 160) g (by decide +kernel) _ j (in_cells hs)
/-- the parts that the model has read -/
def MW (I : MI32) (e : Nat) (cd : Cd) : Prop := I 72 20 = nI e ∧ ∀ j, j < e → I (276 + j) 0 = nI (cd j).1 ∧ ((cd j).1 < 2 → I (276 + j) 1 = nI (cd j).2)
theorem MW_T {I' : MI32} (he : e ≤ 160) (H : MW I e cd) (g : Fr fTM I I') : MW I' e cd := ⟨(g 72 20 rfl).trans H.1, fun j hj => by
  rw [lt_row (by omega) g, lt_row (by omega) g]
  exact H.2 j hj⟩
theorem MW_8 {v : Int32} (H : MW I e cd) : MW (up2 I 72 8 v) e cd := ⟨by rw [up2_k (by decide)]; exact H.1, fun j hj => by
  rw [up2_n (by omega)]
  exact H.2 j hj⟩
theorem sp_notesF {x1 x2 : Int32} (h0 : ¬ I 72 5 = nI 0) : runM (d + 1) nX12_notes [.ref 72, .int x1, .int x2] (mm L X I J) = rV (mm L X I J) := by
  rw [e_X12_notes]
  (first | refine Eq.trans (q_X12_notes_0) ?_)
  exact if_neg h0
theorem sp_notes {x1 x2 : Int32} (h0 : I 72 5 = nI 0) (h : I 72 20 = nI e) (he : e < 160) : runM (d + 1) nX12_notes [.ref 72, .int x1, .int x2] (mm L X I J) = rV (mm L X (up2 (up2 (up2 I (276 + e) 0 x1) (276 + e) 1 x2) 72 20 (nI (e + 1))) J) := by
  rw [e_X12_notes]
  (first | refine Eq.trans (q_X12_notes_0) ?_)
  have e1 : (nI e).toNatClampNeg = e := nI_clamp (by omega)
  rw [if_pos h0, h, e1, show (up2 I (276 + e) 0 x1) 72 20 = nI e by rw [up2_n (by omega), h], e1, show (up2 (up2 I (276 + e) 0 x1) (276 + e) 1 x2) 72 20 = nI e by rw [up2_n (by omega), up2_n (by omega), h], nI_add, gd_t (inb_n he (by decide)), gd_t (inb_n he (by decide))]
theorem MW_add {x : Nat × Nat} {v : Int32} (hv : x.1 < 2 → v = nI x.2) (H : MW I e cd) : MW (up2 (up2 (up2 I (276 + e) 0 (nI x.1)) (276 + e) 1 v) 72 20 (nI (e + 1))) (e + 1) (setC cd e x) := by
  refine ⟨up2_s, fun j hj => ?_⟩
  by_cases q : j = e
  · subst q
    rw [up2_n (by omega), up2_k (by decide), up2_s, up2_s, setC_s]
    exact ⟨rfl, hv⟩
  · rw [up2_n (by omega), up2_n (by omega), up2_n (by omega), setC_n q]
    exact H.2 j (by omega)
theorem up3_72 {x1 x2 x3 : Int32} {k : Nat} (hk : ¬ k = 20) : (up2 (up2 (up2 I (276 + e) 0 x1) (276 + e) 1 x2) 72 20 x3) 72 k = I 72 k := by
  rw [up2_k hk, up2_n (by omega), up2_n (by omega)]
theorem sp_oneF (h0 : ¬ I 72 5 = nI 0) : runM (d + 1) nX12_one [.ref 72] (mm L X I J) = rV (mm L X I J) := by
  rw [e_X12_one]
  (first | refine Eq.trans (q_X12_one_0) ?_ | refine Eq.trans (q_X12_one_12) ?_ | refine Eq.trans (q_X12_one_25) ?_ | refine Eq.trans (q_X12_one_47) ?_ | refine Eq.trans (q_X12_one_56) ?_ | refine Eq.trans (q_X12_one_125) ?_ | refine Eq.trans (q_X12_one_66) ?_ | refine Eq.trans (q_X12_one_173 (by first | assumption | rfl | exact .inl rfl | exact .inr rfl)) ?_ | refine Eq.trans (q_X12_one_134) ?_ | refine Eq.trans (q_X12_one_74) ?_ | refine Eq.trans (q_X12_one_198) ?_ | refine Eq.trans (q_X12_one_185) ?_ | refine Eq.trans (q_X12_one_152) ?_ | refine Eq.trans (q_X12_one_80) ?_ | refine Eq.trans (q_X12_one_201) ?_ | refine Eq.trans (q_X12_one_158) ?_ | refine Eq.trans (q_X12_one_84) ?_ | refine Eq.trans (q_X12_one_90) ?_ | refine Eq.trans (q_X12_one_94) ?_ | refine Eq.trans (q_X12_one_100) ?_ | refine Eq.trans (q_X12_one_106) ?_)
  exact if_neg h0
theorem sp_productF (h0 : ¬ I 72 5 = nI 0) : runM (d + 2) nX12_product [.ref 72] (mm L X I J) = rV (mm L X I J) := by
  rw [e_X12_product]
  (first | refine Eq.trans (q_X12_product_0) ?_ | refine Eq.trans (q_X12_product_4) ?_ | refine Eq.trans (q_X12_product_17) ?_ | refine Eq.trans (q_X12_product_30) ?_ | refine Eq.trans (q_X12_product_52) ?_ | refine Eq.trans (q_X12_product_43) ?_ | refine Eq.trans (q_X12_product_63) ?_ | refine Eq.trans (q_X12_product_69) ?_)
  refine Eq.trans (bnd_e (sp_oneF h0)) ?_
  (first | refine Eq.trans (q_X12_product_0) ?_ | refine Eq.trans (q_X12_product_4) ?_ | refine Eq.trans (q_X12_product_17) ?_ | refine Eq.trans (q_X12_product_30) ?_ | refine Eq.trans (q_X12_product_52) ?_ | refine Eq.trans (q_X12_product_43) ?_ | refine Eq.trans (q_X12_product_63) ?_ | refine Eq.trans (q_X12_product_69) ?_)
  exact if_neg h0
theorem sp_sumF (h0 : ¬ I 72 5 = nI 0) : runM (d + 3) nX12_sum [.ref 72] (mm L X I J) = rV (mm L X I J) := by
  rw [e_X12_sum]
  (first | refine Eq.trans (q_X12_sum_0) ?_ | refine Eq.trans (q_X12_sum_4) ?_ | refine Eq.trans (q_X12_sum_17) ?_ | refine Eq.trans (q_X12_sum_30) ?_ | refine Eq.trans (q_X12_sum_38) ?_ | refine Eq.trans (q_X12_sum_49) ?_ | refine Eq.trans (q_X12_sum_55) ?_)
  refine Eq.trans (bnd_e (sp_productF h0)) ?_
  (first | refine Eq.trans (q_X12_sum_0) ?_ | refine Eq.trans (q_X12_sum_4) ?_ | refine Eq.trans (q_X12_sum_17) ?_ | refine Eq.trans (q_X12_sum_30) ?_ | refine Eq.trans (q_X12_sum_38) ?_ | refine Eq.trans (q_X12_sum_49) ?_ | refine Eq.trans (q_X12_sum_55) ?_)
  exact if_neg h0
/-- what a reader leaves -/
def okL (z : Nat) (I I' : MI32) (o : Nat) (R : Ls) : Prop := Fr fLM I I' ∧ (R.1 = 0 → I' 72 4 = nI R.2.2.1 ∧ I' 72 5 = nI 0 ∧ I' 72 8 = nI o ∧ MW I' R.2.2.2.1 R.2.2.2.2) ∧ (¬ R.1 = 0 → I' 72 5 = nI R.1 ∧ I' 72 6 = nI R.2.1 ∧ ∃ a', a' ≤ z ∧ I' 72 4 = nI a')
def MR (D L X id : Nat) (W : Nat → Nat) (z : Nat) (u : LRec) (o : Nat) : Prop := ∀ a e cd I J, BM I W → I 72 2 = nI z → a ≤ z → I 72 4 = nI a → I 72 5 = nI 0 → I 72 8 = nI o → MW I e cd → e ≤ a → Rt L X (runM D id [.ref 72] (mm L X I J)) none (fun I' J' => okL z I I' o (u o a e cd) ∧ J' = J)
theorem okL_f {R : Ls} (hf : ¬ R.1 = 0) (g : Fr fLM I I1) (h5 : I1 72 5 = nI R.1) (h6 : I1 72 6 = nI R.2.1) (hp : ∃ a', a' ≤ z ∧ I1 72 4 = nI a') : okL z I I1 o R := ⟨g, fun q => absurd q hf, fun _ => ⟨h5, h6, hp⟩⟩
/-- behind a FAULT in what stands in brackets -/
theorem fl_152 {u1 u2 : Option Value} (h0 : ¬ I 72 5 = nI 0) : Rt L X (runI (runM (d + 6)) iX12_one (152, [some (.ref 72), u1, u2], [], mm L X I J)) none (fun I' J' => I' = up2 I 72 8 (I 72 8 - nI 1) ∧ J' = J) := by
  (first | refine rt_eq (q_X12_one_0) ?_ | refine rt_eq (q_X12_one_12) ?_ | refine rt_eq (q_X12_one_25) ?_ | refine rt_eq (q_X12_one_47) ?_ | refine rt_eq (q_X12_one_56) ?_ | refine rt_eq (q_X12_one_125) ?_ | refine rt_eq (q_X12_one_66) ?_ | refine rt_eq (q_X12_one_173 (by first | assumption | rfl | exact .inl rfl | exact .inr rfl)) ?_ | refine rt_eq (q_X12_one_134) ?_ | refine rt_eq (q_X12_one_74) ?_ | refine rt_eq (q_X12_one_198) ?_ | refine rt_eq (q_X12_one_185) ?_ | refine rt_eq (q_X12_one_152) ?_ | refine rt_eq (q_X12_one_80) ?_ | refine rt_eq (q_X12_one_201) ?_ | refine rt_eq (q_X12_one_158) ?_ | refine rt_eq (q_X12_one_84) ?_ | refine rt_eq (q_X12_one_90) ?_ | refine rt_eq (q_X12_one_94) ?_ | refine rt_eq (q_X12_one_100) ?_ | refine rt_eq (q_X12_one_106) ?_)
  refine rt_be (sp_signF h0) ?_
  (first | refine rt_eq (q_X12_one_0) ?_ | refine rt_eq (q_X12_one_12) ?_ | refine rt_eq (q_X12_one_25) ?_ | refine rt_eq (q_X12_one_47) ?_ | refine rt_eq (q_X12_one_56) ?_ | refine rt_eq (q_X12_one_125) ?_ | refine rt_eq (q_X12_one_66) ?_ | refine rt_eq (q_X12_one_173 (by first | assumption | rfl | exact .inl rfl | exact .inr rfl)) ?_ | refine rt_eq (q_X12_one_134) ?_ | refine rt_eq (q_X12_one_74) ?_ | refine rt_eq (q_X12_one_198) ?_ | refine rt_eq (q_X12_one_185) ?_ | refine rt_eq (q_X12_one_152) ?_ | refine rt_eq (q_X12_one_80) ?_ | refine rt_eq (q_X12_one_201) ?_ | refine rt_eq (q_X12_one_158) ?_ | refine rt_eq (q_X12_one_84) ?_ | refine rt_eq (q_X12_one_90) ?_ | refine rt_eq (q_X12_one_94) ?_ | refine rt_eq (q_X12_one_100) ?_ | refine rt_eq (q_X12_one_106) ?_)
  exact rt_ret ⟨rfl, rfl⟩
theorem fl_94 {x1 : Int32} {u2 : Option Value} (h0 : ¬ I 72 5 = nI 0) : Rt L X (runI (runM (d + 6)) iX12_one (94, [some (.ref 72), some (.int x1), u2], [], mm L X I J)) none (fun I' J' => I' = up2 I 72 8 (I 72 8 - nI 1) ∧ J' = J) := by
  (first | refine rt_eq (q_X12_one_0) ?_ | refine rt_eq (q_X12_one_12) ?_ | refine rt_eq (q_X12_one_25) ?_ | refine rt_eq (q_X12_one_47) ?_ | refine rt_eq (q_X12_one_56) ?_ | refine rt_eq (q_X12_one_125) ?_ | refine rt_eq (q_X12_one_66) ?_ | refine rt_eq (q_X12_one_173 (by first | assumption | rfl | exact .inl rfl | exact .inr rfl)) ?_ | refine rt_eq (q_X12_one_134) ?_ | refine rt_eq (q_X12_one_74) ?_ | refine rt_eq (q_X12_one_198) ?_ | refine rt_eq (q_X12_one_185) ?_ | refine rt_eq (q_X12_one_152) ?_ | refine rt_eq (q_X12_one_80) ?_ | refine rt_eq (q_X12_one_201) ?_ | refine rt_eq (q_X12_one_158) ?_ | refine rt_eq (q_X12_one_84) ?_ | refine rt_eq (q_X12_one_90) ?_ | refine rt_eq (q_X12_one_94) ?_ | refine rt_eq (q_X12_one_100) ?_ | refine rt_eq (q_X12_one_106) ?_)
  refine rt_be (sp_signF h0) ?_
  (first | refine rt_eq (q_X12_one_0) ?_ | refine rt_eq (q_X12_one_12) ?_ | refine rt_eq (q_X12_one_25) ?_ | refine rt_eq (q_X12_one_47) ?_ | refine rt_eq (q_X12_one_56) ?_ | refine rt_eq (q_X12_one_125) ?_ | refine rt_eq (q_X12_one_66) ?_ | refine rt_eq (q_X12_one_173 (by first | assumption | rfl | exact .inl rfl | exact .inr rfl)) ?_ | refine rt_eq (q_X12_one_134) ?_ | refine rt_eq (q_X12_one_74) ?_ | refine rt_eq (q_X12_one_198) ?_ | refine rt_eq (q_X12_one_185) ?_ | refine rt_eq (q_X12_one_152) ?_ | refine rt_eq (q_X12_one_80) ?_ | refine rt_eq (q_X12_one_201) ?_ | refine rt_eq (q_X12_one_158) ?_ | refine rt_eq (q_X12_one_84) ?_ | refine rt_eq (q_X12_one_90) ?_ | refine rt_eq (q_X12_one_94) ?_ | refine rt_eq (q_X12_one_100) ?_ | refine rt_eq (q_X12_one_106) ?_)
  refine rt_be (sp_notesF h0) ?_
  (first | refine rt_eq (q_X12_one_0) ?_ | refine rt_eq (q_X12_one_12) ?_ | refine rt_eq (q_X12_one_25) ?_ | refine rt_eq (q_X12_one_47) ?_ | refine rt_eq (q_X12_one_56) ?_ | refine rt_eq (q_X12_one_125) ?_ | refine rt_eq (q_X12_one_66) ?_ | refine rt_eq (q_X12_one_173 (by first | assumption | rfl | exact .inl rfl | exact .inr rfl)) ?_ | refine rt_eq (q_X12_one_134) ?_ | refine rt_eq (q_X12_one_74) ?_ | refine rt_eq (q_X12_one_198) ?_ | refine rt_eq (q_X12_one_185) ?_ | refine rt_eq (q_X12_one_152) ?_ | refine rt_eq (q_X12_one_80) ?_ | refine rt_eq (q_X12_one_201) ?_ | refine rt_eq (q_X12_one_158) ?_ | refine rt_eq (q_X12_one_84) ?_ | refine rt_eq (q_X12_one_90) ?_ | refine rt_eq (q_X12_one_94) ?_ | refine rt_eq (q_X12_one_100) ?_ | refine rt_eq (q_X12_one_106) ?_)
  exact rt_ret ⟨rfl, rfl⟩
theorem fl_90 {x1 : Int32} {u2 : Option Value} (h0 : ¬ I 72 5 = nI 0) : Rt L X (runI (runM (d + 6)) iX12_one (90, [some (.ref 72), some (.int x1), u2], [], mm L X I J)) none (fun I' J' => I' = up2 I 72 8 (I 72 8 - nI 1) ∧ J' = J) := by
  (first | refine rt_eq (q_X12_one_0) ?_ | refine rt_eq (q_X12_one_12) ?_ | refine rt_eq (q_X12_one_25) ?_ | refine rt_eq (q_X12_one_47) ?_ | refine rt_eq (q_X12_one_56) ?_ | refine rt_eq (q_X12_one_125) ?_ | refine rt_eq (q_X12_one_66) ?_ | refine rt_eq (q_X12_one_173 (by first | assumption | rfl | exact .inl rfl | exact .inr rfl)) ?_ | refine rt_eq (q_X12_one_134) ?_ | refine rt_eq (q_X12_one_74) ?_ | refine rt_eq (q_X12_one_198) ?_ | refine rt_eq (q_X12_one_185) ?_ | refine rt_eq (q_X12_one_152) ?_ | refine rt_eq (q_X12_one_80) ?_ | refine rt_eq (q_X12_one_201) ?_ | refine rt_eq (q_X12_one_158) ?_ | refine rt_eq (q_X12_one_84) ?_ | refine rt_eq (q_X12_one_90) ?_ | refine rt_eq (q_X12_one_94) ?_ | refine rt_eq (q_X12_one_100) ?_ | refine rt_eq (q_X12_one_106) ?_)
  refine rt_be (sp_sumF h0) ?_
  exact fl_94 h0
theorem fl_84 {x1 : Int32} {u2 : Option Value} (h0 : ¬ I 72 5 = nI 0) : Rt L X (runI (runM (d + 6)) iX12_one (84, [some (.ref 72), some (.int x1), u2], [], mm L X I J)) none (fun I' J' => I' = up2 I 72 8 (I 72 8 - nI 1) ∧ J' = J) := by
  (first | refine rt_eq (q_X12_one_0) ?_ | refine rt_eq (q_X12_one_12) ?_ | refine rt_eq (q_X12_one_25) ?_ | refine rt_eq (q_X12_one_47) ?_ | refine rt_eq (q_X12_one_56) ?_ | refine rt_eq (q_X12_one_125) ?_ | refine rt_eq (q_X12_one_66) ?_ | refine rt_eq (q_X12_one_173 (by first | assumption | rfl | exact .inl rfl | exact .inr rfl)) ?_ | refine rt_eq (q_X12_one_134) ?_ | refine rt_eq (q_X12_one_74) ?_ | refine rt_eq (q_X12_one_198) ?_ | refine rt_eq (q_X12_one_185) ?_ | refine rt_eq (q_X12_one_152) ?_ | refine rt_eq (q_X12_one_80) ?_ | refine rt_eq (q_X12_one_201) ?_ | refine rt_eq (q_X12_one_158) ?_ | refine rt_eq (q_X12_one_84) ?_ | refine rt_eq (q_X12_one_90) ?_ | refine rt_eq (q_X12_one_94) ?_ | refine rt_eq (q_X12_one_100) ?_ | refine rt_eq (q_X12_one_106) ?_)
  refine rt_be (sp_signF h0) ?_
  exact fl_90 h0
theorem fl_80 {x1 : Int32} {u2 : Option Value} (h0 : ¬ I 72 5 = nI 0) : Rt L X (runI (runM (d + 6)) iX12_one (80, [some (.ref 72), some (.int x1), u2], [], mm L X I J)) none (fun I' J' => I' = up2 I 72 8 (I 72 8 - nI 1) ∧ J' = J) := by
  (first | refine rt_eq (q_X12_one_0) ?_ | refine rt_eq (q_X12_one_12) ?_ | refine rt_eq (q_X12_one_25) ?_ | refine rt_eq (q_X12_one_47) ?_ | refine rt_eq (q_X12_one_56) ?_ | refine rt_eq (q_X12_one_125) ?_ | refine rt_eq (q_X12_one_66) ?_ | refine rt_eq (q_X12_one_173 (by first | assumption | rfl | exact .inl rfl | exact .inr rfl)) ?_ | refine rt_eq (q_X12_one_134) ?_ | refine rt_eq (q_X12_one_74) ?_ | refine rt_eq (q_X12_one_198) ?_ | refine rt_eq (q_X12_one_185) ?_ | refine rt_eq (q_X12_one_152) ?_ | refine rt_eq (q_X12_one_80) ?_ | refine rt_eq (q_X12_one_201) ?_ | refine rt_eq (q_X12_one_158) ?_ | refine rt_eq (q_X12_one_84) ?_ | refine rt_eq (q_X12_one_90) ?_ | refine rt_eq (q_X12_one_94) ?_ | refine rt_eq (q_X12_one_100) ?_ | refine rt_eq (q_X12_one_106) ?_)
  refine rt_be (sp_sumF h0) ?_
  exact fl_84 h0
theorem okL_8 {R : Ls} (hf : ¬ R.1 = 0) (g : Fr fLM I I1) (h5 : I1 72 5 = nI R.1) (h6 : I1 72 6 = nI R.2.1) (hp : ∃ a', a' ≤ z ∧ I1 72 4 = nI a') : okL z I (up2 I1 72 8 (I1 72 8 - nI 1)) o R := by
  refine okL_f hf (fr_up g (by decide +kernel)) ?_ ?_ ?_
  · rw [up2_k (by decide), h5]
  · rw [up2_k (by decide), h6]
  · rw [up2_k (by decide)]
    exact hp
end LM
