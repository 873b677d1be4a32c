/-! THE READER OF A HOUSE, BY THE CLASS -/
section HB
variable {d L X : Nat} {I : MI32} {J : MI64} {W : Nat → Nat} {z a b c : Nat} {h : Hs}
/-- the house that is being read -/
def HS (I : MI32) (h : Hs) : Prop := I 13 0 = nI (h 0 0) ∧ I 13 1 = nI (h 0 1) ∧ I 13 2 = nI (h 0 2) ∧ I 13 3 = nI (h 0 3) ∧ (∀ p, p < h 0 0 → I 14 p = nI (h 1 p) ∧ I 15 p = nI (h 4 p) ∧ I 16 p = nI (h 2 p) ∧ I 17 p = nI (h 3 p)) ∧ (∀ e, e < h 0 1 → I 18 e = nI (h 5 e) ∧ I 19 e = nI (h 6 e)) ∧ (∀ f, f < h 0 2 → I 20 f = nI (h 7 f) ∧ I 21 f = nI (h 8 f)) ∧ (∀ t, t < 10 → I 22 t = nI (bitsN (jn h (h 0 1) t) 10))
def sHS : Fls := [(13, 1), (13, 2), (13, 3), (13, 4), (14, 0), (15, 0), (16, 0), (17, 0), (18, 0), (19, 0), (20, 0), (21, 0), (22, 0)]
def fHR : Fls := fTC ++ sHS
theorem HS_fr {I' : MI32} {l : Fls} (H : HS I h) (g : Fr l I I') (dd : dj l sHS = true) : HS I' h := by
  have q := ag_of g dd
  obtain ⟨h1, h2, h3, h4, h5, h6, h7, h8⟩ := H
  exact ⟨(q 13 0 rfl).trans h1, (q 13 1 rfl).trans h2, (q 13 2 rfl).trans h3, (q 13 3 rfl).trans h4, fun p hp => by rw [q 14 p rfl, q 15 p rfl, q 16 p rfl, q 17 p rfl]; exact h5 p hp, fun e he => by rw [q 18 e rfl, q 19 e rfl]; exact h6 e he, fun f hf => by rw [q 20 f rfl, q 21 f rfl]; exact h7 f hf, fun t ht => by rw [q 22 t rfl]; exact h8 t ht⟩
theorem sp_readTo {r n1 k : Nat} {lo hi : Int32} (k0 : ka r 1 n1) (hr : ¬ r = 1 ∧ ¬ r = 2) (hk : k < n1) (hn1 : n1 < 2 ^ 31) (R : RdC I W z b) : Rt L X (runM (d + 4) nX1_readTo [.ref r, .int (nI k), .ref 1, .int lo, .int hi] (mm L X I J)) (some (.int (bI (decide (nmF W z b lo hi = 0))))) (fun I' J' => (Fr (fTC ++ [(r, 0)]) I I' ∧ (nmF W z b lo hi = 0 → RdC I' W z (nmV W z b).1 ∧ I' r k = nI (nmV W z b).2 ∧ (∀ j, ¬ j = k → I' r j = I r j) ∧ I' 1 2 = I 1 2 ∧ I' 1 3 = I 1 3 ∧ I' 1 7 = nI (sk W z b)) ∧ (¬ nmF W z b lo hi = 0 → I' 1 2 = nI (nmF W z b lo hi) ∧ I' 1 3 = nI (sk W z b))) ∧ J' = J) := by
  obtain ⟨B, hz, hz2, hb, h5⟩ := R
  have v1 := nmV_le (W := W) hb
  rw [e_X1_readTo]
  (first | refine rt_eq (q_X1_readTo_0 (by first | assumption | rfl | exact .inl rfl | exact .inr rfl)) ?_ | refine rt_eq (q_X1_readTo_7 (by first | assumption | rfl | exact .inl rfl | exact .inr rfl) (by first | assumption | rfl | exact .inl rfl | exact .inr rfl)) ?_ | refine rt_eq (q_X1_readTo_18) ?_)
  refine rt_bnd (sp_numeral B hz hz2 hb h5) ?_
  rintro I1 J1 ⟨⟨f1, f2, f3⟩, rfl⟩
  have hu4 : okv (some (.int hi)) = true := rfl
  (first | refine rt_eq (q_X1_readTo_0 (by first | assumption | rfl | exact .inl rfl | exact .inr rfl)) ?_ | refine rt_eq (q_X1_readTo_7 (by first | assumption | rfl | exact .inl rfl | exact .inr rfl) (by first | assumption | rfl | exact .inl rfl | exact .inr rfl)) ?_ | refine rt_eq (q_X1_readTo_18) ?_)
  refine rt_bne (sp_put k0 hn1) ?_
  rw [pt_n hk hn1]
  (first | refine rt_eq (q_X1_readTo_0 (by first | assumption | rfl | exact .inl rfl | exact .inr rfl)) ?_ | refine rt_eq (q_X1_readTo_7 (by first | assumption | rfl | exact .inl rfl | exact .inr rfl) (by first | assumption | rfl | exact .inl rfl | exact .inr rfl)) ?_ | refine rt_eq (q_X1_readTo_18) ?_)
  have n1' : ∀ k', (up2 I1 r k (I1 1 4)) 1 k' = I1 1 k' := fun k' => by rw [up2_n (fun e => hr.1 e.symm)]
  have fr : Fr (fTC ++ [(r, 0)]) I (up2 I1 r k (I1 1 4)) := by
    intro x y hxy
    rw [inF_app, Bool.or_eq_false_iff] at hxy
    have hne : ¬ x = r := by
      intro e
      have h2 := hxy.2
      rw [e] at h2
      simp [inF] at h2
    rw [up2_n hne]
    exact f1 x y hxy.1
  refine rt_gd bI_b01 (rt_ret ⟨⟨fr, fun q => ?_, fun q => ?_⟩, rfl⟩)
  · obtain ⟨g5, g4, g2, g3, g7⟩ := f2 q
    refine ⟨⟨fun k' hk' => ?_, ?_, hz2, v1.2.1, ?_⟩, ?_, fun j hj => ?_, ?_, ?_, ?_⟩
    · rw [up2_n (fun e => hr.2 e.symm), f1 2 k' rfl]
      exact B k' hk'
    · rw [n1', f1 1 6 rfl, hz]
    · rw [n1', g5]
    · rw [up2_s, g4]
    · rw [up2_k hj]
      refine f1 r j ?_
      simp [fTC, inF]
      have := hr.1
      omega
    · rw [n1', g2]
    · rw [n1', g3]
    · rw [n1', g7]
  · obtain ⟨g2, g3⟩ := f3 q
    exact ⟨by rw [n1', g2], by rw [n1', g3]⟩
/-- what a clause's reading leaves -/
def HQ (I I' : MI32) (W : Nat → Nat) (z K b : Nat) (h : Hs) : Prop := Fr fHR I I' ∧ ((hm W z K b).1 = 0 → RdC I' W z (hm W z K b).2.2 ∧ HS I' (hAdd W z h K b) ∧ I' 1 2 = I 1 2 ∧ I' 1 3 = I 1 3) ∧ (¬ (hm W z K b).1 = 0 → I' 1 2 = nI (hm W z K b).1 ∧ I' 1 3 = nI (hm W z K b).2.1)
theorem hm_q {K : Nat} {l : List (Nat × Nat)} (hK : ¬ K = 1) (e : nms K = l) : hm W z K b = nq W z l b := by
  unfold hm
  rw [e]
  by_cases c1 : (nq W z l b).1 = 0
  · rw [if_neg (not_not_intro c1), if_neg (fun q => hK q.1)]
  · rw [if_pos c1]
theorem nm_le3 {lo hi : Int32} {Q : Prop} (q : ¬ nmF W z b lo hi = 0) (h : (nmF W z b lo hi, sk W z b, 0).1 = 0) : Q := absurd h q
theorem sp_readPiece (R : RdC I W z b) (H : HS I h) (hlt : h 0 0 < 6) : Rt L X (runM (d + 5) nX1_readPiece [.ref 13, .ref 1] (mm L X I J)) (some (.int (bI (decide ((hm W z 0 b).1 = 0))))) (fun I' J' => HQ I I' W z 0 b h ∧ J' = J) := by
  have h0 : oc1 13 := .inr rfl
  have em : hm W z 0 b = nq W z [(1, 30), (0, 9), (0, 9), (0, 9)] b := hm_q (by decide) rfl
  have H' := H
  obtain ⟨e0, e1, e2, e3, e4, e5, e6, e7⟩ := H
  have hu1 : okv (some (.ref 1)) = true := rfl
  have flt : ∀ (F w : Nat) (I2 : MI32), hm W z 0 b = (F, w, 0) → ¬ F = 0 → Fr fHR I I2 → I2 1 2 = nI F → I2 1 3 = nI w → ∀ u2, Rt L X (runI (runM (d + 4)) iX1_readPiece (76, [some (.ref 13), some (.ref 1), u2], [], mm L X I2 J)) (some (.int (bI (decide ((hm W z 0 b).1 = 0))))) (fun I' J' => HQ I I' W z 0 b h ∧ J' = J) := by
    intro F w I2 q1 q2 q3 q4 q5 u2
    have q6 : decide ((hm W z 0 b).1 = 0) = false := by
      rw [q1]
      exact decide_eq_false q2
    (first | refine rt_eq (q_X1_readPiece_0 (by first | assumption | rfl | exact .inl rfl | exact .inr rfl)) ?_ | refine rt_eq (q_X1_readPiece_15 (by first | assumption | rfl | exact .inl rfl | exact .inr rfl)) ?_ | refine rt_eq (q_X1_readPiece_76 (by first | assumption | rfl | exact .inl rfl | exact .inr rfl)) ?_ | refine rt_eq (q_X1_readPiece_33 (by first | assumption | rfl | exact .inl rfl | exact .inr rfl)) ?_ | refine rt_eq (q_X1_readPiece_77 (by first | assumption | rfl | exact .inl rfl | exact .inr rfl) (by first | assumption | rfl | exact .inl rfl | exact .inr rfl)) ?_ | refine rt_eq (q_X1_readPiece_51 (by first | assumption | rfl | exact .inl rfl | exact .inr rfl)) ?_ | refine rt_eq (q_X1_readPiece_69 (by first | assumption | rfl | exact .inl rfl | exact .inr rfl)) ?_)
    (first | refine rt_eq (q_X1_readPiece_0 (by first | assumption | rfl | exact .inl rfl | exact .inr rfl)) ?_ | refine rt_eq (q_X1_readPiece_15 (by first | assumption | rfl | exact .inl rfl | exact .inr rfl)) ?_ | refine rt_eq (q_X1_readPiece_76 (by first | assumption | rfl | exact .inl rfl | exact .inr rfl)) ?_ | refine rt_eq (q_X1_readPiece_33 (by first | assumption | rfl | exact .inl rfl | exact .inr rfl)) ?_ | refine rt_eq (q_X1_readPiece_77 (by first | assumption | rfl | exact .inl rfl | exact .inr rfl) (by first | assumption | rfl | exact .inl rfl | exact .inr rfl)) ?_ | refine rt_eq (q_X1_readPiece_51 (by first | assumption | rfl | exact .inl rfl | exact .inr rfl)) ?_ | refine rt_eq (q_X1_readPiece_69 (by first | assumption | rfl | exact .inl rfl | exact .inr rfl)) ?_)
    rw [q6]
    refine rt_gd (by decide) (rt_ret ⟨⟨fr_up q3 rfl, fun q => ?_, fun _ => ?_⟩, rfl⟩)
    · rw [q1] at q
      exact absurd q q2
    · rw [q1, up2_n (by decide)]
      exact ⟨q4, q5⟩
  have fr1 : ∀ r, sbF (fTC ++ [(r, 0)]) fHR = true → ∀ {I1 I2 : MI32}, Fr fHR I I1 → Fr (fTC ++ [(r, 0)]) I1 I2 → Fr fHR I I2 := fun r hr I1 I2 g1 g2 => fr_tr g1 (fr_mono g2 hr)
  rw [e_X1_readPiece]
  (first | refine rt_eq (q_X1_readPiece_0 (by first | assumption | rfl | exact .inl rfl | exact .inr rfl)) ?_ | refine rt_eq (q_X1_readPiece_15 (by first | assumption | rfl | exact .inl rfl | exact .inr rfl)) ?_ | refine rt_eq (q_X1_readPiece_76 (by first | assumption | rfl | exact .inl rfl | exact .inr rfl)) ?_ | refine rt_eq (q_X1_readPiece_33 (by first | assumption | rfl | exact .inl rfl | exact .inr rfl)) ?_ | refine rt_eq (q_X1_readPiece_77 (by first | assumption | rfl | exact .inl rfl | exact .inr rfl) (by first | assumption | rfl | exact .inl rfl | exact .inr rfl)) ?_ | refine rt_eq (q_X1_readPiece_51 (by first | assumption | rfl | exact .inl rfl | exact .inr rfl)) ?_ | refine rt_eq (q_X1_readPiece_69 (by first | assumption | rfl | exact .inl rfl | exact .inr rfl)) ?_)
  simp only [Nat.reduceAdd]
  rw [e0]
  refine rt_bndN (sp_readTo (r := 14) ka_14 (by decide) hlt (by decide) R) ?_
  rintro I1 J1 ⟨⟨f1, f2, f3⟩, rfl⟩
  have g1 : Fr fHR I I1 := fr_mono f1 (by decide)
  (first | refine rt_eq (q_X1_readPiece_0 (by first | assumption | rfl | exact .inl rfl | exact .inr rfl)) ?_ | refine rt_eq (q_X1_readPiece_15 (by first | assumption | rfl | exact .inl rfl | exact .inr rfl)) ?_ | refine rt_eq (q_X1_readPiece_76 (by first | assumption | rfl | exact .inl rfl | exact .inr rfl)) ?_ | refine rt_eq (q_X1_readPiece_33 (by first | assumption | rfl | exact .inl rfl | exact .inr rfl)) ?_ | refine rt_eq (q_X1_readPiece_77 (by first | assumption | rfl | exact .inl rfl | exact .inr rfl) (by first | assumption | rfl | exact .inl rfl | exact .inr rfl)) ?_ | refine rt_eq (q_X1_readPiece_51 (by first | assumption | rfl | exact .inl rfl | exact .inr rfl)) ?_ | refine rt_eq (q_X1_readPiece_69 (by first | assumption | rfl | exact .inl rfl | exact .inr rfl)) ?_)
  by_cases c1 : nmF W z b (nI 1) (nI 30) = 0
  · obtain ⟨R1, k1, k2, k3, k4, k5⟩ := f2 c1
    rw [nq_t c1] at em
    rw [decide_eq_true c1]
    simp only [Nat.reduceAdd]
    refine rt_f (show ¬ bI true = nI 0 by decide) ?_
    rw [f1 13 0 rfl, e0]
    refine rt_bndN (sp_readTo (r := 16) ka_16 (by decide) hlt (by decide) R1) ?_
    rintro I2 J2 ⟨⟨l1, l2, l3⟩, rfl⟩
    have g2 : Fr fHR I I2 := fr1 16 (by decide) g1 l1
    (first | refine rt_eq (q_X1_readPiece_0 (by first | assumption | rfl | exact .inl rfl | exact .inr rfl)) ?_ | refine rt_eq (q_X1_readPiece_15 (by first | assumption | rfl | exact .inl rfl | exact .inr rfl)) ?_ | refine rt_eq (q_X1_readPiece_76 (by first | assumption | rfl | exact .inl rfl | exact .inr rfl)) ?_ | refine rt_eq (q_X1_readPiece_33 (by first | assumption | rfl | exact .inl rfl | exact .inr rfl)) ?_ | refine rt_eq (q_X1_readPiece_77 (by first | assumption | rfl | exact .inl rfl | exact .inr rfl) (by first | assumption | rfl | exact .inl rfl | exact .inr rfl)) ?_ | refine rt_eq (q_X1_readPiece_51 (by first | assumption | rfl | exact .inl rfl | exact .inr rfl)) ?_ | refine rt_eq (q_X1_readPiece_69 (by first | assumption | rfl | exact .inl rfl | exact .inr rfl)) ?_)
    by_cases c2 : nmF W z (nmV W z b).1 (nI 0) (nI 9) = 0
    · obtain ⟨R2, m1, m2, m3, m4, m5⟩ := l2 c2
      rw [nq_t c2] at em
      rw [decide_eq_true c2]
      simp only [Nat.reduceAdd]
      refine rt_f (show ¬ bI true = nI 0 by decide) ?_
      rw [l1 13 0 rfl, f1 13 0 rfl, e0]
      refine rt_bndN (sp_readTo (r := 17) ka_17 (by decide) hlt (by decide) R2) ?_
      rintro I3 J3 ⟨⟨n1, n2, n3⟩, rfl⟩
      have g3 : Fr fHR I I3 := fr1 17 (by decide) g2 n1
      (first | refine rt_eq (q_X1_readPiece_0 (by first | assumption | rfl | exact .inl rfl | exact .inr rfl)) ?_ | refine rt_eq (q_X1_readPiece_15 (by first | assumption | rfl | exact .inl rfl | exact .inr rfl)) ?_ | refine rt_eq (q_X1_readPiece_76 (by first | assumption | rfl | exact .inl rfl | exact .inr rfl)) ?_ | refine rt_eq (q_X1_readPiece_33 (by first | assumption | rfl | exact .inl rfl | exact .inr rfl)) ?_ | refine rt_eq (q_X1_readPiece_77 (by first | assumption | rfl | exact .inl rfl | exact .inr rfl) (by first | assumption | rfl | exact .inl rfl | exact .inr rfl)) ?_ | refine rt_eq (q_X1_readPiece_51 (by first | assumption | rfl | exact .inl rfl | exact .inr rfl)) ?_ | refine rt_eq (q_X1_readPiece_69 (by first | assumption | rfl | exact .inl rfl | exact .inr rfl)) ?_)
      by_cases c3 : nmF W z (nmV W z (nmV W z b).1).1 (nI 0) (nI 9) = 0
      · obtain ⟨R3, p1, p2, p3, p4, p5⟩ := n2 c3
        rw [nq_t c3] at em
        rw [decide_eq_true c3]
        simp only [Nat.reduceAdd]
        refine rt_f (show ¬ bI true = nI 0 by decide) ?_
        rw [n1 13 0 rfl, l1 13 0 rfl, f1 13 0 rfl, e0]
        refine rt_bndN (sp_readTo (r := 15) ka_15 (by decide) hlt (by decide) R3) ?_
        rintro I4 J4 ⟨⟨r1, r2, r3⟩, rfl⟩
        have g4 : Fr fHR I I4 := fr1 15 (by decide) g3 r1
        (first | refine rt_eq (q_X1_readPiece_0 (by first | assumption | rfl | exact .inl rfl | exact .inr rfl)) ?_ | refine rt_eq (q_X1_readPiece_15 (by first | assumption | rfl | exact .inl rfl | exact .inr rfl)) ?_ | refine rt_eq (q_X1_readPiece_76 (by first | assumption | rfl | exact .inl rfl | exact .inr rfl)) ?_ | refine rt_eq (q_X1_readPiece_33 (by first | assumption | rfl | exact .inl rfl | exact .inr rfl)) ?_ | refine rt_eq (q_X1_readPiece_77 (by first | assumption | rfl | exact .inl rfl | exact .inr rfl) (by first | assumption | rfl | exact .inl rfl | exact .inr rfl)) ?_ | refine rt_eq (q_X1_readPiece_51 (by first | assumption | rfl | exact .inl rfl | exact .inr rfl)) ?_ | refine rt_eq (q_X1_readPiece_69 (by first | assumption | rfl | exact .inl rfl | exact .inr rfl)) ?_)
        by_cases c4 : nmF W z (nmV W z (nmV W z (nmV W z b).1).1).1 (nI 0) (nI 9) = 0
        · obtain ⟨R4, s1, s2, s3, s4, s5⟩ := r2 c4
          rw [nq_t c4] at em
          have em2 : hm W z 0 b = (0, 0, (nmV W z (nmV W z (nmV W z (nmV W z b).1).1).1).1) := em
          rw [decide_eq_true c4]
          refine rt_f (show ¬ bI true = nI 0 by decide) ?_
          (first | refine rt_eq (q_X1_readPiece_0 (by first | assumption | rfl | exact .inl rfl | exact .inr rfl)) ?_ | refine rt_eq (q_X1_readPiece_15 (by first | assumption | rfl | exact .inl rfl | exact .inr rfl)) ?_ | refine rt_eq (q_X1_readPiece_76 (by first | assumption | rfl | exact .inl rfl | exact .inr rfl)) ?_ | refine rt_eq (q_X1_readPiece_33 (by first | assumption | rfl | exact .inl rfl | exact .inr rfl)) ?_ | refine rt_eq (q_X1_readPiece_77 (by first | assumption | rfl | exact .inl rfl | exact .inr rfl) (by first | assumption | rfl | exact .inl rfl | exact .inr rfl)) ?_ | refine rt_eq (q_X1_readPiece_51 (by first | assumption | rfl | exact .inl rfl | exact .inr rfl)) ?_ | refine rt_eq (q_X1_readPiece_69 (by first | assumption | rfl | exact .inl rfl | exact .inr rfl)) ?_)
          rw [em2]
          have x0 : I4 13 0 = nI (h 0 0) := by rw [r1 13 0 rfl, n1 13 0 rfl, l1 13 0 rfl, f1 13 0 rfl, e0]
          rw [x0, nI_add]
          have fin : Fr fHR I (up2 I4 13 0 (nI (h 0 0 + 1))) := fr_up g4 rfl
          refine rt_gd (by decide) (rt_ret ⟨⟨fin, fun _ => ?_, fun q => ?_⟩, rfl⟩)
          · rw [em2]
            refine ⟨⟨BC_fr R.1 fin (by decide), (fin 1 6 rfl).trans R.2.1, R4.2.2.1, R4.2.2.2.1, ?_⟩, ?_, ?_, ?_⟩
            · rw [up2_n (by decide)]
              exact R4.2.2.2.2
            · unfold hAdd
              rw [if_pos rfl]
              have cell : ∀ x y, ¬ x = 13 → (up2 I4 13 0 (nI (h 0 0 + 1))) x y = I4 x y := fun x y hx => by rw [up2_n hx]
              have old : ∀ x y, inF fTC x y = false → ¬ x = 14 → ¬ x = 15 → ¬ x = 16 → ¬ x = 17 → I4 x y = I x y := by
                intro x y hx h14 h15 h16 h17
                have ap : ∀ r, ¬ x = r → inF (fTC ++ [(r, 0)]) x y = false := fun r hr => by
                  rw [inF_app, hx]
                  simp [inF]
                  intro e
                  exact absurd e.symm hr
                rw [r1 x y (ap 15 h15), n1 x y (ap 17 h17), l1 x y (ap 16 h16), f1 x y (ap 14 h14)]
              refine ⟨?_, ?_, ?_, ?_, fun p hp' => ?_, fun e he => ?_, fun f hf' => ?_, fun t ht => ?_⟩
              · rw [up2_s, hp_0, if_pos rfl]
              · rw [up2_k (by decide), old 13 1 rfl (by decide) (by decide) (by decide) (by decide), e1, hp_0, if_neg (by decide)]
              · rw [up2_k (by decide), old 13 2 rfl (by decide) (by decide) (by decide) (by decide), e2, hp_0, if_neg (by decide)]
              · rw [up2_k (by decide), old 13 3 rfl (by decide) (by decide) (by decide) (by decide), e3, hp_0, if_neg (by decide)]
              · rw [hp_0, if_pos rfl] at hp'
                rw [cell 14 p (by decide), cell 15 p (by decide), cell 16 p (by decide), cell 17 p (by decide), hp_1, hp_2, hp_3, hp_4]
                have a14 : I4 14 p = I1 14 p := by rw [r1 14 p rfl, n1 14 p rfl, l1 14 p rfl]
                have a16 : I4 16 p = I2 16 p := by rw [r1 16 p rfl, n1 16 p rfl]
                have a17 : I4 17 p = I3 17 p := r1 17 p rfl
                rw [a14, a16, a17]
                by_cases e : p = h 0 0
                · subst e
                  rw [if_pos rfl, if_pos rfl, if_pos rfl, if_pos rfl]
                  exact ⟨k1, s1, m1, p1⟩
                · rw [if_neg e, if_neg e, if_neg e, if_neg e, k2 p e, s2 p e, m2 p e, p2 p e, n1 15 p rfl, l1 15 p rfl, f1 15 p rfl, f1 16 p rfl, l1 17 p rfl, f1 17 p rfl]
                  exact e4 p (by omega)
              · rw [hp_0, if_neg (by decide)] at he
                rw [cell 18 e (by decide), cell 19 e (by decide), old 18 e rfl (by decide) (by decide) (by decide) (by decide), old 19 e rfl (by decide) (by decide) (by decide) (by decide), hp_5 (by decide), hp_5 (by decide)]
                exact e5 e he
              · rw [hp_0, if_neg (by decide)] at hf'
                rw [cell 20 f (by decide), cell 21 f (by decide), old 20 f rfl (by decide) (by decide) (by decide) (by decide), old 21 f rfl (by decide) (by decide) (by decide) (by decide), hp_5 (by decide), hp_5 (by decide)]
                exact e6 f hf'
              · rw [cell 22 t (by decide), old 22 t rfl (by decide) (by decide) (by decide) (by decide), e7 t ht, hp_0, if_neg (by decide)]
                refine congrArg nI (bitsN_congr fun k _ => ?_)
                exact (jn_cong (fun e _ => ⟨hp_5 (by decide), hp_5 (by decide)⟩) t k).symm
            · rw [up2_n (by decide), s3, p3, m3, k3]
            · rw [up2_n (by decide), s4, p4, m4, k4]
          · rw [em2] at q
            exact absurd rfl q
        · obtain ⟨s2, s3⟩ := r3 c4
          rw [nq_f c4] at em
          rw [decide_eq_false c4]
          refine rt_t bI_f ?_
          exact flt _ _ I4 em c4 g4 s2 s3 _
      · obtain ⟨s2, s3⟩ := n3 c3
        rw [nq_f c3] at em
        rw [decide_eq_false c3]
        refine rt_t bI_f ?_
        exact flt _ _ I3 em c3 g3 s2 s3 _
    · obtain ⟨s2, s3⟩ := l3 c2
      rw [nq_f c2] at em
      rw [decide_eq_false c2]
      refine rt_t bI_f ?_
      exact flt _ _ I2 em c2 g2 s2 s3 _
  · obtain ⟨s2, s3⟩ := f3 c1
    rw [nq_f c1] at em
    rw [decide_eq_false c1]
    refine rt_t bI_f ?_
    exact flt _ _ I1 em c1 g1 s2 s3 _
theorem sp_readFire (R : RdC I W z b) (H : HS I h) (hlt : h 0 2 < 5) : Rt L X (runM (d + 5) nX1_readFire [.ref 13, .ref 1] (mm L X I J)) (some (.int (bI (decide ((hm W z 2 b).1 = 0))))) (fun I' J' => HQ I I' W z 2 b h ∧ J' = J) := by
  have h0 : oc1 13 := .inr rfl
  have em : hm W z 2 b = nq W z [(0, 200), (1, 99)] b := hm_q (by decide) rfl
  obtain ⟨e0, e1, e2, e3, e4, e5, e6, e7⟩ := H
  have hu1 : okv (some (.ref 1)) = true := rfl
  have flt : ∀ (F w : Nat) (I2 : MI32), hm W z 2 b = (F, w, 0) → ¬ F = 0 → Fr fHR I I2 → I2 1 2 = nI F → I2 1 3 = nI w → ∀ u2, Rt L X (runI (runM (d + 4)) iX1_readFire (41, [some (.ref 13), some (.ref 1), u2], [], mm L X I2 J)) (some (.int (bI (decide ((hm W z 2 b).1 = 0))))) (fun I' J' => HQ I I' W z 2 b h ∧ J' = J) := by
    intro F w I2 q1 q2 q3 q4 q5 u2
    have q6 : decide ((hm W z 2 b).1 = 0) = false := by
      rw [q1]
      exact decide_eq_false q2
    (first | refine rt_eq (q_X1_readFire_0 (by first | assumption | rfl | exact .inl rfl | exact .inr rfl)) ?_ | refine rt_eq (q_X1_readFire_16 (by first | assumption | rfl | exact .inl rfl | exact .inr rfl)) ?_ | refine rt_eq (q_X1_readFire_41 (by first | assumption | rfl | exact .inl rfl | exact .inr rfl)) ?_ | refine rt_eq (q_X1_readFire_34 (by first | assumption | rfl | exact .inl rfl | exact .inr rfl)) ?_ | refine rt_eq (q_X1_readFire_42 (by first | assumption | rfl | exact .inl rfl | exact .inr rfl) (by first | assumption | rfl | exact .inl rfl | exact .inr rfl)) ?_)
    (first | refine rt_eq (q_X1_readFire_0 (by first | assumption | rfl | exact .inl rfl | exact .inr rfl)) ?_ | refine rt_eq (q_X1_readFire_16 (by first | assumption | rfl | exact .inl rfl | exact .inr rfl)) ?_ | refine rt_eq (q_X1_readFire_41 (by first | assumption | rfl | exact .inl rfl | exact .inr rfl)) ?_ | refine rt_eq (q_X1_readFire_34 (by first | assumption | rfl | exact .inl rfl | exact .inr rfl)) ?_ | refine rt_eq (q_X1_readFire_42 (by first | assumption | rfl | exact .inl rfl | exact .inr rfl) (by first | assumption | rfl | exact .inl rfl | exact .inr rfl)) ?_)
    rw [q6]
    refine rt_gd (by decide) (rt_ret ⟨⟨fr_up q3 rfl, fun q => ?_, fun _ => ?_⟩, rfl⟩)
    · rw [q1] at q
      exact absurd q q2
    · rw [q1, up2_n (by decide)]
      exact ⟨q4, q5⟩
  rw [e_X1_readFire]
  (first | refine rt_eq (q_X1_readFire_0 (by first | assumption | rfl | exact .inl rfl | exact .inr rfl)) ?_ | refine rt_eq (q_X1_readFire_16 (by first | assumption | rfl | exact .inl rfl | exact .inr rfl)) ?_ | refine rt_eq (q_X1_readFire_41 (by first | assumption | rfl | exact .inl rfl | exact .inr rfl)) ?_ | refine rt_eq (q_X1_readFire_34 (by first | assumption | rfl | exact .inl rfl | exact .inr rfl)) ?_ | refine rt_eq (q_X1_readFire_42 (by first | assumption | rfl | exact .inl rfl | exact .inr rfl) (by first | assumption | rfl | exact .inl rfl | exact .inr rfl)) ?_)
  simp only [Nat.reduceAdd]
  rw [e2]
  refine rt_bndN (sp_readTo (r := 20) ka_20 (by decide) hlt (by decide) R) ?_
  rintro I1 J1 ⟨⟨f1, f2, f3⟩, rfl⟩
  have g1 : Fr fHR I I1 := fr_mono f1 (by decide)
  (first | refine rt_eq (q_X1_readFire_0 (by first | assumption | rfl | exact .inl rfl | exact .inr rfl)) ?_ | refine rt_eq (q_X1_readFire_16 (by first | assumption | rfl | exact .inl rfl | exact .inr rfl)) ?_ | refine rt_eq (q_X1_readFire_41 (by first | assumption | rfl | exact .inl rfl | exact .inr rfl)) ?_ | refine rt_eq (q_X1_readFire_34 (by first | assumption | rfl | exact .inl rfl | exact .inr rfl)) ?_ | refine rt_eq (q_X1_readFire_42 (by first | assumption | rfl | exact .inl rfl | exact .inr rfl) (by first | assumption | rfl | exact .inl rfl | exact .inr rfl)) ?_)
  by_cases c1 : nmF W z b (nI 0) (nI 200) = 0
  · obtain ⟨R1, k1, k2, k3, k4, k5⟩ := f2 c1
    rw [nq_t c1] at em
    rw [decide_eq_true c1]
    simp only [Nat.reduceAdd]
    refine rt_f (show ¬ bI true = nI 0 by decide) ?_
    rw [f1 13 2 rfl, e2]
    refine rt_bndN (sp_readTo (r := 21) ka_21 (by decide) hlt (by decide) R1) ?_
    rintro I2 J2 ⟨⟨l1, l2, l3⟩, rfl⟩
    have g2 : Fr fHR I I2 := fr_tr g1 (fr_mono l1 (by decide))
    (first | refine rt_eq (q_X1_readFire_0 (by first | assumption | rfl | exact .inl rfl | exact .inr rfl)) ?_ | refine rt_eq (q_X1_readFire_16 (by first | assumption | rfl | exact .inl rfl | exact .inr rfl)) ?_ | refine rt_eq (q_X1_readFire_41 (by first | assumption | rfl | exact .inl rfl | exact .inr rfl)) ?_ | refine rt_eq (q_X1_readFire_34 (by first | assumption | rfl | exact .inl rfl | exact .inr rfl)) ?_ | refine rt_eq (q_X1_readFire_42 (by first | assumption | rfl | exact .inl rfl | exact .inr rfl) (by first | assumption | rfl | exact .inl rfl | exact .inr rfl)) ?_)
    by_cases c2 : nmF W z (nmV W z b).1 (nI 1) (nI 99) = 0
    · obtain ⟨R2, m1, m2, m3, m4, m5⟩ := l2 c2
      rw [nq_t c2] at em
      have em2 : hm W z 2 b = (0, 0, (nmV W z (nmV W z b).1).1) := em
      rw [decide_eq_true c2]
      refine rt_f (show ¬ bI true = nI 0 by decide) ?_
      (first | refine rt_eq (q_X1_readFire_0 (by first | assumption | rfl | exact .inl rfl | exact .inr rfl)) ?_ | refine rt_eq (q_X1_readFire_16 (by first | assumption | rfl | exact .inl rfl | exact .inr rfl)) ?_ | refine rt_eq (q_X1_readFire_41 (by first | assumption | rfl | exact .inl rfl | exact .inr rfl)) ?_ | refine rt_eq (q_X1_readFire_34 (by first | assumption | rfl | exact .inl rfl | exact .inr rfl)) ?_ | refine rt_eq (q_X1_readFire_42 (by first | assumption | rfl | exact .inl rfl | exact .inr rfl) (by first | assumption | rfl | exact .inl rfl | exact .inr rfl)) ?_)
      rw [em2]
      have x0 : I2 13 2 = nI (h 0 2) := by rw [l1 13 2 rfl, f1 13 2 rfl, e2]
      rw [x0, nI_add]
      have fin : Fr fHR I (up2 I2 13 2 (nI (h 0 2 + 1))) := fr_up g2 rfl
      refine rt_gd (by decide) (rt_ret ⟨⟨fin, fun _ => ?_, fun q => ?_⟩, rfl⟩)
      · rw [em2]
        refine ⟨⟨BC_fr R.1 fin (by decide), (fin 1 6 rfl).trans R.2.1, R2.2.2.1, R2.2.2.2.1, ?_⟩, ?_, ?_, ?_⟩
        · rw [up2_n (by decide)]
          exact R2.2.2.2.2
        · unfold hAdd
          rw [if_neg (by decide), if_neg (by decide), if_pos rfl]
          have cell : ∀ x y, ¬ x = 13 → (up2 I2 13 2 (nI (h 0 2 + 1))) x y = I2 x y := fun x y hx => by rw [up2_n hx]
          refine ⟨?_, ?_, ?_, ?_, fun p hp' => ?_, fun e he => ?_, fun f hf' => ?_, fun t ht => ?_⟩
          · rw [up2_k (by decide), l1 13 0 rfl, f1 13 0 rfl, e0, hf_0, if_neg (by decide)]
          · rw [up2_k (by decide), l1 13 1 rfl, f1 13 1 rfl, e1, hf_0, if_neg (by decide)]
          · rw [up2_s, hf_0, if_pos rfl]
          · rw [up2_k (by decide), l1 13 3 rfl, f1 13 3 rfl, e3, hf_0, if_neg (by decide)]
          · rw [hf_0, if_neg (by decide)] at hp'
            rw [cell 14 p (by decide), cell 15 p (by decide), cell 16 p (by decide), cell 17 p (by decide), l1 14 p rfl, l1 15 p rfl, l1 16 p rfl, l1 17 p rfl, f1 14 p rfl, f1 15 p rfl, f1 16 p rfl, f1 17 p rfl, hf_i (by decide) (by decide) (by decide), hf_i (by decide) (by decide) (by decide), hf_i (by decide) (by decide) (by decide), hf_i (by decide) (by decide) (by decide)]
            exact e4 p hp'
          · rw [hf_0, if_neg (by decide)] at he
            rw [cell 18 e (by decide), cell 19 e (by decide), l1 18 e rfl, l1 19 e rfl, f1 18 e rfl, f1 19 e rfl, hf_i (by decide) (by decide) (by decide), hf_i (by decide) (by decide) (by decide)]
            exact e5 e he
          · rw [hf_0, if_pos rfl] at hf'
            rw [cell 20 f (by decide), cell 21 f (by decide), hf_7, hf_8, l1 20 f rfl]
            by_cases e : f = h 0 2
            · subst e
              rw [if_pos rfl, if_pos rfl]
              exact ⟨k1, m1⟩
            · rw [if_neg e, if_neg e, k2 f e, m2 f e, f1 21 f rfl]
              exact e6 f (by omega)
          · rw [cell 22 t (by decide), l1 22 t rfl, f1 22 t rfl, e7 t ht, hf_0, if_neg (by decide)]
            refine congrArg nI (bitsN_congr fun k _ => ?_)
            exact (jn_cong (fun e _ => ⟨hf_i (by decide) (by decide) (by decide), hf_i (by decide) (by decide) (by decide)⟩) t k).symm
        · rw [up2_n (by decide), m3, k3]
        · rw [up2_n (by decide), m4, k4]
      · rw [em2] at q
        exact absurd rfl q
    · obtain ⟨s2, s3⟩ := l3 c2
      rw [nq_f c2] at em
      rw [decide_eq_false c2]
      refine rt_t bI_f ?_
      exact flt _ _ I2 em c2 g2 s2 s3 _
  · obtain ⟨s2, s3⟩ := f3 c1
    rw [nq_f c1] at em
    rw [decide_eq_false c1]
    refine rt_t bI_f ?_
    exact flt _ _ I1 em c1 g1 s2 s3 _
theorem sp_readHope (R : RdC I W z b) (H : HS I h) : Rt L X (runM (d + 5) nX1_readHope [.ref 13, .ref 1] (mm L X I J)) (some (.int (bI (decide ((hm W z 3 b).1 = 0))))) (fun I' J' => HQ I I' W z 3 b h ∧ J' = J) := by
  have h0 : oc1 13 := .inr rfl
  have em : hm W z 3 b = nq W z [(0, 99)] b := hm_q (by decide) rfl
  obtain ⟨e0, e1, e2, e3, e4, e5, e6, e7⟩ := H
  obtain ⟨B, hz, hz2, hb, h5⟩ := R
  have v1 := nmV_le (W := W) hb
  rw [e_X1_readHope]
  (first | refine rt_eq (q_X1_readHope_0 (by first | assumption | rfl | exact .inl rfl | exact .inr rfl)) ?_ | refine rt_eq (q_X1_readHope_7 (by first | assumption | rfl | exact .inl rfl | exact .inr rfl)) ?_)
  refine rt_bnd (sp_numeral B hz hz2 hb h5) ?_
  rintro I1 J1 ⟨⟨f1, f2, f3⟩, rfl⟩
  have fin : Fr fHR I (up2 I1 13 3 (I1 1 4)) := fr_up (fr_mono f1 (by decide)) rfl
  (first | refine rt_eq (q_X1_readHope_0 (by first | assumption | rfl | exact .inl rfl | exact .inr rfl)) ?_ | refine rt_eq (q_X1_readHope_7 (by first | assumption | rfl | exact .inl rfl | exact .inr rfl)) ?_)
  by_cases c1 : nmF W z b (nI 0) (nI 99) = 0
  · obtain ⟨g5, g4, g2, g3, g7⟩ := f2 c1
    rw [nq_t c1] at em
    have em2 : hm W z 3 b = (0, 0, (nmV W z b).1) := em
    rw [decide_eq_true c1, em2]
    refine rt_gd (by decide) (rt_ret ⟨⟨fin, fun _ => ?_, fun q => ?_⟩, rfl⟩)
    · rw [em2]
      refine ⟨⟨BC_fr B fin (by decide), (fin 1 6 rfl).trans hz, hz2, v1.2.1, ?_⟩, ?_, ?_, ?_⟩
      · rw [up2_n (by decide), g5]
      · unfold hAdd
        rw [if_neg (by decide), if_neg (by decide), if_neg (by decide)]
        refine ⟨?_, ?_, ?_, ?_, fun p hp' => ?_, fun e he => ?_, fun f hf' => ?_, fun t ht => ?_⟩
        · rw [up2_k (by decide), f1 13 0 rfl, e0, hh_0, if_neg (by decide)]
        · rw [up2_k (by decide), f1 13 1 rfl, e1, hh_0, if_neg (by decide)]
        · rw [up2_k (by decide), f1 13 2 rfl, e2, hh_0, if_neg (by decide)]
        · rw [up2_s, g4, hh_0, if_pos rfl]
        · rw [hh_0, if_neg (by decide)] at hp'
          rw [up2_n (by decide), up2_n (by decide), up2_n (by decide), up2_n (by decide), f1 14 p rfl, f1 15 p rfl, f1 16 p rfl, f1 17 p rfl, hh_i (by decide), hh_i (by decide), hh_i (by decide), hh_i (by decide)]
          exact e4 p hp'
        · rw [hh_0, if_neg (by decide)] at he
          rw [up2_n (by decide), up2_n (by decide), f1 18 e rfl, f1 19 e rfl, hh_i (by decide), hh_i (by decide)]
          exact e5 e he
        · rw [hh_0, if_neg (by decide)] at hf'
          rw [up2_n (by decide), up2_n (by decide), f1 20 f rfl, f1 21 f rfl, hh_i (by decide), hh_i (by decide)]
          exact e6 f hf'
        · rw [up2_n (by decide), f1 22 t rfl, e7 t ht, hh_0, if_neg (by decide)]
          refine congrArg nI (bitsN_congr fun k _ => ?_)
          exact (jn_cong (fun e _ => ⟨hh_i (by decide), hh_i (by decide)⟩) t k).symm
      · rw [up2_n (by decide), g2]
      · rw [up2_n (by decide), g3]
    · rw [em2] at q
      exact absurd rfl q
  · obtain ⟨s2, s3⟩ := f3 c1
    rw [nq_f c1] at em
    have q6 : decide ((hm W z 3 b).1 = 0) = false := by
      rw [em]
      exact decide_eq_false c1
    rw [decide_eq_false c1, q6]
    refine rt_gd (by decide) (rt_ret ⟨⟨fin, fun q => ?_, fun _ => ?_⟩, rfl⟩)
    · rw [em] at q
      exact absurd q c1
    · rw [em, up2_n (by decide)]
      exact ⟨s2, s3⟩
theorem sp_joinS {s t A B : Nat} (ha : s ≤ 9) (hb : t ≤ 9) (hne : ¬ s = t) (eA : I 22 s = nI A) (eB : I 22 t = nI B) : runM (d + 2) nX1_join [.ref 13, .int (nI s), .int (nI t)] (mm L X I J) = rV (mm L X (up2 (up2 I 22 s (nI (A ||| 2 ^ t))) 22 t (nI (B ||| 2 ^ s))) J) := by
  have h0 : oc1 13 := .inr rfl
  rw [e_X1_join]
  (first | refine Eq.trans (q_X1_join_0 (by first | assumption | rfl | exact .inl rfl | exact .inr rfl)) ?_ | refine Eq.trans (q_X1_join_13 (by first | assumption | rfl | exact .inl rfl | exact .inr rfl)) ?_ | refine Eq.trans (q_X1_join_20 (by first | assumption | rfl | exact .inl rfl | exact .inr rfl)) ?_ | refine Eq.trans (q_X1_join_33 (by first | assumption | rfl | exact .inl rfl | exact .inr rfl)) ?_ | refine Eq.trans (q_X1_join_40) ?_)
  refine (bndN_e (sp_pick ka_22 (by decide))).trans ?_
  show runI _ _ (_, _, [.int (pk (I 22) 10 (nI s)), _, _], _) = _
  rw [pk_n (by omega) (by decide), eA]
  (first | refine Eq.trans (q_X1_join_0 (by first | assumption | rfl | exact .inl rfl | exact .inr rfl)) ?_ | refine Eq.trans (q_X1_join_13 (by first | assumption | rfl | exact .inl rfl | exact .inr rfl)) ?_ | refine Eq.trans (q_X1_join_20 (by first | assumption | rfl | exact .inl rfl | exact .inr rfl)) ?_ | refine Eq.trans (q_X1_join_33 (by first | assumption | rfl | exact .inl rfl | exact .inr rfl)) ?_ | refine Eq.trans (q_X1_join_40) ?_)
  rw [n_pow (by omega), n_or]
  refine (bndN_e (sp_put ka_22 (by decide))).trans ?_
  rw [pt_n (by omega) (by decide)]
  (first | refine Eq.trans (q_X1_join_0 (by first | assumption | rfl | exact .inl rfl | exact .inr rfl)) ?_ | refine Eq.trans (q_X1_join_13 (by first | assumption | rfl | exact .inl rfl | exact .inr rfl)) ?_ | refine Eq.trans (q_X1_join_20 (by first | assumption | rfl | exact .inl rfl | exact .inr rfl)) ?_ | refine Eq.trans (q_X1_join_33 (by first | assumption | rfl | exact .inl rfl | exact .inr rfl)) ?_ | refine Eq.trans (q_X1_join_40) ?_)
  refine (bndN_e (sp_pick ka_22 (by decide))).trans ?_
  rw [pk_n (by omega) (by decide), up2_k (fun q => hne q.symm), eB]
  (first | refine Eq.trans (q_X1_join_0 (by first | assumption | rfl | exact .inl rfl | exact .inr rfl)) ?_ | refine Eq.trans (q_X1_join_13 (by first | assumption | rfl | exact .inl rfl | exact .inr rfl)) ?_ | refine Eq.trans (q_X1_join_20 (by first | assumption | rfl | exact .inl rfl | exact .inr rfl)) ?_ | refine Eq.trans (q_X1_join_33 (by first | assumption | rfl | exact .inl rfl | exact .inr rfl)) ?_ | refine Eq.trans (q_X1_join_40) ?_)
  rw [n_pow (by omega), n_or]
  refine (bndN_e (sp_put ka_22 (by decide))).trans ?_
  rw [pt_n (by omega) (by decide)]
  exact q_X1_join_40
theorem sp_readCollar (R : RdC I W z b) (H : HS I h) (hlt : h 0 1 < 4) : Rt L X (runM (d + 5) nX1_readCollar [.ref 13, .ref 1] (mm L X I J)) (some (.int (bI (decide ((hm W z 1 b).1 = 0))))) (fun I' J' => HQ I I' W z 1 b h ∧ J' = J) := by
  have h0 : oc1 13 := .inr rfl
  have ems : nms 1 = [(0, 9), (0, 9)] := rfl
  obtain ⟨e0, e1, e2, e3, e4, e5, e6, e7⟩ := H
  have hb := R.2.2.2.1
  have v1 := nmV_le (W := W) hb
  have flt : ∀ (F w : Nat) (I2 : MI32), hm W z 1 b = (F, w, 0) → ¬ F = 0 → Fr fHR I I2 → I2 1 2 = nI F → I2 1 3 = nI w → Rt L X (some (.inl (some (.int (nI 0))), mm L X I2 J)) (some (.int (bI (decide ((hm W z 1 b).1 = 0))))) (fun I' J' => HQ I I' W z 1 b h ∧ J' = J) := by
    intro F w I2 q1 q2 q3 q4 q5
    have q6 : decide ((hm W z 1 b).1 = 0) = false := by
      rw [q1]
      exact decide_eq_false q2
    rw [q6]
    refine rt_ret ⟨⟨q3, fun q => ?_, fun _ => ?_⟩, rfl⟩
    · rw [q1] at q
      exact absurd q q2
    · rw [q1]
      exact ⟨q4, q5⟩
  rw [e_X1_readCollar]
  (first | refine rt_eq (q_X1_readCollar_0 (by first | assumption | rfl | exact .inl rfl | exact .inr rfl)) ?_ | refine rt_eq (q_X1_readCollar_15 (by first | assumption | rfl | exact .inl rfl | exact .inr rfl)) ?_ | refine rt_eq (q_X1_readCollar_33 (by first | assumption | rfl | exact .inl rfl | exact .inr rfl)) ?_ | refine rt_eq (q_X1_readCollar_49 (by first | assumption | rfl | exact .inl rfl | exact .inr rfl)) ?_ | refine rt_eq (q_X1_readCollar_61 (by first | assumption | rfl | exact .inl rfl | exact .inr rfl)) ?_ | refine rt_eq (q_X1_readCollar_88) ?_ | refine rt_eq (q_X1_readCollar_71) ?_)
  simp only [Nat.reduceAdd]
  rw [e1]
  refine rt_bndN (sp_readTo (r := 18) ka_18 (by decide) hlt (by decide) R) ?_
  rintro I1 J1 ⟨⟨f1, f2, f3⟩, rfl⟩
  have g1 : Fr fHR I I1 := fr_mono f1 (by decide)
  (first | refine rt_eq (q_X1_readCollar_0 (by first | assumption | rfl | exact .inl rfl | exact .inr rfl)) ?_ | refine rt_eq (q_X1_readCollar_15 (by first | assumption | rfl | exact .inl rfl | exact .inr rfl)) ?_ | refine rt_eq (q_X1_readCollar_33 (by first | assumption | rfl | exact .inl rfl | exact .inr rfl)) ?_ | refine rt_eq (q_X1_readCollar_49 (by first | assumption | rfl | exact .inl rfl | exact .inr rfl)) ?_ | refine rt_eq (q_X1_readCollar_61 (by first | assumption | rfl | exact .inl rfl | exact .inr rfl)) ?_ | refine rt_eq (q_X1_readCollar_88) ?_ | refine rt_eq (q_X1_readCollar_71) ?_)
  by_cases c1 : nmF W z b (nI 0) (nI 9) = 0
  · obtain ⟨R1, k1, k2, k3, k4, k5⟩ := f2 c1
    rw [decide_eq_true c1]
    simp only [Nat.reduceAdd]
    refine rt_f (show ¬ bI true = nI 0 by decide) ?_
    rw [f1 13 1 rfl, e1]
    refine rt_bndN (sp_readTo (r := 19) ka_19 (by decide) hlt (by decide) R1) ?_
    rintro I2 J2 ⟨⟨l1, l2, l3⟩, rfl⟩
    have g2 : Fr fHR I I2 := fr_tr g1 (fr_mono l1 (by decide))
    (first | refine rt_eq (q_X1_readCollar_0 (by first | assumption | rfl | exact .inl rfl | exact .inr rfl)) ?_ | refine rt_eq (q_X1_readCollar_15 (by first | assumption | rfl | exact .inl rfl | exact .inr rfl)) ?_ | refine rt_eq (q_X1_readCollar_33 (by first | assumption | rfl | exact .inl rfl | exact .inr rfl)) ?_ | refine rt_eq (q_X1_readCollar_49 (by first | assumption | rfl | exact .inl rfl | exact .inr rfl)) ?_ | refine rt_eq (q_X1_readCollar_61 (by first | assumption | rfl | exact .inl rfl | exact .inr rfl)) ?_ | refine rt_eq (q_X1_readCollar_88) ?_ | refine rt_eq (q_X1_readCollar_71) ?_)
    by_cases c2 : nmF W z (nmV W z b).1 (nI 0) (nI 9) = 0
    · obtain ⟨R2, m1, m2, m3, m4, m5⟩ := l2 c2
      have en : nq W z (nms 1) b = (0, 0, (nmV W z (nmV W z b).1).1) := by
        rw [ems, nq_t c1, nq_t c2]
        rfl
      have b1 := (nm_in hb (by decide) (by decide) c1).2.1
      have b2 := (nm_in v1.2.1 (by decide) (by decide) c2).2.1
      have x1 : I2 13 1 = nI (h 0 1) := by rw [l1 13 1 rfl, f1 13 1 rfl, e1]
      rw [decide_eq_true c2]
      simp only [Nat.reduceAdd]
      refine rt_f (show ¬ bI true = nI 0 by decide) ?_
      rw [x1]
      refine rt_bne (sp_pick ka_18 (by decide)) ?_
      rw [pk_n hlt (by decide), l1 18 (h 0 1) rfl, k1]
      (first | refine rt_eq (q_X1_readCollar_0 (by first | assumption | rfl | exact .inl rfl | exact .inr rfl)) ?_ | refine rt_eq (q_X1_readCollar_15 (by first | assumption | rfl | exact .inl rfl | exact .inr rfl)) ?_ | refine rt_eq (q_X1_readCollar_33 (by first | assumption | rfl | exact .inl rfl | exact .inr rfl)) ?_ | refine rt_eq (q_X1_readCollar_49 (by first | assumption | rfl | exact .inl rfl | exact .inr rfl)) ?_ | refine rt_eq (q_X1_readCollar_61 (by first | assumption | rfl | exact .inl rfl | exact .inr rfl)) ?_ | refine rt_eq (q_X1_readCollar_88) ?_ | refine rt_eq (q_X1_readCollar_71) ?_)
      simp only [Nat.reduceAdd]
      rw [x1]
      refine rt_bne (sp_pick ka_19 (by decide)) ?_
      rw [pk_n hlt (by decide), m1]
      (first | refine rt_eq (q_X1_readCollar_0 (by first | assumption | rfl | exact .inl rfl | exact .inr rfl)) ?_ | refine rt_eq (q_X1_readCollar_15 (by first | assumption | rfl | exact .inl rfl | exact .inr rfl)) ?_ | refine rt_eq (q_X1_readCollar_33 (by first | assumption | rfl | exact .inl rfl | exact .inr rfl)) ?_ | refine rt_eq (q_X1_readCollar_49 (by first | assumption | rfl | exact .inl rfl | exact .inr rfl)) ?_ | refine rt_eq (q_X1_readCollar_61 (by first | assumption | rfl | exact .inl rfl | exact .inr rfl)) ?_ | refine rt_eq (q_X1_readCollar_88) ?_ | refine rt_eq (q_X1_readCollar_71) ?_)
      by_cases c3 : nV W z b = nV W z (nP W z b)
      · have em : hm W z 1 b = (2, sk W z (nP W z b), 0) := by
          unfold hm
          rw [en, if_neg (not_not_intro rfl), if_pos ⟨rfl, c3⟩]
        refine rt_t (congrArg nI c3) (rt_be sp_noneSuch ?_)
        (first | refine rt_eq (q_X1_readCollar_0 (by first | assumption | rfl | exact .inl rfl | exact .inr rfl)) ?_ | refine rt_eq (q_X1_readCollar_15 (by first | assumption | rfl | exact .inl rfl | exact .inr rfl)) ?_ | refine rt_eq (q_X1_readCollar_33 (by first | assumption | rfl | exact .inl rfl | exact .inr rfl)) ?_ | refine rt_eq (q_X1_readCollar_49 (by first | assumption | rfl | exact .inl rfl | exact .inr rfl)) ?_ | refine rt_eq (q_X1_readCollar_61 (by first | assumption | rfl | exact .inl rfl | exact .inr rfl)) ?_ | refine rt_eq (q_X1_readCollar_88) ?_ | refine rt_eq (q_X1_readCollar_71) ?_)
        refine rt_gd (by decide) (flt _ _ _ em (by decide) (fr_up (fr_up g2 rfl) rfl) ?_ ?_)
        · rw [up2_k (by decide), up2_s]
        · rw [up2_s, m5]
      · have em : hm W z 1 b = (0, 0, (nmV W z (nmV W z b).1).1) := by
          unfold hm
          rw [en, if_neg (not_not_intro rfl), if_neg (fun q => c3 q.2)]
        have q6 : decide ((hm W z 1 b).1 = 0) = true := by
          rw [em]
          rfl
        rw [q6]
        refine rt_f (by rw [nI_eq (by omega) (by omega)]; exact c3) ?_
        rw [x1, nI_add]
        have y22 : ∀ t, t < 10 → (up2 I2 13 1 (nI (h 0 1 + 1))) 22 t = nI (bitsN (jn h (h 0 1) t) 10) := fun t ht => by rw [up2_n (by decide), l1 22 t rfl, f1 22 t rfl, e7 t ht]
        refine rt_be (sp_joinS b1 b2 c3 (y22 _ (by omega)) (y22 _ (by omega))) ?_
        generalize hI3 : up2 (up2 (up2 I2 13 1 (nI (h 0 1 + 1))) 22 (nV W z b) _) 22 (nV W z (nP W z b)) _ = I3
        have fin : Fr fHR I I3 := by
          rw [← hI3]
          exact fr_up (fr_up (fr_up g2 rfl) rfl) rfl
        have o3 : ∀ x y, ¬ x = 13 → ¬ x = 22 → I3 x y = I2 x y := fun x y h1 h2 => by rw [← hI3, up2_n h2, up2_n h2, up2_n h1]
        have o13 : ∀ y, I3 13 y = (up2 I2 13 1 (nI (h 0 1 + 1))) 13 y := fun y => by rw [← hI3, up2_n (by decide), up2_n (by decide)]
        have o22 : ∀ t, t < 10 → I3 22 t = nI (knC h (nV W z b) (nV W z (nP W z b)) t) := by
          intro t ht
          unfold knC
          rw [← hI3, up2_at]
          by_cases q2 : t = nV W z (nP W z b)
          · rw [if_pos q2, if_neg (fun q => c3 (q.symm.trans q2)), if_pos q2]
          · rw [if_neg q2, up2_at]
            by_cases q1 : t = nV W z b
            · rw [if_pos q1, if_pos q1]
            · rw [if_neg q1, if_neg q1, if_neg q2, y22 t ht]
        clear hI3
        (first | refine rt_eq (q_X1_readCollar_0 (by first | assumption | rfl | exact .inl rfl | exact .inr rfl)) ?_ | refine rt_eq (q_X1_readCollar_15 (by first | assumption | rfl | exact .inl rfl | exact .inr rfl)) ?_ | refine rt_eq (q_X1_readCollar_33 (by first | assumption | rfl | exact .inl rfl | exact .inr rfl)) ?_ | refine rt_eq (q_X1_readCollar_49 (by first | assumption | rfl | exact .inl rfl | exact .inr rfl)) ?_ | refine rt_eq (q_X1_readCollar_61 (by first | assumption | rfl | exact .inl rfl | exact .inr rfl)) ?_ | refine rt_eq (q_X1_readCollar_88) ?_ | refine rt_eq (q_X1_readCollar_71) ?_)
        refine rt_ret ⟨⟨fin, fun _ => ?_, fun q => ?_⟩, rfl⟩
        · rw [em]
          refine ⟨⟨BC_fr R.1 fin (by decide), (fin 1 6 rfl).trans R.2.1, R2.2.2.1, R2.2.2.2.1, ?_⟩, ?_, ?_, ?_⟩
          · rw [o3 1 5 (by decide) (by decide)]
            exact R2.2.2.2.2
          · unfold hAdd
            rw [if_neg (by decide), if_pos rfl]
            refine ⟨?_, ?_, ?_, ?_, fun p hp' => ?_, fun e he => ?_, fun f hf' => ?_, fun t ht => ?_⟩
            · rw [o13, up2_k (by decide), l1 13 0 rfl, f1 13 0 rfl, e0, hc_0, if_neg (by decide)]
            · rw [o13, up2_s, hc_0, if_pos rfl]
            · rw [o13, up2_k (by decide), l1 13 2 rfl, f1 13 2 rfl, e2, hc_0, if_neg (by decide)]
            · rw [o13, up2_k (by decide), l1 13 3 rfl, f1 13 3 rfl, e3, hc_0, if_neg (by decide)]
            · rw [hc_0, if_neg (by decide)] at hp'
              rw [o3 14 p (by decide) (by decide), o3 15 p (by decide) (by decide), o3 16 p (by decide) (by decide), o3 17 p (by decide) (by decide), l1 14 p rfl, l1 15 p rfl, l1 16 p rfl, l1 17 p rfl, f1 14 p rfl, f1 15 p rfl, f1 16 p rfl, f1 17 p rfl, hc_i (by decide) (by decide) (by decide), hc_i (by decide) (by decide) (by decide), hc_i (by decide) (by decide) (by decide), hc_i (by decide) (by decide) (by decide)]
              exact e4 p hp'
            · rw [hc_0, if_pos rfl] at he
              rw [o3 18 e (by decide) (by decide), o3 19 e (by decide) (by decide), l1 18 e rfl, hc_5, hc_6]
              by_cases q : e = h 0 1
              · subst q
                rw [if_pos rfl, if_pos rfl]
                exact ⟨k1, m1⟩
              · rw [if_neg q, if_neg q, k2 e q, m2 e q, f1 19 e rfl]
                exact e5 e (by omega)
            · rw [hc_0, if_neg (by decide)] at hf'
              rw [o3 20 f (by decide) (by decide), o3 21 f (by decide) (by decide), l1 20 f rfl, l1 21 f rfl, f1 20 f rfl, f1 21 f rfl, hc_i (by decide) (by decide) (by decide), hc_i (by decide) (by decide) (by decide)]
              exact e6 f hf'
            · rw [o22 t ht, hc_0, if_pos rfl, ← kn_add b1 b2 c3]
              refine congrArg nI (bitsN_congr fun k _ => ?_)
              refine (jn_cong (fun e _ => ⟨?_, ?_⟩) t k).symm
              · unfold hc
                rw [up2_n (by decide)]
              · unfold hc
                rw [up2_n (by decide)]
          · rw [o3 1 2 (by decide) (by decide), m3, k3]
          · rw [o3 1 3 (by decide) (by decide), m4, k4]
        · rw [em] at q
          exact absurd rfl q
    · obtain ⟨s2, s3⟩ := l3 c2
      have en : nq W z (nms 1) b = (nmF W z (nmV W z b).1 (nI 0) (nI 9), sk W z (nmV W z b).1, 0) := by
        rw [ems, nq_t c1, nq_f c2]
      have em : hm W z 1 b = (nmF W z (nmV W z b).1 (nI 0) (nI 9), sk W z (nmV W z b).1, 0) := by
        unfold hm
        rw [en, if_pos c2]
      rw [decide_eq_false c2]
      refine rt_t bI_f ?_
      exact flt _ _ I2 em c2 g2 s2 s3
  · obtain ⟨s2, s3⟩ := f3 c1
    have en : nq W z (nms 1) b = (nmF W z b (nI 0) (nI 9), sk W z b, 0) := by
      rw [ems, nq_f c1]
    have em : hm W z 1 b = (nmF W z b (nI 0) (nI 9), sk W z b, 0) := by
      unfold hm
      rw [en, if_pos c1]
    rw [decide_eq_false c1]
    refine rt_t bI_f ?_
    exact flt _ _ I1 em c1 g1 s2 s3
end HB
