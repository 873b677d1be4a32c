/-! A LAW IS READ WHOLE, BY THE CLASS -/
section LD
variable {d L X : Nat} {I : MI32} {J : MI64} {W : Nat → Nat} {z o tp : Nat} {x : Int32}
theorem ar4 {z a s r e x i : Nat} (h1 : a ≤ s) (h2 : s + 1 < r) (h3 : r ≤ z) (h4 : x + (s + 1) ≤ r + e) (h5 : e ≤ a) (h6 : 2 * i ≤ a) (hz : z ≤ 150) : x + 1 ≤ r ∧ x < 150 ∧ 2 * (i + 1) ≤ r ∧ a + 2 ≤ r := by omega
theorem opP_e {a c p : Nat} (h : sk W z a < z ∧ W (sk W z a) = c) (hc : (c = 42 ∧ p = 4) ∨ (c = 47 ∧ p = 5) ∨ (c = 37 ∧ p = 6)) : opP W z a = p := by
  unfold opP
  rw [if_pos h.1, h.2]
  rcases hc with ⟨rfl, rfl⟩ | ⟨rfl, rfl⟩ | ⟨rfl, rfl⟩ <;> rfl
theorem opP_0 {a : Nat} (h : ¬ opP W z a = 0) : sk W z a < z ∧ (W (sk W z a) = 42 ∨ W (sk W z a) = 47 ∨ W (sk W z a) = 37) := by
  unfold opP at h
  by_cases q : sk W z a < z
  · rw [if_pos q] at h
    refine ⟨q, ?_⟩
    by_cases q1 : W (sk W z a) = 42
    · exact .inl q1
    · rw [if_neg q1] at h
      by_cases q2 : W (sk W z a) = 47
      · exact .inr (.inl q2)
      · rw [if_neg q2] at h
        by_cases q3 : W (sk W z a) = 37
        · exact .inr (.inr q3)
        · rw [if_neg q3] at h
          exact absurd rfl h
  · rw [if_neg q] at h
    exact absurd rfl h
set_option maxHeartbeats 8000000 in
theorem lp_pr {D : Nat} {u : LRec} {m : Nat → Nat} (hz2 : z ≤ 150) (ho : o ≤ 6) (hu : CR (D + 3) L X nX2_readUnit W z u o) (gu : gR z m u) (O : SO I) : ∀ f a e cd i I' u4, z - a < f → 2 * i ≤ a → e ≤ a → RdC I' W z a → LWS I' e cd → Fr fLR I I' → I' 1 2 = I 1 2 → I' 1 3 = I 1 3 → Rt L X (c_X2_readProduct_13 (D + 3) L X I' J 27 (nI o) (nI i) u4) (some (.int (bI (decide ((lL W z (opP W z) u f o a e cd).1 = 0))))) (fun I'' J' => LQ I I'' W z (lL W z (opP W z) u f o a e cd) ∧ J' = J)
  | 0, a, e, cd, i, I', u4, hf => absurd hf (Nat.not_lt_zero _)
  | f + 1, a, e, cd, i, I', u4, hf => by
    intro hi hea R H fr h2 h3
    have ih := lp_pr hz2 ho hu gu O f
    have h0 : oc2 27 := .inr rfl
    have R' := R
    obtain ⟨B, hz, hz6, ha, h5⟩ := R
    have hs := sk_le (W := W) ha
    have hB : ∀ s, s < z → W s < 256 := fun s q => (B s (by omega)).2
    (first | refine rt_eq (q_X2_readProduct_0 (by first | assumption | rfl | exact .inl rfl | exact .inr rfl)) ?_ | refine rt_eq (q_X2_readProduct_6 (by first | assumption | rfl | exact .inl rfl | exact .inr rfl)) ?_ | refine rt_eq (q_X2_readProduct_13 (by first | assumption | rfl | exact .inl rfl | exact .inr rfl)) ?_ | refine rt_eq (q_X2_readProduct_24 (by first | assumption | rfl | exact .inl rfl | exact .inr rfl)) ?_ | refine rt_eq (q_X2_readProduct_49 (by first | assumption | rfl | exact .inl rfl | exact .inr rfl)) ?_ | refine rt_eq (q_X2_readProduct_56 (by first | assumption | rfl | exact .inl rfl | exact .inr rfl)) ?_ | refine rt_eq (q_X2_readProduct_63 (by first | assumption | rfl | exact .inl rfl | exact .inr rfl)) ?_ | refine rt_eq (q_X2_readProduct_98 (by first | assumption | rfl | exact .inl rfl | exact .inr rfl)) ?_ | refine rt_eq (q_X2_readProduct_101 (by first | assumption | rfl | exact .inl rfl | exact .inr rfl)) ?_)
    refine rt_f (by (try simp (disch := omega) only [nI_leI, nI_ltI, nI_eq, nI_add, pk_mul, n_0add, Nat.zero_add, nI_clamp]) <;> omega) (rt_bnd (sp_peek B hz hz6 ha h5) ?_)
    rintro I1 J1 ⟨⟨f1, f2, f3⟩, rfl⟩
    have g1 : Fr fTC I' I1 := fr_mono f1 (by decide)
    have gL1 : Fr fLR I I1 := fr_tr fr (fr_mono g1 lrT)
    have R1 : RdC I1 W z (sk W z a) := RdC_T R' (fr_mono g1 lrT) f2 hs.2
    have e2 : I1 1 2 = I 1 2 := (f1 1 2 rfl).trans h2
    have e3 : I1 1 3 = I 1 3 := (f1 1 3 rfl).trans h3
    (first | refine rt_eq (q_X2_readProduct_0 (by first | assumption | rfl | exact .inl rfl | exact .inr rfl)) ?_ | refine rt_eq (q_X2_readProduct_6 (by first | assumption | rfl | exact .inl rfl | exact .inr rfl)) ?_ | refine rt_eq (q_X2_readProduct_13 (by first | assumption | rfl | exact .inl rfl | exact .inr rfl)) ?_ | refine rt_eq (q_X2_readProduct_24 (by first | assumption | rfl | exact .inl rfl | exact .inr rfl)) ?_ | refine rt_eq (q_X2_readProduct_49 (by first | assumption | rfl | exact .inl rfl | exact .inr rfl)) ?_ | refine rt_eq (q_X2_readProduct_56 (by first | assumption | rfl | exact .inl rfl | exact .inr rfl)) ?_ | refine rt_eq (q_X2_readProduct_63 (by first | assumption | rfl | exact .inl rfl | exact .inr rfl)) ?_ | refine rt_eq (q_X2_readProduct_98 (by first | assumption | rfl | exact .inl rfl | exact .inr rfl)) ?_ | refine rt_eq (q_X2_readProduct_101 (by first | assumption | rfl | exact .inl rfl | exact .inr rfl)) ?_)
    by_cases c1 : opP W z a = 0
    · have el : lL W z (opP W z) u (f + 1) o a e cd = (0, 0, sk W z a, e, cd) := if_pos c1
      rw [el]
      refine rt_f (fun q => absurd c1 (by rw [opP_e ((by_c (hB _) (by decide)).mp q) (.inl ⟨rfl, rfl⟩)]; decide)) ?_
      refine rt_f (fun q => absurd c1 (by rw [opP_e ((by_c (hB _) (by decide)).mp q) (.inr (.inl ⟨rfl, rfl⟩))]; decide)) ?_
      refine rt_f (fun q => absurd c1 (by rw [opP_e ((by_c (hB _) (by decide)).mp q) (.inr (.inr ⟨rfl, rfl⟩))]; decide)) ?_
      exact lq_t rfl gL1 R1 (LWS_fr H g1) e2 e3
    · obtain ⟨q1, q2⟩ := opP_0 c1
      have el : lL W z (opP W z) u (f + 1) o a e cd = if ¬ (u o (sk W z a + 1) e cd).1 = 0 then u o (sk W z a + 1) e cd else lL W z (opP W z) u f o (u o (sk W z a + 1) e cd).2.2.1 ((u o (sk W z a + 1) e cd).2.2.2.1 + 1) (setC (u o (sk W z a + 1) e cd).2.2.2.2 (u o (sk W z a + 1) e cd).2.2.2.1 (opP W z a, 0)) := if_neg c1
      have go : ∀ c p, ((c = 42 ∧ p = 4) ∨ (c = 47 ∧ p = 5) ∨ (c = 37 ∧ p = 6)) → W (sk W z a) = c → Rt L X (runI (runM (D + 3)) iX2_readProduct (49, [some (.ref 27), some (.ref 1), some (.int (nI o)), some (.int (nI i)), some (.int (nI c))], [], mm L X I1 J1)) (some (.int (bI (decide ((lL W z (opP W z) u (f + 1) o a e cd).1 = 0))))) (fun I'' J' => LQ I I'' W z (lL W z (opP W z) u (f + 1) o a e cd) ∧ J' = J1) := by
        intro c p hcp hWc
        have ep : opP W z a = p := opP_e ⟨q1, hWc⟩ hcp
        have hc6 : c < 256 := by omega
        have ech : ((nI c).toUInt32 % 65536).toInt32 = nI c := by
          rcases hcp with ⟨rfl, rfl⟩ | ⟨rfl, rfl⟩ | ⟨rfl, rfl⟩ <;> decide
        (first | refine rt_eq (q_X2_readProduct_0 (by first | assumption | rfl | exact .inl rfl | exact .inr rfl)) ?_ | refine rt_eq (q_X2_readProduct_6 (by first | assumption | rfl | exact .inl rfl | exact .inr rfl)) ?_ | refine rt_eq (q_X2_readProduct_13 (by first | assumption | rfl | exact .inl rfl | exact .inr rfl)) ?_ | refine rt_eq (q_X2_readProduct_24 (by first | assumption | rfl | exact .inl rfl | exact .inr rfl)) ?_ | refine rt_eq (q_X2_readProduct_49 (by first | assumption | rfl | exact .inl rfl | exact .inr rfl)) ?_ | refine rt_eq (q_X2_readProduct_56 (by first | assumption | rfl | exact .inl rfl | exact .inr rfl)) ?_ | refine rt_eq (q_X2_readProduct_63 (by first | assumption | rfl | exact .inl rfl | exact .inr rfl)) ?_ | refine rt_eq (q_X2_readProduct_98 (by first | assumption | rfl | exact .inl rfl | exact .inr rfl)) ?_ | refine rt_eq (q_X2_readProduct_101 (by first | assumption | rfl | exact .inl rfl | exact .inr rfl)) ?_)
        rw [ech]
        have sg := sp_signC (d := D) (L := L) (X := X) (J := J1) (c := c) R1.1 R1.2.1 hz6 hs.2 f2 hc6
        rw [sk_sk ha] at sg
        refine rt_bnd sg ?_
        rintro I2 J2 ⟨⟨k1, k2, k3⟩, rfl⟩
        obtain ⟨l5, l2, l3⟩ := k2 ⟨q1, hWc⟩
        have g2 : Fr fTC I' I2 := fr_tr g1 k1
        have gL2 : Fr fLR I I2 := fr_tr fr (fr_mono g2 lrT)
        rw [decide_eq_true (show sk W z a < z ∧ W (sk W z a) = c from ⟨q1, hWc⟩)]
        (first | refine rt_eq (q_X2_readProduct_0 (by first | assumption | rfl | exact .inl rfl | exact .inr rfl)) ?_ | refine rt_eq (q_X2_readProduct_6 (by first | assumption | rfl | exact .inl rfl | exact .inr rfl)) ?_ | refine rt_eq (q_X2_readProduct_13 (by first | assumption | rfl | exact .inl rfl | exact .inr rfl)) ?_ | refine rt_eq (q_X2_readProduct_24 (by first | assumption | rfl | exact .inl rfl | exact .inr rfl)) ?_ | refine rt_eq (q_X2_readProduct_49 (by first | assumption | rfl | exact .inl rfl | exact .inr rfl)) ?_ | refine rt_eq (q_X2_readProduct_56 (by first | assumption | rfl | exact .inl rfl | exact .inr rfl)) ?_ | refine rt_eq (q_X2_readProduct_63 (by first | assumption | rfl | exact .inl rfl | exact .inr rfl)) ?_ | refine rt_eq (q_X2_readProduct_98 (by first | assumption | rfl | exact .inl rfl | exact .inr rfl)) ?_ | refine rt_eq (q_X2_readProduct_101 (by first | assumption | rfl | exact .inl rfl | exact .inr rfl)) ?_)
        have gk := gu o (sk W z a + 1) e cd 0 ho (Nat.zero_le _) q1
        refine rt_bnd (hu (sk W z a + 1) e cd I2 J2 (SO_fr O gL2 (by decide)) (RdC_T R' (fr_mono g2 lrT) l5 (by omega)) (LWS_fr H g2) (by omega)) ?_
        rw [ep] at el
        rw [el]
        generalize u o (sk W z a + 1) e cd = R at gk
        rintro I3 J3 ⟨⟨m1, m2, m3⟩, rfl⟩
        have gL3 : Fr fLR I I3 := fr_tr gL2 m1
        (first | refine rt_eq (q_X2_readProduct_0 (by first | assumption | rfl | exact .inl rfl | exact .inr rfl)) ?_ | refine rt_eq (q_X2_readProduct_6 (by first | assumption | rfl | exact .inl rfl | exact .inr rfl)) ?_ | refine rt_eq (q_X2_readProduct_13 (by first | assumption | rfl | exact .inl rfl | exact .inr rfl)) ?_ | refine rt_eq (q_X2_readProduct_24 (by first | assumption | rfl | exact .inl rfl | exact .inr rfl)) ?_ | refine rt_eq (q_X2_readProduct_49 (by first | assumption | rfl | exact .inl rfl | exact .inr rfl)) ?_ | refine rt_eq (q_X2_readProduct_56 (by first | assumption | rfl | exact .inl rfl | exact .inr rfl)) ?_ | refine rt_eq (q_X2_readProduct_63 (by first | assumption | rfl | exact .inl rfl | exact .inr rfl)) ?_ | refine rt_eq (q_X2_readProduct_98 (by first | assumption | rfl | exact .inl rfl | exact .inr rfl)) ?_ | refine rt_eq (q_X2_readProduct_101 (by first | assumption | rfl | exact .inl rfl | exact .inr rfl)) ?_)
        by_cases c4 : R.1 = 0
        · obtain ⟨R3, H3, n2, n3⟩ := m2 c4
          obtain ⟨t1, t2, t3, t4, t5, t6⟩ := gk c4
          have ar := ar4 hs.1 t1 t2 t4 hea hi hz2
          rw [decide_eq_true c4, if_neg (not_not_intro c4)]
          refine rt_f (show ¬ bI true = nI 0 by decide) ?_
          have fin : ∀ x : Int32, x = nI (encC (p, 0)) → Rt L X (runI (runM (D + 3)) iX2_readProduct (98, [some (.ref 27), some (.ref 1), some (.int (nI o)), some (.int (nI i)), some (.int (nI c))], [.int x, .ref 27], mm L X I3 J3)) (some (.int (bI (decide ((lL W z (opP W z) u f o R.2.2.1 (R.2.2.2.1 + 1) (setC R.2.2.2.2 R.2.2.2.1 (p, 0))).1 = 0))))) (fun I'' J' => LQ I I'' W z (lL W z (opP W z) u f o R.2.2.1 (R.2.2.2.1 + 1) (setC R.2.2.2.2 R.2.2.2.1 (p, 0))) ∧ J' = J3) := by
            intro x hx
            rw [hx]
            (first | refine rt_eq (q_X2_readProduct_0 (by first | assumption | rfl | exact .inl rfl | exact .inr rfl)) ?_ | refine rt_eq (q_X2_readProduct_6 (by first | assumption | rfl | exact .inl rfl | exact .inr rfl)) ?_ | refine rt_eq (q_X2_readProduct_13 (by first | assumption | rfl | exact .inl rfl | exact .inr rfl)) ?_ | refine rt_eq (q_X2_readProduct_24 (by first | assumption | rfl | exact .inl rfl | exact .inr rfl)) ?_ | refine rt_eq (q_X2_readProduct_49 (by first | assumption | rfl | exact .inl rfl | exact .inr rfl)) ?_ | refine rt_eq (q_X2_readProduct_56 (by first | assumption | rfl | exact .inl rfl | exact .inr rfl)) ?_ | refine rt_eq (q_X2_readProduct_63 (by first | assumption | rfl | exact .inl rfl | exact .inr rfl)) ?_ | refine rt_eq (q_X2_readProduct_98 (by first | assumption | rfl | exact .inl rfl | exact .inr rfl)) ?_ | refine rt_eq (q_X2_readProduct_101 (by first | assumption | rfl | exact .inl rfl | exact .inr rfl)) ?_)
            refine rt_be (sp_addL H3.1 ar.2.1) ?_
            (first | refine rt_eq (q_X2_readProduct_0 (by first | assumption | rfl | exact .inl rfl | exact .inr rfl)) ?_ | refine rt_eq (q_X2_readProduct_6 (by first | assumption | rfl | exact .inl rfl | exact .inr rfl)) ?_ | refine rt_eq (q_X2_readProduct_13 (by first | assumption | rfl | exact .inl rfl | exact .inr rfl)) ?_ | refine rt_eq (q_X2_readProduct_24 (by first | assumption | rfl | exact .inl rfl | exact .inr rfl)) ?_ | refine rt_eq (q_X2_readProduct_49 (by first | assumption | rfl | exact .inl rfl | exact .inr rfl)) ?_ | refine rt_eq (q_X2_readProduct_56 (by first | assumption | rfl | exact .inl rfl | exact .inr rfl)) ?_ | refine rt_eq (q_X2_readProduct_63 (by first | assumption | rfl | exact .inl rfl | exact .inr rfl)) ?_ | refine rt_eq (q_X2_readProduct_98 (by first | assumption | rfl | exact .inl rfl | exact .inr rfl)) ?_ | refine rt_eq (q_X2_readProduct_101 (by first | assumption | rfl | exact .inl rfl | exact .inr rfl)) ?_)
            rw [nI_add]
            have g4 : Fr fLR I (up2 (up2 I3 28 R.2.2.2.1 (nI (encC (p, 0)))) 27 1 (nI (R.2.2.2.1 + 1))) := fr_up (fr_up gL3 rfl) rfl
            refine ih R.2.2.1 (R.2.2.2.1 + 1) (setC R.2.2.2.2 R.2.2.2.1 (p, 0)) (i + 1) _ _ ?_ ar.2.2.1 ar.1 (RdC_T R3 (fr_up (fr_up fr_rfl rfl) rfl) ?_ t2) (LWS_add H3) g4 ?_ ?_
            · have := ar.2.2.2
              clear ar el sg f2 f3 l5 q2 ep t6
              omega
            · rw [up2_n (by decide), up2_n (by decide)]
              exact R3.2.2.2.2
            · rw [up2_n (by decide), up2_n (by decide), n2, l2, e2]
            · rw [up2_n (by decide), up2_n (by decide), n3, l3, e3]
          rcases hcp with ⟨rfl, rfl⟩ | ⟨rfl, rfl⟩ | ⟨rfl, rfl⟩
          · exact rt_t rfl (fin _ rfl)
          · exact rt_f (by decide) (rt_t rfl (fin _ rfl))
          · exact rt_f (by decide) (rt_f (by decide) (fin _ rfl))
        · obtain ⟨n2, n3⟩ := m3 c4
          rw [if_pos c4]
          exact rt_t (by rw [decide_eq_false c4]; rfl) (lq_f c4 gL3 n2 n3)
      have eb : byT W z (sk W z a) = nI (W (sk W z a)) := if_pos q1
      rw [eb]
      rcases q2 with q2 | q2 | q2
      · rw [q2]
        exact rt_t rfl (go 42 4 (.inl ⟨rfl, rfl⟩) q2)
      · rw [q2]
        exact rt_f (by decide) (rt_t rfl (go 47 5 (.inr (.inl ⟨rfl, rfl⟩)) q2))
      · rw [q2]
        exact rt_f (by decide) (rt_f (by decide) (rt_t rfl (go 37 6 (.inr (.inr ⟨rfl, rfl⟩)) q2)))
theorem cr_pr {D : Nat} {u : LRec} {m : Nat → Nat} (hz2 : z ≤ 150) (ho : o ≤ 6) (hu : CR (D + 3) L X nX2_readUnit W z u o) (gu : gR z m u) : CR (D + 4) L X nX2_readProduct W z (lT W z (opP W z) u) o := by
  intro a e cd I J O R H hea
  have h0 : oc2 27 := .inr rfl
  have ha := R.2.2.2.1
  rw [e_X2_readProduct]
  (first | refine rt_eq (q_X2_readProduct_0 (by first | assumption | rfl | exact .inl rfl | exact .inr rfl)) ?_ | refine rt_eq (q_X2_readProduct_6 (by first | assumption | rfl | exact .inl rfl | exact .inr rfl)) ?_ | refine rt_eq (q_X2_readProduct_13 (by first | assumption | rfl | exact .inl rfl | exact .inr rfl)) ?_ | refine rt_eq (q_X2_readProduct_24 (by first | assumption | rfl | exact .inl rfl | exact .inr rfl)) ?_ | refine rt_eq (q_X2_readProduct_49 (by first | assumption | rfl | exact .inl rfl | exact .inr rfl)) ?_ | refine rt_eq (q_X2_readProduct_56 (by first | assumption | rfl | exact .inl rfl | exact .inr rfl)) ?_ | refine rt_eq (q_X2_readProduct_63 (by first | assumption | rfl | exact .inl rfl | exact .inr rfl)) ?_ | refine rt_eq (q_X2_readProduct_98 (by first | assumption | rfl | exact .inl rfl | exact .inr rfl)) ?_ | refine rt_eq (q_X2_readProduct_101 (by first | assumption | rfl | exact .inl rfl | exact .inr rfl)) ?_)
  have gk := gu o a e cd 0 ho (Nat.zero_le _) ha
  refine rt_bnd (hu a e cd I J O R H hea) ?_
  have et : lT W z (opP W z) u o a e cd = if ¬ (u o a e cd).1 = 0 then u o a e cd else lL W z (opP W z) u (z + 1) o (u o a e cd).2.2.1 (u o a e cd).2.2.2.1 (u o a e cd).2.2.2.2 := rfl
  rw [et]
  generalize u o a e cd = R0 at gk
  rintro I1 J1 ⟨⟨m1, m2, m3⟩, rfl⟩
  (first | refine rt_eq (q_X2_readProduct_0 (by first | assumption | rfl | exact .inl rfl | exact .inr rfl)) ?_ | refine rt_eq (q_X2_readProduct_6 (by first | assumption | rfl | exact .inl rfl | exact .inr rfl)) ?_ | refine rt_eq (q_X2_readProduct_13 (by first | assumption | rfl | exact .inl rfl | exact .inr rfl)) ?_ | refine rt_eq (q_X2_readProduct_24 (by first | assumption | rfl | exact .inl rfl | exact .inr rfl)) ?_ | refine rt_eq (q_X2_readProduct_49 (by first | assumption | rfl | exact .inl rfl | exact .inr rfl)) ?_ | refine rt_eq (q_X2_readProduct_56 (by first | assumption | rfl | exact .inl rfl | exact .inr rfl)) ?_ | refine rt_eq (q_X2_readProduct_63 (by first | assumption | rfl | exact .inl rfl | exact .inr rfl)) ?_ | refine rt_eq (q_X2_readProduct_98 (by first | assumption | rfl | exact .inl rfl | exact .inr rfl)) ?_ | refine rt_eq (q_X2_readProduct_101 (by first | assumption | rfl | exact .inl rfl | exact .inr rfl)) ?_)
  by_cases c4 : R0.1 = 0
  · obtain ⟨R3, H3, n2, n3⟩ := m2 c4
    obtain ⟨t1, t2, t3, t4, t5, t6⟩ := gk c4
    rw [decide_eq_true c4, if_neg (not_not_intro c4)]
    refine rt_f (show ¬ bI true = nI 0 by decide) ?_
    exact lp_pr (I := I) hz2 ho hu gu O (z + 1) R0.2.2.1 R0.2.2.2.1 R0.2.2.2.2 0 I1 _ (by omega) (by omega) (by omega) R3 H3 m1 n2 n3
  · obtain ⟨n2, n3⟩ := m3 c4
    rw [if_pos c4]
    exact rt_t (by rw [decide_eq_false c4]; rfl) (lq_f c4 m1 n2 n3)
theorem opS_e {a c p : Nat} (h : sk W z a < z ∧ W (sk W z a) = c) (hc : (c = 43 ∧ p = 2) ∨ (c = 45 ∧ p = 3)) : opS W z a = p := by
  unfold opS
  rw [if_pos h.1, h.2]
  rcases hc with ⟨rfl, rfl⟩ | ⟨rfl, rfl⟩ <;> rfl
theorem opS_0 {a : Nat} (h : ¬ opS W z a = 0) : sk W z a < z ∧ (W (sk W z a) = 43 ∨ W (sk W z a) = 45) := by
  unfold opS at h
  by_cases q : sk W z a < z
  · rw [if_pos q] at h
    refine ⟨q, ?_⟩
    by_cases q1 : W (sk W z a) = 43
    · exact .inl q1
    · rw [if_neg q1] at h
      by_cases q2 : W (sk W z a) = 45
      · exact .inr q2
      · rw [if_neg q2] at h
        exact absurd rfl h
  · rw [if_neg q] at h
    exact absurd rfl h
set_option maxHeartbeats 8000000 in
theorem lp_su {D : Nat} {u : LRec} {m : Nat → Nat} (hz2 : z ≤ 150) (ho : o ≤ 6) (hu : CR (D + 3) L X nX2_readProduct W z u o) (gu : gR z m u) (O : SO I) : ∀ f a e cd i I' u4, z - a < f → 2 * i ≤ a → e ≤ a → RdC I' W z a → LWS I' e cd → Fr fLR I I' → I' 1 2 = I 1 2 → I' 1 3 = I 1 3 → Rt L X (c_X2_readSum_13 (D + 3) L X I' J 27 (nI o) (nI i) u4) (some (.int (bI (decide ((lL W z (opS W z) u f o a e cd).1 = 0))))) (fun I'' J' => LQ I I'' W z (lL W z (opS W z) u f o a e cd) ∧ J' = J)
  | 0, a, e, cd, i, I', u4, hf => absurd hf (Nat.not_lt_zero _)
  | f + 1, a, e, cd, i, I', u4, hf => by
    intro hi hea R H fr h2 h3
    have ih := lp_su hz2 ho hu gu O f
    have h0 : oc2 27 := .inr rfl
    have R' := R
    obtain ⟨B, hz, hz6, ha, h5⟩ := R
    have hs := sk_le (W := W) ha
    have hB : ∀ s, s < z → W s < 256 := fun s q => (B s (by omega)).2
    (first | refine rt_eq (q_X2_readSum_0 (by first | assumption | rfl | exact .inl rfl | exact .inr rfl)) ?_ | refine rt_eq (q_X2_readSum_6 (by first | assumption | rfl | exact .inl rfl | exact .inr rfl)) ?_ | refine rt_eq (q_X2_readSum_13 (by first | assumption | rfl | exact .inl rfl | exact .inr rfl)) ?_ | refine rt_eq (q_X2_readSum_24 (by first | assumption | rfl | exact .inl rfl | exact .inr rfl)) ?_ | refine rt_eq (q_X2_readSum_42 (by first | assumption | rfl | exact .inl rfl | exact .inr rfl)) ?_ | refine rt_eq (q_X2_readSum_49 (by first | assumption | rfl | exact .inl rfl | exact .inr rfl)) ?_ | refine rt_eq (q_X2_readSum_56 (by first | assumption | rfl | exact .inl rfl | exact .inr rfl)) ?_ | refine rt_eq (q_X2_readSum_78 (by first | assumption | rfl | exact .inl rfl | exact .inr rfl)) ?_ | refine rt_eq (q_X2_readSum_81 (by first | assumption | rfl | exact .inl rfl | exact .inr rfl)) ?_)
    refine rt_f (by (try simp (disch := omega) only [nI_leI, nI_ltI, nI_eq, nI_add, pk_mul, n_0add, Nat.zero_add, nI_clamp]) <;> omega) (rt_bnd (sp_peek B hz hz6 ha h5) ?_)
    rintro I1 J1 ⟨⟨f1, f2, f3⟩, rfl⟩
    have g1 : Fr fTC I' I1 := fr_mono f1 (by decide)
    have gL1 : Fr fLR I I1 := fr_tr fr (fr_mono g1 lrT)
    have R1 : RdC I1 W z (sk W z a) := RdC_T R' (fr_mono g1 lrT) f2 hs.2
    have e2 : I1 1 2 = I 1 2 := (f1 1 2 rfl).trans h2
    have e3 : I1 1 3 = I 1 3 := (f1 1 3 rfl).trans h3
    (first | refine rt_eq (q_X2_readSum_0 (by first | assumption | rfl | exact .inl rfl | exact .inr rfl)) ?_ | refine rt_eq (q_X2_readSum_6 (by first | assumption | rfl | exact .inl rfl | exact .inr rfl)) ?_ | refine rt_eq (q_X2_readSum_13 (by first | assumption | rfl | exact .inl rfl | exact .inr rfl)) ?_ | refine rt_eq (q_X2_readSum_24 (by first | assumption | rfl | exact .inl rfl | exact .inr rfl)) ?_ | refine rt_eq (q_X2_readSum_42 (by first | assumption | rfl | exact .inl rfl | exact .inr rfl)) ?_ | refine rt_eq (q_X2_readSum_49 (by first | assumption | rfl | exact .inl rfl | exact .inr rfl)) ?_ | refine rt_eq (q_X2_readSum_56 (by first | assumption | rfl | exact .inl rfl | exact .inr rfl)) ?_ | refine rt_eq (q_X2_readSum_78 (by first | assumption | rfl | exact .inl rfl | exact .inr rfl)) ?_ | refine rt_eq (q_X2_readSum_81 (by first | assumption | rfl | exact .inl rfl | exact .inr rfl)) ?_)
    by_cases c1 : opS W z a = 0
    · have el : lL W z (opS W z) u (f + 1) o a e cd = (0, 0, sk W z a, e, cd) := if_pos c1
      rw [el]
      refine rt_f (fun q => absurd c1 (by rw [opS_e ((by_c (hB _) (by decide)).mp q) (.inl ⟨rfl, rfl⟩)]; decide)) ?_
      refine rt_f (fun q => absurd c1 (by rw [opS_e ((by_c (hB _) (by decide)).mp q) (.inr ⟨rfl, rfl⟩)]; decide)) ?_
      exact lq_t rfl gL1 R1 (LWS_fr H g1) e2 e3
    · obtain ⟨q1, q2⟩ := opS_0 c1
      have el : lL W z (opS W z) u (f + 1) o a e cd = if ¬ (u o (sk W z a + 1) e cd).1 = 0 then u o (sk W z a + 1) e cd else lL W z (opS W z) u f o (u o (sk W z a + 1) e cd).2.2.1 ((u o (sk W z a + 1) e cd).2.2.2.1 + 1) (setC (u o (sk W z a + 1) e cd).2.2.2.2 (u o (sk W z a + 1) e cd).2.2.2.1 (opS W z a, 0)) := if_neg c1
      have go : ∀ c p, ((c = 43 ∧ p = 2) ∨ (c = 45 ∧ p = 3)) → W (sk W z a) = c → Rt L X (runI (runM (D + 3)) iX2_readSum (42, [some (.ref 27), some (.ref 1), some (.int (nI o)), some (.int (nI i)), some (.int (nI c))], [], mm L X I1 J1)) (some (.int (bI (decide ((lL W z (opS W z) u (f + 1) o a e cd).1 = 0))))) (fun I'' J' => LQ I I'' W z (lL W z (opS W z) u (f + 1) o a e cd) ∧ J' = J1) := by
        intro c p hcp hWc
        have ep : opS W z a = p := opS_e ⟨q1, hWc⟩ hcp
        have hc6 : c < 256 := by omega
        have ech : ((nI c).toUInt32 % 65536).toInt32 = nI c := by
          rcases hcp with ⟨rfl, rfl⟩ | ⟨rfl, rfl⟩ <;> decide
        (first | refine rt_eq (q_X2_readSum_0 (by first | assumption | rfl | exact .inl rfl | exact .inr rfl)) ?_ | refine rt_eq (q_X2_readSum_6 (by first | assumption | rfl | exact .inl rfl | exact .inr rfl)) ?_ | refine rt_eq (q_X2_readSum_13 (by first | assumption | rfl | exact .inl rfl | exact .inr rfl)) ?_ | refine rt_eq (q_X2_readSum_24 (by first | assumption | rfl | exact .inl rfl | exact .inr rfl)) ?_ | refine rt_eq (q_X2_readSum_42 (by first | assumption | rfl | exact .inl rfl | exact .inr rfl)) ?_ | refine rt_eq (q_X2_readSum_49 (by first | assumption | rfl | exact .inl rfl | exact .inr rfl)) ?_ | refine rt_eq (q_X2_readSum_56 (by first | assumption | rfl | exact .inl rfl | exact .inr rfl)) ?_ | refine rt_eq (q_X2_readSum_78 (by first | assumption | rfl | exact .inl rfl | exact .inr rfl)) ?_ | refine rt_eq (q_X2_readSum_81 (by first | assumption | rfl | exact .inl rfl | exact .inr rfl)) ?_)
        rw [ech]
        have sg := sp_signC (d := D) (L := L) (X := X) (J := J1) (c := c) R1.1 R1.2.1 hz6 hs.2 f2 hc6
        rw [sk_sk ha] at sg
        refine rt_bnd sg ?_
        rintro I2 J2 ⟨⟨k1, k2, k3⟩, rfl⟩
        obtain ⟨l5, l2, l3⟩ := k2 ⟨q1, hWc⟩
        have g2 : Fr fTC I' I2 := fr_tr g1 k1
        have gL2 : Fr fLR I I2 := fr_tr fr (fr_mono g2 lrT)
        rw [decide_eq_true (show sk W z a < z ∧ W (sk W z a) = c from ⟨q1, hWc⟩)]
        (first | refine rt_eq (q_X2_readSum_0 (by first | assumption | rfl | exact .inl rfl | exact .inr rfl)) ?_ | refine rt_eq (q_X2_readSum_6 (by first | assumption | rfl | exact .inl rfl | exact .inr rfl)) ?_ | refine rt_eq (q_X2_readSum_13 (by first | assumption | rfl | exact .inl rfl | exact .inr rfl)) ?_ | refine rt_eq (q_X2_readSum_24 (by first | assumption | rfl | exact .inl rfl | exact .inr rfl)) ?_ | refine rt_eq (q_X2_readSum_42 (by first | assumption | rfl | exact .inl rfl | exact .inr rfl)) ?_ | refine rt_eq (q_X2_readSum_49 (by first | assumption | rfl | exact .inl rfl | exact .inr rfl)) ?_ | refine rt_eq (q_X2_readSum_56 (by first | assumption | rfl | exact .inl rfl | exact .inr rfl)) ?_ | refine rt_eq (q_X2_readSum_78 (by first | assumption | rfl | exact .inl rfl | exact .inr rfl)) ?_ | refine rt_eq (q_X2_readSum_81 (by first | assumption | rfl | exact .inl rfl | exact .inr rfl)) ?_)
        have gk := gu o (sk W z a + 1) e cd 0 ho (Nat.zero_le _) q1
        refine rt_bnd (hu (sk W z a + 1) e cd I2 J2 (SO_fr O gL2 (by decide)) (RdC_T R' (fr_mono g2 lrT) l5 (by omega)) (LWS_fr H g2) (by omega)) ?_
        rw [ep] at el
        rw [el]
        generalize u o (sk W z a + 1) e cd = R at gk
        rintro I3 J3 ⟨⟨m1, m2, m3⟩, rfl⟩
        have gL3 : Fr fLR I I3 := fr_tr gL2 m1
        (first | refine rt_eq (q_X2_readSum_0 (by first | assumption | rfl | exact .inl rfl | exact .inr rfl)) ?_ | refine rt_eq (q_X2_readSum_6 (by first | assumption | rfl | exact .inl rfl | exact .inr rfl)) ?_ | refine rt_eq (q_X2_readSum_13 (by first | assumption | rfl | exact .inl rfl | exact .inr rfl)) ?_ | refine rt_eq (q_X2_readSum_24 (by first | assumption | rfl | exact .inl rfl | exact .inr rfl)) ?_ | refine rt_eq (q_X2_readSum_42 (by first | assumption | rfl | exact .inl rfl | exact .inr rfl)) ?_ | refine rt_eq (q_X2_readSum_49 (by first | assumption | rfl | exact .inl rfl | exact .inr rfl)) ?_ | refine rt_eq (q_X2_readSum_56 (by first | assumption | rfl | exact .inl rfl | exact .inr rfl)) ?_ | refine rt_eq (q_X2_readSum_78 (by first | assumption | rfl | exact .inl rfl | exact .inr rfl)) ?_ | refine rt_eq (q_X2_readSum_81 (by first | assumption | rfl | exact .inl rfl | exact .inr rfl)) ?_)
        by_cases c4 : R.1 = 0
        · obtain ⟨R3, H3, n2, n3⟩ := m2 c4
          obtain ⟨t1, t2, t3, t4, t5, t6⟩ := gk c4
          have ar := ar4 hs.1 t1 t2 t4 hea hi hz2
          rw [decide_eq_true c4, if_neg (not_not_intro c4)]
          refine rt_f (show ¬ bI true = nI 0 by decide) ?_
          have fin : ∀ x : Int32, x = nI (encC (p, 0)) → Rt L X (runI (runM (D + 3)) iX2_readSum (78, [some (.ref 27), some (.ref 1), some (.int (nI o)), some (.int (nI i)), some (.int (nI c))], [.int x, .ref 27], mm L X I3 J3)) (some (.int (bI (decide ((lL W z (opS W z) u f o R.2.2.1 (R.2.2.2.1 + 1) (setC R.2.2.2.2 R.2.2.2.1 (p, 0))).1 = 0))))) (fun I'' J' => LQ I I'' W z (lL W z (opS W z) u f o R.2.2.1 (R.2.2.2.1 + 1) (setC R.2.2.2.2 R.2.2.2.1 (p, 0))) ∧ J' = J3) := by
            intro x hx
            rw [hx]
            (first | refine rt_eq (q_X2_readSum_0 (by first | assumption | rfl | exact .inl rfl | exact .inr rfl)) ?_ | refine rt_eq (q_X2_readSum_6 (by first | assumption | rfl | exact .inl rfl | exact .inr rfl)) ?_ | refine rt_eq (q_X2_readSum_13 (by first | assumption | rfl | exact .inl rfl | exact .inr rfl)) ?_ | refine rt_eq (q_X2_readSum_24 (by first | assumption | rfl | exact .inl rfl | exact .inr rfl)) ?_ | refine rt_eq (q_X2_readSum_42 (by first | assumption | rfl | exact .inl rfl | exact .inr rfl)) ?_ | refine rt_eq (q_X2_readSum_49 (by first | assumption | rfl | exact .inl rfl | exact .inr rfl)) ?_ | refine rt_eq (q_X2_readSum_56 (by first | assumption | rfl | exact .inl rfl | exact .inr rfl)) ?_ | refine rt_eq (q_X2_readSum_78 (by first | assumption | rfl | exact .inl rfl | exact .inr rfl)) ?_ | refine rt_eq (q_X2_readSum_81 (by first | assumption | rfl | exact .inl rfl | exact .inr rfl)) ?_)
            refine rt_be (sp_addL H3.1 ar.2.1) ?_
            (first | refine rt_eq (q_X2_readSum_0 (by first | assumption | rfl | exact .inl rfl | exact .inr rfl)) ?_ | refine rt_eq (q_X2_readSum_6 (by first | assumption | rfl | exact .inl rfl | exact .inr rfl)) ?_ | refine rt_eq (q_X2_readSum_13 (by first | assumption | rfl | exact .inl rfl | exact .inr rfl)) ?_ | refine rt_eq (q_X2_readSum_24 (by first | assumption | rfl | exact .inl rfl | exact .inr rfl)) ?_ | refine rt_eq (q_X2_readSum_42 (by first | assumption | rfl | exact .inl rfl | exact .inr rfl)) ?_ | refine rt_eq (q_X2_readSum_49 (by first | assumption | rfl | exact .inl rfl | exact .inr rfl)) ?_ | refine rt_eq (q_X2_readSum_56 (by first | assumption | rfl | exact .inl rfl | exact .inr rfl)) ?_ | refine rt_eq (q_X2_readSum_78 (by first | assumption | rfl | exact .inl rfl | exact .inr rfl)) ?_ | refine rt_eq (q_X2_readSum_81 (by first | assumption | rfl | exact .inl rfl | exact .inr rfl)) ?_)
            rw [nI_add]
            have g4 : Fr fLR I (up2 (up2 I3 28 R.2.2.2.1 (nI (encC (p, 0)))) 27 1 (nI (R.2.2.2.1 + 1))) := fr_up (fr_up gL3 rfl) rfl
            refine ih R.2.2.1 (R.2.2.2.1 + 1) (setC R.2.2.2.2 R.2.2.2.1 (p, 0)) (i + 1) _ _ ?_ ar.2.2.1 ar.1 (RdC_T R3 (fr_up (fr_up fr_rfl rfl) rfl) ?_ t2) (LWS_add H3) g4 ?_ ?_
            · have := ar.2.2.2
              clear ar el sg f2 f3 l5 q2 ep t6
              omega
            · rw [up2_n (by decide), up2_n (by decide)]
              exact R3.2.2.2.2
            · rw [up2_n (by decide), up2_n (by decide), n2, l2, e2]
            · rw [up2_n (by decide), up2_n (by decide), n3, l3, e3]
          rcases hcp with ⟨rfl, rfl⟩ | ⟨rfl, rfl⟩
          · exact rt_t rfl (fin _ rfl)
          · exact rt_f (by decide) (fin _ rfl)
        · obtain ⟨n2, n3⟩ := m3 c4
          rw [if_pos c4]
          exact rt_t (by rw [decide_eq_false c4]; rfl) (lq_f c4 gL3 n2 n3)
      have eb : byT W z (sk W z a) = nI (W (sk W z a)) := if_pos q1
      rw [eb]
      rcases q2 with q2 | q2
      · rw [q2]
        exact rt_t rfl (go 43 2 (.inl ⟨rfl, rfl⟩) q2)
      · rw [q2]
        exact rt_f (by decide) (rt_t rfl (go 45 3 (.inr ⟨rfl, rfl⟩) q2))
theorem cr_su {D : Nat} {u : LRec} {m : Nat → Nat} (hz2 : z ≤ 150) (ho : o ≤ 6) (hu : CR (D + 3) L X nX2_readProduct W z u o) (gu : gR z m u) : CR (D + 4) L X nX2_readSum W z (lT W z (opS W z) u) o := by
  intro a e cd I J O R H hea
  have h0 : oc2 27 := .inr rfl
  have ha := R.2.2.2.1
  rw [e_X2_readSum]
  (first | refine rt_eq (q_X2_readSum_0 (by first | assumption | rfl | exact .inl rfl | exact .inr rfl)) ?_ | refine rt_eq (q_X2_readSum_6 (by first | assumption | rfl | exact .inl rfl | exact .inr rfl)) ?_ | refine rt_eq (q_X2_readSum_13 (by first | assumption | rfl | exact .inl rfl | exact .inr rfl)) ?_ | refine rt_eq (q_X2_readSum_24 (by first | assumption | rfl | exact .inl rfl | exact .inr rfl)) ?_ | refine rt_eq (q_X2_readSum_42 (by first | assumption | rfl | exact .inl rfl | exact .inr rfl)) ?_ | refine rt_eq (q_X2_readSum_49 (by first | assumption | rfl | exact .inl rfl | exact .inr rfl)) ?_ | refine rt_eq (q_X2_readSum_56 (by first | assumption | rfl | exact .inl rfl | exact .inr rfl)) ?_ | refine rt_eq (q_X2_readSum_78 (by first | assumption | rfl | exact .inl rfl | exact .inr rfl)) ?_ | refine rt_eq (q_X2_readSum_81 (by first | assumption | rfl | exact .inl rfl | exact .inr rfl)) ?_)
  have gk := gu o a e cd 0 ho (Nat.zero_le _) ha
  refine rt_bnd (hu a e cd I J O R H hea) ?_
  have et : lT W z (opS W z) u o a e cd = if ¬ (u o a e cd).1 = 0 then u o a e cd else lL W z (opS W z) u (z + 1) o (u o a e cd).2.2.1 (u o a e cd).2.2.2.1 (u o a e cd).2.2.2.2 := rfl
  rw [et]
  generalize u o a e cd = R0 at gk
  rintro I1 J1 ⟨⟨m1, m2, m3⟩, rfl⟩
  (first | refine rt_eq (q_X2_readSum_0 (by first | assumption | rfl | exact .inl rfl | exact .inr rfl)) ?_ | refine rt_eq (q_X2_readSum_6 (by first | assumption | rfl | exact .inl rfl | exact .inr rfl)) ?_ | refine rt_eq (q_X2_readSum_13 (by first | assumption | rfl | exact .inl rfl | exact .inr rfl)) ?_ | refine rt_eq (q_X2_readSum_24 (by first | assumption | rfl | exact .inl rfl | exact .inr rfl)) ?_ | refine rt_eq (q_X2_readSum_42 (by first | assumption | rfl | exact .inl rfl | exact .inr rfl)) ?_ | refine rt_eq (q_X2_readSum_49 (by first | assumption | rfl | exact .inl rfl | exact .inr rfl)) ?_ | refine rt_eq (q_X2_readSum_56 (by first | assumption | rfl | exact .inl rfl | exact .inr rfl)) ?_ | refine rt_eq (q_X2_readSum_78 (by first | assumption | rfl | exact .inl rfl | exact .inr rfl)) ?_ | refine rt_eq (q_X2_readSum_81 (by first | assumption | rfl | exact .inl rfl | exact .inr rfl)) ?_)
  by_cases c4 : R0.1 = 0
  · obtain ⟨R3, H3, n2, n3⟩ := m2 c4
    obtain ⟨t1, t2, t3, t4, t5, t6⟩ := gk c4
    rw [decide_eq_true c4, if_neg (not_not_intro c4)]
    refine rt_f (show ¬ bI true = nI 0 by decide) ?_
    exact lp_su (I := I) hz2 ho hu gu O (z + 1) R0.2.2.1 R0.2.2.2.1 R0.2.2.2.2 0 I1 _ (by omega) (by omega) (by omega) R3 H3 m1 n2 n3
  · obtain ⟨n2, n3⟩ := m3 c4
    rw [if_pos c4]
    exact rt_t (by rw [decide_eq_false c4]; rfl) (lq_f c4 m1 n2 n3)
theorem cr_sum (hz2 : z ≤ 150) : ∀ k o, o + k = 6 → CR (d + 3 * k + 9) L X nX2_readSum W z (lsumK W z k) o
  | k, o, hk => by
    have RS : ∀ k', k = k' + 1 → CR (d + 3 * k' + 9) L X nX2_readSum W z (lsumK W z k') (o + 1) := fun k' e => cr_sum hz2 k' (o + 1) (by omega)
    have un := cr_unit (d := d) (L := L) (X := X) (W := W) hz2 hk RS
    have pr := cr_pr (D := d + 3 * k + 4) hz2 (by omega) un (lu_ok recK_ok)
    have su := cr_su (D := d + 3 * k + 5) hz2 (by omega) pr (lp_ok recK_ok)
    rw [lsumK_r]
    exact su
  termination_by k => k
/-- what a law's text tells -/
def lwR (W : Nat → Nat) (z : Nat) : Ls := lsumK W z 6 0 0 0 (fun _ => (0, 0))
def lwF (W : Nat → Nat) (z : Nat) : Nat × Nat := if ¬ (lwR W z).1 = 0 then ((lwR W z).1, (lwR W z).2.1) else if sk W z (lwR W z).2.2.1 = z then (0, 0) else (1, sk W z (lwR W z).2.2.1)
theorem lwF_3 : (lwF W z).1 ≤ 3 := by
  have := lsumK_3 (W := W) (z := z) 6 0 0 0 (fun _ => (0, 0))
  unfold lwF lwR
  repeat' split
  all_goals first | exact this | (dsimp only; omega)
theorem lwR_ok (q : (lwR W z).1 = 0) : (lwR W z).2.2.1 ≤ z ∧ 0 < (lwR W z).2.2.2.1 ∧ (lwR W z).2.2.2.1 ≤ z ∧ wfC (lwR W z).2.2.2.2 (lwR W z).2.2.2.1 0 0 := by
  obtain ⟨t1, t2, t3, t4, t5, t6⟩ := lsumK_ok (W := W) (z := z) 6 0 0 0 (fun _ => (0, 0)) 0 (by decide) (Nat.zero_le _) (Nat.zero_le _) q
  refine ⟨t2, t3, ?_, ?_⟩
  · show (lsumK W z 6 0 0 0 (fun _ => (0, 0))).2.2.2.1 ≤ z
    omega
  · have := t6 (lsumK W z 6 0 0 0 (fun _ => (0, 0))).2.2.2.2 (fun _ _ _ => rfl) 0 rfl
    exact this
theorem sp_readLaw (O : SO I) (R : RdC I W z 0) (hz2 : z ≤ 150) (h2 : I 1 2 = nI 0) (h3 : I 1 3 = -1) : Rt L X (runM (d + 28) nX2_readFrom [.ref 27, .ref 1] (mm L X I J)) (some (.int (bI (decide ((lwF W z).1 = 0))))) (fun I' J' => (Fr fLR I I' ∧ ((lwF W z).1 = 0 → LWS I' (lwR W z).2.2.2.1 (lwR W z).2.2.2.2 ∧ I' 1 3 = -1 ∧ (lwR W z).1 = 0) ∧ (¬ (lwF W z).1 = 0 → I' 1 2 = nI (lwF W z).1 ∧ I' 1 3 = nI (lwF W z).2)) ∧ J' = J) := by
  have h0 : oc2 27 := .inr rfl
  rw [e_X2_readFrom]
  (first | refine rt_eq (q_X2_readFrom_0 (by first | assumption | rfl | exact .inl rfl | exact .inr rfl)) ?_ | refine rt_eq (q_X2_readFrom_11) ?_ | refine rt_eq (q_X2_readFrom_18) ?_)
  have g0 : Fr fLR I (up2 I 27 1 (nI 0)) := fr_up fr_rfl rfl
  have R0 : RdC (up2 I 27 1 (nI 0)) W z 0 := RdC_T R g0 (by rw [up2_n (by decide)]; exact R.2.2.2.2) (Nat.zero_le _)
  refine rt_bnd (cr_sum (d := d) (L := L) (X := X) (W := W) hz2 6 0 rfl 0 0 (fun _ => (0, 0)) _ J (SO_fr O g0 (by decide)) R0 ⟨up2_s, fun j hj => absurd hj (Nat.not_lt_zero j)⟩ (Nat.le_refl _)) ?_
  have el : lsumK W z 6 0 0 0 (fun _ => (0, 0)) = lwR W z := rfl
  rw [el]
  rintro I1 J1 ⟨⟨m1, m2, m3⟩, rfl⟩
  have g1 : Fr fLR I I1 := fr_tr g0 m1
  (first | refine rt_eq (q_X2_readFrom_0 (by first | assumption | rfl | exact .inl rfl | exact .inr rfl)) ?_ | refine rt_eq (q_X2_readFrom_11) ?_ | refine rt_eq (q_X2_readFrom_18) ?_)
  by_cases c1 : (lwR W z).1 = 0
  · obtain ⟨R1, H1, n2, n3⟩ := m2 c1
    rw [up2_n (by decide)] at n2 n3
    rw [decide_eq_true c1]
    refine rt_f (show ¬ bI true = nI 0 by decide) (rt_bnd (sp_endedC R1.1 R1.2.1 R1.2.2.1 R1.2.2.2.1 R1.2.2.2.2) ?_)
    rintro I2 J2 ⟨⟨k1, k2, k3⟩, rfl⟩
    have g2 : Fr fLR I I2 := fr_tr g1 (fr_mono k1 lrT)
    (first | refine rt_eq (q_X2_readFrom_0 (by first | assumption | rfl | exact .inl rfl | exact .inr rfl)) ?_ | refine rt_eq (q_X2_readFrom_11) ?_ | refine rt_eq (q_X2_readFrom_18) ?_)
    by_cases c2 : sk W z (lwR W z).2.2.1 = z
    · have ef : lwF W z = (0, 0) := by
        unfold lwF
        rw [if_neg (not_not_intro c1), if_pos c2]
      rw [ef, decide_eq_true c2]
      exact rt_f (show ¬ bI true = nI 0 by decide) (rt_ret ⟨⟨g2, fun _ => ⟨LWS_fr H1 k1, (k2 c2).2.trans (n3.trans h3), c1⟩, fun q => absurd rfl q⟩, rfl⟩)
    · have ef : lwF W z = (1, sk W z (lwR W z).2.2.1) := by
        unfold lwF
        rw [if_neg (not_not_intro c1), if_neg c2]
      rw [ef, decide_eq_false c2]
      refine rt_t bI_f (rt_ret ⟨⟨g2, fun q => absurd q n10, fun _ => k3 c2⟩, rfl⟩)
  · obtain ⟨n2, n3⟩ := m3 c1
    have ef : lwF W z = ((lwR W z).1, (lwR W z).2.1) := by
      unfold lwF
      rw [if_pos c1]
    rw [ef]
    rw [decide_eq_false c1]
    exact rt_t bI_f (rt_ret ⟨⟨g1, fun q => absurd q c1, fun _ => ⟨n2, n3⟩⟩, rfl⟩)
theorem sp_becomeL : Rt L X (runM (d + 1) nX2_become [.ref 23, .ref 27] (mm L X I J)) none (fun I' J' => (Fr [(23, 2), (24, 0)] I I' ∧ I' 23 1 = I 27 1 ∧ ∀ k, k < 150 → I' 24 k = I 28 k) ∧ J' = J) := by
  have h0 : oc2 23 := .inl rfl
  have h1 : oc2 27 := .inr rfl
  rw [e_X2_become]
  (first | refine rt_eq (q_X2_become_0 (by first | assumption | rfl | exact .inl rfl | exact .inr rfl) (by first | assumption | rfl | exact .inl rfl | exact .inr rfl)) ?_)
  simp only [Nat.reduceAdd]
  refine rt_gd (by decide) (rt_ret ⟨⟨fr_up1 (fr_up fr_rfl rfl) (fun j => rfl), ?_, fun k hk => ?_⟩, rfl⟩)
  · rw [up1_n (by decide), up2_s]
  · rw [up1_s, cpy_0 (by decide) hk, up2_n (by decide)]
def fLf : Fls := fOp ++ fLR
def fLw : Fls := fLf ++ [(23, 2), (24, 0), (56, 12)]
def lwA (W : Nat → Nat) (z : Nat) : Int32 := if (lwF W z).1 = 0 then nI 1 else nI (lwF W z).1 - nI 10
theorem c_law (O : SO I) (B : BC I W) (ht : I 1 1 = nI tp) (htp : tp ≤ 600) (hn : z ≤ tp) (hm : z ≤ 150) : Rt L X (runM (d + 29) nX11_law [.ref 0, .int (nI z)] (mm L X I J)) (some (.int (lwA W z))) (fun I' J' => (((lwF W z).1 = 0 → Fr fLw I I' ∧ I' 1 1 = nI 0 ∧ I' 1 3 = -1 ∧ (lwR W z).1 = 0 ∧ LawC I' (lwR W z).2.2.2.1 (lwR W z).2.2.2.2 ∧ I' 56 11 = -1) ∧ (¬ (lwF W z).1 = 0 → Fr fLf I I' ∧ I' 1 1 = nI 0 ∧ I' 1 3 = nI (lwF W z).2)) ∧ J' = J) := by
  rw [e_X11_law]
  (first | refine rt_eq (q_X11_law_0) ?_ | refine rt_eq (q_X11_law_8) ?_ | refine rt_eq (q_X11_law_19) ?_ | refine rt_eq (q_X11_law_44) ?_ | refine rt_eq (q_X11_law_51) ?_)
  refine rt_bnd (sp_open (most := 150) B ht htp hn hm (by decide)) ?_
  rintro I1 J1 ⟨⟨f1, f2, f3, f4, f5⟩, rfl⟩
  (first | refine rt_eq (q_X11_law_0) ?_ | refine rt_eq (q_X11_law_8) ?_ | refine rt_eq (q_X11_law_19) ?_ | refine rt_eq (q_X11_law_44) ?_ | refine rt_eq (q_X11_law_51) ?_)
  refine rt_bnd (sp_readLaw (SO_fr O f1 (by decide)) f2 hm f4 f5) ?_
  rintro I2 J2 ⟨⟨g1, g2, g3⟩, rfl⟩
  have fr2 : Fr fLf I I2 := fr_tr (fr_mono f1 (by decide)) (fr_mono g1 (by decide))
  (first | refine rt_eq (q_X11_law_0) ?_ | refine rt_eq (q_X11_law_8) ?_ | refine rt_eq (q_X11_law_19) ?_ | refine rt_eq (q_X11_law_44) ?_ | refine rt_eq (q_X11_law_51) ?_)
  unfold lwA
  by_cases q : (lwF W z).1 = 0
  · rw [if_pos q, decide_eq_true q]
    obtain ⟨k1, k2, k3⟩ := g2 q
    obtain ⟨w1, w2, w3, w4⟩ := lwR_ok k3
    refine rt_f (show ¬ bI true = nI 0 by decide) (rt_bnd sp_becomeL ?_)
    rintro I3 J3 ⟨⟨l1, l2, l3⟩, rfl⟩
    (first | refine rt_eq (q_X11_law_0) ?_ | refine rt_eq (q_X11_law_8) ?_ | refine rt_eq (q_X11_law_19) ?_ | refine rt_eq (q_X11_law_44) ?_ | refine rt_eq (q_X11_law_51) ?_)
    refine rt_be sp_forgetShort ?_
    (first | refine rt_eq (q_X11_law_0) ?_ | refine rt_eq (q_X11_law_8) ?_ | refine rt_eq (q_X11_law_19) ?_ | refine rt_eq (q_X11_law_44) ?_ | refine rt_eq (q_X11_law_51) ?_)
    refine rt_ret ⟨⟨fun _ => ⟨?_, ?_, ?_, k3, ⟨?_, by omega, fun k hk => ?_⟩, up2_s⟩, fun q2 => absurd q q2⟩, rfl⟩
    · exact fr_up (fr_tr (fr_mono fr2 (by decide)) (fr_mono l1 (by decide))) rfl
    · rw [up2_n (by decide), l1 1 1 rfl, g1 1 1 rfl, f3]
    · rw [up2_n (by decide), l1 1 3 rfl, k2]
    · rw [up2_n (by decide), l2, k1.1]
    · rw [up2_n (by decide), l3 k (by omega), k1.2 k hk]
  · rw [if_neg q, decide_eq_false q]
    obtain ⟨k2, k3⟩ := g3 q
    rw [k2]
    exact rt_t bI_f (rt_ret ⟨⟨fun q2 => absurd q2 q, fun _ => ⟨fr2, (g1 1 1 rfl).trans f3, k3⟩⟩, rfl⟩)
theorem x_law (ht : I 1 1 = nI tp) (htp : tp ≤ 600) (hx : ¬ ∃ n, n ≤ tp ∧ n ≤ 150 ∧ x = nI n) : runM (d + 3) nX11_law [.ref 0, .int x] (mm L X I J) = some (.inr 1, mm L (X + 1) (ex1 I) J) := by
  rw [e_X11_law]
  (first | refine Eq.trans (q_X11_law_0) ?_ | refine Eq.trans (q_X11_law_8) ?_ | refine Eq.trans (q_X11_law_19) ?_ | refine Eq.trans (q_X11_law_44) ?_ | refine Eq.trans (q_X11_law_51) ?_)
  exact bnd_x (x_open ht htp (by decide) hx)
end LD
