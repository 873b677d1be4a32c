/-! A LAW IS READ WHOLE, BY THE MODEL -/
section LN
variable {d L X : Nat} {I : MI32} {J : MI64} {W : Nat → Nat} {z o tp : Nat} {x : Int32}
set_option maxHeartbeats 8000000 in
theorem mr_unit {k : Nat} (B2 : ∀ k, k < 600 → W k < 256) (hz2 : z ≤ 150) (hok : o + k = 6) (RS : ∀ k', k = k' + 1 → MR (d + 3 * k' + 9) L X nX12_sum W z (lsumK W z k') (o + 1)) : MR (d + 3 * k + 7) L X nX12_one W z (lu W z (recK W z k)) o := by
  intro a e cd I J B hz ha h4 h0 h8 H hea
  have hs := sk_le (W := W) ha
  have he := wE_le (W := W) ha
  have v := nmV_le (W := W) ha
  have hB : ∀ s, s < z → W s < 256 := fun s q => B2 s (by omega)
  rw [e_X12_one]
  (first | refine rt_eq (q_X12_one_0) ?_ | refine rt_eq (q_X12_one_12) ?_ | refine rt_eq (q_X12_one_25) ?_ | refine rt_eq (q_X12_one_47) ?_ | refine rt_eq (q_X12_one_56) ?_ | refine rt_eq (q_X12_one_125) ?_ | refine rt_eq (q_X12_one_66) ?_ | refine rt_eq (q_X12_one_173 (by first | assumption | rfl | exact .inl rfl | exact .inr rfl)) ?_ | refine rt_eq (q_X12_one_134) ?_ | refine rt_eq (q_X12_one_74) ?_ | refine rt_eq (q_X12_one_198) ?_ | refine rt_eq (q_X12_one_185) ?_ | refine rt_eq (q_X12_one_152) ?_ | refine rt_eq (q_X12_one_80) ?_ | refine rt_eq (q_X12_one_201) ?_ | refine rt_eq (q_X12_one_158) ?_ | refine rt_eq (q_X12_one_84) ?_ | refine rt_eq (q_X12_one_90) ?_ | refine rt_eq (q_X12_one_94) ?_ | refine rt_eq (q_X12_one_100) ?_ | refine rt_eq (q_X12_one_106) ?_)
  refine rt_t h0 (rt_bnd (sp_blanks B B2 hz (by omega) ha h4) ?_)
  rintro I0 J0 ⟨⟨f0, p0⟩, rfl⟩
  (first | refine rt_eq (q_X12_one_0) ?_ | refine rt_eq (q_X12_one_12) ?_ | refine rt_eq (q_X12_one_25) ?_ | refine rt_eq (q_X12_one_47) ?_ | refine rt_eq (q_X12_one_56) ?_ | refine rt_eq (q_X12_one_125) ?_ | refine rt_eq (q_X12_one_66) ?_ | refine rt_eq (q_X12_one_173 (by first | assumption | rfl | exact .inl rfl | exact .inr rfl)) ?_ | refine rt_eq (q_X12_one_134) ?_ | refine rt_eq (q_X12_one_74) ?_ | refine rt_eq (q_X12_one_198) ?_ | refine rt_eq (q_X12_one_185) ?_ | refine rt_eq (q_X12_one_152) ?_ | refine rt_eq (q_X12_one_80) ?_ | refine rt_eq (q_X12_one_201) ?_ | refine rt_eq (q_X12_one_158) ?_ | refine rt_eq (q_X12_one_84) ?_ | refine rt_eq (q_X12_one_90) ?_ | refine rt_eq (q_X12_one_94) ?_ | refine rt_eq (q_X12_one_100) ?_ | refine rt_eq (q_X12_one_106) ?_)
  refine rt_bnd (sp_isW (w := [108, 101, 97, 115, 116]) (by unfold WdA; decide +kernel) B B2 hz (by omega) ha h0 f0 (.inr p0)) ?_
  rintro I1 J1 ⟨⟨f1, p1⟩, rfl⟩
  have fin56 : ∀ (lw : Nat) (Ix : MI32), (lw = 9 ∨ lw = 10) → lkI W z a = nI lw → Fr [(72, 5)] I Ix → Ix 72 4 = nI (sk W z a) → Rt L X (runI (runM (d + 3 * k + 6)) iX12_one (56, [some (.ref 72), none, none], [.int (nI (lw - 2))], mm L X Ix J1)) none (fun I' J' => okL z I I' o (lu W z (recK W z k) o a e cd) ∧ J' = J1) := by
    intro lw Ix hlw hlk fx px
    have c3 : ¬ lkI W z a = -1 := by
      rw [hlk]
      exact nI_m1 _ (by omega)
    obtain ⟨w1, w2, w3⟩ := lk_n c3
    obtain ⟨c1, c2⟩ := lk_let ha c3
    have ekn : lkN W z a = lw := (nI_eq (by omega) (by omega)).mp (w1.symm.trans hlk)
    have c4 : ¬ lkN W z a < 9 := by omega
    have h01 : Ix 72 5 = nI 0 := (fx 72 5 rfl).trans h0
    have h81 : Ix 72 8 = nI o := (fx 72 8 rfl).trans h8
    have gx : Fr fLM I Ix := fr_mono fx lm_5
    have Hx := MW_T (e := e) (by omega) H (fr_mono fx (show sbF [(72, 5)] fTM = true by decide))
    (first | refine rt_eq (q_X12_one_0) ?_ | refine rt_eq (q_X12_one_12) ?_ | refine rt_eq (q_X12_one_25) ?_ | refine rt_eq (q_X12_one_47) ?_ | refine rt_eq (q_X12_one_56) ?_ | refine rt_eq (q_X12_one_125) ?_ | refine rt_eq (q_X12_one_66) ?_ | refine rt_eq (q_X12_one_173 (by first | assumption | rfl | exact .inl rfl | exact .inr rfl)) ?_ | refine rt_eq (q_X12_one_134) ?_ | refine rt_eq (q_X12_one_74) ?_ | refine rt_eq (q_X12_one_198) ?_ | refine rt_eq (q_X12_one_185) ?_ | refine rt_eq (q_X12_one_152) ?_ | refine rt_eq (q_X12_one_80) ?_ | refine rt_eq (q_X12_one_201) ?_ | refine rt_eq (q_X12_one_158) ?_ | refine rt_eq (q_X12_one_84) ?_ | refine rt_eq (q_X12_one_90) ?_ | refine rt_eq (q_X12_one_94) ?_ | refine rt_eq (q_X12_one_100) ?_ | refine rt_eq (q_X12_one_106) ?_)
    refine rt_f (nI_m1 _ (by omega)) ?_
    by_cases c5 : o = 6
    · have eu : lu W z (recK W z k) o a e cd = (3, sk W z a, 0, e, cd) := by
        unfold lu
        rw [if_neg c1, if_neg c2, if_neg c3, if_neg c4, if_pos c5]
      rw [eu]
      refine rt_be ((sp_opensOne h01).trans (if_pos (by rw [h81, c5]))) ?_
      (first | refine rt_eq (q_X12_one_0) ?_ | refine rt_eq (q_X12_one_12) ?_ | refine rt_eq (q_X12_one_25) ?_ | refine rt_eq (q_X12_one_47) ?_ | refine rt_eq (q_X12_one_56) ?_ | refine rt_eq (q_X12_one_125) ?_ | refine rt_eq (q_X12_one_66) ?_ | refine rt_eq (q_X12_one_173 (by first | assumption | rfl | exact .inl rfl | exact .inr rfl)) ?_ | refine rt_eq (q_X12_one_134) ?_ | refine rt_eq (q_X12_one_74) ?_ | refine rt_eq (q_X12_one_198) ?_ | refine rt_eq (q_X12_one_185) ?_ | refine rt_eq (q_X12_one_152) ?_ | refine rt_eq (q_X12_one_80) ?_ | refine rt_eq (q_X12_one_201) ?_ | refine rt_eq (q_X12_one_158) ?_ | refine rt_eq (q_X12_one_84) ?_ | refine rt_eq (q_X12_one_90) ?_ | refine rt_eq (q_X12_one_94) ?_ | refine rt_eq (q_X12_one_100) ?_ | refine rt_eq (q_X12_one_106) ?_)
      refine rt_t rfl (rt_ret ⟨okL_f n30 (fr_up (fr_up gx (by decide +kernel)) (by decide +kernel)) ?_ ?_ ⟨sk W z a, hs.2, ?_⟩, rfl⟩)
      · rw [up2_k (by decide), up2_s]
      · rw [up2_s, px]
      · rw [up2_k (by decide), up2_k (by decide), px]
    · obtain ⟨k', rfl⟩ : ∃ k', k = k' + 1 := ⟨k - 1, by omega⟩
      have RS' := RS k' rfl
      have eu : lu W z (recK W z (k' + 1)) o a e cd = lMost W z (lsumK W z k') o a e cd := by
        unfold lu
        rw [if_neg c1, if_neg c2, if_neg c3, if_neg c4, if_neg c5]
        rfl
      refine rt_be ((sp_opensOne h01).trans (if_neg (by rw [h81, nI_eq (by omega) (by decide)]; exact c5))) ?_
      rw [h81, nI_add]
      have gy : Fr fLM I (up2 Ix 72 8 (nI (o + 1))) := fr_up gx (by decide +kernel)
      have y8 : (up2 Ix 72 8 (nI (o + 1))) 72 8 = nI (o + 1) := up2_s
      have y5 : (up2 Ix 72 8 (nI (o + 1))) 72 5 = nI 0 := by rw [up2_k (by decide), h01]
      have y4 : (up2 Ix 72 8 (nI (o + 1))) 72 4 = nI (sk W z a) := by rw [up2_k (by decide), px]
      have yH : MW (up2 Ix 72 8 (nI (o + 1))) e cd := MW_8 Hx
      generalize up2 Ix 72 8 (nI (o + 1)) = Iy at gy y8 y5 y4 yH ⊢
      (first | refine rt_eq (q_X12_one_0) ?_ | refine rt_eq (q_X12_one_12) ?_ | refine rt_eq (q_X12_one_25) ?_ | refine rt_eq (q_X12_one_47) ?_ | refine rt_eq (q_X12_one_56) ?_ | refine rt_eq (q_X12_one_125) ?_ | refine rt_eq (q_X12_one_66) ?_ | refine rt_eq (q_X12_one_173 (by first | assumption | rfl | exact .inl rfl | exact .inr rfl)) ?_ | refine rt_eq (q_X12_one_134) ?_ | refine rt_eq (q_X12_one_74) ?_ | refine rt_eq (q_X12_one_198) ?_ | refine rt_eq (q_X12_one_185) ?_ | refine rt_eq (q_X12_one_152) ?_ | refine rt_eq (q_X12_one_80) ?_ | refine rt_eq (q_X12_one_201) ?_ | refine rt_eq (q_X12_one_158) ?_ | refine rt_eq (q_X12_one_84) ?_ | refine rt_eq (q_X12_one_90) ?_ | refine rt_eq (q_X12_one_94) ?_ | refine rt_eq (q_X12_one_100) ?_ | refine rt_eq (q_X12_one_106) ?_)
      refine rt_f (by decide) (rt_bnd (sp_skipWord (BM_lm B gy) B2 ((lm_2 gy).trans hz) (by omega) ha y4) ?_)
      rintro I2 J2 ⟨⟨k1, k2⟩, rfl⟩
      have g2 : Fr fLM I I2 := fr_tr2 gy k1 lm_5
      have H2 := MW_T (e := e) (by omega) yH (fr_mono k1 (show sbF [(72, 5)] fTM = true by decide))
      (first | refine rt_eq (q_X12_one_0) ?_ | refine rt_eq (q_X12_one_12) ?_ | refine rt_eq (q_X12_one_25) ?_ | refine rt_eq (q_X12_one_47) ?_ | refine rt_eq (q_X12_one_56) ?_ | refine rt_eq (q_X12_one_125) ?_ | refine rt_eq (q_X12_one_66) ?_ | refine rt_eq (q_X12_one_173 (by first | assumption | rfl | exact .inl rfl | exact .inr rfl)) ?_ | refine rt_eq (q_X12_one_134) ?_ | refine rt_eq (q_X12_one_74) ?_ | refine rt_eq (q_X12_one_198) ?_ | refine rt_eq (q_X12_one_185) ?_ | refine rt_eq (q_X12_one_152) ?_ | refine rt_eq (q_X12_one_80) ?_ | refine rt_eq (q_X12_one_201) ?_ | refine rt_eq (q_X12_one_158) ?_ | refine rt_eq (q_X12_one_84) ?_ | refine rt_eq (q_X12_one_90) ?_ | refine rt_eq (q_X12_one_94) ?_ | refine rt_eq (q_X12_one_100) ?_ | refine rt_eq (q_X12_one_106) ?_)
      refine rt_bnd (sp_signM (c := 91) (BM_lm B g2) B2 ((lm_2 g2).trans hz) (by omega) he.2 k2 ((k1 72 5 rfl).trans y5) (by decide)) ?_
      rintro I3 J3 ⟨⟨m1, m2, m3, m4⟩, rfl⟩
      have g3 : Fr fLM I I3 := fr_tr2 g2 m1 lm_T
      have H3 := MW_T (e := e) (by omega) H2 m1
      have z8 : I3 72 8 = nI (o + 1) := by rw [m1 72 8 rfl, k1 72 8 rfl, y8]
      rw [eu]
      by_cases c6 : sgn W z (wE W z a) 91
      · obtain ⟨n4, n5⟩ := m3 c6
        have c61 := c6.1
        have es := sk_le (W := W) he.2
        have em : lMost W z (lsumK W z k') o a e cd = lb W z (lsumK W z k' (o + 1) (sk W z (wE W z a) + 1) e cd) 44 (fun a' e' cd' => lb W z (lsumK W z k' (o + 1) a' e' cd') 93 (fun a2 e2 cd2 => (0, 0, a2, e2 + 1, setC cd2 e2 (lkN W z a - 2, 0)))) := if_pos c6
        rw [em, ekn]
        have gk := lsumK_ok (W := W) (z := z) k' (o + 1) (sk W z (wE W z a) + 1) e cd 0 (by omega) (Nat.zero_le _) c61
        have gk3 := lsumK_3 (W := W) (z := z) k' (o + 1) (sk W z (wE W z a) + 1) e cd
        (first | refine rt_eq (q_X12_one_0) ?_ | refine rt_eq (q_X12_one_12) ?_ | refine rt_eq (q_X12_one_25) ?_ | refine rt_eq (q_X12_one_47) ?_ | refine rt_eq (q_X12_one_56) ?_ | refine rt_eq (q_X12_one_125) ?_ | refine rt_eq (q_X12_one_66) ?_ | refine rt_eq (q_X12_one_173 (by first | assumption | rfl | exact .inl rfl | exact .inr rfl)) ?_ | refine rt_eq (q_X12_one_134) ?_ | refine rt_eq (q_X12_one_74) ?_ | refine rt_eq (q_X12_one_198) ?_ | refine rt_eq (q_X12_one_185) ?_ | refine rt_eq (q_X12_one_152) ?_ | refine rt_eq (q_X12_one_80) ?_ | refine rt_eq (q_X12_one_201) ?_ | refine rt_eq (q_X12_one_158) ?_ | refine rt_eq (q_X12_one_84) ?_ | refine rt_eq (q_X12_one_90) ?_ | refine rt_eq (q_X12_one_94) ?_ | refine rt_eq (q_X12_one_100) ?_ | refine rt_eq (q_X12_one_106) ?_)
        refine rt_bnd (RS' (sk W z (wE W z a) + 1) e cd I3 J3 (BM_lm B g3) ((lm_2 g3).trans hz) c61 n4 n5 z8 H3 (by omega)) ?_
        generalize lsumK W z k' (o + 1) (sk W z (wE W z a) + 1) e cd = Ra at gk gk3
        rintro I4 J4 ⟨⟨q1, q2, q3⟩, rfl⟩
        have g4 : Fr fLM I I4 := fr_tr g3 q1
        by_cases c7 : Ra.1 = 0
        · obtain ⟨r4, r5, r8, rH⟩ := q2 c7
          obtain ⟨t1, t2, t3, t4, t5, t6⟩ := gk c7
          have as := sk_le (W := W) t2
          have h160 : Ra.2.2.2.1 ≤ 160 := by
            clear em c1 c2 c6 gk q2 q3
            omega
          (first | refine rt_eq (q_X12_one_0) ?_ | refine rt_eq (q_X12_one_12) ?_ | refine rt_eq (q_X12_one_25) ?_ | refine rt_eq (q_X12_one_47) ?_ | refine rt_eq (q_X12_one_56) ?_ | refine rt_eq (q_X12_one_125) ?_ | refine rt_eq (q_X12_one_66) ?_ | refine rt_eq (q_X12_one_173 (by first | assumption | rfl | exact .inl rfl | exact .inr rfl)) ?_ | refine rt_eq (q_X12_one_134) ?_ | refine rt_eq (q_X12_one_74) ?_ | refine rt_eq (q_X12_one_198) ?_ | refine rt_eq (q_X12_one_185) ?_ | refine rt_eq (q_X12_one_152) ?_ | refine rt_eq (q_X12_one_80) ?_ | refine rt_eq (q_X12_one_201) ?_ | refine rt_eq (q_X12_one_158) ?_ | refine rt_eq (q_X12_one_84) ?_ | refine rt_eq (q_X12_one_90) ?_ | refine rt_eq (q_X12_one_94) ?_ | refine rt_eq (q_X12_one_100) ?_ | refine rt_eq (q_X12_one_106) ?_)
          refine rt_bnd (sp_signM (c := 44) (BM_lm B g4) B2 ((lm_2 g4).trans hz) (by omega) t2 r4 r5 (by decide)) ?_
          rintro I5 J5 ⟨⟨s1, s2, s3, s4⟩, rfl⟩
          have g5 : Fr fLM I I5 := fr_tr2 g4 s1 lm_T
          have H5 := MW_T h160 rH s1
          by_cases c8 : sgn W z Ra.2.2.1 44
          · obtain ⟨u4, u5⟩ := s3 c8
            have c81 := c8.1
            have el : lb W z Ra 44 (fun a' e' cd' => lb W z (lsumK W z k' (o + 1) a' e' cd') 93 (fun a2 e2 cd2 => (0, 0, a2, e2 + 1, setC cd2 e2 (lw - 2, 0)))) = lb W z (lsumK W z k' (o + 1) (sk W z Ra.2.2.1 + 1) Ra.2.2.2.1 Ra.2.2.2.2) 93 (fun a2 e2 cd2 => (0, 0, a2, e2 + 1, setC cd2 e2 (lw - 2, 0))) := by
              unfold lb
              rw [if_neg (not_not_intro c7), if_pos c8]
            rw [el]
            have gk2 := lsumK_ok (W := W) (z := z) k' (o + 1) (sk W z Ra.2.2.1 + 1) Ra.2.2.2.1 Ra.2.2.2.2 0 (by omega) (Nat.zero_le _) c81
            have gk32 := lsumK_3 (W := W) (z := z) k' (o + 1) (sk W z Ra.2.2.1 + 1) Ra.2.2.2.1 Ra.2.2.2.2
            have hea2 : Ra.2.2.2.1 ≤ sk W z Ra.2.2.1 + 1 := by
              clear el em eu c1 c2 c6 c8 gk gk2 q2 q3 m3 m4 s2 s3 s4
              omega
            (first | refine rt_eq (q_X12_one_0) ?_ | refine rt_eq (q_X12_one_12) ?_ | refine rt_eq (q_X12_one_25) ?_ | refine rt_eq (q_X12_one_47) ?_ | refine rt_eq (q_X12_one_56) ?_ | refine rt_eq (q_X12_one_125) ?_ | refine rt_eq (q_X12_one_66) ?_ | refine rt_eq (q_X12_one_173 (by first | assumption | rfl | exact .inl rfl | exact .inr rfl)) ?_ | refine rt_eq (q_X12_one_134) ?_ | refine rt_eq (q_X12_one_74) ?_ | refine rt_eq (q_X12_one_198) ?_ | refine rt_eq (q_X12_one_185) ?_ | refine rt_eq (q_X12_one_152) ?_ | refine rt_eq (q_X12_one_80) ?_ | refine rt_eq (q_X12_one_201) ?_ | refine rt_eq (q_X12_one_158) ?_ | refine rt_eq (q_X12_one_84) ?_ | refine rt_eq (q_X12_one_90) ?_ | refine rt_eq (q_X12_one_94) ?_ | refine rt_eq (q_X12_one_100) ?_ | refine rt_eq (q_X12_one_106) ?_)
            refine rt_bnd (RS' (sk W z Ra.2.2.1 + 1) Ra.2.2.2.1 Ra.2.2.2.2 I5 J5 (BM_lm B g5) ((lm_2 g5).trans hz) c81 u4 u5 ((s1 72 8 rfl).trans r8) H5 hea2) ?_
            generalize lsumK W z k' (o + 1) (sk W z Ra.2.2.1 + 1) Ra.2.2.2.1 Ra.2.2.2.2 = Rb at gk2 gk32
            rintro I6 J6 ⟨⟨x1, x2, x3⟩, rfl⟩
            have g6 : Fr fLM I I6 := fr_tr g5 x1
            by_cases c9 : Rb.1 = 0
            · obtain ⟨y4, y5, y8, yH⟩ := x2 c9
              obtain ⟨tt1, tt2, tt3, tt4, tt5, tt6⟩ := gk2 c9
              have h160b : Rb.2.2.2.1 < 160 := by
                clear el em eu c1 c2 c6 c8 gk gk2 q2 q3 m3 m4 s2 s3 s4 x2 x3
                omega
              (first | refine rt_eq (q_X12_one_0) ?_ | refine rt_eq (q_X12_one_12) ?_ | refine rt_eq (q_X12_one_25) ?_ | refine rt_eq (q_X12_one_47) ?_ | refine rt_eq (q_X12_one_56) ?_ | refine rt_eq (q_X12_one_125) ?_ | refine rt_eq (q_X12_one_66) ?_ | refine rt_eq (q_X12_one_173 (by first | assumption | rfl | exact .inl rfl | exact .inr rfl)) ?_ | refine rt_eq (q_X12_one_134) ?_ | refine rt_eq (q_X12_one_74) ?_ | refine rt_eq (q_X12_one_198) ?_ | refine rt_eq (q_X12_one_185) ?_ | refine rt_eq (q_X12_one_152) ?_ | refine rt_eq (q_X12_one_80) ?_ | refine rt_eq (q_X12_one_201) ?_ | refine rt_eq (q_X12_one_158) ?_ | refine rt_eq (q_X12_one_84) ?_ | refine rt_eq (q_X12_one_90) ?_ | refine rt_eq (q_X12_one_94) ?_ | refine rt_eq (q_X12_one_100) ?_ | refine rt_eq (q_X12_one_106) ?_)
              refine rt_bnd (sp_signM (c := 93) (BM_lm B g6) B2 ((lm_2 g6).trans hz) (by omega) tt2 y4 y5 (by decide)) ?_
              rintro I7 J7 ⟨⟨z1, z2, z3, z4⟩, rfl⟩
              have g7 : Fr fLM I I7 := fr_tr2 g6 z1 lm_T
              have H7 := MW_T (by omega) yH z1
              by_cases c10 : sgn W z Rb.2.2.1 93
              · obtain ⟨v4, v5⟩ := z3 c10
                have el2 : lb W z Rb 93 (fun a2 e2 cd2 => (0, 0, a2, e2 + 1, setC cd2 e2 (lw - 2, 0))) = (0, 0, sk W z Rb.2.2.1 + 1, Rb.2.2.2.1 + 1, setC Rb.2.2.2.2 Rb.2.2.2.1 (lw - 2, 0)) := by
                  unfold lb
                  rw [if_neg (not_not_intro c9), if_pos c10]
                rw [el2]
                (first | refine rt_eq (q_X12_one_0) ?_ | refine rt_eq (q_X12_one_12) ?_ | refine rt_eq (q_X12_one_25) ?_ | refine rt_eq (q_X12_one_47) ?_ | refine rt_eq (q_X12_one_56) ?_ | refine rt_eq (q_X12_one_125) ?_ | refine rt_eq (q_X12_one_66) ?_ | refine rt_eq (q_X12_one_173 (by first | assumption | rfl | exact .inl rfl | exact .inr rfl)) ?_ | refine rt_eq (q_X12_one_134) ?_ | refine rt_eq (q_X12_one_74) ?_ | refine rt_eq (q_X12_one_198) ?_ | refine rt_eq (q_X12_one_185) ?_ | refine rt_eq (q_X12_one_152) ?_ | refine rt_eq (q_X12_one_80) ?_ | refine rt_eq (q_X12_one_201) ?_ | refine rt_eq (q_X12_one_158) ?_ | refine rt_eq (q_X12_one_84) ?_ | refine rt_eq (q_X12_one_90) ?_ | refine rt_eq (q_X12_one_94) ?_ | refine rt_eq (q_X12_one_100) ?_ | refine rt_eq (q_X12_one_106) ?_)
                refine rt_be (sp_notes v5 H7.1 h160b) ?_
                (first | refine rt_eq (q_X12_one_0) ?_ | refine rt_eq (q_X12_one_12) ?_ | refine rt_eq (q_X12_one_25) ?_ | refine rt_eq (q_X12_one_47) ?_ | refine rt_eq (q_X12_one_56) ?_ | refine rt_eq (q_X12_one_125) ?_ | refine rt_eq (q_X12_one_66) ?_ | refine rt_eq (q_X12_one_173 (by first | assumption | rfl | exact .inl rfl | exact .inr rfl)) ?_ | refine rt_eq (q_X12_one_134) ?_ | refine rt_eq (q_X12_one_74) ?_ | refine rt_eq (q_X12_one_198) ?_ | refine rt_eq (q_X12_one_185) ?_ | refine rt_eq (q_X12_one_152) ?_ | refine rt_eq (q_X12_one_80) ?_ | refine rt_eq (q_X12_one_201) ?_ | refine rt_eq (q_X12_one_158) ?_ | refine rt_eq (q_X12_one_84) ?_ | refine rt_eq (q_X12_one_90) ?_ | refine rt_eq (q_X12_one_94) ?_ | refine rt_eq (q_X12_one_100) ?_ | refine rt_eq (q_X12_one_106) ?_)
                have e8 : I7 72 8 = nI (o + 1) := by rw [z1 72 8 rfl, y8]
                rw [up3_72 (by decide), e8, n_sub1]
                have H8 := MW_add (x := (lw - 2, 0)) (v := nI 0) (fun _ => rfl) H7
                refine rt_ret ⟨⟨?_, fun _ => ⟨?_, ?_, up2_s, MW_8 H8⟩, fun q => absurd rfl q⟩, rfl⟩
                · exact fr_up (fr_up (fr_up (fr_up g7 (in_276 h160b)) (in_276 h160b)) (by decide +kernel)) (by decide +kernel)
                · rw [up2_k (by decide), up3_72 (by decide), v4]
                · rw [up2_k (by decide), up3_72 (by decide), v5]
              · obtain ⟨v5, v6⟩ := z4 c10
                have el2 : lb W z Rb 93 (fun a2 e2 cd2 => (0, 0, a2, e2 + 1, setC cd2 e2 (lw - 2, 0))) = (1, sk W z Rb.2.2.1, 0, Rb.2.2.2.1, Rb.2.2.2.2) := by
                  unfold lb
                  rw [if_neg (not_not_intro c9), if_neg c10]
                rw [el2]
                have x0 : ¬ I7 72 5 = nI 0 := by
                  rw [v5]
                  decide
                (first | refine rt_eq (q_X12_one_0) ?_ | refine rt_eq (q_X12_one_12) ?_ | refine rt_eq (q_X12_one_25) ?_ | refine rt_eq (q_X12_one_47) ?_ | refine rt_eq (q_X12_one_56) ?_ | refine rt_eq (q_X12_one_125) ?_ | refine rt_eq (q_X12_one_66) ?_ | refine rt_eq (q_X12_one_173 (by first | assumption | rfl | exact .inl rfl | exact .inr rfl)) ?_ | refine rt_eq (q_X12_one_134) ?_ | refine rt_eq (q_X12_one_74) ?_ | refine rt_eq (q_X12_one_198) ?_ | refine rt_eq (q_X12_one_185) ?_ | refine rt_eq (q_X12_one_152) ?_ | refine rt_eq (q_X12_one_80) ?_ | refine rt_eq (q_X12_one_201) ?_ | refine rt_eq (q_X12_one_158) ?_ | refine rt_eq (q_X12_one_84) ?_ | refine rt_eq (q_X12_one_90) ?_ | refine rt_eq (q_X12_one_94) ?_ | refine rt_eq (q_X12_one_100) ?_ | refine rt_eq (q_X12_one_106) ?_)
                refine rt_be (sp_notesF x0) ?_
                (first | refine rt_eq (q_X12_one_0) ?_ | refine rt_eq (q_X12_one_12) ?_ | refine rt_eq (q_X12_one_25) ?_ | refine rt_eq (q_X12_one_47) ?_ | refine rt_eq (q_X12_one_56) ?_ | refine rt_eq (q_X12_one_125) ?_ | refine rt_eq (q_X12_one_66) ?_ | refine rt_eq (q_X12_one_173 (by first | assumption | rfl | exact .inl rfl | exact .inr rfl)) ?_ | refine rt_eq (q_X12_one_134) ?_ | refine rt_eq (q_X12_one_74) ?_ | refine rt_eq (q_X12_one_198) ?_ | refine rt_eq (q_X12_one_185) ?_ | refine rt_eq (q_X12_one_152) ?_ | refine rt_eq (q_X12_one_80) ?_ | refine rt_eq (q_X12_one_201) ?_ | refine rt_eq (q_X12_one_158) ?_ | refine rt_eq (q_X12_one_84) ?_ | refine rt_eq (q_X12_one_90) ?_ | refine rt_eq (q_X12_one_94) ?_ | refine rt_eq (q_X12_one_100) ?_ | refine rt_eq (q_X12_one_106) ?_)
                exact rt_ret ⟨okL_8 n10 g7 v5 v6 z2, rfl⟩
            · obtain ⟨y5, y6, y7⟩ := x3 c9
              have el2 : lb W z Rb 93 (fun a2 e2 cd2 => (0, 0, a2, e2 + 1, setC cd2 e2 (lw - 2, 0))) = Rb := if_pos c9
              rw [el2]
              have x0 : ¬ I6 72 5 = nI 0 := by
                rw [y5]
                exact nI_ne0 (by omega) (by omega)
              refine rt_mono (fl_94 (d := d + 3 * (k' + 1)) x0) ?_
              rintro I8 J8 ⟨rfl, rfl⟩
              exact ⟨okL_8 c9 g6 y5 y6 y7, rfl⟩
          · obtain ⟨u5, u6⟩ := s4 c8
            have el : lb W z Ra 44 (fun a' e' cd' => lb W z (lsumK W z k' (o + 1) a' e' cd') 93 (fun a2 e2 cd2 => (0, 0, a2, e2 + 1, setC cd2 e2 (lw - 2, 0)))) = (1, sk W z Ra.2.2.1, 0, Ra.2.2.2.1, Ra.2.2.2.2) := by
              unfold lb
              rw [if_neg (not_not_intro c7), if_neg c8]
            rw [el]
            refine rt_mono (fl_90 (d := d + 3 * (k' + 1)) (by rw [u5]; decide)) ?_
            rintro I8 J8 ⟨rfl, rfl⟩
            exact ⟨okL_8 n10 g5 u5 u6 s2, rfl⟩
        · obtain ⟨y5, y6, y7⟩ := q3 c7
          have el : lb W z Ra 44 (fun a' e' cd' => lb W z (lsumK W z k' (o + 1) a' e' cd') 93 (fun a2 e2 cd2 => (0, 0, a2, e2 + 1, setC cd2 e2 (lw - 2, 0)))) = Ra := if_pos c7
          rw [el]
          refine rt_mono (fl_84 (d := d + 3 * (k' + 1)) (by rw [y5]; exact nI_ne0 (by omega) (by omega))) ?_
          rintro I8 J8 ⟨rfl, rfl⟩
          exact ⟨okL_8 c7 g4 y5 y6 y7, rfl⟩
      · obtain ⟨n5, n6⟩ := m4 c6
        have em : lMost W z (lsumK W z k') o a e cd = (1, sk W z (wE W z a), 0, e, cd) := if_neg c6
        rw [em]
        refine rt_mono (fl_80 (d := d + 3 * (k' + 1)) (by rw [n5]; decide)) ?_
        rintro I8 J8 ⟨rfl, rfl⟩
        exact ⟨okL_8 n10 g3 n5 n6 m2, rfl⟩
  (first | refine rt_eq (q_X12_one_0) ?_ | refine rt_eq (q_X12_one_12) ?_ | refine rt_eq (q_X12_one_25) ?_ | refine rt_eq (q_X12_one_47) ?_ | refine rt_eq (q_X12_one_56) ?_ | refine rt_eq (q_X12_one_125) ?_ | refine rt_eq (q_X12_one_66) ?_ | refine rt_eq (q_X12_one_173 (by first | assumption | rfl | exact .inl rfl | exact .inr rfl)) ?_ | refine rt_eq (q_X12_one_134) ?_ | refine rt_eq (q_X12_one_74) ?_ | refine rt_eq (q_X12_one_198) ?_ | refine rt_eq (q_X12_one_185) ?_ | refine rt_eq (q_X12_one_152) ?_ | refine rt_eq (q_X12_one_80) ?_ | refine rt_eq (q_X12_one_201) ?_ | refine rt_eq (q_X12_one_158) ?_ | refine rt_eq (q_X12_one_84) ?_ | refine rt_eq (q_X12_one_90) ?_ | refine rt_eq (q_X12_one_94) ?_ | refine rt_eq (q_X12_one_100) ?_ | refine rt_eq (q_X12_one_106) ?_)
  cases qL : isWd W z a [108, 101, 97, 115, 116] with
  | true =>
    refine rt_f (show ¬ bI true = nI 0 by decide) ?_
    exact fin56 9 I1 (.inl rfl) (lk_least qL) f1 p1
  | false =>
  refine rt_t bI_f (rt_bnd (sp_isW (w := [109, 111, 115, 116]) (by unfold WdA; decide +kernel) B B2 hz (by omega) ha h0 f1 (.inr p1)) ?_)
  rintro I2 J2 ⟨⟨f2, p2⟩, rfl⟩
  (first | refine rt_eq (q_X12_one_0) ?_ | refine rt_eq (q_X12_one_12) ?_ | refine rt_eq (q_X12_one_25) ?_ | refine rt_eq (q_X12_one_47) ?_ | refine rt_eq (q_X12_one_56) ?_ | refine rt_eq (q_X12_one_125) ?_ | refine rt_eq (q_X12_one_66) ?_ | refine rt_eq (q_X12_one_173 (by first | assumption | rfl | exact .inl rfl | exact .inr rfl)) ?_ | refine rt_eq (q_X12_one_134) ?_ | refine rt_eq (q_X12_one_74) ?_ | refine rt_eq (q_X12_one_198) ?_ | refine rt_eq (q_X12_one_185) ?_ | refine rt_eq (q_X12_one_152) ?_ | refine rt_eq (q_X12_one_80) ?_ | refine rt_eq (q_X12_one_201) ?_ | refine rt_eq (q_X12_one_158) ?_ | refine rt_eq (q_X12_one_84) ?_ | refine rt_eq (q_X12_one_90) ?_ | refine rt_eq (q_X12_one_94) ?_ | refine rt_eq (q_X12_one_100) ?_ | refine rt_eq (q_X12_one_106) ?_)
  cases qM : isWd W z a [109, 111, 115, 116] with
  | true =>
    refine rt_f (show ¬ bI true = nI 0 by decide) ?_
    exact fin56 10 I2 (.inr rfl) (lk_most qM) f2 p2
  | false =>
  refine rt_t bI_f ?_
  have e9 := lk_9 qL qM
  have h02 : I2 72 5 = nI 0 := (f2 72 5 rfl).trans h0
  have h82 : I2 72 8 = nI o := (f2 72 8 rfl).trans h8
  have g2 : Fr fLM I I2 := fr_mono f2 lm_5
  have H2 := MW_T (e := e) (by omega) H (fr_mono f2 (show sbF [(72, 5)] fTM = true by decide))
  (first | refine rt_eq (q_X12_one_0) ?_ | refine rt_eq (q_X12_one_12) ?_ | refine rt_eq (q_X12_one_25) ?_ | refine rt_eq (q_X12_one_47) ?_ | refine rt_eq (q_X12_one_56) ?_ | refine rt_eq (q_X12_one_125) ?_ | refine rt_eq (q_X12_one_66) ?_ | refine rt_eq (q_X12_one_173 (by first | assumption | rfl | exact .inl rfl | exact .inr rfl)) ?_ | refine rt_eq (q_X12_one_134) ?_ | refine rt_eq (q_X12_one_74) ?_ | refine rt_eq (q_X12_one_198) ?_ | refine rt_eq (q_X12_one_185) ?_ | refine rt_eq (q_X12_one_152) ?_ | refine rt_eq (q_X12_one_80) ?_ | refine rt_eq (q_X12_one_201) ?_ | refine rt_eq (q_X12_one_158) ?_ | refine rt_eq (q_X12_one_84) ?_ | refine rt_eq (q_X12_one_90) ?_ | refine rt_eq (q_X12_one_94) ?_ | refine rt_eq (q_X12_one_100) ?_ | refine rt_eq (q_X12_one_106) ?_)
  rw [p2]
  refine rt_t rfl (rt_be (sp_byteM (BM_lm B g2) ((lm_2 g2).trans hz) (by omega) (by omega)) ?_)
  (first | refine rt_eq (q_X12_one_0) ?_ | refine rt_eq (q_X12_one_12) ?_ | refine rt_eq (q_X12_one_25) ?_ | refine rt_eq (q_X12_one_47) ?_ | refine rt_eq (q_X12_one_56) ?_ | refine rt_eq (q_X12_one_125) ?_ | refine rt_eq (q_X12_one_66) ?_ | refine rt_eq (q_X12_one_173 (by first | assumption | rfl | exact .inl rfl | exact .inr rfl)) ?_ | refine rt_eq (q_X12_one_134) ?_ | refine rt_eq (q_X12_one_74) ?_ | refine rt_eq (q_X12_one_198) ?_ | refine rt_eq (q_X12_one_185) ?_ | refine rt_eq (q_X12_one_152) ?_ | refine rt_eq (q_X12_one_80) ?_ | refine rt_eq (q_X12_one_201) ?_ | refine rt_eq (q_X12_one_158) ?_ | refine rt_eq (q_X12_one_84) ?_ | refine rt_eq (q_X12_one_90) ?_ | refine rt_eq (q_X12_one_94) ?_ | refine rt_eq (q_X12_one_100) ?_ | refine rt_eq (q_X12_one_106) ?_)
  by_cases c2 : sgn W z a 40
  · have c1 : ¬ dgt W z a := by
      intro q
      have := of_decide_eq_true q.2
      have := c2.2
      omega
    have c21 := c2.1
    refine rt_t ((by_c (hB _) (by decide)).mpr c2) ?_
    by_cases c5 : o = 6
    · have eu : lu W z (recK W z k) o a e cd = (3, sk W z a, 0, e, cd) := by
        unfold lu
        rw [if_neg c1, if_pos c2, if_pos c5]
      rw [eu]
      refine rt_be ((sp_opensOne h02).trans (if_pos (by rw [h82, c5]))) ?_
      (first | refine rt_eq (q_X12_one_0) ?_ | refine rt_eq (q_X12_one_12) ?_ | refine rt_eq (q_X12_one_25) ?_ | refine rt_eq (q_X12_one_47) ?_ | refine rt_eq (q_X12_one_56) ?_ | refine rt_eq (q_X12_one_125) ?_ | refine rt_eq (q_X12_one_66) ?_ | refine rt_eq (q_X12_one_173 (by first | assumption | rfl | exact .inl rfl | exact .inr rfl)) ?_ | refine rt_eq (q_X12_one_134) ?_ | refine rt_eq (q_X12_one_74) ?_ | refine rt_eq (q_X12_one_198) ?_ | refine rt_eq (q_X12_one_185) ?_ | refine rt_eq (q_X12_one_152) ?_ | refine rt_eq (q_X12_one_80) ?_ | refine rt_eq (q_X12_one_201) ?_ | refine rt_eq (q_X12_one_158) ?_ | refine rt_eq (q_X12_one_84) ?_ | refine rt_eq (q_X12_one_90) ?_ | refine rt_eq (q_X12_one_94) ?_ | refine rt_eq (q_X12_one_100) ?_ | refine rt_eq (q_X12_one_106) ?_)
      refine rt_t rfl (rt_ret ⟨okL_f n30 (fr_up (fr_up g2 (by decide +kernel)) (by decide +kernel)) ?_ ?_ ⟨sk W z a, hs.2, ?_⟩, rfl⟩)
      · rw [up2_k (by decide), up2_s]
      · rw [up2_s, p2]
      · rw [up2_k (by decide), up2_k (by decide), p2]
    · obtain ⟨k', rfl⟩ : ∃ k', k = k' + 1 := ⟨k - 1, by omega⟩
      have RS' := RS k' rfl
      have eu : lu W z (recK W z (k' + 1)) o a e cd = lb W z (lsumK W z k' (o + 1) (sk W z a + 1) e cd) 41 (fun a' e' cd' => (0, 0, a', e', cd')) := by
        unfold lu
        rw [if_neg c1, if_pos c2, if_neg c5]
        rfl
      rw [eu]
      refine rt_be ((sp_opensOne h02).trans (if_neg (by rw [h82, nI_eq (by omega) (by decide)]; exact c5))) ?_
      rw [h82, nI_add]
      (first | refine rt_eq (q_X12_one_0) ?_ | refine rt_eq (q_X12_one_12) ?_ | refine rt_eq (q_X12_one_25) ?_ | refine rt_eq (q_X12_one_47) ?_ | refine rt_eq (q_X12_one_56) ?_ | refine rt_eq (q_X12_one_125) ?_ | refine rt_eq (q_X12_one_66) ?_ | refine rt_eq (q_X12_one_173 (by first | assumption | rfl | exact .inl rfl | exact .inr rfl)) ?_ | refine rt_eq (q_X12_one_134) ?_ | refine rt_eq (q_X12_one_74) ?_ | refine rt_eq (q_X12_one_198) ?_ | refine rt_eq (q_X12_one_185) ?_ | refine rt_eq (q_X12_one_152) ?_ | refine rt_eq (q_X12_one_80) ?_ | refine rt_eq (q_X12_one_201) ?_ | refine rt_eq (q_X12_one_158) ?_ | refine rt_eq (q_X12_one_84) ?_ | refine rt_eq (q_X12_one_90) ?_ | refine rt_eq (q_X12_one_94) ?_ | refine rt_eq (q_X12_one_100) ?_ | refine rt_eq (q_X12_one_106) ?_)
      refine rt_f (by decide) ?_
      rw [show (up2 I2 72 8 (nI (o + 1))) 72 4 = nI (sk W z a) by rw [up2_k (by decide), p2], nI_add]
      have gy : Fr fLM I (up2 (up2 I2 72 8 (nI (o + 1))) 72 4 (nI (sk W z a + 1))) := fr_up (fr_up g2 (by decide +kernel)) (by decide +kernel)
      have y8 : (up2 (up2 I2 72 8 (nI (o + 1))) 72 4 (nI (sk W z a + 1))) 72 8 = nI (o + 1) := by rw [up2_k (by decide), up2_s]
      have y5 : (up2 (up2 I2 72 8 (nI (o + 1))) 72 4 (nI (sk W z a + 1))) 72 5 = nI 0 := by rw [up2_k (by decide), up2_k (by decide), h02]
      have y4 : (up2 (up2 I2 72 8 (nI (o + 1))) 72 4 (nI (sk W z a + 1))) 72 4 = nI (sk W z a + 1) := up2_s
      have yH : MW (up2 (up2 I2 72 8 (nI (o + 1))) 72 4 (nI (sk W z a + 1))) e cd := MW_T (by omega) (MW_8 H2) (fr_up fr_rfl rfl)
      generalize up2 (up2 I2 72 8 (nI (o + 1))) 72 4 (nI (sk W z a + 1)) = Iy at gy y8 y5 y4 yH ⊢
      have gk := lsumK_ok (W := W) (z := z) k' (o + 1) (sk W z a + 1) e cd 0 (by omega) (Nat.zero_le _) c21
      have gk3 := lsumK_3 (W := W) (z := z) k' (o + 1) (sk W z a + 1) e cd
      refine rt_bnd (RS' (sk W z a + 1) e cd Iy J2 (BM_lm B gy) ((lm_2 gy).trans hz) c21 y4 y5 y8 yH (by omega)) ?_
      generalize lsumK W z k' (o + 1) (sk W z a + 1) e cd = Ra at gk gk3
      rintro I4 J4 ⟨⟨q1, q2, q3⟩, rfl⟩
      have g4 : Fr fLM I I4 := fr_tr gy q1
      by_cases c7 : Ra.1 = 0
      · obtain ⟨r4, r5, r8, rH⟩ := q2 c7
        obtain ⟨t1, t2, t3, t4, t5, t6⟩ := gk c7
        have h160 : Ra.2.2.2.1 ≤ 160 := by
          clear c1 c2 gk q2 q3
          omega
        (first | refine rt_eq (q_X12_one_0) ?_ | refine rt_eq (q_X12_one_12) ?_ | refine rt_eq (q_X12_one_25) ?_ | refine rt_eq (q_X12_one_47) ?_ | refine rt_eq (q_X12_one_56) ?_ | refine rt_eq (q_X12_one_125) ?_ | refine rt_eq (q_X12_one_66) ?_ | refine rt_eq (q_X12_one_173 (by first | assumption | rfl | exact .inl rfl | exact .inr rfl)) ?_ | refine rt_eq (q_X12_one_134) ?_ | refine rt_eq (q_X12_one_74) ?_ | refine rt_eq (q_X12_one_198) ?_ | refine rt_eq (q_X12_one_185) ?_ | refine rt_eq (q_X12_one_152) ?_ | refine rt_eq (q_X12_one_80) ?_ | refine rt_eq (q_X12_one_201) ?_ | refine rt_eq (q_X12_one_158) ?_ | refine rt_eq (q_X12_one_84) ?_ | refine rt_eq (q_X12_one_90) ?_ | refine rt_eq (q_X12_one_94) ?_ | refine rt_eq (q_X12_one_100) ?_ | refine rt_eq (q_X12_one_106) ?_)
        refine rt_bnd (sp_signM (c := 41) (BM_lm B g4) B2 ((lm_2 g4).trans hz) (by omega) t2 r4 r5 (by decide)) ?_
        rintro I5 J5 ⟨⟨s1, s2, s3, s4⟩, rfl⟩
        have g5 : Fr fLM I I5 := fr_tr2 g4 s1 lm_T
        have H5 := MW_T h160 rH s1
        have e8 : I5 72 8 = nI (o + 1) := by rw [s1 72 8 rfl, r8]
        (first | refine rt_eq (q_X12_one_0) ?_ | refine rt_eq (q_X12_one_12) ?_ | refine rt_eq (q_X12_one_25) ?_ | refine rt_eq (q_X12_one_47) ?_ | refine rt_eq (q_X12_one_56) ?_ | refine rt_eq (q_X12_one_125) ?_ | refine rt_eq (q_X12_one_66) ?_ | refine rt_eq (q_X12_one_173 (by first | assumption | rfl | exact .inl rfl | exact .inr rfl)) ?_ | refine rt_eq (q_X12_one_134) ?_ | refine rt_eq (q_X12_one_74) ?_ | refine rt_eq (q_X12_one_198) ?_ | refine rt_eq (q_X12_one_185) ?_ | refine rt_eq (q_X12_one_152) ?_ | refine rt_eq (q_X12_one_80) ?_ | refine rt_eq (q_X12_one_201) ?_ | refine rt_eq (q_X12_one_158) ?_ | refine rt_eq (q_X12_one_84) ?_ | refine rt_eq (q_X12_one_90) ?_ | refine rt_eq (q_X12_one_94) ?_ | refine rt_eq (q_X12_one_100) ?_ | refine rt_eq (q_X12_one_106) ?_)
        by_cases c8 : sgn W z Ra.2.2.1 41
        · obtain ⟨u4, u5⟩ := s3 c8
          have el : lb W z Ra 41 (fun a' e' cd' => (0, 0, a', e', cd')) = (0, 0, sk W z Ra.2.2.1 + 1, Ra.2.2.2.1, Ra.2.2.2.2) := by
            unfold lb
            rw [if_neg (not_not_intro c7), if_pos c8]
          rw [el, e8, n_sub1]
          refine rt_ret ⟨⟨fr_up g5 (by decide +kernel), fun _ => ⟨?_, ?_, up2_s, MW_8 H5⟩, fun q => absurd rfl q⟩, rfl⟩
          · rw [up2_k (by decide), u4]
          · rw [up2_k (by decide), u5]
        · obtain ⟨u5, u6⟩ := s4 c8
          have el : lb W z Ra 41 (fun a' e' cd' => (0, 0, a', e', cd')) = (1, sk W z Ra.2.2.1, 0, Ra.2.2.2.1, Ra.2.2.2.2) := by
            unfold lb
            rw [if_neg (not_not_intro c7), if_neg c8]
          rw [el]
          exact rt_ret ⟨okL_8 n10 g5 u5 u6 s2, rfl⟩
      · obtain ⟨y5, y6, y7⟩ := q3 c7
        have el : lb W z Ra 41 (fun a' e' cd' => (0, 0, a', e', cd')) = Ra := if_pos c7
        rw [el]
        refine rt_mono (fl_152 (d := d + 3 * (k' + 1)) (by rw [y5]; exact nI_ne0 (by omega) (by omega))) ?_
        rintro I8 J8 ⟨rfl, rfl⟩
        exact ⟨okL_8 c7 g4 y5 y6 y7, rfl⟩
  · refine rt_f (fun q => c2 ((by_c (hB _) (by decide)).mp q)) ?_
    refine rt_bnd (sp_knownHere (d := d + 3 * k) (BM_lm B g2) B2 ((lm_2 g2).trans hz) (by omega) ha p2 h02) ?_
    rintro I3 J3 ⟨⟨k1, k2, k3⟩, rfl⟩
    rw [← e9] at k2 k3 ⊢
    have g3 : Fr fLM I I3 := fr_tr2 g2 k1 lm_5
    have H3 := MW_T (e := e) (by omega) H2 (fr_mono k1 (show sbF [(72, 5)] fTM = true by decide))
    have h03 : I3 72 5 = nI 0 := (k1 72 5 rfl).trans h02
    have h83 : I3 72 8 = nI o := (k1 72 8 rfl).trans h82
    have hu1 : okv (some (.int (-1))) = true := rfl
    (first | refine rt_eq (q_X12_one_0) ?_ | refine rt_eq (q_X12_one_12) ?_ | refine rt_eq (q_X12_one_25) ?_ | refine rt_eq (q_X12_one_47) ?_ | refine rt_eq (q_X12_one_56) ?_ | refine rt_eq (q_X12_one_125) ?_ | refine rt_eq (q_X12_one_66) ?_ | refine rt_eq (q_X12_one_173 (by first | assumption | rfl | exact .inl rfl | exact .inr rfl)) ?_ | refine rt_eq (q_X12_one_134) ?_ | refine rt_eq (q_X12_one_74) ?_ | refine rt_eq (q_X12_one_198) ?_ | refine rt_eq (q_X12_one_185) ?_ | refine rt_eq (q_X12_one_152) ?_ | refine rt_eq (q_X12_one_80) ?_ | refine rt_eq (q_X12_one_201) ?_ | refine rt_eq (q_X12_one_158) ?_ | refine rt_eq (q_X12_one_84) ?_ | refine rt_eq (q_X12_one_90) ?_ | refine rt_eq (q_X12_one_94) ?_ | refine rt_eq (q_X12_one_100) ?_ | refine rt_eq (q_X12_one_106) ?_)
    by_cases c3 : lkI W z a = -1
    · have l4 := k2 c3
      refine rt_t c3 ?_
      have nm := sp_number (d := d + 3 * k + 3) (L := L) (X := X) (J := J3) (lo := nI 0) (hi := nI 999) (BM_lm B g3) B2 ((lm_2 g3).trans hz) (by omega) hs.2 l4 h03
      rw [nmF_sk ha, nmV_sk ha, sk_sk ha] at nm
      refine rt_bnd nm ?_
      rintro I4 J4 ⟨⟨m1, m2, m3, m4⟩, rfl⟩
      have g4 : Fr fLM I I4 := fr_tr2 g3 m1 lm_T
      have H4 := MW_T (e := e) (by omega) H3 m1
      by_cases c4 : nmF W z a (nI 0) (nI 999) = 0
      · obtain ⟨n4, n5⟩ := m3 c4
        have c1 : dgt W z a := by
          unfold nmF at c4
          by_cases q : sk W z a < z ∧ isG W (sk W z a) = true
          · exact q
          · rw [if_neg q] at c4
            exact absurd c4 (by decide)
        have eu : lu W z (recK W z k) o a e cd = (0, 0, (nmV W z a).1, e + 1, setC cd e (0, (nmV W z a).2)) := by
          unfold lu
          rw [if_pos c1, if_pos c4]
        rw [eu, if_pos c4]
        (first | refine rt_eq (q_X12_one_0) ?_ | refine rt_eq (q_X12_one_12) ?_ | refine rt_eq (q_X12_one_25) ?_ | refine rt_eq (q_X12_one_47) ?_ | refine rt_eq (q_X12_one_56) ?_ | refine rt_eq (q_X12_one_125) ?_ | refine rt_eq (q_X12_one_66) ?_ | refine rt_eq (q_X12_one_173 (by first | assumption | rfl | exact .inl rfl | exact .inr rfl)) ?_ | refine rt_eq (q_X12_one_134) ?_ | refine rt_eq (q_X12_one_74) ?_ | refine rt_eq (q_X12_one_198) ?_ | refine rt_eq (q_X12_one_185) ?_ | refine rt_eq (q_X12_one_152) ?_ | refine rt_eq (q_X12_one_80) ?_ | refine rt_eq (q_X12_one_201) ?_ | refine rt_eq (q_X12_one_158) ?_ | refine rt_eq (q_X12_one_84) ?_ | refine rt_eq (q_X12_one_90) ?_ | refine rt_eq (q_X12_one_94) ?_ | refine rt_eq (q_X12_one_100) ?_ | refine rt_eq (q_X12_one_106) ?_)
        refine rt_be (sp_notes n5 H4.1 (by omega)) ?_
        (first | refine rt_eq (q_X12_one_0) ?_ | refine rt_eq (q_X12_one_12) ?_ | refine rt_eq (q_X12_one_25) ?_ | refine rt_eq (q_X12_one_47) ?_ | refine rt_eq (q_X12_one_56) ?_ | refine rt_eq (q_X12_one_125) ?_ | refine rt_eq (q_X12_one_66) ?_ | refine rt_eq (q_X12_one_173 (by first | assumption | rfl | exact .inl rfl | exact .inr rfl)) ?_ | refine rt_eq (q_X12_one_134) ?_ | refine rt_eq (q_X12_one_74) ?_ | refine rt_eq (q_X12_one_198) ?_ | refine rt_eq (q_X12_one_185) ?_ | refine rt_eq (q_X12_one_152) ?_ | refine rt_eq (q_X12_one_80) ?_ | refine rt_eq (q_X12_one_201) ?_ | refine rt_eq (q_X12_one_158) ?_ | refine rt_eq (q_X12_one_84) ?_ | refine rt_eq (q_X12_one_90) ?_ | refine rt_eq (q_X12_one_94) ?_ | refine rt_eq (q_X12_one_100) ?_ | refine rt_eq (q_X12_one_106) ?_)
        have H5 := MW_add (x := (0, (nmV W z a).2)) (v := nI (nmV W z a).2) (fun _ => rfl) H4
        refine rt_ret ⟨⟨fr_up (fr_up (fr_up g4 (in_276 (by omega))) (in_276 (by omega))) (by decide +kernel), fun _ => ⟨?_, ?_, ?_, H5⟩, fun q => absurd rfl q⟩, rfl⟩
        · rw [up3_72 (by decide), n4]
        · rw [up3_72 (by decide), n5]
        · rw [up3_72 (by decide), m1 72 8 rfl, h83]
      · obtain ⟨n5, n6⟩ := m4 c4
        rw [if_neg c4]
        have x0 : ¬ I4 72 5 = nI 0 := by
          rw [n5]
          exact nI_ne0 (by omega) nmF_lt
        (first | refine rt_eq (q_X12_one_0) ?_ | refine rt_eq (q_X12_one_12) ?_ | refine rt_eq (q_X12_one_25) ?_ | refine rt_eq (q_X12_one_47) ?_ | refine rt_eq (q_X12_one_56) ?_ | refine rt_eq (q_X12_one_125) ?_ | refine rt_eq (q_X12_one_66) ?_ | refine rt_eq (q_X12_one_173 (by first | assumption | rfl | exact .inl rfl | exact .inr rfl)) ?_ | refine rt_eq (q_X12_one_134) ?_ | refine rt_eq (q_X12_one_74) ?_ | refine rt_eq (q_X12_one_198) ?_ | refine rt_eq (q_X12_one_185) ?_ | refine rt_eq (q_X12_one_152) ?_ | refine rt_eq (q_X12_one_80) ?_ | refine rt_eq (q_X12_one_201) ?_ | refine rt_eq (q_X12_one_158) ?_ | refine rt_eq (q_X12_one_84) ?_ | refine rt_eq (q_X12_one_90) ?_ | refine rt_eq (q_X12_one_94) ?_ | refine rt_eq (q_X12_one_100) ?_ | refine rt_eq (q_X12_one_106) ?_)
        refine rt_be (sp_notesF x0) ?_
        (first | refine rt_eq (q_X12_one_0) ?_ | refine rt_eq (q_X12_one_12) ?_ | refine rt_eq (q_X12_one_25) ?_ | refine rt_eq (q_X12_one_47) ?_ | refine rt_eq (q_X12_one_56) ?_ | refine rt_eq (q_X12_one_125) ?_ | refine rt_eq (q_X12_one_66) ?_ | refine rt_eq (q_X12_one_173 (by first | assumption | rfl | exact .inl rfl | exact .inr rfl)) ?_ | refine rt_eq (q_X12_one_134) ?_ | refine rt_eq (q_X12_one_74) ?_ | refine rt_eq (q_X12_one_198) ?_ | refine rt_eq (q_X12_one_185) ?_ | refine rt_eq (q_X12_one_152) ?_ | refine rt_eq (q_X12_one_80) ?_ | refine rt_eq (q_X12_one_201) ?_ | refine rt_eq (q_X12_one_158) ?_ | refine rt_eq (q_X12_one_84) ?_ | refine rt_eq (q_X12_one_90) ?_ | refine rt_eq (q_X12_one_94) ?_ | refine rt_eq (q_X12_one_100) ?_ | refine rt_eq (q_X12_one_106) ?_)
        by_cases c1 : dgt W z a
        · have eu : lu W z (recK W z k) o a e cd = (nmF W z a (nI 0) (nI 999), sk W z a, 0, e, cd) := by
            unfold lu
            rw [if_pos c1, if_neg c4]
          rw [eu]
          exact rt_ret ⟨okL_f (R := (nmF W z a (nI 0) (nI 999), sk W z a, 0, e, cd)) c4 g4 n5 n6 m2, rfl⟩
        · have eu : lu W z (recK W z k) o a e cd = (1, sk W z a, 0, e, cd) := by
            unfold lu
            rw [if_neg c1, if_neg c2, if_pos c3]
          have en : nmF W z a (nI 0) (nI 999) = 1 := if_neg c1
          rw [en] at n5
          rw [eu]
          exact rt_ret ⟨okL_f n10 g4 n5 n6 m2, rfl⟩
    · obtain ⟨w1, w2, w3⟩ := lk_n c3
      obtain ⟨c1, _⟩ := lk_let ha c3
      have l4 := k3 c3
      have c4 : lkN W z a < 9 := by
        rcases plA_or (W := W) (t := sk W z a) (e := wE W z a) wd9 0 with q | ⟨j, q1, q2⟩
        · exact absurd (e9.trans q) c3
        · have e1 : nI (lkN W z a) = nI (0 + j) := w1.symm.trans (e9.trans q1)
          have h9 : wd9.length = 9 := rfl
          have := (nI_eq (by omega) (by omega)).mp e1
          omega
      have eu : lu W z (recK W z k) o a e cd = (0, 0, wE W z a, e + 1, setC cd e (1, lkN W z a)) := by
        unfold lu
        rw [if_neg c1, if_neg c2, if_neg c3, if_pos c4]
      rw [eu]
      refine rt_f c3 ?_
      rw [w1]
      refine rt_be (sp_notes h03 H3.1 (by omega)) ?_
      (first | refine rt_eq (q_X12_one_0) ?_ | refine rt_eq (q_X12_one_12) ?_ | refine rt_eq (q_X12_one_25) ?_ | refine rt_eq (q_X12_one_47) ?_ | refine rt_eq (q_X12_one_56) ?_ | refine rt_eq (q_X12_one_125) ?_ | refine rt_eq (q_X12_one_66) ?_ | refine rt_eq (q_X12_one_173 (by first | assumption | rfl | exact .inl rfl | exact .inr rfl)) ?_ | refine rt_eq (q_X12_one_134) ?_ | refine rt_eq (q_X12_one_74) ?_ | refine rt_eq (q_X12_one_198) ?_ | refine rt_eq (q_X12_one_185) ?_ | refine rt_eq (q_X12_one_152) ?_ | refine rt_eq (q_X12_one_80) ?_ | refine rt_eq (q_X12_one_201) ?_ | refine rt_eq (q_X12_one_158) ?_ | refine rt_eq (q_X12_one_84) ?_ | refine rt_eq (q_X12_one_90) ?_ | refine rt_eq (q_X12_one_94) ?_ | refine rt_eq (q_X12_one_100) ?_ | refine rt_eq (q_X12_one_106) ?_)
      have H5 := MW_add (x := (1, lkN W z a)) (v := nI (lkN W z a)) (fun _ => rfl) H3
      refine rt_ret ⟨⟨fr_up (fr_up (fr_up g3 (in_276 (by omega))) (in_276 (by omega))) (by decide +kernel), fun _ => ⟨?_, ?_, ?_, H5⟩, fun q => absurd rfl q⟩, rfl⟩
      · rw [up3_72 (by decide), l4]
      · rw [up3_72 (by decide), h03]
      · rw [up3_72 (by decide), h83]
set_option maxHeartbeats 8000000 in
theorem lp_mp {D : Nat} {u : LRec} {m : Nat → Nat} (B2 : ∀ k, k < 600 → W k < 256) (hz2 : z ≤ 150) (ho : o ≤ 6) (hu : MR (D + 3) L X nX12_one W z u o) (gu : gR z m u) (g3u : r3 u) (B : BM I W) (hz : I 72 2 = nI z) : ∀ f a e cd I' u1, z - a < f → a ≤ z → e ≤ a → Fr fLM I I' → I' 72 4 = nI a → I' 72 5 = nI 0 → I' 72 8 = nI o → MW I' e cd → Rt L X (c_X12_product_4 (D + 3) L X I' J u1) none (fun I'' J' => okL z I I'' o (lL W z (opP W z) u f o a e cd) ∧ J' = J)
  | 0, a, e, cd, I', u1, hf => absurd hf (Nat.not_lt_zero _)
  | f + 1, a, e, cd, I', u1, hf => by
    intro ha hea fr h4 h0 h8 H
    have ih := lp_mp B2 hz2 ho hu gu g3u B hz f
    have hs := sk_le (W := W) ha
    have hB : ∀ s, s < z → W s < 256 := fun s q => B2 s (by omega)
    have el0 : opP W z a = 0 → lL W z (opP W z) u (f + 1) o a e cd = (0, 0, sk W z a, e, cd) := fun c1 => if_pos c1
    have el1 : ¬ opP W z a = 0 → lL W z (opP W z) u (f + 1) o a e cd = if ¬ (u o (sk W z a + 1) e cd).1 = 0 then u o (sk W z a + 1) e cd else lL W z (opP W z) u f o (u o (sk W z a + 1) e cd).2.2.1 ((u o (sk W z a + 1) e cd).2.2.2.1 + 1) (setC (u o (sk W z a + 1) e cd).2.2.2.2 (u o (sk W z a + 1) e cd).2.2.2.1 (opP W z a, 0)) := fun c1 => if_neg c1
    have go : ∀ c p (I1 : MI32) u1', ((c = 42 ∧ p = 4) ∨ (c = 47 ∧ p = 5) ∨ (c = 37 ∧ p = 6)) → sk W z a < z ∧ W (sk W z a) = c → Fr [(72, 5)] I' I1 → I1 72 4 = nI (sk W z a + 1) → Rt L X (runI (runM (D + 3)) iX12_product (52, [some (.ref 72), u1'], [.int (nI p)], mm L X I1 J)) none (fun I'' J' => okL z I I'' o (lL W z (opP W z) u (f + 1) o a e cd) ∧ J' = J) := by
      intro c p I1 u1' hcp hWc f1 p1
      have q1 := hWc.1
      have ep : opP W z a = p := opP_e hWc hcp
      have el := el1 (by rw [ep]; omega)
      have g1 : Fr fLM I I1 := fr_tr2 fr f1 lm_5
      have H1 := MW_T (e := e) (by omega) H (fr_mono f1 (show sbF [(72, 5)] fTM = true by decide))
      (first | refine rt_eq (q_X12_product_0) ?_ | refine rt_eq (q_X12_product_4) ?_ | refine rt_eq (q_X12_product_17) ?_ | refine rt_eq (q_X12_product_30) ?_ | refine rt_eq (q_X12_product_52) ?_ | refine rt_eq (q_X12_product_43) ?_ | refine rt_eq (q_X12_product_63) ?_ | refine rt_eq (q_X12_product_69) ?_)
      refine rt_f (nI_m1 _ (by omega)) ?_
      have gk := gu o (sk W z a + 1) e cd 0 ho (Nat.zero_le _) q1
      have gk3 := g3u o (sk W z a + 1) e cd
      refine rt_bnd (hu (sk W z a + 1) e cd I1 J (BM_lm B g1) ((lm_2 g1).trans hz) q1 p1 ((f1 72 5 rfl).trans h0) ((f1 72 8 rfl).trans h8) H1 (by omega)) ?_
      rw [ep] at el
      rw [el]
      generalize u o (sk W z a + 1) e cd = R at gk gk3
      rintro I3 J3 ⟨⟨m1, m2, m3⟩, rfl⟩
      have g3 : Fr fLM I I3 := fr_tr g1 m1
      by_cases c4 : R.1 = 0
      · obtain ⟨n4, n5, n8, nH⟩ := m2 c4
        obtain ⟨t1, t2, t3, t4, t5, t6⟩ := gk c4
        have ar := ar4 (i := 0) hs.1 t1 t2 t4 hea (Nat.zero_le _) hz2
        rw [if_neg (not_not_intro c4)]
        (first | refine rt_eq (q_X12_product_0) ?_ | refine rt_eq (q_X12_product_4) ?_ | refine rt_eq (q_X12_product_17) ?_ | refine rt_eq (q_X12_product_30) ?_ | refine rt_eq (q_X12_product_52) ?_ | refine rt_eq (q_X12_product_43) ?_ | refine rt_eq (q_X12_product_63) ?_ | refine rt_eq (q_X12_product_69) ?_)
        refine rt_be (sp_notes n5 nH.1 (by have := ar.2.1; clear ar el m2 m3 gk el0 el1; omega)) ?_
        (first | refine rt_eq (q_X12_product_0) ?_ | refine rt_eq (q_X12_product_4) ?_ | refine rt_eq (q_X12_product_17) ?_ | refine rt_eq (q_X12_product_30) ?_ | refine rt_eq (q_X12_product_52) ?_ | refine rt_eq (q_X12_product_43) ?_ | refine rt_eq (q_X12_product_63) ?_ | refine rt_eq (q_X12_product_69) ?_)
        have H4 := MW_add (x := (p, 0)) (v := nI 0) (fun _ => rfl) nH
        have h160 : R.2.2.2.1 < 160 := by
          have := ar.2.1
          clear ar el m2 m3 gk el0 el1
          omega
        refine ih R.2.2.1 (R.2.2.2.1 + 1) (setC R.2.2.2.2 R.2.2.2.1 (p, 0)) _ _ ?_ t2 ar.1 (fr_up (fr_up (fr_up g3 (in_276 h160)) (in_276 h160)) (by decide +kernel)) ?_ ?_ ?_ H4
        · have := ar.2.2.2
          clear ar el m2 m3 gk el0 el1 t6
          omega
        · rw [up3_72 (by decide), n4]
        · rw [up3_72 (by decide), n5]
        · rw [up3_72 (by decide), n8]
      · obtain ⟨n5, n6, n7⟩ := m3 c4
        have x0 : ¬ I3 72 5 = nI 0 := by
          rw [n5]
          exact nI_ne0 (by omega) (by omega)
        rw [if_pos c4]
        (first | refine rt_eq (q_X12_product_0) ?_ | refine rt_eq (q_X12_product_4) ?_ | refine rt_eq (q_X12_product_17) ?_ | refine rt_eq (q_X12_product_30) ?_ | refine rt_eq (q_X12_product_52) ?_ | refine rt_eq (q_X12_product_43) ?_ | refine rt_eq (q_X12_product_63) ?_ | refine rt_eq (q_X12_product_69) ?_)
        refine rt_be (sp_notesF x0) ?_
        (first | refine rt_eq (q_X12_product_0) ?_ | refine rt_eq (q_X12_product_4) ?_ | refine rt_eq (q_X12_product_17) ?_ | refine rt_eq (q_X12_product_30) ?_ | refine rt_eq (q_X12_product_52) ?_ | refine rt_eq (q_X12_product_43) ?_ | refine rt_eq (q_X12_product_63) ?_ | refine rt_eq (q_X12_product_69) ?_)
        (first | refine rt_eq (q_X12_product_0) ?_ | refine rt_eq (q_X12_product_4) ?_ | refine rt_eq (q_X12_product_17) ?_ | refine rt_eq (q_X12_product_30) ?_ | refine rt_eq (q_X12_product_52) ?_ | refine rt_eq (q_X12_product_43) ?_ | refine rt_eq (q_X12_product_63) ?_ | refine rt_eq (q_X12_product_69) ?_)
        exact rt_f x0 (rt_ret ⟨okL_f c4 g3 n5 n6 n7, rfl⟩)
    (first | refine rt_eq (q_X12_product_0) ?_ | refine rt_eq (q_X12_product_4) ?_ | refine rt_eq (q_X12_product_17) ?_ | refine rt_eq (q_X12_product_30) ?_ | refine rt_eq (q_X12_product_52) ?_ | refine rt_eq (q_X12_product_43) ?_ | refine rt_eq (q_X12_product_63) ?_ | refine rt_eq (q_X12_product_69) ?_)
    refine rt_t h0 ?_
    refine rt_bnd (sp_takesSign (c := 42) (BM_lm B fr) B2 ((lm_2 fr).trans hz) (by omega) ha h4 h0 (by decide)) ?_
    rintro I1 J1 ⟨⟨f1, p1⟩, rfl⟩
    have F1 : Fr [(72, 5)] I' I1 := f1
    (first | refine rt_eq (q_X12_product_0) ?_ | refine rt_eq (q_X12_product_4) ?_ | refine rt_eq (q_X12_product_17) ?_ | refine rt_eq (q_X12_product_30) ?_ | refine rt_eq (q_X12_product_52) ?_ | refine rt_eq (q_X12_product_43) ?_ | refine rt_eq (q_X12_product_63) ?_ | refine rt_eq (q_X12_product_69) ?_)
    by_cases c1 : sk W z a < z ∧ W (sk W z a) = 42
    · rw [if_pos c1] at p1
      rw [decide_eq_true c1]
      exact rt_f (show ¬ bI true = nI 0 by decide) (go 42 4 I1 _ (.inl ⟨rfl, rfl⟩) c1 F1 p1)
    rw [if_neg c1] at p1
    rw [decide_eq_false c1]
    refine rt_t bI_f ?_
    have G1 : Fr fLM I I1 := fr_tr2 fr F1 lm_5
    have sg1 := sp_takesSign (d := D) (L := L) (X := X) (J := J1) (c := 47) (BM_lm B G1) B2 ((lm_2 G1).trans hz) (by omega) hs.2 p1 ((F1 72 5 rfl).trans h0) (by decide)
    rw [sk_sk ha] at sg1
    refine rt_bnd sg1 ?_
    rintro I2 J2 ⟨⟨f2, p2⟩, rfl⟩
    have F2 : Fr [(72, 5)] I' I2 := fr_tr F1 f2
    (first | refine rt_eq (q_X12_product_0) ?_ | refine rt_eq (q_X12_product_4) ?_ | refine rt_eq (q_X12_product_17) ?_ | refine rt_eq (q_X12_product_30) ?_ | refine rt_eq (q_X12_product_52) ?_ | refine rt_eq (q_X12_product_43) ?_ | refine rt_eq (q_X12_product_63) ?_ | refine rt_eq (q_X12_product_69) ?_)
    by_cases c2 : sk W z a < z ∧ W (sk W z a) = 47
    · rw [if_pos c2] at p2
      rw [decide_eq_true c2]
      exact rt_f (show ¬ bI true = nI 0 by decide) (go 47 5 I2 _ (.inr (.inl ⟨rfl, rfl⟩)) c2 F2 p2)
    rw [if_neg c2] at p2
    rw [decide_eq_false c2]
    refine rt_t bI_f ?_
    have G2 : Fr fLM I I2 := fr_tr2 fr F2 lm_5
    have sg2 := sp_takesSign (d := D) (L := L) (X := X) (J := J2) (c := 37) (BM_lm B G2) B2 ((lm_2 G2).trans hz) (by omega) hs.2 p2 ((F2 72 5 rfl).trans h0) (by decide)
    rw [sk_sk ha] at sg2
    refine rt_bnd sg2 ?_
    rintro I3 J3 ⟨⟨f3, p3⟩, rfl⟩
    have F3 : Fr [(72, 5)] I' I3 := fr_tr F2 f3
    (first | refine rt_eq (q_X12_product_0) ?_ | refine rt_eq (q_X12_product_4) ?_ | refine rt_eq (q_X12_product_17) ?_ | refine rt_eq (q_X12_product_30) ?_ | refine rt_eq (q_X12_product_52) ?_ | refine rt_eq (q_X12_product_43) ?_ | refine rt_eq (q_X12_product_63) ?_ | refine rt_eq (q_X12_product_69) ?_)
    by_cases c3 : sk W z a < z ∧ W (sk W z a) = 37
    · rw [if_pos c3] at p3
      rw [decide_eq_true c3]
      exact rt_f (show ¬ bI true = nI 0 by decide) (go 37 6 I3 _ (.inr (.inr ⟨rfl, rfl⟩)) c3 F3 p3)
    rw [if_neg c3] at p3
    rw [decide_eq_false c3]
    refine rt_t bI_f ?_
    (first | refine rt_eq (q_X12_product_0) ?_ | refine rt_eq (q_X12_product_4) ?_ | refine rt_eq (q_X12_product_17) ?_ | refine rt_eq (q_X12_product_30) ?_ | refine rt_eq (q_X12_product_52) ?_ | refine rt_eq (q_X12_product_43) ?_ | refine rt_eq (q_X12_product_63) ?_ | refine rt_eq (q_X12_product_69) ?_)
    have c0 : opP W z a = 0 := by
      by_cases q : opP W z a = 0
      · exact q
      · obtain ⟨q1, q2⟩ := opP_0 q
        rcases q2 with q2 | q2 | q2
        · exact absurd ⟨q1, q2⟩ c1
        · exact absurd ⟨q1, q2⟩ c2
        · exact absurd ⟨q1, q2⟩ c3
    rw [el0 c0]
    exact rt_t rfl (rt_ret ⟨⟨fr_tr2 fr F3 lm_5, fun _ => ⟨p3, (F3 72 5 rfl).trans h0, (F3 72 8 rfl).trans h8, MW_T (e := e) (show e ≤ 160 by omega) H (fr_mono F3 (show sbF [(72, 5)] fTM = true by decide))⟩, fun q => absurd rfl q⟩, rfl⟩)
theorem mr_mp {D : Nat} {u : LRec} {m : Nat → Nat} (B2 : ∀ k, k < 600 → W k < 256) (hz2 : z ≤ 150) (ho : o ≤ 6) (hu : MR (D + 3) L X nX12_one W z u o) (gu : gR z m u) (g3u : r3 u) : MR (D + 4) L X nX12_product W z (lT W z (opP W z) u) o := by
  intro a e cd I J B hz ha h4 h0 h8 H hea
  rw [e_X12_product]
  (first | refine rt_eq (q_X12_product_0) ?_ | refine rt_eq (q_X12_product_4) ?_ | refine rt_eq (q_X12_product_17) ?_ | refine rt_eq (q_X12_product_30) ?_ | refine rt_eq (q_X12_product_52) ?_ | refine rt_eq (q_X12_product_43) ?_ | refine rt_eq (q_X12_product_63) ?_ | refine rt_eq (q_X12_product_69) ?_)
  have gk := gu o a e cd 0 ho (Nat.zero_le _) ha
  have gk3 := g3u o a e cd
  refine rt_bnd (hu a e cd I J B hz ha h4 h0 h8 H hea) ?_
  have et : lT W z (opP W z) u o a e cd = if ¬ (u o a e cd).1 = 0 then u o a e cd else lL W z (opP W z) u (z + 1) o (u o a e cd).2.2.1 (u o a e cd).2.2.2.1 (u o a e cd).2.2.2.2 := rfl
  rw [et]
  generalize u o a e cd = R0 at gk gk3
  rintro I1 J1 ⟨⟨m1, m2, m3⟩, rfl⟩
  by_cases c4 : R0.1 = 0
  · obtain ⟨n4, n5, n8, nH⟩ := m2 c4
    obtain ⟨t1, t2, t3, t4, t5, t6⟩ := gk c4
    rw [if_neg (not_not_intro c4)]
    exact lp_mp (I := I) B2 hz2 ho hu gu g3u B hz (z + 1) R0.2.2.1 R0.2.2.2.1 R0.2.2.2.2 I1 _ (by omega) t2 (by clear m2 m3 gk; omega) m1 n4 n5 n8 nH
  · obtain ⟨n5, n6, n7⟩ := m3 c4
    rw [if_pos c4]
    (first | refine rt_eq (q_X12_product_0) ?_ | refine rt_eq (q_X12_product_4) ?_ | refine rt_eq (q_X12_product_17) ?_ | refine rt_eq (q_X12_product_30) ?_ | refine rt_eq (q_X12_product_52) ?_ | refine rt_eq (q_X12_product_43) ?_ | refine rt_eq (q_X12_product_63) ?_ | refine rt_eq (q_X12_product_69) ?_)
    refine rt_f (by rw [n5]; exact nI_ne0 (by omega) (by omega)) (rt_ret ⟨okL_f c4 m1 n5 n6 n7, rfl⟩)
set_option maxHeartbeats 8000000 in
theorem lp_ms {D : Nat} {u : LRec} {m : Nat → Nat} (B2 : ∀ k, k < 600 → W k < 256) (hz2 : z ≤ 150) (ho : o ≤ 6) (hu : MR (D + 3) L X nX12_product W z u o) (gu : gR z m u) (g3u : r3 u) (B : BM I W) (hz : I 72 2 = nI z) : ∀ f a e cd I' u1, z - a < f → a ≤ z → e ≤ a → Fr fLM I I' → I' 72 4 = nI a → I' 72 5 = nI 0 → I' 72 8 = nI o → MW I' e cd → Rt L X (c_X12_sum_4 (D + 3) L X I' J u1) none (fun I'' J' => okL z I I'' o (lL W z (opS W z) u f o a e cd) ∧ J' = J)
  | 0, a, e, cd, I', u1, hf => absurd hf (Nat.not_lt_zero _)
  | f + 1, a, e, cd, I', u1, hf => by
    intro ha hea fr h4 h0 h8 H
    have ih := lp_ms B2 hz2 ho hu gu g3u B hz f
    have hs := sk_le (W := W) ha
    have hB : ∀ s, s < z → W s < 256 := fun s q => B2 s (by omega)
    have el0 : opS W z a = 0 → lL W z (opS W z) u (f + 1) o a e cd = (0, 0, sk W z a, e, cd) := fun c1 => if_pos c1
    have el1 : ¬ opS W z a = 0 → lL W z (opS W z) u (f + 1) o a e cd = if ¬ (u o (sk W z a + 1) e cd).1 = 0 then u o (sk W z a + 1) e cd else lL W z (opS W z) u f o (u o (sk W z a + 1) e cd).2.2.1 ((u o (sk W z a + 1) e cd).2.2.2.1 + 1) (setC (u o (sk W z a + 1) e cd).2.2.2.2 (u o (sk W z a + 1) e cd).2.2.2.1 (opS W z a, 0)) := fun c1 => if_neg c1
    have go : ∀ c p (I1 : MI32) u1', ((c = 43 ∧ p = 2) ∨ (c = 45 ∧ p = 3)) → sk W z a < z ∧ W (sk W z a) = c → Fr [(72, 5)] I' I1 → I1 72 4 = nI (sk W z a + 1) → Rt L X (runI (runM (D + 3)) iX12_sum (38, [some (.ref 72), u1'], [.int (nI p)], mm L X I1 J)) none (fun I'' J' => okL z I I'' o (lL W z (opS W z) u (f + 1) o a e cd) ∧ J' = J) := by
      intro c p I1 u1' hcp hWc f1 p1
      have q1 := hWc.1
      have ep : opS W z a = p := opS_e hWc hcp
      have el := el1 (by rw [ep]; omega)
      have g1 : Fr fLM I I1 := fr_tr2 fr f1 lm_5
      have H1 := MW_T (e := e) (by omega) H (fr_mono f1 (show sbF [(72, 5)] fTM = true by decide))
      (first | refine rt_eq (q_X12_sum_0) ?_ | refine rt_eq (q_X12_sum_4) ?_ | refine rt_eq (q_X12_sum_17) ?_ | refine rt_eq (q_X12_sum_30) ?_ | refine rt_eq (q_X12_sum_38) ?_ | refine rt_eq (q_X12_sum_49) ?_ | refine rt_eq (q_X12_sum_55) ?_)
      refine rt_f (nI_m1 _ (by omega)) ?_
      have gk := gu o (sk W z a + 1) e cd 0 ho (Nat.zero_le _) q1
      have gk3 := g3u o (sk W z a + 1) e cd
      refine rt_bnd (hu (sk W z a + 1) e cd I1 J (BM_lm B g1) ((lm_2 g1).trans hz) q1 p1 ((f1 72 5 rfl).trans h0) ((f1 72 8 rfl).trans h8) H1 (by omega)) ?_
      rw [ep] at el
      rw [el]
      generalize u o (sk W z a + 1) e cd = R at gk gk3
      rintro I3 J3 ⟨⟨m1, m2, m3⟩, rfl⟩
      have g3 : Fr fLM I I3 := fr_tr g1 m1
      by_cases c4 : R.1 = 0
      · obtain ⟨n4, n5, n8, nH⟩ := m2 c4
        obtain ⟨t1, t2, t3, t4, t5, t6⟩ := gk c4
        have ar := ar4 (i := 0) hs.1 t1 t2 t4 hea (Nat.zero_le _) hz2
        rw [if_neg (not_not_intro c4)]
        (first | refine rt_eq (q_X12_sum_0) ?_ | refine rt_eq (q_X12_sum_4) ?_ | refine rt_eq (q_X12_sum_17) ?_ | refine rt_eq (q_X12_sum_30) ?_ | refine rt_eq (q_X12_sum_38) ?_ | refine rt_eq (q_X12_sum_49) ?_ | refine rt_eq (q_X12_sum_55) ?_)
        refine rt_be (sp_notes n5 nH.1 (by have := ar.2.1; clear ar el m2 m3 gk el0 el1; omega)) ?_
        (first | refine rt_eq (q_X12_sum_0) ?_ | refine rt_eq (q_X12_sum_4) ?_ | refine rt_eq (q_X12_sum_17) ?_ | refine rt_eq (q_X12_sum_30) ?_ | refine rt_eq (q_X12_sum_38) ?_ | refine rt_eq (q_X12_sum_49) ?_ | refine rt_eq (q_X12_sum_55) ?_)
        have H4 := MW_add (x := (p, 0)) (v := nI 0) (fun _ => rfl) nH
        have h160 : R.2.2.2.1 < 160 := by
          have := ar.2.1
          clear ar el m2 m3 gk el0 el1
          omega
        refine ih R.2.2.1 (R.2.2.2.1 + 1) (setC R.2.2.2.2 R.2.2.2.1 (p, 0)) _ _ ?_ t2 ar.1 (fr_up (fr_up (fr_up g3 (in_276 h160)) (in_276 h160)) (by decide +kernel)) ?_ ?_ ?_ H4
        · have := ar.2.2.2
          clear ar el m2 m3 gk el0 el1 t6
          omega
        · rw [up3_72 (by decide), n4]
        · rw [up3_72 (by decide), n5]
        · rw [up3_72 (by decide), n8]
      · obtain ⟨n5, n6, n7⟩ := m3 c4
        have x0 : ¬ I3 72 5 = nI 0 := by
          rw [n5]
          exact nI_ne0 (by omega) (by omega)
        rw [if_pos c4]
        (first | refine rt_eq (q_X12_sum_0) ?_ | refine rt_eq (q_X12_sum_4) ?_ | refine rt_eq (q_X12_sum_17) ?_ | refine rt_eq (q_X12_sum_30) ?_ | refine rt_eq (q_X12_sum_38) ?_ | refine rt_eq (q_X12_sum_49) ?_ | refine rt_eq (q_X12_sum_55) ?_)
        refine rt_be (sp_notesF x0) ?_
        (first | refine rt_eq (q_X12_sum_0) ?_ | refine rt_eq (q_X12_sum_4) ?_ | refine rt_eq (q_X12_sum_17) ?_ | refine rt_eq (q_X12_sum_30) ?_ | refine rt_eq (q_X12_sum_38) ?_ | refine rt_eq (q_X12_sum_49) ?_ | refine rt_eq (q_X12_sum_55) ?_)
        (first | refine rt_eq (q_X12_sum_0) ?_ | refine rt_eq (q_X12_sum_4) ?_ | refine rt_eq (q_X12_sum_17) ?_ | refine rt_eq (q_X12_sum_30) ?_ | refine rt_eq (q_X12_sum_38) ?_ | refine rt_eq (q_X12_sum_49) ?_ | refine rt_eq (q_X12_sum_55) ?_)
        exact rt_f x0 (rt_ret ⟨okL_f c4 g3 n5 n6 n7, rfl⟩)
    (first | refine rt_eq (q_X12_sum_0) ?_ | refine rt_eq (q_X12_sum_4) ?_ | refine rt_eq (q_X12_sum_17) ?_ | refine rt_eq (q_X12_sum_30) ?_ | refine rt_eq (q_X12_sum_38) ?_ | refine rt_eq (q_X12_sum_49) ?_ | refine rt_eq (q_X12_sum_55) ?_)
    refine rt_t h0 ?_
    refine rt_bnd (sp_takesSign (c := 43) (BM_lm B fr) B2 ((lm_2 fr).trans hz) (by omega) ha h4 h0 (by decide)) ?_
    rintro I1 J1 ⟨⟨f1, p1⟩, rfl⟩
    have F1 : Fr [(72, 5)] I' I1 := f1
    (first | refine rt_eq (q_X12_sum_0) ?_ | refine rt_eq (q_X12_sum_4) ?_ | refine rt_eq (q_X12_sum_17) ?_ | refine rt_eq (q_X12_sum_30) ?_ | refine rt_eq (q_X12_sum_38) ?_ | refine rt_eq (q_X12_sum_49) ?_ | refine rt_eq (q_X12_sum_55) ?_)
    by_cases c1 : sk W z a < z ∧ W (sk W z a) = 43
    · rw [if_pos c1] at p1
      rw [decide_eq_true c1]
      exact rt_f (show ¬ bI true = nI 0 by decide) (go 43 2 I1 _ (.inl ⟨rfl, rfl⟩) c1 F1 p1)
    rw [if_neg c1] at p1
    rw [decide_eq_false c1]
    refine rt_t bI_f ?_
    have G1 : Fr fLM I I1 := fr_tr2 fr F1 lm_5
    have sg1 := sp_takesSign (d := D) (L := L) (X := X) (J := J1) (c := 45) (BM_lm B G1) B2 ((lm_2 G1).trans hz) (by omega) hs.2 p1 ((F1 72 5 rfl).trans h0) (by decide)
    rw [sk_sk ha] at sg1
    refine rt_bnd sg1 ?_
    rintro I2 J2 ⟨⟨f2, p2⟩, rfl⟩
    have F2 : Fr [(72, 5)] I' I2 := fr_tr F1 f2
    (first | refine rt_eq (q_X12_sum_0) ?_ | refine rt_eq (q_X12_sum_4) ?_ | refine rt_eq (q_X12_sum_17) ?_ | refine rt_eq (q_X12_sum_30) ?_ | refine rt_eq (q_X12_sum_38) ?_ | refine rt_eq (q_X12_sum_49) ?_ | refine rt_eq (q_X12_sum_55) ?_)
    by_cases c2 : sk W z a < z ∧ W (sk W z a) = 45
    · rw [if_pos c2] at p2
      rw [decide_eq_true c2]
      exact rt_f (show ¬ bI true = nI 0 by decide) (go 45 3 I2 _ (.inr ⟨rfl, rfl⟩) c2 F2 p2)
    rw [if_neg c2] at p2
    rw [decide_eq_false c2]
    refine rt_t bI_f ?_
    (first | refine rt_eq (q_X12_sum_0) ?_ | refine rt_eq (q_X12_sum_4) ?_ | refine rt_eq (q_X12_sum_17) ?_ | refine rt_eq (q_X12_sum_30) ?_ | refine rt_eq (q_X12_sum_38) ?_ | refine rt_eq (q_X12_sum_49) ?_ | refine rt_eq (q_X12_sum_55) ?_)
    have c0 : opS W z a = 0 := by
      by_cases q : opS W z a = 0
      · exact q
      · obtain ⟨q1, q2⟩ := opS_0 q
        rcases q2 with q2 | q2
        · exact absurd ⟨q1, q2⟩ c1
        · exact absurd ⟨q1, q2⟩ c2
    rw [el0 c0]
    exact rt_t rfl (rt_ret ⟨⟨fr_tr2 fr F2 lm_5, fun _ => ⟨p2, (F2 72 5 rfl).trans h0, (F2 72 8 rfl).trans h8, MW_T (e := e) (show e ≤ 160 by omega) H (fr_mono F2 (show sbF [(72, 5)] fTM = true by decide))⟩, fun q => absurd rfl q⟩, rfl⟩)
theorem mr_ms {D : Nat} {u : LRec} {m : Nat → Nat} (B2 : ∀ k, k < 600 → W k < 256) (hz2 : z ≤ 150) (ho : o ≤ 6) (hu : MR (D + 3) L X nX12_product W z u o) (gu : gR z m u) (g3u : r3 u) : MR (D + 4) L X nX12_sum W z (lT W z (opS W z) u) o := by
  intro a e cd I J B hz ha h4 h0 h8 H hea
  rw [e_X12_sum]
  (first | refine rt_eq (q_X12_sum_0) ?_ | refine rt_eq (q_X12_sum_4) ?_ | refine rt_eq (q_X12_sum_17) ?_ | refine rt_eq (q_X12_sum_30) ?_ | refine rt_eq (q_X12_sum_38) ?_ | refine rt_eq (q_X12_sum_49) ?_ | refine rt_eq (q_X12_sum_55) ?_)
  have gk := gu o a e cd 0 ho (Nat.zero_le _) ha
  have gk3 := g3u o a e cd
  refine rt_bnd (hu a e cd I J B hz ha h4 h0 h8 H hea) ?_
  have et : lT W z (opS W z) u o a e cd = if ¬ (u o a e cd).1 = 0 then u o a e cd else lL W z (opS W z) u (z + 1) o (u o a e cd).2.2.1 (u o a e cd).2.2.2.1 (u o a e cd).2.2.2.2 := rfl
  rw [et]
  generalize u o a e cd = R0 at gk gk3
  rintro I1 J1 ⟨⟨m1, m2, m3⟩, rfl⟩
  by_cases c4 : R0.1 = 0
  · obtain ⟨n4, n5, n8, nH⟩ := m2 c4
    obtain ⟨t1, t2, t3, t4, t5, t6⟩ := gk c4
    rw [if_neg (not_not_intro c4)]
    exact lp_ms (I := I) B2 hz2 ho hu gu g3u B hz (z + 1) R0.2.2.1 R0.2.2.2.1 R0.2.2.2.2 I1 _ (by omega) t2 (by clear m2 m3 gk; omega) m1 n4 n5 n8 nH
  · obtain ⟨n5, n6, n7⟩ := m3 c4
    rw [if_pos c4]
    (first | refine rt_eq (q_X12_sum_0) ?_ | refine rt_eq (q_X12_sum_4) ?_ | refine rt_eq (q_X12_sum_17) ?_ | refine rt_eq (q_X12_sum_30) ?_ | refine rt_eq (q_X12_sum_38) ?_ | refine rt_eq (q_X12_sum_49) ?_ | refine rt_eq (q_X12_sum_55) ?_)
    refine rt_f (by rw [n5]; exact nI_ne0 (by omega) (by omega)) (rt_ret ⟨okL_f c4 m1 n5 n6 n7, rfl⟩)
theorem recK_3 {k : Nat} : r3 (recK W z k) := by
  cases k with
  | zero => exact fun _ _ _ _ => by show 1 ≤ 3; decide
  | succ k => exact lsumK_3 k
theorem mr_sum (B2 : ∀ k, k < 600 → W k < 256) (hz2 : z ≤ 150) : ∀ k o, o + k = 6 → MR (d + 3 * k + 9) L X nX12_sum W z (lsumK W z k) o
  | k, o, hk => by
    have RS : ∀ k', k = k' + 1 → MR (d + 3 * k' + 9) L X nX12_sum W z (lsumK W z k') (o + 1) := fun k' e => mr_sum B2 hz2 k' (o + 1) (by omega)
    have un := mr_unit (d := d) (L := L) (X := X) (W := W) B2 hz2 hk RS
    have pr := mr_mp (D := d + 3 * k + 4) B2 hz2 (by omega) un (lu_ok recK_ok) (lu_3 recK_3)
    have su := mr_ms (D := d + 3 * k + 5) B2 hz2 (by omega) pr (lp_ok recK_ok) (lT_3 (lu_3 recK_3))
    rw [lsumK_r]
    exact su
  termination_by k => k
theorem lu_sk {rec : LRec} {a e : Nat} {cd : Cd} (ha : a ≤ z) : lu W z rec o (sk W z a) e cd = lu W z rec o a e cd := by
  have e1 : lkI W z (sk W z a) = lkI W z a := by
    unfold lkI
    rw [sk_sk ha, wE_sk ha]
  have e2 : lkN W z (sk W z a) = lkN W z a := by
    unfold lkN
    rw [e1]
  unfold lu lMost dgt sgn
  rw [sk_sk ha, nmF_sk ha, nmV_sk ha, e1, e2, wE_sk ha]
theorem lsumK_sk {k a e : Nat} {cd : Cd} (ha : a ≤ z) : lsumK W z k o (sk W z a) e cd = lsumK W z k o a e cd := by
  rw [lsumK_r]
  unfold lsZ lp lT
  rw [lu_sk ha]
theorem gr_275 : gr 275 160 2 := gr_of (by decide +kernel) (by decide +kernel) (by decide +kernel)
theorem gr_114 : gr 114 160 2 := gr_of (by decide +kernel) (by decide +kernel) (by decide +kernel)
def fLfM : Fls := fStT ++ fLM ++ [(72, 1), (72, 4)]
def fLoM : Fls := fLfM ++ [(72, 20)] ++ cells 115 160
theorem m_law (B : BM I W) (B2 : ∀ k, k < 600 → W k < 256) (ht : I 72 1 = nI tp) (htp : tp ≤ 600) (hn : z ≤ tp) (hm : z ≤ 150) : Rt L X (runM (d + 28) nX12_law [.ref 72, .int (nI z)] (mm L X I J)) (some (.int (lwA W z))) (fun I' J' => (I' 72 0 = nI 0 ∧ I' 72 1 = nI 0 ∧ ((lwF W z).1 = 0 → Fr fLoM I I' ∧ I' 72 3 = -1 ∧ (lwR W z).1 = 0 ∧ LawM I' (lwR W z).2.2.2.1 (lwR W z).2.2.2.2) ∧ (¬ (lwF W z).1 = 0 → Fr fLfM I I' ∧ I' 72 3 = nI (lwF W z).2)) ∧ J' = J) := by
  rw [e_X12_law]
  (first | refine rt_eq (q_X12_law_0) ?_ | refine rt_eq (q_X12_law_15) ?_ | refine rt_eq (q_X12_law_25) ?_ | refine rt_eq (q_X12_law_30) ?_ | refine rt_eq (q_X12_law_35) ?_ | refine rt_eq (q_X12_law_45) ?_ | refine rt_eq (q_X12_law_54) ?_ | refine rt_eq (q_X12_law_58) ?_ | refine rt_eq (q_X12_law_85) ?_ | refine rt_eq (q_X12_law_125) ?_ | refine rt_eq (q_X12_law_96) ?_)
  rw [show (up2 I 72 0 (nI 0)) 72 1 = nI tp by rw [up2_k (by decide), ht]]
  refine rt_bne (in_t (by (try simp (disch := omega) only [nI_leI, nI_ltI, nI_eq, nI_add, pk_mul, n_0add, Nat.zero_add, nI_clamp]) <;> omega) (by (try simp (disch := omega) only [nI_leI, nI_ltI, nI_eq, nI_add, pk_mul, n_0add, Nat.zero_add, nI_clamp]) <;> omega)) ?_
  (first | refine rt_eq (q_X12_law_0) ?_ | refine rt_eq (q_X12_law_15) ?_ | refine rt_eq (q_X12_law_25) ?_ | refine rt_eq (q_X12_law_30) ?_ | refine rt_eq (q_X12_law_35) ?_ | refine rt_eq (q_X12_law_45) ?_ | refine rt_eq (q_X12_law_54) ?_ | refine rt_eq (q_X12_law_58) ?_ | refine rt_eq (q_X12_law_85) ?_ | refine rt_eq (q_X12_law_125) ?_ | refine rt_eq (q_X12_law_96) ?_)
  refine rt_f (by decide) (rt_t (by (try simp (disch := omega) only [nI_leI, nI_ltI, nI_eq, nI_add, pk_mul, n_0add, Nat.zero_add, nI_clamp]) <;> omega) ?_)
  (first | refine rt_eq (q_X12_law_0) ?_ | refine rt_eq (q_X12_law_15) ?_ | refine rt_eq (q_X12_law_25) ?_ | refine rt_eq (q_X12_law_30) ?_ | refine rt_eq (q_X12_law_35) ?_ | refine rt_eq (q_X12_law_45) ?_ | refine rt_eq (q_X12_law_54) ?_ | refine rt_eq (q_X12_law_58) ?_ | refine rt_eq (q_X12_law_85) ?_ | refine rt_eq (q_X12_law_125) ?_ | refine rt_eq (q_X12_law_96) ?_)
  refine rt_be (bad_f up2_s) ?_
  (first | refine rt_eq (q_X12_law_0) ?_ | refine rt_eq (q_X12_law_15) ?_ | refine rt_eq (q_X12_law_25) ?_ | refine rt_eq (q_X12_law_30) ?_ | refine rt_eq (q_X12_law_35) ?_ | refine rt_eq (q_X12_law_45) ?_ | refine rt_eq (q_X12_law_54) ?_ | refine rt_eq (q_X12_law_58) ?_ | refine rt_eq (q_X12_law_85) ?_ | refine rt_eq (q_X12_law_125) ?_ | refine rt_eq (q_X12_law_96) ?_)
  have gz : Fr [(72, 1)] I (up2 I 72 0 (nI 0)) := fr_up fr_rfl rfl
  refine rt_t rfl (rt_bnd (sp_starts (BM_fr B gz (by decide)) B2 (by omega)) ?_)
  rintro I1 J1 ⟨⟨f1, f2, f3, f4, f5, f6, f7, f8⟩, rfl⟩
  have e0 : I1 72 0 = nI 0 := by rw [f1 72 0 rfl, up2_s]
  (first | refine rt_eq (q_X12_law_0) ?_ | refine rt_eq (q_X12_law_15) ?_ | refine rt_eq (q_X12_law_25) ?_ | refine rt_eq (q_X12_law_30) ?_ | refine rt_eq (q_X12_law_35) ?_ | refine rt_eq (q_X12_law_45) ?_ | refine rt_eq (q_X12_law_54) ?_ | refine rt_eq (q_X12_law_58) ?_ | refine rt_eq (q_X12_law_85) ?_ | refine rt_eq (q_X12_law_125) ?_ | refine rt_eq (q_X12_law_96) ?_)
  generalize hI2 : up2 I1 72 20 (nI 0) = I2
  have g2 : Fr [(72, 21)] I1 I2 := by
    rw [← hI2]
    exact fr_up fr_rfl rfl
  have e20 : I2 72 20 = nI 0 := by rw [← hI2, up2_s]
  clear hI2
  have g12 : Fr ([(72, 1)] ++ fStT ++ [(72, 21)]) I I2 := fr_tr (fr_tr (fr_mono gz (by decide)) (fr_mono f1 (by decide))) (fr_mono g2 (by decide))
  have s0 := sk_le (W := W) (Nat.zero_le z)
  have lsk : lsumK W z 6 0 (sk W z 0) 0 (fun _ => (0, 0)) = lwR W z := lsumK_sk (Nat.zero_le z)
  refine rt_bnd (mr_sum (d := d) (L := L) (X := X) B2 hm 6 0 rfl (sk W z 0) 0 (fun _ => (0, 0)) I2 J1 (BM_fr B g12 (by decide)) ((g2 72 2 rfl).trans f3) s0.2 ((g2 72 4 rfl).trans f4) ((g2 72 5 rfl).trans f5) ((g2 72 8 rfl).trans f8) ⟨e20, fun j hj => absurd hj (Nat.not_lt_zero j)⟩ (Nat.zero_le _)) ?_
  rw [lsk]
  rintro I3 J3 ⟨⟨k1, k2, k3⟩, rfl⟩
  have fr3 : Fr fLfM I I3 := fr_tr (fr_mono g12 (by decide +kernel)) (fr_mono k1 (by decide +kernel))
  have n72 : ∀ k, dj fLM [(72, k + 1)] = true → I3 72 k = I2 72 k := fun k hk => ag_of (s := [(72, k + 1)]) k1 hk 72 k (by simp [inF])
  have e03 : I3 72 0 = nI 0 := by rw [n72 0 (by decide +kernel), g2 72 0 rfl, e0]
  have e13 : I3 72 1 = nI 0 := by rw [n72 1 (by decide +kernel), g2 72 1 rfl, f2]
  have e23 : I3 72 2 = nI z := by rw [n72 2 (by decide +kernel), g2 72 2 rfl, f3]
  have B3 : BM I3 W := BM_fr B fr3 (by decide +kernel)
  have ends : ∀ (I4 : MI32) u1, Fr fLfM I I4 → I4 72 0 = nI 0 → I4 72 1 = nI 0 → ¬ (lwF W z).1 = 0 → I4 72 5 = nI (lwF W z).1 → I4 72 6 = nI (lwF W z).2 → Rt L X (runI (runM (d + 27)) iX12_law (85, [some (.ref 72), u1], [], mm L X I4 J3)) (some (.int (lwA W z))) (fun I' J' => (I' 72 0 = nI 0 ∧ I' 72 1 = nI 0 ∧ ((lwF W z).1 = 0 → Fr fLoM I I' ∧ I' 72 3 = -1 ∧ (lwR W z).1 = 0 ∧ LawM I' (lwR W z).2.2.2.1 (lwR W z).2.2.2.2) ∧ (¬ (lwF W z).1 = 0 → Fr fLfM I I' ∧ I' 72 3 = nI (lwF W z).2)) ∧ J' = J3) := by
    intro I4 u1 q1 q2 q3 q4 q5 q6
    have r3 := lwF_3 (W := W) (z := z)
    (first | refine rt_eq (q_X12_law_0) ?_ | refine rt_eq (q_X12_law_15) ?_ | refine rt_eq (q_X12_law_25) ?_ | refine rt_eq (q_X12_law_30) ?_ | refine rt_eq (q_X12_law_35) ?_ | refine rt_eq (q_X12_law_45) ?_ | refine rt_eq (q_X12_law_54) ?_ | refine rt_eq (q_X12_law_58) ?_ | refine rt_eq (q_X12_law_85) ?_ | refine rt_eq (q_X12_law_125) ?_ | refine rt_eq (q_X12_law_96) ?_)
    refine rt_f (by rw [q5]; exact nI_ne0 (by omega) (by omega)) (rt_be sp_ends ?_)
    (first | refine rt_eq (q_X12_law_0) ?_ | refine rt_eq (q_X12_law_15) ?_ | refine rt_eq (q_X12_law_25) ?_ | refine rt_eq (q_X12_law_30) ?_ | refine rt_eq (q_X12_law_35) ?_ | refine rt_eq (q_X12_law_45) ?_ | refine rt_eq (q_X12_law_54) ?_ | refine rt_eq (q_X12_law_58) ?_ | refine rt_eq (q_X12_law_85) ?_ | refine rt_eq (q_X12_law_125) ?_ | refine rt_eq (q_X12_law_96) ?_)
    unfold lwA
    rw [q5, q6, if_neg q4]
    refine rt_ret ⟨⟨?_, ?_, fun q => absurd q q4, fun _ => ⟨fr_up q1 (by decide +kernel), up2_s⟩⟩, rfl⟩
    · rw [up2_k (by decide), q2]
    · rw [up2_k (by decide), q3]
  by_cases c1 : (lwR W z).1 = 0
  · obtain ⟨x4, x5, x8, xH⟩ := k2 c1
    obtain ⟨w1, w2, w3, w4⟩ := lwR_ok c1
    have ws := sk_le (W := W) w1
    (first | refine rt_eq (q_X12_law_0) ?_ | refine rt_eq (q_X12_law_15) ?_ | refine rt_eq (q_X12_law_25) ?_ | refine rt_eq (q_X12_law_30) ?_ | refine rt_eq (q_X12_law_35) ?_ | refine rt_eq (q_X12_law_45) ?_ | refine rt_eq (q_X12_law_54) ?_ | refine rt_eq (q_X12_law_58) ?_ | refine rt_eq (q_X12_law_85) ?_ | refine rt_eq (q_X12_law_125) ?_ | refine rt_eq (q_X12_law_96) ?_)
    refine rt_bnd (sp_blanks B3 B2 e23 (by omega) w1 x4) ?_
    rintro I4 J4 ⟨⟨p1, p2⟩, rfl⟩
    have fr4 : Fr fLfM I I4 := fr_tr fr3 (fr_mono p1 (by decide +kernel))
    have e54 : I4 72 5 = nI 0 := (p1 72 5 rfl).trans x5
    have H4 := MW_T (show (lwR W z).2.2.2.1 ≤ 160 by omega) xH (fr_mono p1 (show sbF [(72, 5)] fTM = true by decide))
    (first | refine rt_eq (q_X12_law_0) ?_ | refine rt_eq (q_X12_law_15) ?_ | refine rt_eq (q_X12_law_25) ?_ | refine rt_eq (q_X12_law_30) ?_ | refine rt_eq (q_X12_law_35) ?_ | refine rt_eq (q_X12_law_45) ?_ | refine rt_eq (q_X12_law_54) ?_ | refine rt_eq (q_X12_law_58) ?_ | refine rt_eq (q_X12_law_85) ?_ | refine rt_eq (q_X12_law_125) ?_ | refine rt_eq (q_X12_law_96) ?_)
    rw [p1 72 2 rfl, e23, p2]
    by_cases c2 : sk W z (lwR W z).2.2.1 = z
    · have ef : lwF W z = (0, 0) := by
        unfold lwF
        rw [if_neg (not_not_intro c1), if_pos c2]
      refine rt_t e54 (rt_t (by rw [c2]; exact Int32.le_refl _) ?_)
      unfold lwA
      rw [ef, if_pos rfl]
      (first | refine rt_eq (q_X12_law_0) ?_ | refine rt_eq (q_X12_law_15) ?_ | refine rt_eq (q_X12_law_25) ?_ | refine rt_eq (q_X12_law_30) ?_ | refine rt_eq (q_X12_law_35) ?_ | refine rt_eq (q_X12_law_45) ?_ | refine rt_eq (q_X12_law_54) ?_ | refine rt_eq (q_X12_law_58) ?_ | refine rt_eq (q_X12_law_85) ?_ | refine rt_eq (q_X12_law_125) ?_ | refine rt_eq (q_X12_law_96) ?_)
      have e19 : (up2 (up2 I4 72 3 (-1)) 72 19 ((up2 I4 72 3 (-1)) 72 20)) 72 19 = nI (lwR W z).2.2.2.1 := by rw [up2_s, up2_k (by decide), H4.1]
      rw [e19]
      have gq : Fr [(72, 4), (72, 20)] I4 (up2 (up2 I4 72 3 (-1)) 72 19 ((up2 I4 72 3 (-1)) 72 20)) := fr_up (fr_up fr_rfl rfl) rfl
      have e33 : (up2 (up2 I4 72 3 (-1)) 72 19 ((up2 I4 72 3 (-1)) 72 20)) 72 3 = -1 := by rw [up2_k (by decide), up2_s]
      generalize up2 (up2 I4 72 3 (-1)) 72 19 ((up2 I4 72 3 (-1)) 72 20) = I5 at e19 gq e33 ⊢
      refine rt_t e54 (rt_bndN (sp_lays gr_275 gr_114 (by omega) (by omega) (by decide) (by decide) (by decide) (by decide) (fun i j hi hj => by omega)) ?_)
      rintro I6 J6 ⟨⟨m1, m2⟩, rfl⟩
      have h6 : ∀ k, I6 72 k = I5 72 k := fun k => ag_of (s := [(72, 0)]) m1 (by decide +kernel) 72 k rfl
      (first | refine rt_eq (q_X12_law_0) ?_ | refine rt_eq (q_X12_law_15) ?_ | refine rt_eq (q_X12_law_25) ?_ | refine rt_eq (q_X12_law_30) ?_ | refine rt_eq (q_X12_law_35) ?_ | refine rt_eq (q_X12_law_45) ?_ | refine rt_eq (q_X12_law_54) ?_ | refine rt_eq (q_X12_law_58) ?_ | refine rt_eq (q_X12_law_85) ?_ | refine rt_eq (q_X12_law_125) ?_ | refine rt_eq (q_X12_law_96) ?_)
      refine rt_ret ⟨⟨?_, ?_, fun _ => ⟨?_, ?_, c1, .inl ⟨?_, by omega, w2, fun k hk => ?_⟩⟩, fun q => absurd rfl q⟩, rfl⟩
      · rw [h6, gq 72 0 rfl, p1 72 0 rfl, e03]
      · rw [h6, gq 72 1 rfl, p1 72 1 rfl, e13]
      · exact fr_tr (fr_tr (fr_mono fr4 (by decide +kernel)) (fr_mono gq (by decide +kernel))) (fr_mono m1 (by decide +kernel))
      · rw [h6, e33]
      · rw [h6, e19]
      · have a0 := m2 k 0 hk (by decide)
        have a1 := m2 k 1 hk (by decide)
        have src : ∀ j, I5 (275 + 1 + k) j = I4 (275 + 1 + k) j := fun j => ag_of (s := cells 276 160) gq (by decide +kernel) _ j (in_cells (by omega))
        rw [src] at a0 a1
        have b0 := H4.2 k hk
        rw [show 115 + k = 114 + 1 + k by omega, a0, a1]
        exact b0
    · have ef : lwF W z = (1, sk W z (lwR W z).2.2.1) := by
        unfold lwF
        rw [if_neg (not_not_intro c1), if_neg c2]
      refine rt_t e54 (rt_f (by (try simp (disch := omega) only [nI_leI, nI_ltI, nI_eq, nI_add, pk_mul, n_0add, Nat.zero_add, nI_clamp]) <;> omega) (rt_be (sp_wrong.trans (if_pos e54)) ?_))
      refine ends _ _ (fr_up (fr_up fr4 (by decide +kernel)) (by decide +kernel)) ?_ ?_ (by rw [ef]; exact n10) ?_ ?_
      · rw [up2_k (by decide), up2_k (by decide), p1 72 0 rfl, e03]
      · rw [up2_k (by decide), up2_k (by decide), p1 72 1 rfl, e13]
      · rw [up2_k (by decide), up2_s, ef]
      · rw [up2_s, ef]
  · obtain ⟨x5, x6, a', x7, x8⟩ := k3 c1
    have ef : lwF W z = ((lwR W z).1, (lwR W z).2.1) := by
      unfold lwF
      rw [if_pos c1]
    have r3 := lsumK_3 (W := W) (z := z) 6 0 0 0 (fun _ => (0, 0))
    have r3' : (lwR W z).1 ≤ 3 := r3
    (first | refine rt_eq (q_X12_law_0) ?_ | refine rt_eq (q_X12_law_15) ?_ | refine rt_eq (q_X12_law_25) ?_ | refine rt_eq (q_X12_law_30) ?_ | refine rt_eq (q_X12_law_35) ?_ | refine rt_eq (q_X12_law_45) ?_ | refine rt_eq (q_X12_law_54) ?_ | refine rt_eq (q_X12_law_58) ?_ | refine rt_eq (q_X12_law_85) ?_ | refine rt_eq (q_X12_law_125) ?_ | refine rt_eq (q_X12_law_96) ?_)
    refine rt_bnd (sp_blanks B3 B2 e23 (by omega) x7 x8) ?_
    rintro I4 J4 ⟨⟨p1, p2⟩, rfl⟩
    have e54 : I4 72 5 = nI (lwR W z).1 := (p1 72 5 rfl).trans x5
    (first | refine rt_eq (q_X12_law_0) ?_ | refine rt_eq (q_X12_law_15) ?_ | refine rt_eq (q_X12_law_25) ?_ | refine rt_eq (q_X12_law_30) ?_ | refine rt_eq (q_X12_law_35) ?_ | refine rt_eq (q_X12_law_45) ?_ | refine rt_eq (q_X12_law_54) ?_ | refine rt_eq (q_X12_law_58) ?_ | refine rt_eq (q_X12_law_85) ?_ | refine rt_eq (q_X12_law_125) ?_ | refine rt_eq (q_X12_law_96) ?_)
    refine rt_f (by rw [e54]; exact nI_ne0 (by omega) (by omega)) ?_
    refine ends I4 _ (fr_tr fr3 (fr_mono p1 (by decide +kernel))) ((p1 72 0 rfl).trans e03) ((p1 72 1 rfl).trans e13) (by rw [ef]; exact c1) ?_ ?_
    · rw [e54, ef]
    · rw [p1 72 6 rfl, x6, ef]
theorem b_law (ht : I 72 1 = nI tp) (htp : tp ≤ 600) (hx : ¬ ∃ n, n ≤ tp ∧ n ≤ 150 ∧ x = nI n) : runM (d + 2) nX12_law [.ref 72, .int x] (mm L X I J) = rI (nI 0) (mm L X (bdM I 1 1) J) := by
  have fin : runI (runM (d + 1)) iX12_law (25, [some (.ref 72), some (.int x)], [.ref 72], mm L X (up2 I 72 0 (nI 0)) J) = rI (nI 0) (mm L X (bdM I 1 1) J) := by
    (first | refine Eq.trans (q_X12_law_0) ?_ | refine Eq.trans (q_X12_law_15) ?_ | refine Eq.trans (q_X12_law_25) ?_ | refine Eq.trans (q_X12_law_30) ?_ | refine Eq.trans (q_X12_law_35) ?_ | refine Eq.trans (q_X12_law_45) ?_ | refine Eq.trans (q_X12_law_54) ?_ | refine Eq.trans (q_X12_law_58) ?_ | refine Eq.trans (q_X12_law_85) ?_ | refine Eq.trans (q_X12_law_125) ?_ | refine Eq.trans (q_X12_law_96) ?_)
    (first | refine Eq.trans (q_X12_law_0) ?_ | refine Eq.trans (q_X12_law_15) ?_ | refine Eq.trans (q_X12_law_25) ?_ | refine Eq.trans (q_X12_law_30) ?_ | refine Eq.trans (q_X12_law_35) ?_ | refine Eq.trans (q_X12_law_45) ?_ | refine Eq.trans (q_X12_law_54) ?_ | refine Eq.trans (q_X12_law_58) ?_ | refine Eq.trans (q_X12_law_85) ?_ | refine Eq.trans (q_X12_law_125) ?_ | refine Eq.trans (q_X12_law_96) ?_)
    refine Eq.trans (bnd_e (bad_t (by decide) (by decide) (by decide))) ?_
    (first | refine Eq.trans (q_X12_law_0) ?_ | refine Eq.trans (q_X12_law_15) ?_ | refine Eq.trans (q_X12_law_25) ?_ | refine Eq.trans (q_X12_law_30) ?_ | refine Eq.trans (q_X12_law_35) ?_ | refine Eq.trans (q_X12_law_45) ?_ | refine Eq.trans (q_X12_law_54) ?_ | refine Eq.trans (q_X12_law_58) ?_ | refine Eq.trans (q_X12_law_85) ?_ | refine Eq.trans (q_X12_law_125) ?_ | refine Eq.trans (q_X12_law_96) ?_)
    exact if_neg (by decide)
  rw [e_X12_law]
  (first | refine Eq.trans (q_X12_law_0) ?_ | refine Eq.trans (q_X12_law_15) ?_ | refine Eq.trans (q_X12_law_25) ?_ | refine Eq.trans (q_X12_law_30) ?_ | refine Eq.trans (q_X12_law_35) ?_ | refine Eq.trans (q_X12_law_45) ?_ | refine Eq.trans (q_X12_law_54) ?_ | refine Eq.trans (q_X12_law_58) ?_ | refine Eq.trans (q_X12_law_85) ?_ | refine Eq.trans (q_X12_law_125) ?_ | refine Eq.trans (q_X12_law_96) ?_)
  rw [show (up2 I 72 0 (nI 0)) 72 1 = nI tp by rw [up2_k (by decide), ht]]
  by_cases q : nI 0 ≤ x ∧ x ≤ nI tp
  · obtain ⟨p, hp, rfl⟩ := (in_M (M := tp) (by omega)).mp q
    refine Eq.trans (bndN_e (in_t q.1 q.2)) ?_
    (first | refine Eq.trans (q_X12_law_0) ?_ | refine Eq.trans (q_X12_law_15) ?_ | refine Eq.trans (q_X12_law_25) ?_ | refine Eq.trans (q_X12_law_30) ?_ | refine Eq.trans (q_X12_law_35) ?_ | refine Eq.trans (q_X12_law_45) ?_ | refine Eq.trans (q_X12_law_54) ?_ | refine Eq.trans (q_X12_law_58) ?_ | refine Eq.trans (q_X12_law_85) ?_ | refine Eq.trans (q_X12_law_125) ?_ | refine Eq.trans (q_X12_law_96) ?_)
    have h60 : ¬ p ≤ 150 := fun q2 => hx ⟨p, hp, q2, rfl⟩
    rw [if_neg (by decide), if_neg (by ((try simp (disch := omega) only [nI_leI, nI_ltI, nI_eq, nI_add, pk_mul, n_0add, Nat.zero_add, nI_clamp]) <;> omega))]
    exact fin
  · refine Eq.trans (bndN_e (in_f q)) ?_
    (first | refine Eq.trans (q_X12_law_0) ?_ | refine Eq.trans (q_X12_law_15) ?_ | refine Eq.trans (q_X12_law_25) ?_ | refine Eq.trans (q_X12_law_30) ?_ | refine Eq.trans (q_X12_law_35) ?_ | refine Eq.trans (q_X12_law_45) ?_ | refine Eq.trans (q_X12_law_54) ?_ | refine Eq.trans (q_X12_law_58) ?_ | refine Eq.trans (q_X12_law_85) ?_ | refine Eq.trans (q_X12_law_125) ?_ | refine Eq.trans (q_X12_law_96) ?_)
    rw [if_pos rfl]
    exact fin
end LN
