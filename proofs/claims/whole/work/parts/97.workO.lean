/-! WORK: the whole asking, by both -/
section WO
variable {d L X : Nat} {I : MI32} {J : MI64} {W : Nat → Nat} {z np : Nat}
theorem lp_readM (hn : np ≤ 6) (B : BM I W) (B2 : ∀ k, k < 600 → W k < 256) (hz : I 72 2 = nI z) (hz2 : z ≤ 150) (hnp : I 76 0 = nI np) : ∀ f, LPH d L X I J W z np f
  | 0 => fun k o a s s0 T I' u1 rr Q _ _ _ hf => absurd hf (Nat.not_lt_zero _)
  | f + 1 => by
    have ih := lp_readM hn B B2 hz hz2 hnp f
    intro k o a s s0 T I' u1 rr Q hok ho0 hs0 hf ha h2s H kk
    have H' := H
    obtain ⟨hsa, h2sk, ho, fr, h4, h0, h8, h28⟩ := H
    have kr := ka_row s0 hs0
    have hs := sk_le (W := W) ha
    (first | refine rt_eq (q_X12_readsStep_0) ?_ | refine rt_eq (q_X12_readsStep_4) ?_ | refine rt_eq (q_X12_readsStep_19) ?_ | refine rt_eq (q_X12_readsStep_33) ?_ | refine rt_eq (q_X12_readsStep_29) ?_ | refine rt_eq (q_X12_readsStep_45) ?_ | refine rt_eq (q_X12_readsStep_96 (by first | assumption | rfl | exact .inl rfl | exact .inr rfl)) ?_ | refine rt_eq (q_X12_readsStep_95 (by first | assumption | rfl | exact .inl rfl | exact .inr rfl) (by first | assumption | rfl | exact .inl rfl | exact .inr rfl)) ?_ | refine rt_eq (q_X12_readsStep_111 (by first | assumption | rfl | exact .inl rfl | exact .inr rfl)) ?_ | refine rt_eq (q_X12_readsStep_110 (by first | assumption | rfl | exact .inl rfl | exact .inr rfl)) ?_ | refine rt_eq (q_X12_readsStep_127 (by first | assumption | rfl | exact .inl rfl | exact .inr rfl)) ?_ | refine rt_eq (q_X12_readsStep_126 (by first | assumption | rfl | exact .inl rfl | exact .inr rfl)) ?_ | refine rt_eq (q_X12_readsStep_200 (by first | assumption | rfl | exact .inl rfl | exact .inr rfl)) ?_ | refine rt_eq (q_X12_readsStep_142 (by first | assumption | rfl | exact .inl rfl | exact .inr rfl)) ?_ | refine rt_eq (q_X12_readsStep_213) ?_ | refine rt_eq (q_X12_readsStep_149 (by first | assumption | rfl | exact .inl rfl | exact .inr rfl)) ?_ | refine rt_eq (q_X12_readsStep_153 (by first | assumption | rfl | exact .inl rfl | exact .inr rfl)) ?_ | refine rt_eq (q_X12_readsStep_184 (by first | assumption | rfl | exact .inl rfl | exact .inr rfl)) ?_ | refine rt_eq (q_X12_readsStep_168 (by first | assumption | rfl | exact .inl rfl | exact .inr rfl)) ?_ | refine rt_eq (q_X12_readsStep_190 (by first | assumption | rfl | exact .inl rfl | exact .inr rfl)) ?_ | refine rt_eq (q_X12_readsStep_177 (by first | assumption | rfl | exact .inl rfl | exact .inr rfl)) ?_ | refine rt_eq (q_X12_readsStep_181 (by first | assumption | rfl | exact .inl rfl | exact .inr rfl)) ?_)
    rw [h4]
    refine rt_t h0 (rt_be (sp_byteM (BM_rm B fr) ((rm_2 fr).trans hz) (by omega) (by omega)) ?_)
    (first | refine rt_eq (q_X12_readsStep_0) ?_ | refine rt_eq (q_X12_readsStep_4) ?_ | refine rt_eq (q_X12_readsStep_19) ?_ | refine rt_eq (q_X12_readsStep_33) ?_ | refine rt_eq (q_X12_readsStep_29) ?_ | refine rt_eq (q_X12_readsStep_45) ?_ | refine rt_eq (q_X12_readsStep_96 (by first | assumption | rfl | exact .inl rfl | exact .inr rfl)) ?_ | refine rt_eq (q_X12_readsStep_95 (by first | assumption | rfl | exact .inl rfl | exact .inr rfl) (by first | assumption | rfl | exact .inl rfl | exact .inr rfl)) ?_ | refine rt_eq (q_X12_readsStep_111 (by first | assumption | rfl | exact .inl rfl | exact .inr rfl)) ?_ | refine rt_eq (q_X12_readsStep_110 (by first | assumption | rfl | exact .inl rfl | exact .inr rfl)) ?_ | refine rt_eq (q_X12_readsStep_127 (by first | assumption | rfl | exact .inl rfl | exact .inr rfl)) ?_ | refine rt_eq (q_X12_readsStep_126 (by first | assumption | rfl | exact .inl rfl | exact .inr rfl)) ?_ | refine rt_eq (q_X12_readsStep_200 (by first | assumption | rfl | exact .inl rfl | exact .inr rfl)) ?_ | refine rt_eq (q_X12_readsStep_142 (by first | assumption | rfl | exact .inl rfl | exact .inr rfl)) ?_ | refine rt_eq (q_X12_readsStep_213) ?_ | refine rt_eq (q_X12_readsStep_149 (by first | assumption | rfl | exact .inl rfl | exact .inr rfl)) ?_ | refine rt_eq (q_X12_readsStep_153 (by first | assumption | rfl | exact .inl rfl | exact .inr rfl)) ?_ | refine rt_eq (q_X12_readsStep_184 (by first | assumption | rfl | exact .inl rfl | exact .inr rfl)) ?_ | refine rt_eq (q_X12_readsStep_168 (by first | assumption | rfl | exact .inl rfl | exact .inr rfl)) ?_ | refine rt_eq (q_X12_readsStep_190 (by first | assumption | rfl | exact .inl rfl | exact .inr rfl)) ?_ | refine rt_eq (q_X12_readsStep_177 (by first | assumption | rfl | exact .inl rfl | exact .inr rfl)) ?_ | refine rt_eq (q_X12_readsStep_181 (by first | assumption | rfl | exact .inl rfl | exact .inr rfl)) ?_)
    by_cases c0 : stpW W z o a
    · have er : rd W z np (f + 1) o a s T = (0, 0, a, s, T) := if_pos c0
      rw [er] at kk
      have c0' : sgn W z a 93 := by
        rcases c0 with c0 | c0
        · exact absurd c0.1 ho0
        · exact c0.2
      rw [show byT W z (sk W z a) = nI 93 by unfold byT; rw [if_pos c0'.1, c0'.2]]
      exact rt_t rfl (kk I' ⟨fr, fun _ => ⟨h4, h0, h8, h28, fun _ _ _ => rfl, fun i h1 h2 => absurd h1 (Nat.not_le.mpr h2)⟩, fun q => absurd rfl q⟩)
    · have er : rd W z np (f + 1) o a s T = if ¬ (rd1 W z np (rd W z np f) o a s T).1 = 0 then rd1 W z np (rd W z np f) o a s T else rd W z np f o (rd1 W z np (rd W z np f) o a s T).2.2.1 (rd1 W z np (rd W z np f) o a s T).2.2.2.1 (rd1 W z np (rd W z np f) o a s T).2.2.2.2 := if_neg c0
      refine rt_f ?_ ?_
      · intro q
        apply c0
        refine .inr ⟨ho0, ?_⟩
        unfold byT at q
        by_cases q2 : sk W z a < z
        · rw [if_pos q2, nI_eq (by have := B2 (sk W z a) (by omega); omega) (by decide)] at q
          exact ⟨q2, q⟩
        · rw [if_neg q2] at q
          exact absurd q (by decide)
      have st := st_M (d := d) (L := L) (X := X) (J := J) (T := T) hn B B2 hz hz2 hnp ih hok (by omega) H'
      rw [rd1_sk ha] at st
      refine rt_bnd st ?_
      have rk := rd1_ok (W := W) (o := o) (s := s) (T := T) hn ha (fun b T' hb hb2 q2 => by
        obtain ⟨g1, g2⟩ := rd_ok (W := W) (z := z) hn f (o + 1) b (s + 1) T' hb2 q2
        refine ⟨g1, ?_⟩
        rcases g2 with g2 | g2
        · exact absurd g2.1 (by omega)
        · exact g2.2)
      have r3 : (rd1 W z np (rd W z np f) o a s T).1 ≤ 3 := rd1_3 (rd_3 f)
      generalize rd1 W z np (rd W z np f) o a s T = R at er rk r3
      rintro I1 J1 ⟨⟨g1, g2, g3⟩, rfl⟩
      by_cases c1 : R.1 = 0
      · obtain ⟨⟨y1, y2, y3, y4, y5⟩, y6, y7⟩ := rk c1
        obtain ⟨x4, x5, x8, x28, xr, xR⟩ := g2 c1
        clear g2 g3
        rw [if_neg (not_not_intro c1)] at er
        rw [er] at kk
        (first | refine rt_eq (q_X12_readsStep_0) ?_ | refine rt_eq (q_X12_readsStep_4) ?_ | refine rt_eq (q_X12_readsStep_19) ?_ | refine rt_eq (q_X12_readsStep_33) ?_ | refine rt_eq (q_X12_readsStep_29) ?_ | refine rt_eq (q_X12_readsStep_45) ?_ | refine rt_eq (q_X12_readsStep_96 (by first | assumption | rfl | exact .inl rfl | exact .inr rfl)) ?_ | refine rt_eq (q_X12_readsStep_95 (by first | assumption | rfl | exact .inl rfl | exact .inr rfl) (by first | assumption | rfl | exact .inl rfl | exact .inr rfl)) ?_ | refine rt_eq (q_X12_readsStep_111 (by first | assumption | rfl | exact .inl rfl | exact .inr rfl)) ?_ | refine rt_eq (q_X12_readsStep_110 (by first | assumption | rfl | exact .inl rfl | exact .inr rfl)) ?_ | refine rt_eq (q_X12_readsStep_127 (by first | assumption | rfl | exact .inl rfl | exact .inr rfl)) ?_ | refine rt_eq (q_X12_readsStep_126 (by first | assumption | rfl | exact .inl rfl | exact .inr rfl)) ?_ | refine rt_eq (q_X12_readsStep_200 (by first | assumption | rfl | exact .inl rfl | exact .inr rfl)) ?_ | refine rt_eq (q_X12_readsStep_142 (by first | assumption | rfl | exact .inl rfl | exact .inr rfl)) ?_ | refine rt_eq (q_X12_readsStep_213) ?_ | refine rt_eq (q_X12_readsStep_149 (by first | assumption | rfl | exact .inl rfl | exact .inr rfl)) ?_ | refine rt_eq (q_X12_readsStep_153 (by first | assumption | rfl | exact .inl rfl | exact .inr rfl)) ?_ | refine rt_eq (q_X12_readsStep_184 (by first | assumption | rfl | exact .inl rfl | exact .inr rfl)) ?_ | refine rt_eq (q_X12_readsStep_168 (by first | assumption | rfl | exact .inl rfl | exact .inr rfl)) ?_ | refine rt_eq (q_X12_readsStep_190 (by first | assumption | rfl | exact .inl rfl | exact .inr rfl)) ?_ | refine rt_eq (q_X12_readsStep_177 (by first | assumption | rfl | exact .inl rfl | exact .inr rfl)) ?_ | refine rt_eq (q_X12_readsStep_181 (by first | assumption | rfl | exact .inl rfl | exact .inr rfl)) ?_)
        refine rt_bnd (sp_blanks (BM_rm B g1) B2 ((rm_2 g1).trans hz) (by omega) y2 x4) ?_
        rintro I2 J2 ⟨⟨p1, p2⟩, rfl⟩
        have fr2 : Fr fRM I I2 := fr_tr2 g1 p1 rm_5
        have ys := sk_le (W := W) y2
        (first | refine rt_eq (q_X12_readsStep_0) ?_ | refine rt_eq (q_X12_readsStep_4) ?_ | refine rt_eq (q_X12_readsStep_19) ?_ | refine rt_eq (q_X12_readsStep_33) ?_ | refine rt_eq (q_X12_readsStep_29) ?_ | refine rt_eq (q_X12_readsStep_45) ?_ | refine rt_eq (q_X12_readsStep_96 (by first | assumption | rfl | exact .inl rfl | exact .inr rfl)) ?_ | refine rt_eq (q_X12_readsStep_95 (by first | assumption | rfl | exact .inl rfl | exact .inr rfl) (by first | assumption | rfl | exact .inl rfl | exact .inr rfl)) ?_ | refine rt_eq (q_X12_readsStep_111 (by first | assumption | rfl | exact .inl rfl | exact .inr rfl)) ?_ | refine rt_eq (q_X12_readsStep_110 (by first | assumption | rfl | exact .inl rfl | exact .inr rfl)) ?_ | refine rt_eq (q_X12_readsStep_127 (by first | assumption | rfl | exact .inl rfl | exact .inr rfl)) ?_ | refine rt_eq (q_X12_readsStep_126 (by first | assumption | rfl | exact .inl rfl | exact .inr rfl)) ?_ | refine rt_eq (q_X12_readsStep_200 (by first | assumption | rfl | exact .inl rfl | exact .inr rfl)) ?_ | refine rt_eq (q_X12_readsStep_142 (by first | assumption | rfl | exact .inl rfl | exact .inr rfl)) ?_ | refine rt_eq (q_X12_readsStep_213) ?_ | refine rt_eq (q_X12_readsStep_149 (by first | assumption | rfl | exact .inl rfl | exact .inr rfl)) ?_ | refine rt_eq (q_X12_readsStep_153 (by first | assumption | rfl | exact .inl rfl | exact .inr rfl)) ?_ | refine rt_eq (q_X12_readsStep_184 (by first | assumption | rfl | exact .inl rfl | exact .inr rfl)) ?_ | refine rt_eq (q_X12_readsStep_168 (by first | assumption | rfl | exact .inl rfl | exact .inr rfl)) ?_ | refine rt_eq (q_X12_readsStep_190 (by first | assumption | rfl | exact .inl rfl | exact .inr rfl)) ?_ | refine rt_eq (q_X12_readsStep_177 (by first | assumption | rfl | exact .inl rfl | exact .inr rfl)) ?_ | refine rt_eq (q_X12_readsStep_181 (by first | assumption | rfl | exact .inl rfl | exact .inr rfl)) ?_)
        have hok2 := rd_ok (W := W) (z := z) hn f o R.2.2.1 R.2.2.2.1 R.2.2.2.2 y2
        refine ih k o R.2.2.1 R.2.2.2.1 s0 R.2.2.2.2 I2 u1 rr Q hok ho0 hs0 (by omega) y2 (by omega) ⟨ys.2, by omega, ho, fr2, p2, (p1 72 5 rfl).trans x5, (p1 72 8 rfl).trans x8, (p1 72 28 rfl).trans x28⟩ ?_
        rintro I3 ⟨q1, q2, q3⟩
        refine kk I3 ⟨q1, fun c2 => ?_, q3⟩
        obtain ⟨⟨v1, v2, v3, v4, v5⟩, v6⟩ := hok2 c2
        obtain ⟨t4, t5, t8, t28, tr, tR⟩ := q2 c2
        refine ⟨t4, t5, t8, t28, fun i j hi => ?_, fun i h1 h2 => ?_⟩
        · rw [tr i j (by omega), t5_row (by omega) p1, xr i j hi]
        · by_cases qi : i < R.2.2.2.1
          · have w := xR i h1 qi
            unfold rowM at w ⊢
            rw [tr i 0 qi, tr i 1 qi, tr i 2 qi, tr i 3 qi, t5_row (by omega) p1, t5_row (by omega) p1, t5_row (by omega) p1, t5_row (by omega) p1, v5 i qi]
            exact w
          · exact tR i (by omega) h2
      · rw [if_pos c1] at er
        rw [er] at kk
        obtain ⟨x5, x6, a', x7, x8⟩ := g3 c1
        have ys := sk_le (W := W) x7
        (first | refine rt_eq (q_X12_readsStep_0) ?_ | refine rt_eq (q_X12_readsStep_4) ?_ | refine rt_eq (q_X12_readsStep_19) ?_ | refine rt_eq (q_X12_readsStep_33) ?_ | refine rt_eq (q_X12_readsStep_29) ?_ | refine rt_eq (q_X12_readsStep_45) ?_ | refine rt_eq (q_X12_readsStep_96 (by first | assumption | rfl | exact .inl rfl | exact .inr rfl)) ?_ | refine rt_eq (q_X12_readsStep_95 (by first | assumption | rfl | exact .inl rfl | exact .inr rfl) (by first | assumption | rfl | exact .inl rfl | exact .inr rfl)) ?_ | refine rt_eq (q_X12_readsStep_111 (by first | assumption | rfl | exact .inl rfl | exact .inr rfl)) ?_ | refine rt_eq (q_X12_readsStep_110 (by first | assumption | rfl | exact .inl rfl | exact .inr rfl)) ?_ | refine rt_eq (q_X12_readsStep_127 (by first | assumption | rfl | exact .inl rfl | exact .inr rfl)) ?_ | refine rt_eq (q_X12_readsStep_126 (by first | assumption | rfl | exact .inl rfl | exact .inr rfl)) ?_ | refine rt_eq (q_X12_readsStep_200 (by first | assumption | rfl | exact .inl rfl | exact .inr rfl)) ?_ | refine rt_eq (q_X12_readsStep_142 (by first | assumption | rfl | exact .inl rfl | exact .inr rfl)) ?_ | refine rt_eq (q_X12_readsStep_213) ?_ | refine rt_eq (q_X12_readsStep_149 (by first | assumption | rfl | exact .inl rfl | exact .inr rfl)) ?_ | refine rt_eq (q_X12_readsStep_153 (by first | assumption | rfl | exact .inl rfl | exact .inr rfl)) ?_ | refine rt_eq (q_X12_readsStep_184 (by first | assumption | rfl | exact .inl rfl | exact .inr rfl)) ?_ | refine rt_eq (q_X12_readsStep_168 (by first | assumption | rfl | exact .inl rfl | exact .inr rfl)) ?_ | refine rt_eq (q_X12_readsStep_190 (by first | assumption | rfl | exact .inl rfl | exact .inr rfl)) ?_ | refine rt_eq (q_X12_readsStep_177 (by first | assumption | rfl | exact .inl rfl | exact .inr rfl)) ?_ | refine rt_eq (q_X12_readsStep_181 (by first | assumption | rfl | exact .inl rfl | exact .inr rfl)) ?_)
        refine rt_bnd (sp_blanks (BM_rm B g1) B2 ((rm_2 g1).trans hz) (by omega) x7 x8) ?_
        rintro I2 J2 ⟨⟨p1, p2⟩, rfl⟩
        have fr2 : Fr fRM I I2 := fr_tr2 g1 p1 rm_5
        have e5 : I2 72 5 = nI R.1 := (p1 72 5 rfl).trans x5
        (first | refine rt_eq (q_X12_readsStep_0) ?_ | refine rt_eq (q_X12_readsStep_4) ?_ | refine rt_eq (q_X12_readsStep_19) ?_ | refine rt_eq (q_X12_readsStep_33) ?_ | refine rt_eq (q_X12_readsStep_29) ?_ | refine rt_eq (q_X12_readsStep_45) ?_ | refine rt_eq (q_X12_readsStep_96 (by first | assumption | rfl | exact .inl rfl | exact .inr rfl)) ?_ | refine rt_eq (q_X12_readsStep_95 (by first | assumption | rfl | exact .inl rfl | exact .inr rfl) (by first | assumption | rfl | exact .inl rfl | exact .inr rfl)) ?_ | refine rt_eq (q_X12_readsStep_111 (by first | assumption | rfl | exact .inl rfl | exact .inr rfl)) ?_ | refine rt_eq (q_X12_readsStep_110 (by first | assumption | rfl | exact .inl rfl | exact .inr rfl)) ?_ | refine rt_eq (q_X12_readsStep_127 (by first | assumption | rfl | exact .inl rfl | exact .inr rfl)) ?_ | refine rt_eq (q_X12_readsStep_126 (by first | assumption | rfl | exact .inl rfl | exact .inr rfl)) ?_ | refine rt_eq (q_X12_readsStep_200 (by first | assumption | rfl | exact .inl rfl | exact .inr rfl)) ?_ | refine rt_eq (q_X12_readsStep_142 (by first | assumption | rfl | exact .inl rfl | exact .inr rfl)) ?_ | refine rt_eq (q_X12_readsStep_213) ?_ | refine rt_eq (q_X12_readsStep_149 (by first | assumption | rfl | exact .inl rfl | exact .inr rfl)) ?_ | refine rt_eq (q_X12_readsStep_153 (by first | assumption | rfl | exact .inl rfl | exact .inr rfl)) ?_ | refine rt_eq (q_X12_readsStep_184 (by first | assumption | rfl | exact .inl rfl | exact .inr rfl)) ?_ | refine rt_eq (q_X12_readsStep_168 (by first | assumption | rfl | exact .inl rfl | exact .inr rfl)) ?_ | refine rt_eq (q_X12_readsStep_190 (by first | assumption | rfl | exact .inl rfl | exact .inr rfl)) ?_ | refine rt_eq (q_X12_readsStep_177 (by first | assumption | rfl | exact .inl rfl | exact .inr rfl)) ?_ | refine rt_eq (q_X12_readsStep_181 (by first | assumption | rfl | exact .inl rfl | exact .inr rfl)) ?_)
        (first | refine rt_eq (q_X12_readsStep_0) ?_ | refine rt_eq (q_X12_readsStep_4) ?_ | refine rt_eq (q_X12_readsStep_19) ?_ | refine rt_eq (q_X12_readsStep_33) ?_ | refine rt_eq (q_X12_readsStep_29) ?_ | refine rt_eq (q_X12_readsStep_45) ?_ | refine rt_eq (q_X12_readsStep_96 (by first | assumption | rfl | exact .inl rfl | exact .inr rfl)) ?_ | refine rt_eq (q_X12_readsStep_95 (by first | assumption | rfl | exact .inl rfl | exact .inr rfl) (by first | assumption | rfl | exact .inl rfl | exact .inr rfl)) ?_ | refine rt_eq (q_X12_readsStep_111 (by first | assumption | rfl | exact .inl rfl | exact .inr rfl)) ?_ | refine rt_eq (q_X12_readsStep_110 (by first | assumption | rfl | exact .inl rfl | exact .inr rfl)) ?_ | refine rt_eq (q_X12_readsStep_127 (by first | assumption | rfl | exact .inl rfl | exact .inr rfl)) ?_ | refine rt_eq (q_X12_readsStep_126 (by first | assumption | rfl | exact .inl rfl | exact .inr rfl)) ?_ | refine rt_eq (q_X12_readsStep_200 (by first | assumption | rfl | exact .inl rfl | exact .inr rfl)) ?_ | refine rt_eq (q_X12_readsStep_142 (by first | assumption | rfl | exact .inl rfl | exact .inr rfl)) ?_ | refine rt_eq (q_X12_readsStep_213) ?_ | refine rt_eq (q_X12_readsStep_149 (by first | assumption | rfl | exact .inl rfl | exact .inr rfl)) ?_ | refine rt_eq (q_X12_readsStep_153 (by first | assumption | rfl | exact .inl rfl | exact .inr rfl)) ?_ | refine rt_eq (q_X12_readsStep_184 (by first | assumption | rfl | exact .inl rfl | exact .inr rfl)) ?_ | refine rt_eq (q_X12_readsStep_168 (by first | assumption | rfl | exact .inl rfl | exact .inr rfl)) ?_ | refine rt_eq (q_X12_readsStep_190 (by first | assumption | rfl | exact .inl rfl | exact .inr rfl)) ?_ | refine rt_eq (q_X12_readsStep_177 (by first | assumption | rfl | exact .inl rfl | exact .inr rfl)) ?_ | refine rt_eq (q_X12_readsStep_181 (by first | assumption | rfl | exact .inl rfl | exact .inr rfl)) ?_)
        refine rt_f (by rw [e5]; exact nI_ne0 (by omega) (by omega)) ?_
        exact kk I2 ⟨fr2, fun q => absurd q c1, fun _ => ⟨e5, (p1 72 6 rfl).trans x6, _, ys.2, p2⟩⟩
theorem lp_workM {u1 rr : Option Value} {Q : MI32 → MI64 → Prop} (hn : np ≤ 6) (B : BM I W) (B2 : ∀ k, k < 600 → W k < 256) (hz : I 72 2 = nI z) (hz2 : z ≤ 150) (hnp : I 76 0 = nI np) : ∀ f a s T I', z - a < f → a ≤ z → 2 * s ≤ a → hdM I z I' (sk W z a) s 0 → (∀ I'', okM I z I' I'' s 0 (rd W z np f 0 a s T) (sk W z (rd W z np f 0 a s T).2.2.1) → Rt L X (runI (runM (d + 13)) iX12_work (101, [some (.ref 72), u1], [], mm L X I'' J)) rr Q) → Rt L X (c_X12_work_72 (d + 13) L X I' J u1) rr Q
  | 0, a, s, T, I', hf => absurd hf (Nat.not_lt_zero _)
  | f + 1, a, s, T, I', hf => by
    intro ha h2s H kk
    have ih := lp_workM (u1 := u1) (rr := rr) (Q := Q) hn B B2 hz hz2 hnp f
    have LH := lp_readM (d := d) (L := L) (X := X) (J := J) hn B B2 hz hz2 hnp f
    have H' := H
    obtain ⟨hsa, h2sk, ho, fr, h4, h0, h8, h28⟩ := H
    have hs := sk_le (W := W) ha
    (first | refine rt_eq (q_X12_work_0) ?_ | refine rt_eq (q_X12_work_15) ?_ | refine rt_eq (q_X12_work_25) ?_ | refine rt_eq (q_X12_work_30) ?_ | refine rt_eq (q_X12_work_35) ?_ | refine rt_eq (q_X12_work_67) ?_ | refine rt_eq (q_X12_work_72) ?_ | refine rt_eq (q_X12_work_101) ?_ | refine rt_eq (q_X12_work_94) ?_ | refine rt_eq (q_X12_work_134) ?_ | refine rt_eq (q_X12_work_112) ?_ | refine rt_eq (q_X12_work_98) ?_ | refine rt_eq (q_X12_work_159) ?_ | refine rt_eq (q_X12_work_168) ?_)
    rw [h4, rm_2 fr, hz]
    refine rt_t h0 ?_
    by_cases c0 : stpW W z 0 a
    · have er : rd W z np (f + 1) 0 a s T = (0, 0, a, s, T) := if_pos c0
      rw [er] at kk
      have c0' : sk W z a = z := by
        rcases c0 with c0 | c0
        · exact c0.2
        · exact absurd rfl c0.1
      refine rt_t (by (try simp (disch := omega) only [nI_leI, nI_ltI, nI_eq, nI_add, pk_mul, n_0add, Nat.zero_add, nI_clamp]) <;> omega) (kk I' ⟨fr, fun _ => ⟨h4, h0, h8, h28, fun _ _ _ => rfl, fun i h1 h2 => absurd h1 (Nat.not_le.mpr h2)⟩, fun q => absurd rfl q⟩)
    · have er : rd W z np (f + 1) 0 a s T = if ¬ (rd1 W z np (rd W z np f) 0 a s T).1 = 0 then rd1 W z np (rd W z np f) 0 a s T else rd W z np f 0 (rd1 W z np (rd W z np f) 0 a s T).2.2.1 (rd1 W z np (rd W z np f) 0 a s T).2.2.2.1 (rd1 W z np (rd W z np f) 0 a s T).2.2.2.2 := if_neg c0
      have c0' : ¬ sk W z a = z := fun q => c0 (.inl ⟨rfl, q⟩)
      refine rt_f (by (try simp (disch := omega) only [nI_leI, nI_ltI, nI_eq, nI_add, pk_mul, n_0add, Nat.zero_add, nI_clamp]) <;> omega) ?_
      have st := st_M (d := d) (k := 6) (L := L) (X := X) (J := J) (T := T) hn B B2 hz hz2 hnp LH rfl (by omega) H'
      rw [rd1_sk ha] at st
      refine rt_bnd st ?_
      have rk := rd1_ok (W := W) (o := 0) (s := s) (T := T) hn ha (fun b T' hb hb2 q2 => by
        obtain ⟨g1, g2⟩ := rd_ok (W := W) (z := z) hn f (0 + 1) b (s + 1) T' hb2 q2
        refine ⟨g1, ?_⟩
        rcases g2 with g2 | g2
        · exact absurd g2.1 (by omega)
        · exact g2.2)
      have r3 : (rd1 W z np (rd W z np f) 0 a s T).1 ≤ 3 := rd1_3 (rd_3 f)
      generalize rd1 W z np (rd W z np f) 0 a s T = R at er rk r3
      rintro I1 J1 ⟨⟨g1, g2, g3⟩, rfl⟩
      by_cases c1 : R.1 = 0
      · obtain ⟨⟨y1, y2, y3, y4, y5⟩, y6, y7⟩ := rk c1
        obtain ⟨x4, x5, x8, x28, xr, xR⟩ := g2 c1
        clear g2 g3
        rw [if_neg (not_not_intro c1)] at er
        rw [er] at kk
        (first | refine rt_eq (q_X12_work_0) ?_ | refine rt_eq (q_X12_work_15) ?_ | refine rt_eq (q_X12_work_25) ?_ | refine rt_eq (q_X12_work_30) ?_ | refine rt_eq (q_X12_work_35) ?_ | refine rt_eq (q_X12_work_67) ?_ | refine rt_eq (q_X12_work_72) ?_ | refine rt_eq (q_X12_work_101) ?_ | refine rt_eq (q_X12_work_94) ?_ | refine rt_eq (q_X12_work_134) ?_ | refine rt_eq (q_X12_work_112) ?_ | refine rt_eq (q_X12_work_98) ?_ | refine rt_eq (q_X12_work_159) ?_ | refine rt_eq (q_X12_work_168) ?_)
        refine rt_bnd (sp_blanks (BM_rm B g1) B2 ((rm_2 g1).trans hz) (by omega) y2 x4) ?_
        rintro I2 J2 ⟨⟨p1, p2⟩, rfl⟩
        have fr2 : Fr fRM I I2 := fr_tr2 g1 p1 rm_5
        have ys := sk_le (W := W) y2
        (first | refine rt_eq (q_X12_work_0) ?_ | refine rt_eq (q_X12_work_15) ?_ | refine rt_eq (q_X12_work_25) ?_ | refine rt_eq (q_X12_work_30) ?_ | refine rt_eq (q_X12_work_35) ?_ | refine rt_eq (q_X12_work_67) ?_ | refine rt_eq (q_X12_work_72) ?_ | refine rt_eq (q_X12_work_101) ?_ | refine rt_eq (q_X12_work_94) ?_ | refine rt_eq (q_X12_work_134) ?_ | refine rt_eq (q_X12_work_112) ?_ | refine rt_eq (q_X12_work_98) ?_ | refine rt_eq (q_X12_work_159) ?_ | refine rt_eq (q_X12_work_168) ?_)
        have hok2 := rd_ok (W := W) (z := z) hn f 0 R.2.2.1 R.2.2.2.1 R.2.2.2.2 y2
        refine ih R.2.2.1 R.2.2.2.1 R.2.2.2.2 I2 (by omega) y2 (by omega) ⟨ys.2, by omega, ho, fr2, p2, (p1 72 5 rfl).trans x5, (p1 72 8 rfl).trans x8, (p1 72 28 rfl).trans x28⟩ ?_
        rintro I3 ⟨q1, q2, q3⟩
        refine kk I3 ⟨q1, fun c2 => ?_, q3⟩
        obtain ⟨⟨v1, v2, v3, v4, v5⟩, v6⟩ := hok2 c2
        obtain ⟨t4, t5, t8, t28, tr, tR⟩ := q2 c2
        refine ⟨t4, t5, t8, t28, fun i j hi => ?_, fun i h1 h2 => ?_⟩
        · rw [tr i j (by omega), t5_row (by omega) p1, xr i j hi]
        · by_cases qi : i < R.2.2.2.1
          · have w := xR i h1 qi
            unfold rowM at w ⊢
            rw [tr i 0 qi, tr i 1 qi, tr i 2 qi, tr i 3 qi, t5_row (by omega) p1, t5_row (by omega) p1, t5_row (by omega) p1, t5_row (by omega) p1, v5 i qi]
            exact w
          · exact tR i (by omega) h2
      · rw [if_pos c1] at er
        rw [er] at kk
        obtain ⟨x5, x6, a', x7, x8⟩ := g3 c1
        have ys := sk_le (W := W) x7
        (first | refine rt_eq (q_X12_work_0) ?_ | refine rt_eq (q_X12_work_15) ?_ | refine rt_eq (q_X12_work_25) ?_ | refine rt_eq (q_X12_work_30) ?_ | refine rt_eq (q_X12_work_35) ?_ | refine rt_eq (q_X12_work_67) ?_ | refine rt_eq (q_X12_work_72) ?_ | refine rt_eq (q_X12_work_101) ?_ | refine rt_eq (q_X12_work_94) ?_ | refine rt_eq (q_X12_work_134) ?_ | refine rt_eq (q_X12_work_112) ?_ | refine rt_eq (q_X12_work_98) ?_ | refine rt_eq (q_X12_work_159) ?_ | refine rt_eq (q_X12_work_168) ?_)
        refine rt_bnd (sp_blanks (BM_rm B g1) B2 ((rm_2 g1).trans hz) (by omega) x7 x8) ?_
        rintro I2 J2 ⟨⟨p1, p2⟩, rfl⟩
        have fr2 : Fr fRM I I2 := fr_tr2 g1 p1 rm_5
        have e5 : I2 72 5 = nI R.1 := (p1 72 5 rfl).trans x5
        (first | refine rt_eq (q_X12_work_0) ?_ | refine rt_eq (q_X12_work_15) ?_ | refine rt_eq (q_X12_work_25) ?_ | refine rt_eq (q_X12_work_30) ?_ | refine rt_eq (q_X12_work_35) ?_ | refine rt_eq (q_X12_work_67) ?_ | refine rt_eq (q_X12_work_72) ?_ | refine rt_eq (q_X12_work_101) ?_ | refine rt_eq (q_X12_work_94) ?_ | refine rt_eq (q_X12_work_134) ?_ | refine rt_eq (q_X12_work_112) ?_ | refine rt_eq (q_X12_work_98) ?_ | refine rt_eq (q_X12_work_159) ?_ | refine rt_eq (q_X12_work_168) ?_)
        (first | refine rt_eq (q_X12_work_0) ?_ | refine rt_eq (q_X12_work_15) ?_ | refine rt_eq (q_X12_work_25) ?_ | refine rt_eq (q_X12_work_30) ?_ | refine rt_eq (q_X12_work_35) ?_ | refine rt_eq (q_X12_work_67) ?_ | refine rt_eq (q_X12_work_72) ?_ | refine rt_eq (q_X12_work_101) ?_ | refine rt_eq (q_X12_work_94) ?_ | refine rt_eq (q_X12_work_134) ?_ | refine rt_eq (q_X12_work_112) ?_ | refine rt_eq (q_X12_work_98) ?_ | refine rt_eq (q_X12_work_159) ?_ | refine rt_eq (q_X12_work_168) ?_)
        refine rt_f (by rw [e5]; exact nI_ne0 (by omega) (by omega)) ?_
        exact kk I2 ⟨fr2, fun q => absurd q c1, fun _ => ⟨e5, (p1 72 6 rfl).trans x6, _, ys.2, p2⟩⟩
theorem RW_fuel {T : TT} {A B C : Nat → Int32} : ∀ g F dp s t a b, t - s ≤ F → RW np T A B C g dp s t a b → RW np T A B C F dp s t a b
  | 0, 0, dp, s, t, a, b, _, R => R
  | 0, F + 1, dp, s, t, a, b, _, R => .inl R
  | g + 1, 0, dp, s, t, a, b, h, R => by
    rcases R with R | ⟨q1, R⟩
    · exact R
    · exfalso
      omega
  | g + 1, F + 1, dp, s, t, a, b, h, R => by
    rcases R with R | ⟨q1, q2, q3, ⟨q4, q5, q6, q7, q8, q9⟩ | ⟨q4, q5, q6, q7, c, c1, c2, c3, c4, c5, c6, c7, c8⟩⟩
    · exact .inl R
    · exact .inr ⟨q1, q2, q3, .inl ⟨q4, q5, q6, q7, q8, RW_fuel g F _ _ _ _ _ (by omega) q9⟩⟩
    · exact .inr ⟨q1, q2, q3, .inr ⟨q4, q5, q6, q7, c, c1, c2, c3, c4, c5, c6, RW_fuel g F _ _ _ _ _ (by omega) c7, RW_fuel g F _ _ _ _ _ (by omega) c8⟩⟩
end WO
section WZ
variable {d L X : Nat} {I : MI32} {J : MI64} {W : Nat → Nat} {z tp : Nat} {h : Hs} {nL n wk : Nat} {cd : Cd} {N : Nt} {Bk : Bn} {x : Int32}
/-- the night behind a work -/
def wkG (h : Hs) (nL : Nat) (cd : Cd) (W : Nat → Nat) (z n : Nat) (N : Nt) : Ws := gos h (h 0 1) nL cd (rdW W z (h 0 0)).2.2.2.2 80 0 (rdW W z (h 0 0)).2.2.2.1 (0, 0, 0, n, N)
def wkAns (h : Hs) (nL : Nat) (cd : Cd) (W : Nat → Nat) (z n : Nat) (N : Nt) : Int32 := if (rdW W z (h 0 0)).1 = 0 then nI (wkG h nL cd W z n N).2.1 else nI (rdW W z (h 0 0)).1 - nI 10
def fWf : Fls := fOp ++ fRC
def fWo : Fls := fWf ++ fG ++ [(49, 0), (48, 4), (56, 12)]
theorem sp_isFull {w : Nat} (e : I 48 3 = nI w) (hw : w ≤ 16) : runM (d + 1) nX4_isFull [.ref 48] (mm L X I J) = rI (nI (if w < 16 then 0 else 1)) (mm L X I J) := by
  rw [e_X4_isFull]
  (first | refine Eq.trans (q_X4_isFull_0) ?_)
  rw [e]
  by_cases q : w < 16
  · rw [if_pos q, if_pos (by ((try simp (disch := omega) only [nI_leI, nI_ltI, nI_eq, nI_add, pk_mul, n_0add, Nat.zero_add, nI_clamp]) <;> omega))]
  · rw [if_neg q, if_neg (by ((try simp (disch := omega) only [nI_leI, nI_ltI, nI_eq, nI_add, pk_mul, n_0add, Nat.zero_add, nI_clamp]) <;> omega))]
theorem rdW_s (hn : h 0 0 ≤ 6) (hz : z ≤ 150) (q : (rdW W z (h 0 0)).1 = 0) : (rdW W z (h 0 0)).2.2.2.1 ≤ 75 := by
  obtain ⟨⟨v1, v2, v3, v4, v5⟩, v6⟩ := rd_ok (W := W) (z := z) hn (z + 1) 0 0 0 (fun _ _ => 0) (Nat.zero_le _) q
  show (rd W z (h 0 0) (z + 1) 0 0 0 (fun _ _ => 0)).2.2.2.1 ≤ 75
  omega
theorem PC_fr {l : Fls} {I' : MI32} (P : PC I wk Bk) (g : Fr l I I') (h : dj l [(48, 4), (49, 0)] = true) : PC I' wk Bk := by
  have q := ag_of g h
  obtain ⟨p1, p2, p3⟩ := P
  refine ⟨(q 48 3 rfl).trans p1, p2, fun i hi => ?_⟩
  rw [show I' 49 = I 49 from funext fun k => q 49 k rfl]
  exact p3 i hi
theorem c_work (V : CS I h nL cd n N) (O : SO I) (B : BC I W) (ht : I 1 1 = nI tp) (htp : tp ≤ 600) (hn : z ≤ tp) (hm : z ≤ 150) (P : PC I wk Bk) (hw : wk < 16) : Rt L X (runM (d + 9) nX11_work [.ref 0, .int (nI z)] (mm L X I J)) (some (.int (wkAns h nL cd W z n N))) (fun I' J' => (((rdW W z (h 0 0)).1 = 0 → Fr fWo I I' ∧ I' 1 1 = nI 0 ∧ I' 1 3 = -1 ∧ PC I' (wk + 1) (bnA Bk wk (n, N)) ∧ NC I' 43 (wkG h nL cd W z n N).2.2.2.1 (wkG h nL cd W z n N).2.2.2.2 ∧ I' 37 7 = nI (wkG h nL cd W z n N).2.2.1 ∧ I' 56 11 = -1 ∧ ∃ e, RW (h 0 0) (rdW W z (h 0 0)).2.2.2.2 (I' 38) (I' 39) (I' 40) 80 0 0 (rdW W z (h 0 0)).2.2.2.1 0 e) ∧ (¬ (rdW W z (h 0 0)).1 = 0 → Fr fWf I I' ∧ I' 1 1 = nI 0 ∧ I' 1 3 = nI (rdW W z (h 0 0)).2.1)) ∧ J' = J) := by
  have hnp := V.1.1
  rw [e_X11_work]
  (first | refine rt_eq (q_X11_work_0) ?_ | refine rt_eq (q_X11_work_8) ?_ | refine rt_eq (q_X11_work_15) ?_ | refine rt_eq (q_X11_work_39) ?_ | refine rt_eq (q_X11_work_64) ?_ | refine rt_eq (q_X11_work_71) ?_ | refine rt_eq (q_X11_work_90) ?_)
  refine rt_bnd (sp_open (most := 150) B ht htp hn hm (by decide)) ?_
  rintro I1 J1 ⟨⟨f1, f2, f3, f4, f5⟩, rfl⟩
  (first | refine rt_eq (q_X11_work_0) ?_ | refine rt_eq (q_X11_work_8) ?_ | refine rt_eq (q_X11_work_15) ?_ | refine rt_eq (q_X11_work_39) ?_ | refine rt_eq (q_X11_work_64) ?_ | refine rt_eq (q_X11_work_71) ?_ | refine rt_eq (q_X11_work_90) ?_)
  refine rt_be (sp_isFull ((f1 48 3 rfl).trans P.1) P.2.1) ?_
  rw [if_pos hw]
  (first | refine rt_eq (q_X11_work_0) ?_ | refine rt_eq (q_X11_work_8) ?_ | refine rt_eq (q_X11_work_15) ?_ | refine rt_eq (q_X11_work_39) ?_ | refine rt_eq (q_X11_work_64) ?_ | refine rt_eq (q_X11_work_71) ?_ | refine rt_eq (q_X11_work_90) ?_)
  have e0 : I1 3 0 = nI (h 0 0) := (f1 3 0 rfl).trans V.2.2.1.1.1
  rw [e0]
  refine rt_t rfl (rt_bnd (sp_readWork hnp (SO_fr O f1 (by decide)) f2 hm f4 f5) ?_)
  rintro I2 J2 ⟨⟨g1, g2, g3⟩, rfl⟩
  have fr2 : Fr fWf I I2 := fr_tr (fr_mono f1 (by decide)) (fr_mono g1 (by decide))
  (first | refine rt_eq (q_X11_work_0) ?_ | refine rt_eq (q_X11_work_8) ?_ | refine rt_eq (q_X11_work_15) ?_ | refine rt_eq (q_X11_work_39) ?_ | refine rt_eq (q_X11_work_64) ?_ | refine rt_eq (q_X11_work_71) ?_ | refine rt_eq (q_X11_work_90) ?_)
  unfold wkAns
  by_cases q : (rdW W z (h 0 0)).1 = 0
  · rw [if_pos q, decide_eq_true q]
    obtain ⟨k2, k3, e, g, he, k4, k5⟩ := g2 q
    have V2 : CS I2 h nL cd n N := CS_fr V fr2 (by decide) (by decide) (by decide) (by decide)
    have s75 := rdW_s (W := W) hnp hm q
    refine rt_f (show ¬ bI true = nI 0 by decide) (rt_bnd (sp_push (PC_fr P fr2 (by decide)) hw V.2.2.2.2.1.1.1 V2.2.2.2.1) ?_)
    rintro I3 J3 ⟨⟨l1, l2⟩, rfl⟩
    (first | refine rt_eq (q_X11_work_0) ?_ | refine rt_eq (q_X11_work_8) ?_ | refine rt_eq (q_X11_work_15) ?_ | refine rt_eq (q_X11_work_39) ?_ | refine rt_eq (q_X11_work_64) ?_ | refine rt_eq (q_X11_work_71) ?_ | refine rt_eq (q_X11_work_90) ?_)
    refine rt_be sp_forgetShort ?_
    generalize hI4 : up2 I3 56 11 (-1) = I4
    have m1 : Fr [(56, 12)] I3 I4 := by
      rw [← hI4]
      exact fr_up fr_rfl rfl
    have m2 : I4 56 11 = -1 := by rw [← hI4, up2_s]
    clear hI4
    have fr4 : Fr (fWf ++ [(49, 0), (48, 4), (56, 12)]) I I4 := fr_tr (fr_tr (fr_mono fr2 (by decide)) (fr_mono l1 (by decide))) (fr_mono m1 (by decide))
    have l4 : Fr [(49, 0), (48, 4), (56, 12)] I2 I4 := fr_tr (fr_mono l1 (by decide)) (fr_mono m1 (by decide))
    have V4 : CS I4 h nL cd n N := CS_fr V fr4 (by decide) (by decide) (by decide) (by decide)
    have k5' : RW (h 0 0) (rdW W z (h 0 0)).2.2.2.2 (I4 38) (I4 39) (I4 40) 80 0 0 (rdW W z (h 0 0)).2.2.2.1 0 e := by
      rw [show I4 38 = I2 38 from funext fun j => l4 38 j rfl, show I4 39 = I2 39 from funext fun j => l4 39 j rfl, show I4 40 = I2 40 from funext fun j => l4 40 j rfl]
      exact RW_fuel g 80 _ _ _ _ _ (by omega) k5
    (first | refine rt_eq (q_X11_work_0) ?_ | refine rt_eq (q_X11_work_8) ?_ | refine rt_eq (q_X11_work_15) ?_ | refine rt_eq (q_X11_work_39) ?_ | refine rt_eq (q_X11_work_64) ?_ | refine rt_eq (q_X11_work_71) ?_ | refine rt_eq (q_X11_work_90) ?_)
    refine rt_bnd (sp_doneOn (d := d + 1) (T := (rdW W z (h 0 0)).2.2.2.2) (size := e) V4.1 V4.2.1 V4.2.2.1 V4.2.2.2.1 V4.2.2.2.2.1 V4.2.2.2.2.2 ((l4 37 3 rfl).trans k4) he k5') ?_
    rintro I5 J5 ⟨⟨n1, n2, n3⟩, rfl⟩
    (first | refine rt_eq (q_X11_work_0) ?_ | refine rt_eq (q_X11_work_8) ?_ | refine rt_eq (q_X11_work_15) ?_ | refine rt_eq (q_X11_work_39) ?_ | refine rt_eq (q_X11_work_64) ?_ | refine rt_eq (q_X11_work_71) ?_ | refine rt_eq (q_X11_work_90) ?_)
    refine rt_ret ⟨⟨fun _ => ⟨fr_tr (fr_mono fr4 (by decide)) (fr_mono n1 (by decide)), ?_, ?_, ?_, n2, n3, (n1 56 11 rfl).trans m2, e, ?_⟩, fun q2 => absurd q q2⟩, rfl⟩
    · rw [n1 1 1 rfl, l4 1 1 rfl, g1 1 1 rfl, f3]
    · rw [n1 1 3 rfl, l4 1 3 rfl, k3]
    · exact PC_fr (PC_fr l2 m1 (by decide)) n1 (by decide)
    · rw [show I5 38 = I4 38 from funext fun j => n1 38 j rfl, show I5 39 = I4 39 from funext fun j => n1 39 j rfl, show I5 40 = I4 40 from funext fun j => n1 40 j rfl]
      exact k5'
  · rw [if_neg q, decide_eq_false q]
    obtain ⟨k2, k3⟩ := g3 q
    rw [k2]
    exact rt_t bI_f (rt_ret ⟨⟨fun q2 => absurd q2 q, fun _ => ⟨fr2, (g1 1 1 rfl).trans f3, k3⟩⟩, rfl⟩)
theorem c_work20 (B : BC I W) (ht : I 1 1 = nI tp) (htp : tp ≤ 600) (hn : z ≤ tp) (hm : z ≤ 150) (P : I 48 3 = nI 16) : Rt L X (runM (d + 3) nX11_work [.ref 0, .int (nI z)] (mm L X I J)) (some (.int (-20))) (fun I' J' => (Fr fOp I I' ∧ I' 1 1 = nI 0 ∧ I' 1 3 = -1) ∧ J' = J) := by
  rw [e_X11_work]
  (first | refine rt_eq (q_X11_work_0) ?_ | refine rt_eq (q_X11_work_8) ?_ | refine rt_eq (q_X11_work_15) ?_ | refine rt_eq (q_X11_work_39) ?_ | refine rt_eq (q_X11_work_64) ?_ | refine rt_eq (q_X11_work_71) ?_ | refine rt_eq (q_X11_work_90) ?_)
  refine rt_bnd (sp_open (most := 150) B ht htp hn hm (by decide)) ?_
  rintro I1 J1 ⟨⟨f1, f2, f3, f4, f5⟩, rfl⟩
  (first | refine rt_eq (q_X11_work_0) ?_ | refine rt_eq (q_X11_work_8) ?_ | refine rt_eq (q_X11_work_15) ?_ | refine rt_eq (q_X11_work_39) ?_ | refine rt_eq (q_X11_work_64) ?_ | refine rt_eq (q_X11_work_71) ?_ | refine rt_eq (q_X11_work_90) ?_)
  refine rt_be (sp_isFull ((f1 48 3 rfl).trans P) (by decide)) ?_
  rw [if_neg (by decide)]
  (first | refine rt_eq (q_X11_work_0) ?_ | refine rt_eq (q_X11_work_8) ?_ | refine rt_eq (q_X11_work_15) ?_ | refine rt_eq (q_X11_work_39) ?_ | refine rt_eq (q_X11_work_64) ?_ | refine rt_eq (q_X11_work_71) ?_ | refine rt_eq (q_X11_work_90) ?_)
  exact rt_f (by decide) (rt_ret ⟨⟨f1, f3, f5⟩, rfl⟩)
theorem x_work (ht : I 1 1 = nI tp) (htp : tp ≤ 600) (hx : ¬ ∃ n, n ≤ tp ∧ n ≤ 150 ∧ x = nI n) : runM (d + 3) nX11_work [.ref 0, .int x] (mm L X I J) = some (.inr 1, mm L (X + 1) (ex1 I) J) := by
  rw [e_X11_work]
  (first | refine Eq.trans (q_X11_work_0) ?_ | refine Eq.trans (q_X11_work_8) ?_ | refine Eq.trans (q_X11_work_15) ?_ | refine Eq.trans (q_X11_work_39) ?_ | refine Eq.trans (q_X11_work_64) ?_ | refine Eq.trans (q_X11_work_71) ?_ | refine Eq.trans (q_X11_work_90) ?_)
  exact bnd_x (x_open ht htp (by decide) hx)
/-! the model -/
def fWfM : Fls := fStT ++ fRM ++ [(72, 1), (72, 4)]
def fWoM : Fls := fWfM ++ fGM ++ [(72, 36)] ++ cells 537 16
theorem m_work (V : MS I h nL cd n N) (B : BM I W) (B2 : ∀ k, k < 600 → W k < 256) (ht : I 72 1 = nI tp) (htp : tp ≤ 600) (hn : z ≤ tp) (hm : z ≤ 150) (hwk : I 72 35 = nI wk) (hw : wk < 16) {A0 B0 C0 : Nat → Int32} {e : Nat} (RR : (rdW W z (h 0 0)).1 = 0 → RW (h 0 0) (rdW W z (h 0 0)).2.2.2.2 A0 B0 C0 80 0 0 (rdW W z (h 0 0)).2.2.2.1 0 e) : Rt L X (runM (d + 18) nX12_work [.ref 72, .int (nI z)] (mm L X I J)) (some (.int (wkAns h nL cd W z n N))) (fun I' J' => (I' 72 0 = nI 0 ∧ ((rdW W z (h 0 0)).1 = 0 → Fr fWoM I I' ∧ I' 72 1 = nI 0 ∧ I' 72 3 = -1 ∧ I' 72 35 = nI (wk + 1) ∧ (∀ k, k < 31 → I' (537 + wk) k = N k) ∧ (∀ i k, i < 16 → ¬ i = wk → I' (537 + i) k = I (537 + i) k) ∧ I' 533 = (wkG h nL cd W z n N).2.2.2.2 ∧ I' 72 36 = nI (wkG h nL cd W z n N).2.2.1 ∧ wlW h (wkG h nL cd W z n N)) ∧ (¬ (rdW W z (h 0 0)).1 = 0 → Fr fWfM I I' ∧ I' 72 1 = nI 0 ∧ I' 72 3 = nI (rdW W z (h 0 0)).2.1)) ∧ J' = J) := by
  have hnp := V.1.1
  rw [e_X12_work]
  (first | refine rt_eq (q_X12_work_0) ?_ | refine rt_eq (q_X12_work_15) ?_ | refine rt_eq (q_X12_work_25) ?_ | refine rt_eq (q_X12_work_30) ?_ | refine rt_eq (q_X12_work_35) ?_ | refine rt_eq (q_X12_work_67) ?_ | refine rt_eq (q_X12_work_72) ?_ | refine rt_eq (q_X12_work_101) ?_ | refine rt_eq (q_X12_work_94) ?_ | refine rt_eq (q_X12_work_134) ?_ | refine rt_eq (q_X12_work_112) ?_ | refine rt_eq (q_X12_work_98) ?_ | refine rt_eq (q_X12_work_159) ?_ | refine rt_eq (q_X12_work_168) ?_)
  rw [show (up2 I 72 0 (nI 0)) 72 1 = nI tp by rw [up2_k (by decide), ht]]
  refine rt_bne (in_t (by (try simp (disch := omega) only [nI_leI, nI_ltI, nI_eq, nI_add, pk_mul, n_0add, Nat.zero_add, nI_clamp]) <;> omega) (by (try simp (disch := omega) only [nI_leI, nI_ltI, nI_eq, nI_add, pk_mul, n_0add, Nat.zero_add, nI_clamp]) <;> omega)) ?_
  (first | refine rt_eq (q_X12_work_0) ?_ | refine rt_eq (q_X12_work_15) ?_ | refine rt_eq (q_X12_work_25) ?_ | refine rt_eq (q_X12_work_30) ?_ | refine rt_eq (q_X12_work_35) ?_ | refine rt_eq (q_X12_work_67) ?_ | refine rt_eq (q_X12_work_72) ?_ | refine rt_eq (q_X12_work_101) ?_ | refine rt_eq (q_X12_work_94) ?_ | refine rt_eq (q_X12_work_134) ?_ | refine rt_eq (q_X12_work_112) ?_ | refine rt_eq (q_X12_work_98) ?_ | refine rt_eq (q_X12_work_159) ?_ | refine rt_eq (q_X12_work_168) ?_)
  refine rt_f (by decide) (rt_t (by (try simp (disch := omega) only [nI_leI, nI_ltI, nI_eq, nI_add, pk_mul, n_0add, Nat.zero_add, nI_clamp]) <;> omega) ?_)
  (first | refine rt_eq (q_X12_work_0) ?_ | refine rt_eq (q_X12_work_15) ?_ | refine rt_eq (q_X12_work_25) ?_ | refine rt_eq (q_X12_work_30) ?_ | refine rt_eq (q_X12_work_35) ?_ | refine rt_eq (q_X12_work_67) ?_ | refine rt_eq (q_X12_work_72) ?_ | refine rt_eq (q_X12_work_101) ?_ | refine rt_eq (q_X12_work_94) ?_ | refine rt_eq (q_X12_work_134) ?_ | refine rt_eq (q_X12_work_112) ?_ | refine rt_eq (q_X12_work_98) ?_ | refine rt_eq (q_X12_work_159) ?_ | refine rt_eq (q_X12_work_168) ?_)
  refine rt_be (bad_f up2_s) ?_
  (first | refine rt_eq (q_X12_work_0) ?_ | refine rt_eq (q_X12_work_15) ?_ | refine rt_eq (q_X12_work_25) ?_ | refine rt_eq (q_X12_work_30) ?_ | refine rt_eq (q_X12_work_35) ?_ | refine rt_eq (q_X12_work_67) ?_ | refine rt_eq (q_X12_work_72) ?_ | refine rt_eq (q_X12_work_101) ?_ | refine rt_eq (q_X12_work_94) ?_ | refine rt_eq (q_X12_work_134) ?_ | refine rt_eq (q_X12_work_112) ?_ | refine rt_eq (q_X12_work_98) ?_ | refine rt_eq (q_X12_work_159) ?_ | refine rt_eq (q_X12_work_168) ?_)
  have gz : Fr [(72, 1)] I (up2 I 72 0 (nI 0)) := fr_up fr_rfl rfl
  rw [gz 72 35 rfl, hwk]
  refine rt_t rfl (rt_f (by (try simp (disch := omega) only [nI_leI, nI_ltI, nI_eq, nI_add, pk_mul, n_0add, Nat.zero_add, nI_clamp]) <;> omega) (rt_bnd (sp_starts (BM_fr B gz (by decide)) B2 (by omega)) ?_))
  rintro I1 J1 ⟨⟨f1, f2, f3, f4, f5, f6, f7, f8⟩, rfl⟩
  have g1 : Fr ([(72, 1)] ++ fStT) I I1 := fr_tr (fr_mono gz (by decide)) (fr_mono f1 (by decide))
  have e0 : I1 72 0 = nI 0 := by rw [f1 72 0 rfl, up2_s]
  (first | refine rt_eq (q_X12_work_0) ?_ | refine rt_eq (q_X12_work_15) ?_ | refine rt_eq (q_X12_work_25) ?_ | refine rt_eq (q_X12_work_30) ?_ | refine rt_eq (q_X12_work_35) ?_ | refine rt_eq (q_X12_work_67) ?_ | refine rt_eq (q_X12_work_72) ?_ | refine rt_eq (q_X12_work_101) ?_ | refine rt_eq (q_X12_work_94) ?_ | refine rt_eq (q_X12_work_134) ?_ | refine rt_eq (q_X12_work_112) ?_ | refine rt_eq (q_X12_work_98) ?_ | refine rt_eq (q_X12_work_159) ?_ | refine rt_eq (q_X12_work_168) ?_)
  generalize hI2 : up2 I1 72 28 (nI 0) = I2
  have g2 : Fr [(72, 29)] I1 I2 := by
    rw [← hI2]
    exact fr_up fr_rfl rfl
  have e28 : I2 72 28 = nI 0 := by rw [← hI2, up2_s]
  clear hI2
  have g12 : Fr ([(72, 1)] ++ fStT ++ [(72, 29)]) I I2 := fr_tr (fr_mono g1 (by decide)) (fr_mono g2 (by decide))
  have s0 := sk_le (W := W) (Nat.zero_le z)
  refine lp_workM (d := d + 4) (I := I2) (np := h 0 0) hnp (BM_fr B g12 (by decide)) B2 ((g2 72 2 rfl).trans f3) hm ((g12 76 0 rfl).trans V.2.2.1.1.1) (z + 1) 0 0 (fun _ _ => 0) I2 (by omega) (Nat.zero_le _) (by omega) ⟨s0.2, by omega, by decide, fr_rfl, (g2 72 4 rfl).trans f4, (g2 72 5 rfl).trans f5, (g2 72 8 rfl).trans f8, e28⟩ ?_
  rintro I3 ⟨k1, k2, k3⟩
  have fr3 : Fr fWfM I I3 := fr_tr (fr_mono g12 (by decide +kernel)) (fr_mono k1 (by decide +kernel))
  have n72 : ∀ k, dj fRM [(72, k + 1)] = true → I3 72 k = I2 72 k := fun k hk => ag_of (s := [(72, k + 1)]) k1 hk 72 k (by simp [inF])
  have e03 : I3 72 0 = nI 0 := by rw [n72 0 (by decide +kernel), g2 72 0 rfl, e0]
  have e13 : I3 72 1 = nI 0 := by rw [n72 1 (by decide +kernel), g2 72 1 rfl, f2]
  (first | refine rt_eq (q_X12_work_0) ?_ | refine rt_eq (q_X12_work_15) ?_ | refine rt_eq (q_X12_work_25) ?_ | refine rt_eq (q_X12_work_30) ?_ | refine rt_eq (q_X12_work_35) ?_ | refine rt_eq (q_X12_work_67) ?_ | refine rt_eq (q_X12_work_72) ?_ | refine rt_eq (q_X12_work_101) ?_ | refine rt_eq (q_X12_work_94) ?_ | refine rt_eq (q_X12_work_134) ?_ | refine rt_eq (q_X12_work_112) ?_ | refine rt_eq (q_X12_work_98) ?_ | refine rt_eq (q_X12_work_159) ?_ | refine rt_eq (q_X12_work_168) ?_)
  have er : rd W z (h 0 0) (z + 1) 0 0 0 (fun _ _ => 0) = rdW W z (h 0 0) := rfl
  rw [er] at k2 k3
  unfold wkAns
  by_cases q : (rdW W z (h 0 0)).1 = 0
  · rw [if_pos q]
    obtain ⟨x4, x5, x8, x28, xr, xR⟩ := k2 q
    have s75 := rdW_s (W := W) hnp hm q
    have V3 : MS I3 h nL cd n N := MS_fr V fr3 (by decide +kernel) (by decide +kernel) (by decide +kernel)
    have e35 : (up2 I3 72 3 (-1)) 72 35 = nI wk := by rw [up2_k (by decide), n72 35 (by decide +kernel), g2 72 35 rfl, f1 72 35 rfl, gz 72 35 rfl, hwk]
    rw [e35]
    refine rt_t x5 (rt_gd (inb_n hw (by decide)) ?_)
    rw [nI_clamp (by omega)]
    have fr4 : Fr [(72, 4)] I3 (up2 I3 72 3 (-1)) := fr_up fr_rfl rfl
    have e34 : (up2 I3 72 3 (-1)) 72 3 = -1 := up2_s
    generalize up2 I3 72 3 (-1) = I4 at fr4 e34 e35 ⊢
    refine rt_bndN (sp_copies ka_533 (ka_bef hw) (by omega) (by decide) (by decide) (by decide) (by decide)) ?_
    rintro I5 J5 ⟨⟨m1, m2⟩, rfl⟩
    have inw : ∀ j, inF [(537 + wk, 0)] (537 + wk) j = true := fun j => by simp [inF]
    have o5 : ∀ b k, ¬ b = 537 + wk → I5 b k = I4 b k := fun b k hb => m1 b k (by simp [inF]; omega)
    have m5 : Fr (cells 537 16) I4 I5 := by
      intro b k hb
      refine o5 b k (fun e => ?_)
      rw [e, in_cells hw] at hb
      exact absurd hb (by decide)
    (first | refine rt_eq (q_X12_work_0) ?_ | refine rt_eq (q_X12_work_15) ?_ | refine rt_eq (q_X12_work_25) ?_ | refine rt_eq (q_X12_work_30) ?_ | refine rt_eq (q_X12_work_35) ?_ | refine rt_eq (q_X12_work_67) ?_ | refine rt_eq (q_X12_work_72) ?_ | refine rt_eq (q_X12_work_101) ?_ | refine rt_eq (q_X12_work_94) ?_ | refine rt_eq (q_X12_work_134) ?_ | refine rt_eq (q_X12_work_112) ?_ | refine rt_eq (q_X12_work_98) ?_ | refine rt_eq (q_X12_work_159) ?_ | refine rt_eq (q_X12_work_168) ?_)
    rw [o5 72 35 (by omega), e35, nI_add]
    generalize hI6 : up2 (up2 (up2 (up2 I5 72 35 (nI (wk + 1))) 72 41 (nI 0)) 72 42 (nI 0)) 72 36 (nI 0) = I6
    have m6 : Fr [(72, 36), (72, 42), (72, 43), (72, 37)] I5 I6 := by
      rw [← hI6]
      exact fr_up (fr_up (fr_up (fr_up fr_rfl rfl) rfl) rfl) rfl
    have e356 : I6 72 35 = nI (wk + 1) := by rw [← hI6, up2_k (by decide), up2_k (by decide), up2_k (by decide), up2_s]
    have e416 : I6 72 41 = nI 0 := by rw [← hI6, up2_k (by decide), up2_k (by decide), up2_s]
    have e426 : I6 72 42 = nI 0 := by rw [← hI6, up2_k (by decide), up2_s]
    have e366 : I6 72 36 = nI 0 := by rw [← hI6, up2_s]
    clear hI6
    have fr36 : Fr ([(72, 4)] ++ cells 537 16 ++ [(72, 36), (72, 42), (72, 43), (72, 37)]) I3 I6 := fr_tr (fr_tr (fr_mono fr4 (by decide +kernel)) (fr_mono m5 (by decide +kernel))) (fr_mono m6 (by decide +kernel))
    have V6 : MS I6 h nL cd n N := MS_fr V3 fr36 (by decide +kernel) (by decide +kernel) (by decide +kernel)
    have h36 : ∀ k, dj ([(72, 4)] ++ cells 537 16 ++ [(72, 36), (72, 42), (72, 43), (72, 37)]) [(72, k + 1)] = true → I6 72 k = I3 72 k := fun k hk => ag_of (s := [(72, k + 1)]) fr36 hk 72 k (by simp [inF])
    (first | refine rt_eq (q_X12_work_0) ?_ | refine rt_eq (q_X12_work_15) ?_ | refine rt_eq (q_X12_work_25) ?_ | refine rt_eq (q_X12_work_30) ?_ | refine rt_eq (q_X12_work_35) ?_ | refine rt_eq (q_X12_work_67) ?_ | refine rt_eq (q_X12_work_72) ?_ | refine rt_eq (q_X12_work_101) ?_ | refine rt_eq (q_X12_work_94) ?_ | refine rt_eq (q_X12_work_134) ?_ | refine rt_eq (q_X12_work_112) ?_ | refine rt_eq (q_X12_work_98) ?_ | refine rt_eq (q_X12_work_159) ?_ | refine rt_eq (q_X12_work_168) ?_)
    rw [h36 28 (by decide +kernel), x28]
    have TMM : TM I6 (rdW W z (h 0 0)).2.2.2.2 (rdW W z (h 0 0)).2.2.2.1 := by
      intro s hs
      have w := xR s (Nat.zero_le _) hs
      have r6 : ∀ j, I6 (453 + s) j = I3 (453 + s) j := fun j => ag_of (s := cells 453 80) fr36 (by decide +kernel) _ j (in_cells (by omega))
      unfold rowM at w
      rw [r6, r6, r6, r6]
      exact w
    have call : Rt L X (runM (d + 17) nX12_goes [.ref 72, .int (nI 0), .int (nI (rdW W z (h 0 0)).2.2.2.1)] (mm L X I6 J5)) none (fun I'' J' => WM h I6 I'' (wkG h nL cd W z n N) ∧ J' = J5) := by
      rw [e_X12_goes]
      (first | refine rt_eq (q_X12_goes_0) ?_ | refine rt_eq (q_X12_goes_2) ?_ | refine rt_eq (q_X12_goes_104) ?_ | refine rt_eq (q_X12_goes_43) ?_ | refine rt_eq (q_X12_goes_121) ?_ | refine rt_eq (q_X12_goes_87) ?_ | refine rt_eq (q_X12_goes_81) ?_ | refine rt_eq (q_X12_goes_140) ?_ | refine rt_eq (q_X12_goes_144) ?_)
      exact lp_goes (d := d) (t0 := (rdW W z (h 0 0)).2.2.2.1) V6.1 V6.2.1 V6.2.2.1 (by omega) TMM 80 6 0 0 (rdW W z (h 0 0)).2.2.2.1 0 e rfl (Nat.le_refl _) (RR q) (0, 0, 0, n, N) I6 _ _ ⟨fr_rfl, V6.2.2.2.1, ⟨V6.2.2.2.2.1, V6.2.2.2.2.2, Nat.zero_le _, Nat.le_refl _, Nat.le_refl _⟩, e416, e426, e366⟩
    refine rt_bnd call ?_
    rintro I7 J7 ⟨⟨w1', w2, w3, w4, w5, w6⟩, rfl⟩
    (first | refine rt_eq (q_X12_work_0) ?_ | refine rt_eq (q_X12_work_15) ?_ | refine rt_eq (q_X12_work_25) ?_ | refine rt_eq (q_X12_work_30) ?_ | refine rt_eq (q_X12_work_35) ?_ | refine rt_eq (q_X12_work_67) ?_ | refine rt_eq (q_X12_work_72) ?_ | refine rt_eq (q_X12_work_101) ?_ | refine rt_eq (q_X12_work_94) ?_ | refine rt_eq (q_X12_work_134) ?_ | refine rt_eq (q_X12_work_112) ?_ | refine rt_eq (q_X12_work_98) ?_ | refine rt_eq (q_X12_work_159) ?_ | refine rt_eq (q_X12_work_168) ?_)
    rw [w5]
    have h67 : ∀ k, dj fGM [(72, k + 1)] = true → I7 72 k = I6 72 k := fun k hk => ag_of (s := [(72, k + 1)]) w1' hk 72 k (by simp [inF])
    refine rt_ret ⟨⟨?_, fun _ => ⟨?_, ?_, ?_, ?_, fun k hk => ?_, fun i k hi hne => ?_, w2, w6, w3⟩, fun q2 => absurd q q2⟩, rfl⟩
    · rw [h67 0 (by decide +kernel), h36 0 (by decide +kernel), e03]
    · exact fr_tr (fr_tr (fr_mono fr3 (by decide +kernel)) (fr_mono fr36 (by decide +kernel))) (fr_mono w1' (by decide +kernel))
    · rw [h67 1 (by decide +kernel), h36 1 (by decide +kernel), e13]
    · rw [h67 3 (by decide +kernel), m6 72 3 rfl, o5 72 3 (by omega), e34]
    · rw [h67 35 (by decide +kernel), e356]
    · have r7 : I7 (537 + wk) k = I6 (537 + wk) k := ag_of (s := cells 537 16) w1' (by decide +kernel) _ k (in_cells hw)
      have r6 : I6 (537 + wk) k = I5 (537 + wk) k := ag_of (s := cells 537 16) m6 (by decide +kernel) _ k (in_cells hw)
      rw [r7, r6, m2]
      unfold cpN
      rw [if_pos hk, fr4 533 k rfl, V3.2.2.2.1]
    · have r7 : I7 (537 + i) k = I6 (537 + i) k := ag_of (s := cells 537 16) w1' (by decide +kernel) _ k (in_cells hi)
      have r6 : I6 (537 + i) k = I5 (537 + i) k := ag_of (s := cells 537 16) m6 (by decide +kernel) _ k (in_cells hi)
      have r4 : I4 (537 + i) k = I3 (537 + i) k := ag_of (s := cells 537 16) fr4 (by decide +kernel) _ k (in_cells hi)
      have r3 : I3 (537 + i) k = I (537 + i) k := ag_of (s := cells 537 16) fr3 (by decide +kernel) _ k (in_cells hi)
      rw [r7, r6, o5 _ k (by omega), r4, r3]
  · rw [if_neg q]
    obtain ⟨x5, x6, x7⟩ := k3 q
    have r3 : (rdW W z (h 0 0)).1 ≤ 3 := rd_3 _ _ _ _ _
    refine rt_f (by rw [x5]; exact nI_ne0 (by omega) (by omega)) (rt_be sp_ends ?_)
    (first | refine rt_eq (q_X12_work_0) ?_ | refine rt_eq (q_X12_work_15) ?_ | refine rt_eq (q_X12_work_25) ?_ | refine rt_eq (q_X12_work_30) ?_ | refine rt_eq (q_X12_work_35) ?_ | refine rt_eq (q_X12_work_67) ?_ | refine rt_eq (q_X12_work_72) ?_ | refine rt_eq (q_X12_work_101) ?_ | refine rt_eq (q_X12_work_94) ?_ | refine rt_eq (q_X12_work_134) ?_ | refine rt_eq (q_X12_work_112) ?_ | refine rt_eq (q_X12_work_98) ?_ | refine rt_eq (q_X12_work_159) ?_ | refine rt_eq (q_X12_work_168) ?_)
    rw [x5, x6]
    refine rt_ret ⟨⟨?_, fun q2 => absurd q2 q, fun _ => ⟨fr_up fr3 (by decide +kernel), ?_, up2_s⟩⟩, rfl⟩
    · rw [up2_k (by decide), e03]
    · rw [up2_k (by decide), e13]
theorem m_work20 (ht : I 72 1 = nI tp) (htp : tp ≤ 600) (hn : z ≤ tp) (hm : z ≤ 150) (hwk : I 72 35 = nI 16) : Rt L X (runM (d + 2) nX12_work [.ref 72, .int (nI z)] (mm L X I J)) (some (.int (-20))) (fun I' J' => (Fr [(72, 1), (72, 2), (72, 4)] I I' ∧ I' 72 0 = nI 0 ∧ I' 72 1 = nI 0 ∧ I' 72 3 = -1) ∧ J' = J) := by
  rw [e_X12_work]
  (first | refine rt_eq (q_X12_work_0) ?_ | refine rt_eq (q_X12_work_15) ?_ | refine rt_eq (q_X12_work_25) ?_ | refine rt_eq (q_X12_work_30) ?_ | refine rt_eq (q_X12_work_35) ?_ | refine rt_eq (q_X12_work_67) ?_ | refine rt_eq (q_X12_work_72) ?_ | refine rt_eq (q_X12_work_101) ?_ | refine rt_eq (q_X12_work_94) ?_ | refine rt_eq (q_X12_work_134) ?_ | refine rt_eq (q_X12_work_112) ?_ | refine rt_eq (q_X12_work_98) ?_ | refine rt_eq (q_X12_work_159) ?_ | refine rt_eq (q_X12_work_168) ?_)
  rw [show (up2 I 72 0 (nI 0)) 72 1 = nI tp by rw [up2_k (by decide), ht]]
  refine rt_bne (in_t (by (try simp (disch := omega) only [nI_leI, nI_ltI, nI_eq, nI_add, pk_mul, n_0add, Nat.zero_add, nI_clamp]) <;> omega) (by (try simp (disch := omega) only [nI_leI, nI_ltI, nI_eq, nI_add, pk_mul, n_0add, Nat.zero_add, nI_clamp]) <;> omega)) ?_
  (first | refine rt_eq (q_X12_work_0) ?_ | refine rt_eq (q_X12_work_15) ?_ | refine rt_eq (q_X12_work_25) ?_ | refine rt_eq (q_X12_work_30) ?_ | refine rt_eq (q_X12_work_35) ?_ | refine rt_eq (q_X12_work_67) ?_ | refine rt_eq (q_X12_work_72) ?_ | refine rt_eq (q_X12_work_101) ?_ | refine rt_eq (q_X12_work_94) ?_ | refine rt_eq (q_X12_work_134) ?_ | refine rt_eq (q_X12_work_112) ?_ | refine rt_eq (q_X12_work_98) ?_ | refine rt_eq (q_X12_work_159) ?_ | refine rt_eq (q_X12_work_168) ?_)
  refine rt_f (by decide) (rt_t (by (try simp (disch := omega) only [nI_leI, nI_ltI, nI_eq, nI_add, pk_mul, n_0add, Nat.zero_add, nI_clamp]) <;> omega) ?_)
  (first | refine rt_eq (q_X12_work_0) ?_ | refine rt_eq (q_X12_work_15) ?_ | refine rt_eq (q_X12_work_25) ?_ | refine rt_eq (q_X12_work_30) ?_ | refine rt_eq (q_X12_work_35) ?_ | refine rt_eq (q_X12_work_67) ?_ | refine rt_eq (q_X12_work_72) ?_ | refine rt_eq (q_X12_work_101) ?_ | refine rt_eq (q_X12_work_94) ?_ | refine rt_eq (q_X12_work_134) ?_ | refine rt_eq (q_X12_work_112) ?_ | refine rt_eq (q_X12_work_98) ?_ | refine rt_eq (q_X12_work_159) ?_ | refine rt_eq (q_X12_work_168) ?_)
  refine rt_be (bad_f up2_s) ?_
  (first | refine rt_eq (q_X12_work_0) ?_ | refine rt_eq (q_X12_work_15) ?_ | refine rt_eq (q_X12_work_25) ?_ | refine rt_eq (q_X12_work_30) ?_ | refine rt_eq (q_X12_work_35) ?_ | refine rt_eq (q_X12_work_67) ?_ | refine rt_eq (q_X12_work_72) ?_ | refine rt_eq (q_X12_work_101) ?_ | refine rt_eq (q_X12_work_94) ?_ | refine rt_eq (q_X12_work_134) ?_ | refine rt_eq (q_X12_work_112) ?_ | refine rt_eq (q_X12_work_98) ?_ | refine rt_eq (q_X12_work_159) ?_ | refine rt_eq (q_X12_work_168) ?_)
  rw [up2_k (show ¬ 35 = 0 by decide), hwk]
  refine rt_t rfl (rt_t rfl (rt_ret ⟨⟨fr_up (fr_up (fr_up fr_rfl rfl) rfl) rfl, ?_, ?_, up2_s⟩, rfl⟩))
  · rw [up2_k (by decide), up2_k (by decide), up2_s]
  · rw [up2_k (by decide), up2_s]
theorem b_work (ht : I 72 1 = nI tp) (htp : tp ≤ 600) (hx : ¬ ∃ n, n ≤ tp ∧ n ≤ 150 ∧ x = nI n) : runM (d + 2) nX12_work [.ref 72, .int x] (mm L X I J) = rI (nI 0) (mm L X (bdM I 1 1) J) := by
  have fin : runI (runM (d + 1)) iX12_work (25, [some (.ref 72), some (.int x)], [.ref 72], mm L X (up2 I 72 0 (nI 0)) J) = rI (nI 0) (mm L X (bdM I 1 1) J) := by
    (first | refine Eq.trans (q_X12_work_0) ?_ | refine Eq.trans (q_X12_work_15) ?_ | refine Eq.trans (q_X12_work_25) ?_ | refine Eq.trans (q_X12_work_30) ?_ | refine Eq.trans (q_X12_work_35) ?_ | refine Eq.trans (q_X12_work_67) ?_ | refine Eq.trans (q_X12_work_72) ?_ | refine Eq.trans (q_X12_work_101) ?_ | refine Eq.trans (q_X12_work_94) ?_ | refine Eq.trans (q_X12_work_134) ?_ | refine Eq.trans (q_X12_work_112) ?_ | refine Eq.trans (q_X12_work_98) ?_ | refine Eq.trans (q_X12_work_159) ?_ | refine Eq.trans (q_X12_work_168) ?_)
    (first | refine Eq.trans (q_X12_work_0) ?_ | refine Eq.trans (q_X12_work_15) ?_ | refine Eq.trans (q_X12_work_25) ?_ | refine Eq.trans (q_X12_work_30) ?_ | refine Eq.trans (q_X12_work_35) ?_ | refine Eq.trans (q_X12_work_67) ?_ | refine Eq.trans (q_X12_work_72) ?_ | refine Eq.trans (q_X12_work_101) ?_ | refine Eq.trans (q_X12_work_94) ?_ | refine Eq.trans (q_X12_work_134) ?_ | refine Eq.trans (q_X12_work_112) ?_ | refine Eq.trans (q_X12_work_98) ?_ | refine Eq.trans (q_X12_work_159) ?_ | refine Eq.trans (q_X12_work_168) ?_)
    refine Eq.trans (bnd_e (bad_t (by decide) (by decide) (by decide))) ?_
    (first | refine Eq.trans (q_X12_work_0) ?_ | refine Eq.trans (q_X12_work_15) ?_ | refine Eq.trans (q_X12_work_25) ?_ | refine Eq.trans (q_X12_work_30) ?_ | refine Eq.trans (q_X12_work_35) ?_ | refine Eq.trans (q_X12_work_67) ?_ | refine Eq.trans (q_X12_work_72) ?_ | refine Eq.trans (q_X12_work_101) ?_ | refine Eq.trans (q_X12_work_94) ?_ | refine Eq.trans (q_X12_work_134) ?_ | refine Eq.trans (q_X12_work_112) ?_ | refine Eq.trans (q_X12_work_98) ?_ | refine Eq.trans (q_X12_work_159) ?_ | refine Eq.trans (q_X12_work_168) ?_)
    exact if_neg (by decide)
  rw [e_X12_work]
  (first | refine Eq.trans (q_X12_work_0) ?_ | refine Eq.trans (q_X12_work_15) ?_ | refine Eq.trans (q_X12_work_25) ?_ | refine Eq.trans (q_X12_work_30) ?_ | refine Eq.trans (q_X12_work_35) ?_ | refine Eq.trans (q_X12_work_67) ?_ | refine Eq.trans (q_X12_work_72) ?_ | refine Eq.trans (q_X12_work_101) ?_ | refine Eq.trans (q_X12_work_94) ?_ | refine Eq.trans (q_X12_work_134) ?_ | refine Eq.trans (q_X12_work_112) ?_ | refine Eq.trans (q_X12_work_98) ?_ | refine Eq.trans (q_X12_work_159) ?_ | refine Eq.trans (q_X12_work_168) ?_)
  rw [show (up2 I 72 0 (nI 0)) 72 1 = nI tp by rw [up2_k (by decide), ht]]
  by_cases q : nI 0 ≤ x ∧ x ≤ nI tp
  · obtain ⟨p, hp, rfl⟩ := (in_M (M := tp) (by omega)).mp q
    refine Eq.trans (bndN_e (in_t q.1 q.2)) ?_
    (first | refine Eq.trans (q_X12_work_0) ?_ | refine Eq.trans (q_X12_work_15) ?_ | refine Eq.trans (q_X12_work_25) ?_ | refine Eq.trans (q_X12_work_30) ?_ | refine Eq.trans (q_X12_work_35) ?_ | refine Eq.trans (q_X12_work_67) ?_ | refine Eq.trans (q_X12_work_72) ?_ | refine Eq.trans (q_X12_work_101) ?_ | refine Eq.trans (q_X12_work_94) ?_ | refine Eq.trans (q_X12_work_134) ?_ | refine Eq.trans (q_X12_work_112) ?_ | refine Eq.trans (q_X12_work_98) ?_ | refine Eq.trans (q_X12_work_159) ?_ | refine Eq.trans (q_X12_work_168) ?_)
    have h60 : ¬ p ≤ 150 := fun q2 => hx ⟨p, hp, q2, rfl⟩
    rw [if_neg (by decide), if_neg (by ((try simp (disch := omega) only [nI_leI, nI_ltI, nI_eq, nI_add, pk_mul, n_0add, Nat.zero_add, nI_clamp]) <;> omega))]
    exact fin
  · refine Eq.trans (bndN_e (in_f q)) ?_
    (first | refine Eq.trans (q_X12_work_0) ?_ | refine Eq.trans (q_X12_work_15) ?_ | refine Eq.trans (q_X12_work_25) ?_ | refine Eq.trans (q_X12_work_30) ?_ | refine Eq.trans (q_X12_work_35) ?_ | refine Eq.trans (q_X12_work_67) ?_ | refine Eq.trans (q_X12_work_72) ?_ | refine Eq.trans (q_X12_work_101) ?_ | refine Eq.trans (q_X12_work_94) ?_ | refine Eq.trans (q_X12_work_134) ?_ | refine Eq.trans (q_X12_work_112) ?_ | refine Eq.trans (q_X12_work_98) ?_ | refine Eq.trans (q_X12_work_159) ?_ | refine Eq.trans (q_X12_work_168) ?_)
    rw [if_pos rfl]
    exact fin
end WZ
