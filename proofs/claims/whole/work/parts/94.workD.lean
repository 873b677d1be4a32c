/-! WORK IS READ WHOLE, BY THE CLASS -/
section WX
variable {d L X : Nat} {I : MI32} {J : MI64} {W : Nat → Nat} {z np : Nat} {r : Option Value} {Q : MI32 → MI64 → Prop}
/-- entries ahead of e are as they were -/
def eqE (I I' : MI32) (e : Nat) : Prop := ∀ j, j < e → I' 38 j = I 38 j ∧ I' 39 j = I 39 j ∧ I' 40 j = I 40 j
theorem eqE_tr {I' I'' : MI32} {e e' : Nat} (h : eqE I I' e) (g : eqE I' I'' e') (q : e ≤ e') : eqE I I'' e := fun j hj => by
  obtain ⟨a1, a2, a3⟩ := h j hj
  obtain ⟨b1, b2, b3⟩ := g j (by omega)
  exact ⟨b1.trans a1, b2.trans a2, b3.trans a3⟩
theorem eqE_AD {I' : MI32} {e k p v : Nat} (h : AD I I' e k p v) : eqE I I' e := fun j hj => h.2.2.2.2 j (by omega)
theorem ar1 {z a b r s1 s2 f c : Nat} (h1 : z - a < f + 1) (h2 : a + 4 ≤ b) (h3 : b ≤ r) (h4 : r ≤ s1) (h5 : s1 + 1 ≤ s2) (h6 : s2 < z) (h7 : 2 * c ≤ r) : z - (s2 + 1) < f ∧ s2 + 1 ≤ z ∧ 2 * (c + 1) ≤ s2 + 1 := by omega
/-- at the head: place a, e entries, o open, no FAULT -/
def hdC (I0 : MI32) (z : Nat) (I' : MI32) (a e o : Nat) : Prop := a ≤ z ∧ 2 * e ≤ a ∧ o ≤ 6 ∧ Fr fRC I0 I' ∧ I' 1 5 = nI a ∧ I' 37 3 = nI e ∧ I' 37 6 = nI o ∧ I' 1 2 = nI 0 ∧ I' 1 3 = -1
theorem lp_readC (hn : np ≤ 6) (O : SO I) (B : BC I W) (hz : I 1 6 = nI z) (hz2 : z ≤ 150) : ∀ f o a s T e I' u4 u5, z - a < f → hdC I z I' a e o →
    (¬ (rd W z np f o a s T).1 = 0 → ∀ I'', Fr fRC I I'' → I'' 1 2 = nI (rd W z np f o a s T).1 → I'' 1 3 = nI (rd W z np f o a s T).2.1 → Rt L X (rI (nI 0) (mm L X I'' J)) r Q) →
    ((rd W z np f o a s T).1 = 0 → ∀ I'' e' g u4 u5, hdC I z I'' (rd W z np f o a s T).2.2.1 e' o → e ≤ e' → (∀ j, j < o → I'' 41 j = I' 41 j) → eqE I' I'' e → RW np (rd W z np f o a s T).2.2.2.2 (I'' 38) (I'' 39) (I'' 40) g o s (rd W z np f o a s T).2.2.2.1 e e' → Rt L X (c_X9_readFrom_12 (d + 7) L X I'' J (nI np) (nI e') u4 u5) r Q) →
    Rt L X (c_X9_readFrom_12 (d + 7) L X I' J (nI np) (nI e) u4 u5) r Q
  | 0, o, a, s, T, e, I', u4, u5, hf => absurd hf (Nat.not_lt_zero _)
  | f + 1, o, a, s, T, e, I', u4, u5, hf => by
    intro H k1 k2
    have ih := lp_readC hn O B hz hz2 f
    have H' := H
    obtain ⟨ha, hea, ho, fr, h5, h3, h6, h2, h13⟩ := H
    have hs := sk_le (W := W) ha
    by_cases c0 : stpW W z o a
    · have er : rd W z np (f + 1) o a s T = (0, 0, a, s, T) := if_pos c0
      rw [er] at k2
      exact k2 rfl I' e 0 u4 u5 H' (Nat.le_refl _) (fun _ _ => rfl) (fun _ _ => ⟨rfl, rfl, rfl⟩) ⟨rfl, rfl⟩
    · have er : rd W z np (f + 1) o a s T = if ¬ (rd1 W z np (rd W z np f) o a s T).1 = 0 then rd1 W z np (rd W z np f) o a s T else rd W z np f o (rd1 W z np (rd W z np f) o a s T).2.2.1 (rd1 W z np (rd W z np f) o a s T).2.2.2.1 (rd1 W z np (rd W z np f) o a s T).2.2.2.2 := if_neg c0
      have B' : BC I' W := BC_fr B fr (by decide)
      have z' : I' 1 6 = nI z := (fr 1 6 rfl).trans hz
      (first | refine rt_eq (q_X9_readFrom_0) ?_ | refine rt_eq (q_X9_readFrom_12) ?_ | refine rt_eq (q_X9_readFrom_23) ?_ | refine rt_eq (q_X9_readFrom_40) ?_ | refine rt_eq (q_X9_readFrom_62) ?_ | refine rt_eq (q_X9_readFrom_59) ?_ | refine rt_eq (q_X9_readFrom_68 (by first | assumption | rfl | exact .inl rfl | exact .inr rfl)) ?_)
      refine rt_f (by (try simp (disch := omega) only [nI_leI, nI_ltI, nI_eq, nI_add, pk_mul, n_0add, Nat.zero_add, nI_clamp]) <;> omega) (rt_bnd (sp_peek B' z' (by omega) ha h5) ?_)
      rintro I1 J1 ⟨⟨f1, f2, f3⟩, rfl⟩
      have fr1 : Fr fRC I I1 := fr_tr fr (fr_mono f1 (by decide))
      (first | refine rt_eq (q_X9_readFrom_0) ?_ | refine rt_eq (q_X9_readFrom_12) ?_ | refine rt_eq (q_X9_readFrom_23) ?_ | refine rt_eq (q_X9_readFrom_40) ?_ | refine rt_eq (q_X9_readFrom_62) ?_ | refine rt_eq (q_X9_readFrom_59) ?_ | refine rt_eq (q_X9_readFrom_68 (by first | assumption | rfl | exact .inl rfl | exact .inr rfl)) ?_)
      have at62 : ∀ u4', okv u4' = true → Rt L X (runI (runM (d + 7)) iX9_readFrom (62, [some (.ref 37), some (.ref 1), some (.int (nI np)), some (.int (nI e)), u4', u5], [], mm L X I1 J1)) r Q := by
        intro u4' hu4
        (first | refine rt_eq (q_X9_readFrom_0) ?_ | refine rt_eq (q_X9_readFrom_12) ?_ | refine rt_eq (q_X9_readFrom_23) ?_ | refine rt_eq (q_X9_readFrom_40) ?_ | refine rt_eq (q_X9_readFrom_62) ?_ | refine rt_eq (q_X9_readFrom_59) ?_ | refine rt_eq (q_X9_readFrom_68 (by first | assumption | rfl | exact .inl rfl | exact .inr rfl)) ?_)
        have R1 : RdC I1 W z (sk W z a) := ⟨BC_fr B fr1 (by decide), (fr1 1 6 rfl).trans hz, by omega, hs.2, f2⟩
        have h31 : I1 37 3 = nI e := (f1 37 3 rfl).trans h3
        have h61 : I1 37 6 = nI o := (f1 37 6 rfl).trans h6
        refine rt_bnd (sp_readStepC (e := e) (SO_fr O fr1 (by decide)) R1 h31 (fun q => ?_) h61 ho) ?_
        · have w3 := (wk_n q).2.2
          have w4 := wE_le (W := W) hs.2
          rw [sk_sk ha] at w3
          omega
        rintro I2 J2 ⟨⟨g1, g2, g3⟩, rfl⟩
        rw [clS_sk ha] at g2 g3 ⊢
        have fr2 : Fr fRC I I2 := fr_tr fr1 g1
        have eR1 : rd1 W z np (rd W z np f) o a s T = if ¬ (clS W z np o a).1 = 0 then ((clS W z np o a).1, (clS W z np o a).2.1, 0, s, T) else if (clS W z np o a).2.2.2.1 = 8 then rdB W z s (clS W z np o a).2.2.2.2.1 (rd W z np f (o + 1) (clS W z np o a).2.2.1 (s + 1) (setT T s (row4 8 (clS W z np o a).2.2.2.2.1 0 0))) else (0, 0, (clS W z np o a).2.2.1, s + 1, setT T s (row4 (clS W z np o a).2.2.2.1 (clS W z np o a).2.2.2.2.1 (clS W z np o a).2.2.2.2.2 (s + 1))) := rfl
        have cok := clS_ok (W := W) (z := z) (o := o) hn ha
        generalize clS W z np o a = C at eR1 cok g2 g3 ⊢
        generalize rd1 W z np (rd W z np f) o a s T = RR at er eR1
        (first | refine rt_eq (q_X9_readFrom_0) ?_ | refine rt_eq (q_X9_readFrom_12) ?_ | refine rt_eq (q_X9_readFrom_23) ?_ | refine rt_eq (q_X9_readFrom_40) ?_ | refine rt_eq (q_X9_readFrom_62) ?_ | refine rt_eq (q_X9_readFrom_59) ?_ | refine rt_eq (q_X9_readFrom_68 (by first | assumption | rfl | exact .inl rfl | exact .inr rfl)) ?_)
        by_cases c1 : C.1 = 0
        · obtain ⟨b1, b2, b3, b4, b5⟩ := cok c1
          obtain ⟨a1, a2, a3, a4, a5, a6⟩ := g2 c1
          have z2 : I2 1 2 = nI 0 := a3.trans ((f1 1 2 rfl).trans h2)
          have z3 : I2 1 3 = -1 := a4.trans ((f1 1 3 rfl).trans h13)
          have eq0 : eqE I' I1 e := fun j _ => ⟨f1 38 j rfl, f1 39 j rfl, f1 40 j rfl⟩
          have eq1 : eqE I' I2 e := eqE_tr eq0 (eqE_AD a1) (Nat.le_refl _)
          rw [decide_eq_true c1]
          refine rt_f (show ¬ bI true = nI 0 by decide) ?_
          rw [nI_add]
          by_cases c2 : C.2.2.2.1 = 8
          · obtain ⟨o6, v30⟩ := b4 c2
            obtain ⟨d1, d2, d3⟩ := a6 c2
            have e1 : RR = rdB W z s C.2.2.2.2.1 (rd W z np f (o + 1) C.2.2.1 (s + 1) (setT T s (row4 8 C.2.2.2.2.1 0 0))) := by
              rw [eR1, if_neg (not_not_intro c1), if_pos c2]
            have hok := rd_ok (W := W) (z := z) hn f (o + 1) C.2.2.1 (s + 1) (setT T s (row4 8 C.2.2.2.2.1 0 0)) b2
            refine ih (o + 1) C.2.2.1 (s + 1) (setT T s (row4 8 C.2.2.2.2.1 0 0)) (e + 1) I2 _ _ (by omega) ⟨b2, by omega, by omega, fr2, a2, a1.1, d1, z2, z3⟩ ?_ ?_
            · intro q I3 m1 m2 m3
              generalize rd W z np f (o + 1) C.2.2.1 (s + 1) (setT T s (row4 8 C.2.2.2.2.1 0 0)) = R at e1 q m2 m3 hok
              have e2 : rdB W z s C.2.2.2.2.1 R = R := if_pos q
              rw [e2] at e1
              rw [e1, if_pos q] at er
              rw [er] at k1
              exact k1 q I3 m1 m2 m3
            · intro q I3 c g u4a u5a H3 hec h41 hE hR
              obtain ⟨⟨p1, p2, p3, p4, p5⟩, p6⟩ := hok q
              generalize rd W z np f (o + 1) C.2.2.1 (s + 1) (setT T s (row4 8 C.2.2.2.2.1 0 0)) = R at e1 q H3 hR p1 p2 p3 p4 p5 p6
              have p7 : sgn W z R.2.2.1 93 := by
                rcases p6 with p6 | p6
                · exact absurd p6.1 (by omega)
                · exact p6.2
              obtain ⟨x1, x2, x3, x4, x5, x6, x7, x8, x9⟩ := H3
              have xs := sk_le (W := W) x1
              have hc75 : c < 75 := by
                have := p7.1
                omega
              (first | refine rt_eq (q_X9_readFrom_0) ?_ | refine rt_eq (q_X9_readFrom_12) ?_ | refine rt_eq (q_X9_readFrom_23) ?_ | refine rt_eq (q_X9_readFrom_40) ?_ | refine rt_eq (q_X9_readFrom_62) ?_ | refine rt_eq (q_X9_readFrom_59) ?_ | refine rt_eq (q_X9_readFrom_68 (by first | assumption | rfl | exact .inl rfl | exact .inr rfl)) ?_)
              refine rt_f (by (try simp (disch := omega) only [nI_leI, nI_ltI, nI_eq, nI_add, pk_mul, n_0add, Nat.zero_add, nI_clamp]) <;> omega) (rt_bnd (sp_peek (BC_fr B x4 (by decide)) ((x4 1 6 rfl).trans hz) (by omega) x1 x5) ?_)
              rintro I4 J4 ⟨⟨y1, y2, y3⟩, rfl⟩
              have fr4 : Fr fRC I I4 := fr_tr x4 (fr_mono y1 (by decide))
              rw [show byT W z (sk W z R.2.2.1) = nI 93 by unfold byT; rw [if_pos p7.1, p7.2]]
              (first | refine rt_eq (q_X9_readFrom_0) ?_ | refine rt_eq (q_X9_readFrom_12) ?_ | refine rt_eq (q_X9_readFrom_23) ?_ | refine rt_eq (q_X9_readFrom_40) ?_ | refine rt_eq (q_X9_readFrom_62) ?_ | refine rt_eq (q_X9_readFrom_59) ?_ | refine rt_eq (q_X9_readFrom_68 (by first | assumption | rfl | exact .inl rfl | exact .inr rfl)) ?_)
              refine rt_f (by decide) ?_
              (first | refine rt_eq (q_X9_readFrom_0) ?_ | refine rt_eq (q_X9_readFrom_12) ?_ | refine rt_eq (q_X9_readFrom_23) ?_ | refine rt_eq (q_X9_readFrom_40) ?_ | refine rt_eq (q_X9_readFrom_62) ?_ | refine rt_eq (q_X9_readFrom_59) ?_ | refine rt_eq (q_X9_readFrom_68 (by first | assumption | rfl | exact .inl rfl | exact .inr rfl)) ?_)
              rw [y1 37 6 rfl, x7]
              refine rt_t rfl (rt_f (by (try simp (disch := omega) only [nI_leI, nI_ltI, nI_eq, nI_add, pk_mul, n_0add, Nat.zero_add, nI_clamp]) <;> omega) ?_)
              have h41e : I4 41 o = nI e := by rw [y1 41 o rfl, h41 o (by omega), d2]
              have p7' : sgn W z (sk W z R.2.2.1) 93 := by
                unfold sgn
                rw [sk_sk x1]
                exact p7
              refine rt_bnd (sp_readClose (d := d + 3) (e := c) (o := o) (g := e) (b := sk W z R.2.2.1) ⟨BC_fr B fr4 (by decide), (fr4 1 6 rfl).trans hz, by omega, xs.2, y2⟩ ((y1 37 3 rfl).trans x6) hc75 ((y1 37 6 rfl).trans x7) (by omega) h41e (by omega) p7') ?_
              rintro I5 J5 ⟨⟨t1, t2, t3⟩, rfl⟩
              rw [sk_sk x1] at t2 t3 ⊢
              have fr5 : Fr fRC I I5 := fr_tr fr4 t1
              (first | refine rt_eq (q_X9_readFrom_0) ?_ | refine rt_eq (q_X9_readFrom_12) ?_ | refine rt_eq (q_X9_readFrom_23) ?_ | refine rt_eq (q_X9_readFrom_40) ?_ | refine rt_eq (q_X9_readFrom_62) ?_ | refine rt_eq (q_X9_readFrom_59) ?_ | refine rt_eq (q_X9_readFrom_68 (by first | assumption | rfl | exact .inl rfl | exact .inr rfl)) ?_)
              (first | refine rt_eq (q_X9_readFrom_0) ?_ | refine rt_eq (q_X9_readFrom_12) ?_ | refine rt_eq (q_X9_readFrom_23) ?_ | refine rt_eq (q_X9_readFrom_40) ?_ | refine rt_eq (q_X9_readFrom_62) ?_ | refine rt_eq (q_X9_readFrom_59) ?_ | refine rt_eq (q_X9_readFrom_68 (by first | assumption | rfl | exact .inl rfl | exact .inr rfl)) ?_)
              by_cases q2 : sgn W z (sk W z R.2.2.1 + 1) 59
              · obtain ⟨s5, s2, s3, s6, s41, sA⟩ := t2 q2
                have e2 : rdB W z s C.2.2.2.2.1 R = (0, 0, sk W z (sk W z R.2.2.1 + 1) + 1, R.2.2.2.1, setT R.2.2.2.2 s (row4 8 C.2.2.2.2.1 0 R.2.2.2.1)) := by
                  unfold rdB
                  rw [if_neg (not_not_intro q), if_pos q2]
                rw [e2] at e1
                rw [e1, if_neg (not_not_intro rfl)] at er
                rw [decide_eq_true q2]
                refine rt_f (show ¬ bI true = nI 0 by decide) ?_
                rw [nI_add]
                have ls := sk_le (W := W) (show sk W z R.2.2.1 + 1 ≤ z by have := p7.1; omega)
                have l2 := q2.1
                rw [er] at k1 k2
                have hok2 := rd_ok (W := W) (z := z) hn f o (sk W z (sk W z R.2.2.1 + 1) + 1) R.2.2.2.1 (setT R.2.2.2.2 s (row4 8 C.2.2.2.2.1 0 R.2.2.2.1)) l2
                have ar := ar1 hf b1 p1 xs.1 ls.1 l2 x2
                clear t2 t3 q2 e2 e1 er p7 p7'
                generalize sk W z (sk W z R.2.2.1 + 1) = r2 at s5 ls l2 k1 k2 hok2 ar
                generalize sk W z R.2.2.1 = r1 at xs ls y2 y3
                have eq5 : eqE I' I5 e := by
                  intro j hj
                  obtain ⟨c1', c2', c3'⟩ := eq1 j hj
                  obtain ⟨c4', c5', c6'⟩ := hE j (by omega)
                  obtain ⟨c7', c8', c9'⟩ := sA.2.2.2.2 j (by omega)
                  refine ⟨?_, ?_, ?_⟩
                  · rw [c7', up2_n (by decide), y1 38 j rfl, c4', c1']
                  · rw [c8', up2_n (by decide), y1 39 j rfl, c5', c2']
                  · rw [c9', up2_k (by omega), y1 40 j rfl, c6', c3']
                refine ih o (r2 + 1) R.2.2.2.1 (setT R.2.2.2.2 s (row4 8 C.2.2.2.2.1 0 R.2.2.2.1)) (c + 1) I5 _ _ ar.1 ⟨ar.2.1, ar.2.2, ho, fr5, s5, sA.1, s6, ?_, ?_⟩ k1 ?_
                · rw [s2, y1 1 2 rfl, x8]
                · rw [s3, y1 1 3 rfl, x9]
                · intro q3 I6 e' g' u4b u5b H6 hce h46 hE6 hR6
                  obtain ⟨⟨v1, v2, v3, v4, v5⟩, v6⟩ := hok2 q3
                  refine k2 q3 I6 e' (g + g' + 1) u4b u5b H6 (by omega) (fun j hj => ?_) (eqE_tr eq5 hE6 (by omega)) ?_
                  · rw [h46 j hj, s41, y1 41 j rfl, h41 j (by omega), d3 j (by omega), f1 41 j rfl]
                  · generalize rd W z np f o (r2 + 1) R.2.2.2.1 (setT R.2.2.2.2 s (row4 8 C.2.2.2.2.1 0 R.2.2.2.1)) = R2 at v1 v2 v3 v4 v5 v6 hR6 ⊢
                    have tS : R2.2.2.2.2 s = row4 8 C.2.2.2.2.1 0 R.2.2.2.1 := by rw [v5 s (by omega), setT_s]
                    have r0 : R2.2.2.2.2 s 0 = 8 := by rw [tS]; rfl
                    have r1 : R2.2.2.2.2 s 1 = C.2.2.2.2.1 := by rw [tS]; rfl
                    have r3 : R2.2.2.2.2 s 3 = R.2.2.2.1 := by rw [tS]; rfl
                    have en : I6 38 e = nI 8 ∧ I6 39 e = nI C.2.2.2.2.1 ∧ I6 40 e = nI c := by
                      obtain ⟨c1', c2', c3'⟩ := hE6 e (by omega)
                      obtain ⟨c4', c5', c6'⟩ := hE e (by omega)
                      obtain ⟨c7', c8', c9'⟩ := sA.2.2.2.2 e (by omega)
                      refine ⟨?_, ?_, ?_⟩
                      · rw [c1', c7', up2_n (by decide), y1 38 e rfl, c4', a1.2.1, c2]
                      · rw [c2', c8', up2_n (by decide), y1 39 e rfl, c5', a1.2.2.1]
                      · rw [c3', c9', up2_s]
                    have ec : I6 38 c = nI 9 ∧ I6 40 c = nI e := by
                      obtain ⟨c1', c2', c3'⟩ := hE6 c (by omega)
                      exact ⟨c1'.trans sA.2.1, c3'.trans sA.2.2.2.1⟩
                    refine .inr ⟨by omega, by omega, by rw [r0]; exact en.1, .inr ⟨r0, by omega, by rw [r1]; exact v30, by rw [r1]; exact en.2.1, c, en.2.2, hc75, ec.1, ec.2, by omega, by omega, ?_, ?_⟩⟩
                    · rw [r3]
                      refine RW_mono g (g + g') _ _ _ _ _ (by omega) (RW_congr g _ _ _ _ _ hR (fun i k h1 h2' => ?_) (fun j h1 h2' => ?_))
                      · rw [v5 i (by omega), setT_n (by omega)]
                      · obtain ⟨c1', c2', c3'⟩ := hE6 j (by omega)
                        obtain ⟨c7', c8', c9'⟩ := sA.2.2.2.2 j (by omega)
                        refine ⟨?_, ?_, ?_⟩
                        · rw [c1', c7', up2_n (by decide), y1 38 j rfl]
                        · rw [c2', c8', up2_n (by decide), y1 39 j rfl]
                        · rw [c3', c9', up2_k (by omega), y1 40 j rfl]
                    · rw [r3]
                      exact RW_mono g' (g + g') _ _ _ _ _ (by omega) hR6
              · have e2 : rdB W z s C.2.2.2.2.1 R = (1, sk W z (sk W z R.2.2.1 + 1), 0, 0, R.2.2.2.2) := by
                  unfold rdB
                  rw [if_neg (not_not_intro q), if_neg q2]
                rw [e2] at e1
                rw [e1, if_pos n10] at er
                rw [er] at k1
                obtain ⟨n2, n3⟩ := t3 q2
                rw [decide_eq_false q2]
                exact rt_t bI_f (k1 n10 I5 fr5 n2 n3)
          · have e1 : RR = (0, 0, C.2.2.1, s + 1, setT T s (row4 C.2.2.2.1 C.2.2.2.2.1 C.2.2.2.2.2 (s + 1))) := by
              rw [eR1, if_neg (not_not_intro c1), if_neg c2]
            rw [e1, if_neg (not_not_intro rfl)] at er
            rw [er] at k1 k2
            obtain ⟨d1, d2⟩ := a5 c2
            have hok := rd_ok (W := W) (z := z) hn f o C.2.2.1 (s + 1) (setT T s (row4 C.2.2.2.1 C.2.2.2.2.1 C.2.2.2.2.2 (s + 1))) b2
            refine ih o _ (s + 1) _ (e + 1) I2 _ _ (by omega) ⟨b2, by omega, ho, fr2, a2, a1.1, d1.trans h61, z2, z3⟩ k1 ?_
            intro q3 I6 e' g' u4b u5b H6 hce h46 hE6 hR6
            obtain ⟨⟨v1, v2, v3, v4, v5⟩, v6⟩ := hok q3
            refine k2 q3 I6 e' (g' + 1) u4b u5b H6 (by omega) (fun j hj => ?_) (eqE_tr eq1 hE6 (by omega)) ?_
            · rw [h46 j hj, d2 j, f1 41 j rfl]
            · dsimp only at hR6 v1 v2 v3 v4 v5 ⊢
              generalize rd W z np f o C.2.2.1 (s + 1) (setT T s (row4 C.2.2.2.1 C.2.2.2.2.1 C.2.2.2.2.2 (s + 1))) = R2 at v1 v2 v3 v4 v5 v6 hR6 ⊢
              have tS : R2.2.2.2.2 s = row4 C.2.2.2.1 C.2.2.2.2.1 C.2.2.2.2.2 (s + 1) := by rw [v5 s (by omega), setT_s]
              have r0 : R2.2.2.2.2 s 0 = C.2.2.2.1 := by rw [tS]; rfl
              have r1 : R2.2.2.2.2 s 1 = C.2.2.2.2.1 := by rw [tS]; rfl
              have r2 : R2.2.2.2.2 s 2 = C.2.2.2.2.2 := by rw [tS]; rfl
              have r3 : R2.2.2.2.2 s 3 = s + 1 := by rw [tS]; rfl
              obtain ⟨c1', c2', c3'⟩ := hE6 e (by omega)
              refine .inr ⟨by omega, by omega, by rw [r0, c1']; exact a1.2.1, .inl ⟨by rw [r0]; exact c2, by rw [r0, r1, r2]; exact b5 c2, .inr (by rw [r1, c2']; exact a1.2.2.1), fun _ => by rw [r2, c3']; exact a1.2.2.2.1, r3, hR6⟩⟩
        · have e1 : RR = (C.1, C.2.1, 0, s, T) := by
            rw [eR1, if_pos c1]
          rw [e1, if_pos c1] at er
          rw [er] at k1
          obtain ⟨n2, n3⟩ := g3 c1
          rw [decide_eq_false c1]
          exact rt_t bI_f (k1 c1 I2 fr2 n2 n3)
      have at40 : Rt L X (runI (runM (d + 7)) iX9_readFrom (40, [some (.ref 37), some (.ref 1), some (.int (nI np)), some (.int (nI e)), some (.int (byT W z (sk W z a))), u5], [], mm L X I1 J1)) r Q := by
        (first | refine rt_eq (q_X9_readFrom_0) ?_ | refine rt_eq (q_X9_readFrom_12) ?_ | refine rt_eq (q_X9_readFrom_23) ?_ | refine rt_eq (q_X9_readFrom_40) ?_ | refine rt_eq (q_X9_readFrom_62) ?_ | refine rt_eq (q_X9_readFrom_59) ?_ | refine rt_eq (q_X9_readFrom_68 (by first | assumption | rfl | exact .inl rfl | exact .inr rfl)) ?_)
        by_cases c3 : byT W z (sk W z a) = nI 93
        · have o0 : o = 0 := by
            by_cases q : o = 0
            · exact q
            · exfalso
              apply c0
              refine .inr ⟨q, ?_⟩
              unfold byT at c3
              by_cases q2 : sk W z a < z
              · rw [if_pos q2, nI_eq (by have := (B (sk W z a) (by omega)).2; omega) (by decide)] at c3
                exact ⟨q2, c3⟩
              · rw [if_neg q2] at c3
                exact absurd c3 (by decide)
          refine rt_t c3 (rt_t ?_ (at62 _ rfl))
          rw [f1 37 6 rfl, h6, o0]
          decide
        · exact rt_f c3 (at62 _ rfl)
      by_cases c4 : byT W z (sk W z a) = -1
      · have o0 : ¬ o = 0 := by
          intro q
          apply c0
          refine .inl ⟨q, ?_⟩
          unfold byT at c4
          by_cases q2 : sk W z a < z
          · rw [if_pos q2] at c4
            exact absurd c4 (nI_m1 _ (by have := (B (sk W z a) (by omega)).2; omega))
          · omega
        refine rt_t c4 (rt_f ?_ at40)
        rw [f1 37 6 rfl, h6]
        exact fun q => o0 ((nI_eq (by omega) (by decide)).mp q)
      · exact rt_f c4 at40
/-- the rows that a work's text tells -/
def rdW (W : Nat → Nat) (z np : Nat) : Rs := rd W z np (z + 1) 0 0 0 (fun _ _ => 0)
theorem sp_readWork (hn : np ≤ 6) (O : SO I) (R : RdC I W z 0) (hz2 : z ≤ 150) (h2 : I 1 2 = nI 0) (h3 : I 1 3 = -1) : Rt L X (runM (d + 8) nX9_readFrom [.ref 37, .ref 1, .int (nI np)] (mm L X I J)) (some (.int (bI (decide ((rdW W z np).1 = 0))))) (fun I' J' => (Fr fRC I I' ∧ ((rdW W z np).1 = 0 → I' 1 2 = nI 0 ∧ I' 1 3 = -1 ∧ ∃ e g, e ≤ 75 ∧ I' 37 3 = nI e ∧ RW np (rdW W z np).2.2.2.2 (I' 38) (I' 39) (I' 40) g 0 0 (rdW W z np).2.2.2.1 0 e) ∧ (¬ (rdW W z np).1 = 0 → I' 1 2 = nI (rdW W z np).1 ∧ I' 1 3 = nI (rdW W z np).2.1)) ∧ J' = J) := by
  obtain ⟨B, hz, hz6, ha, h5⟩ := R
  rw [e_X9_readFrom]
  (first | refine rt_eq (q_X9_readFrom_0) ?_ | refine rt_eq (q_X9_readFrom_12) ?_ | refine rt_eq (q_X9_readFrom_23) ?_ | refine rt_eq (q_X9_readFrom_40) ?_ | refine rt_eq (q_X9_readFrom_62) ?_ | refine rt_eq (q_X9_readFrom_59) ?_ | refine rt_eq (q_X9_readFrom_68 (by first | assumption | rfl | exact .inl rfl | exact .inr rfl)) ?_)
  refine lp_readC (I := I) (z := z) hn O B hz hz2 (z + 1) 0 0 0 (fun _ _ => 0) 0 _ none none (by omega) ⟨Nat.zero_le _, by decide, by decide, fr_up (fr_up fr_rfl rfl) rfl, ?_, ?_, up2_s, ?_, ?_⟩ ?_ ?_
  · rw [up2_n (by decide), up2_n (by decide), h5]
  · rw [up2_k (by decide), up2_s]
  · rw [up2_n (by decide), up2_n (by decide), h2]
  · rw [up2_n (by decide), up2_n (by decide), h3]
  · intro q I2 m1 m2 m3
    have e0 : decide ((rdW W z np).1 = 0) = false := decide_eq_false q
    rw [e0]
    exact rt_ret ⟨⟨m1, fun q2 => absurd q2 q, fun _ => ⟨m2, m3⟩⟩, rfl⟩
  · intro q I2 e' g u4 u5 H _ _ _ hR
    have e0 : decide ((rdW W z np).1 = 0) = true := decide_eq_true q
    rw [e0]
    obtain ⟨⟨v1, v2, v3, v4, v5⟩, v6⟩ := rd_ok (W := W) (z := z) hn (z + 1) 0 0 0 (fun _ _ => 0) (Nat.zero_le _) q
    obtain ⟨x1, x2, x3, x4, x5, x6, x7, x8, x9⟩ := H
    (first | refine rt_eq (q_X9_readFrom_0) ?_ | refine rt_eq (q_X9_readFrom_12) ?_ | refine rt_eq (q_X9_readFrom_23) ?_ | refine rt_eq (q_X9_readFrom_40) ?_ | refine rt_eq (q_X9_readFrom_62) ?_ | refine rt_eq (q_X9_readFrom_59) ?_ | refine rt_eq (q_X9_readFrom_68 (by first | assumption | rfl | exact .inl rfl | exact .inr rfl)) ?_)
    refine rt_f (by (try simp (disch := omega) only [nI_leI, nI_ltI, nI_eq, nI_add, pk_mul, n_0add, Nat.zero_add, nI_clamp]) <;> omega) (rt_bnd (sp_peek (BC_fr B x4 (by decide)) ((x4 1 6 rfl).trans hz) (by omega) x1 x5) ?_)
    rintro I4 J4 ⟨⟨y1, y2, y3⟩, rfl⟩
    have v7 : sk W z (rd W z np (z + 1) 0 0 0 (fun _ _ => 0)).2.2.1 = z := by
      rcases v6 with v6 | v6
      · exact v6.2
      · exact absurd rfl v6.1
    rw [v7, show byT W z z = -1 from if_neg (Nat.lt_irrefl z)]
    (first | refine rt_eq (q_X9_readFrom_0) ?_ | refine rt_eq (q_X9_readFrom_12) ?_ | refine rt_eq (q_X9_readFrom_23) ?_ | refine rt_eq (q_X9_readFrom_40) ?_ | refine rt_eq (q_X9_readFrom_62) ?_ | refine rt_eq (q_X9_readFrom_59) ?_ | refine rt_eq (q_X9_readFrom_68 (by first | assumption | rfl | exact .inl rfl | exact .inr rfl)) ?_)
    refine rt_t rfl (rt_t ((y1 37 6 rfl).trans x7) (rt_ret ⟨⟨fr_tr x4 (fr_mono y1 (by decide)), fun _ => ⟨(y1 1 2 rfl).trans x8, (y1 1 3 rfl).trans x9, e', g, by omega, (y1 37 3 rfl).trans x6, ?_⟩, fun q2 => absurd q q2⟩, rfl⟩))
    rw [show I4 38 = I2 38 from funext fun j => y1 38 j rfl, show I4 39 = I2 39 from funext fun j => y1 39 j rfl, show I4 40 = I2 40 from funext fun j => y1 40 j rfl]
    exact hR
end WX
