/-! THE READER OF WORK, BY THE CLASS -/
section WC
variable {d L X : Nat} {I : MI32} {J : MI64} {W : Nat → Nat} {z a b : Nat} {e o : Nat}
/-- an entry has been added -/
def AD (I I' : MI32) (e k p v : Nat) : Prop := I' 37 3 = nI (e + 1) ∧ I' 38 e = nI k ∧ I' 39 e = nI p ∧ I' 40 e = nI v ∧ ∀ j, ¬ j = e → I' 38 j = I 38 j ∧ I' 39 j = I 39 j ∧ I' 40 j = I 40 j
def fAd : Fls := [(38, 0), (39, 0), (40, 0), (37, 4)]
theorem AD_up {k p v : Nat} : Fr fAd I (up2 (up2 (up2 (up2 I 38 e (nI k)) 39 e (nI p)) 40 e (nI v)) 37 3 (nI (e + 1))) ∧ AD I (up2 (up2 (up2 (up2 I 38 e (nI k)) 39 e (nI p)) 40 e (nI v)) 37 3 (nI (e + 1))) e k p v := by
  refine ⟨fr_up (fr_up (fr_up (fr_up fr_rfl rfl) rfl) rfl) rfl, up2_s, ?_, ?_, ?_, fun j hj => ⟨?_, ?_, ?_⟩⟩
  · rw [up2_n (by decide), up2_n (by decide), up2_n (by decide), up2_s]
  · rw [up2_n (by decide), up2_n (by decide), up2_s]
  · rw [up2_n (by decide), up2_s]
  · rw [up2_n (by decide), up2_n (by decide), up2_n (by decide), up2_k hj]
  · rw [up2_n (by decide), up2_n (by decide), up2_k hj, up2_n (by decide)]
  · rw [up2_n (by decide), up2_k hj, up2_n (by decide), up2_n (by decide)]
theorem AD_fr {I' I'' : MI32} {k p v : Nat} {l : Fls} (A : AD I I' e k p v) (g : Fr l I' I'') (h : dj l fAd = true) : AD I I'' e k p v := by
  have q := ag_of g h
  obtain ⟨a1, a2, a3, a4, a5⟩ := A
  refine ⟨(q 37 3 rfl).trans a1, (q 38 e rfl).trans a2, (q 39 e rfl).trans a3, (q 40 e rfl).trans a4, fun j hj => ?_⟩
  obtain ⟨b1, b2, b3⟩ := a5 j hj
  exact ⟨(q 38 j rfl).trans b1, (q 39 j rfl).trans b2, (q 40 j rfl).trans b3⟩
theorem AD_0 {I0 I' : MI32} {k p v : Nat} {l : Fls} (A : AD I I' e k p v) (g : Fr l I0 I) (h : dj l fAd = true) : AD I0 I' e k p v := by
  have q := ag_of g h
  obtain ⟨a1, a2, a3, a4, a5⟩ := A
  refine ⟨a1, a2, a3, a4, fun j hj => ?_⟩
  obtain ⟨b1, b2, b3⟩ := a5 j hj
  exact ⟨b1.trans (q 38 j rfl), b2.trans (q 39 j rfl), b3.trans (q 40 j rfl)⟩
def fRC : Fls := fTC ++ [(37, 4), (37, 7), (38, 0), (39, 0), (40, 0), (41, 0)]
/-- what a step leaves -/
def SP (I I' : MI32) (C : Cs) (e o : Nat) : Prop := (C.1 = 0 → AD I I' e C.2.2.2.1 C.2.2.2.2.1 C.2.2.2.2.2 ∧ I' 1 5 = nI C.2.2.1 ∧ I' 1 2 = I 1 2 ∧ I' 1 3 = I 1 3 ∧ (¬ C.2.2.2.1 = 8 → I' 37 6 = I 37 6 ∧ ∀ j, I' 41 j = I 41 j) ∧ (C.2.2.2.1 = 8 → I' 37 6 = nI (o + 1) ∧ I' 41 o = nI e ∧ ∀ j, ¬ j = o → I' 41 j = I 41 j)) ∧ (¬ C.1 = 0 → I' 1 2 = nI C.1 ∧ I' 1 3 = nI C.2.1)
theorem SP_0 {I0 I' : MI32} {C : Cs} (S : SP I I' C e o) (g : Fr fTC I0 I) (h2 : I 1 2 = I0 1 2) (h3 : I 1 3 = I0 1 3) : SP I0 I' C e o := by
  refine ⟨fun q => ?_, S.2⟩
  obtain ⟨s1, s2, s3, s4, s5, s6⟩ := S.1 q
  refine ⟨AD_0 s1 g (by decide), s2, s3.trans h2, s4.trans h3, fun q2 => ?_, fun q2 => ?_⟩
  · obtain ⟨t1, t2⟩ := s5 q2
    exact ⟨t1.trans (g 37 6 rfl), fun j => (t2 j).trans (g 41 j rfl)⟩
  · obtain ⟨t1, t2, t3⟩ := s6 q2
    exact ⟨t1, t2, fun j hj => (t3 j hj).trans (g 41 j rfl)⟩
theorem SP_f {I' : MI32} {F w : Nat} {r : Nat × Nat × Nat × Nat} (h : ¬ F = 0) (h2 : I' 1 2 = nI F) (h3 : I' 1 3 = nI w) : SP I I' (F, w, r) e o := ⟨fun q => absurd q h, fun _ => ⟨h2, h3⟩⟩
theorem RdC_fr {I' : MI32} {l : Fls} (R : RdC I W z a) (g : Fr l I I') (h : dj l [(2, 0), (1, 7)] = true) (h5 : I' 1 5 = nI b) (hb : b ≤ z) : RdC I' W z b := by
  have q := ag_of g h
  refine ⟨fun k hk => ?_, (q 1 6 rfl).trans R.2.1, R.2.2.1, hb, h5⟩
  rw [q 2 k rfl]
  exact R.1 k hk
theorem rs_95 {k p v : Nat} {u2 : Option Value} (hk : ¬ k = 8) (R : RdC I W z b) (h3 : I 37 3 = nI e) (he : e < 75) : Rt L X (runI (runM (d + 6)) iX9_readStep (95, [some (.ref 37), some (.ref 1), u2, some (.int (nI k)), some (.int (nI p)), some (.int (nI v))], [], mm L X I J)) (some (.int (bI (decide ((clE W z b k p v 59).1 = 0))))) (fun I' J' => (Fr fRC I I' ∧ SP I I' (clE W z b k p v 59) e o) ∧ J' = J) := by
  (first | refine rt_eq (q_X9_readStep_0) ?_ | refine rt_eq (q_X9_readStep_6) ?_ | refine rt_eq (q_X9_readStep_72) ?_ | refine rt_eq (q_X9_readStep_58) ?_ | refine rt_eq (q_X9_readStep_24) ?_ | refine rt_eq (q_X9_readStep_95) ?_ | refine rt_eq (q_X9_readStep_84) ?_ | refine rt_eq (q_X9_readStep_61) ?_ | refine rt_eq (q_X9_readStep_104) ?_ | refine rt_eq (q_X9_readStep_110) ?_)
  refine rt_be (sp_add h3 he) ?_
  obtain ⟨f1, f2⟩ := AD_up (I := I) (e := e) (k := k) (p := p) (v := v)
  generalize up2 (up2 (up2 (up2 I 38 e (nI k)) 39 e (nI p)) 40 e (nI v)) 37 3 (nI (e + 1)) = I1 at f1 f2 ⊢
  obtain ⟨B, hz, hz2, hb, h5⟩ := RdC_fr R f1 (by decide) ((f1 1 5 rfl).trans R.2.2.2.2) R.2.2.2.1
  (first | refine rt_eq (q_X9_readStep_0) ?_ | refine rt_eq (q_X9_readStep_6) ?_ | refine rt_eq (q_X9_readStep_72) ?_ | refine rt_eq (q_X9_readStep_58) ?_ | refine rt_eq (q_X9_readStep_24) ?_ | refine rt_eq (q_X9_readStep_95) ?_ | refine rt_eq (q_X9_readStep_84) ?_ | refine rt_eq (q_X9_readStep_61) ?_ | refine rt_eq (q_X9_readStep_104) ?_ | refine rt_eq (q_X9_readStep_110) ?_)
  refine rt_bnd (sp_signC (c := 59) B hz hz2 hb h5 (by decide)) ?_
  rintro I2 J2 ⟨⟨g1, g2, g3⟩, rfl⟩
  have fr2 : Fr fRC I I2 := fr_tr (fr_mono f1 (by decide)) (fr_mono g1 (by decide))
  (first | refine rt_eq (q_X9_readStep_0) ?_ | refine rt_eq (q_X9_readStep_6) ?_ | refine rt_eq (q_X9_readStep_72) ?_ | refine rt_eq (q_X9_readStep_58) ?_ | refine rt_eq (q_X9_readStep_24) ?_ | refine rt_eq (q_X9_readStep_95) ?_ | refine rt_eq (q_X9_readStep_84) ?_ | refine rt_eq (q_X9_readStep_61) ?_ | refine rt_eq (q_X9_readStep_104) ?_ | refine rt_eq (q_X9_readStep_110) ?_)
  by_cases q : sgn W z b 59
  · have ec : clE W z b k p v 59 = (0, 0, sk W z b + 1, k, p, v) := if_pos q
    obtain ⟨k5, k2, k3⟩ := g2 q
    rw [ec, decide_eq_true q]
    exact rt_gd (by decide) (rt_ret ⟨⟨fr2, fun _ => ⟨AD_fr f2 g1 (by decide), k5, k2.trans (f1 1 2 rfl), k3.trans (f1 1 3 rfl), fun _ => ⟨(g1 37 6 rfl).trans (f1 37 6 rfl), fun j => (g1 41 j rfl).trans (f1 41 j rfl)⟩, fun q2 => absurd q2 hk⟩, fun q2 => absurd rfl q2⟩, rfl⟩)
  · have ec : clE W z b k p v 59 = (1, sk W z b, 0, k, p, v) := if_neg q
    obtain ⟨k2, k3⟩ := g3 q
    rw [ec, decide_eq_false q]
    exact rt_gd (by decide) (rt_ret ⟨⟨fr2, SP_f (by decide) k2 k3⟩, rfl⟩)
/-- an again as far as its body -/
def clG (W : Nat → Nat) (z o t b : Nat) : Cs := if o = 6 then (3, t, 0, 0, 0, 0) else if ¬ nmF W z b (nI 0) (nI 30) = 0 then (nmF W z b (nI 0) (nI 30), sk W z b, 0, 0, 0, 0) else clE W z (nmV W z b).1 8 (nmV W z b).2 0 91
theorem sp_readAgain {t : Nat} (R : RdC I W z b) (h3 : I 37 3 = nI e) (he : e < 75) (h6 : I 37 6 = nI o) (ho : o ≤ 6) (h7 : I 1 7 = nI t) : Rt L X (runM (d + 4) nX9_readAgain [.ref 37, .ref 1] (mm L X I J)) (some (.int (bI (decide ((clG W z o t b).1 = 0))))) (fun I' J' => (Fr fRC I I' ∧ SP I I' (clG W z o t b) e o) ∧ J' = J) := by
  obtain ⟨B, hz, hz2, hb, h5⟩ := R
  have v1 := nmV_le (W := W) hb
  rw [e_X9_readAgain]
  (first | refine rt_eq (q_X9_readAgain_0) ?_ | refine rt_eq (q_X9_readAgain_21) ?_ | refine rt_eq (q_X9_readAgain_13) ?_ | refine rt_eq (q_X9_readAgain_41) ?_ | refine rt_eq (q_X9_readAgain_62) ?_ | refine rt_eq (q_X9_readAgain_68) ?_)
  rw [h6]
  by_cases c : o = 6
  · have ec : clG W z o t b = (3, t, 0, 0, 0, 0) := if_pos c
    rw [ec, c]
    refine rt_f (by decide) (rt_be sp_tooMany ?_)
    (first | refine rt_eq (q_X9_readAgain_0) ?_ | refine rt_eq (q_X9_readAgain_21) ?_ | refine rt_eq (q_X9_readAgain_13) ?_ | refine rt_eq (q_X9_readAgain_41) ?_ | refine rt_eq (q_X9_readAgain_62) ?_ | refine rt_eq (q_X9_readAgain_68) ?_)
    refine rt_gd (by decide) (rt_ret ⟨⟨fr_up (fr_up fr_rfl rfl) rfl, SP_f (by decide) ?_ ?_⟩, rfl⟩)
    · rw [up2_k (by decide), up2_s]
    · rw [up2_s, h7]
  · refine rt_t (by (try simp (disch := omega) only [nI_leI, nI_ltI, nI_eq, nI_add, pk_mul, n_0add, Nat.zero_add, nI_clamp]) <;> omega) (rt_bnd (sp_numeral B hz hz2 hb h5) ?_)
    rintro I1 J1 ⟨⟨f1, f2, f3⟩, rfl⟩
    have f1' : Fr fRC I I1 := fr_mono f1 (by decide)
    (first | refine rt_eq (q_X9_readAgain_0) ?_ | refine rt_eq (q_X9_readAgain_21) ?_ | refine rt_eq (q_X9_readAgain_13) ?_ | refine rt_eq (q_X9_readAgain_41) ?_ | refine rt_eq (q_X9_readAgain_62) ?_ | refine rt_eq (q_X9_readAgain_68) ?_)
    by_cases q : nmF W z b (nI 0) (nI 30) = 0
    · have ec : clG W z o t b = clE W z (nmV W z b).1 8 (nmV W z b).2 0 91 := by
        unfold clG
        rw [if_neg c, if_neg (not_not_intro q)]
      rw [decide_eq_true q]
      refine rt_f (show ¬ bI true = nI 0 by decide) ?_
      obtain ⟨g5, g4, g2, g3, g7⟩ := f2 q
      rw [f1 37 6 rfl, h6, f1 37 3 rfl, h3]
      refine rt_bne (sp_put ka_41 (by decide)) ?_
      rw [pt_n (by omega) (by decide)]
      (first | refine rt_eq (q_X9_readAgain_0) ?_ | refine rt_eq (q_X9_readAgain_21) ?_ | refine rt_eq (q_X9_readAgain_13) ?_ | refine rt_eq (q_X9_readAgain_41) ?_ | refine rt_eq (q_X9_readAgain_62) ?_ | refine rt_eq (q_X9_readAgain_68) ?_)
      rw [show (up2 I1 41 o (nI e)) 37 6 = nI o by rw [up2_n (by decide), f1 37 6 rfl, h6], nI_add]
      generalize hI2 : up2 (up2 I1 41 o (nI e)) 37 6 (nI (o + 1)) = I2
      have k1 : Fr [(41, 0), (37, 7)] I1 I2 := by
        rw [← hI2]
        exact fr_up (fr_up fr_rfl rfl) rfl
      have k6 : I2 37 6 = nI (o + 1) := by rw [← hI2, up2_s]
      have k41 : I2 41 o = nI e := by rw [← hI2, up2_n (by decide), up2_s]
      have k42 : ∀ j, ¬ j = o → I2 41 j = I 41 j := fun j hj => by rw [← hI2, up2_n (by decide), up2_k hj, f1 41 j rfl]
      rw [(k1 1 4 rfl).trans g4]
      refine rt_be (sp_add (e := e) ((k1 37 3 rfl).trans ((f1 37 3 rfl).trans h3)) he) ?_
      obtain ⟨l1, l2⟩ := AD_up (I := I2) (e := e) (k := 8) (p := (nmV W z b).2) (v := 0)
      generalize up2 (up2 (up2 (up2 I2 38 e (nI 8)) 39 e (nI (nmV W z b).2)) 40 e (nI 0)) 37 3 (nI (e + 1)) = I3 at l1 l2 ⊢
      have fr3 : Fr fRC I I3 := fr_tr (fr_tr f1' (fr_mono k1 (by decide))) (fr_mono l1 (by decide))
      have g53 : I3 1 5 = nI (nmV W z b).1 := (l1 1 5 rfl).trans ((k1 1 5 rfl).trans g5)
      (first | refine rt_eq (q_X9_readAgain_0) ?_ | refine rt_eq (q_X9_readAgain_21) ?_ | refine rt_eq (q_X9_readAgain_13) ?_ | refine rt_eq (q_X9_readAgain_41) ?_ | refine rt_eq (q_X9_readAgain_62) ?_ | refine rt_eq (q_X9_readAgain_68) ?_)
      refine rt_bnd (sp_signC (c := 91) (BC_fr B fr3 (by decide)) ((fr3 1 6 rfl).trans hz) hz2 v1.2.1 g53 (by decide)) ?_
      rintro I4 J4 ⟨⟨m1, m2, m3⟩, rfl⟩
      have fr4 : Fr fRC I I4 := fr_tr fr3 (fr_mono m1 (by decide))
      (first | refine rt_eq (q_X9_readAgain_0) ?_ | refine rt_eq (q_X9_readAgain_21) ?_ | refine rt_eq (q_X9_readAgain_13) ?_ | refine rt_eq (q_X9_readAgain_41) ?_ | refine rt_eq (q_X9_readAgain_62) ?_ | refine rt_eq (q_X9_readAgain_68) ?_)
      by_cases q2 : sgn W z (nmV W z b).1 91
      · have ee : clE W z (nmV W z b).1 8 (nmV W z b).2 0 91 = (0, 0, sk W z (nmV W z b).1 + 1, 8, (nmV W z b).2, 0) := if_pos q2
        obtain ⟨n5, n2, n3⟩ := m2 q2
        rw [ec, ee, decide_eq_true q2]
        refine rt_gd (by decide) (rt_ret ⟨⟨fr4, fun _ => ⟨?_, n5, ?_, ?_, fun q3 => absurd rfl q3, fun _ => ⟨?_, ?_, fun j hj => ?_⟩⟩, fun q3 => absurd rfl q3⟩, rfl⟩)
        · exact AD_0 (AD_0 (AD_fr l2 m1 (by decide)) k1 (by decide)) f1 (by decide)
        · rw [n2, l1 1 2 rfl, k1 1 2 rfl, g2]
        · rw [n3, l1 1 3 rfl, k1 1 3 rfl, g3]
        · rw [m1 37 6 rfl, l1 37 6 rfl, k6]
        · rw [m1 41 o rfl, l1 41 o rfl, k41]
        · rw [m1 41 j rfl, l1 41 j rfl, k42 j hj]
      · have ee : clE W z (nmV W z b).1 8 (nmV W z b).2 0 91 = (1, sk W z (nmV W z b).1, 0, 8, (nmV W z b).2, 0) := if_neg q2
        obtain ⟨n2, n3⟩ := m3 q2
        rw [ec, ee, decide_eq_false q2]
        exact rt_gd (by decide) (rt_ret ⟨⟨fr4, SP_f (by decide) n2 n3⟩, rfl⟩)
    · have ec : clG W z o t b = (nmF W z b (nI 0) (nI 30), sk W z b, 0, 0, 0, 0) := by
        unfold clG
        rw [if_neg c, if_pos q]
      rw [ec]
      have e0 : decide ((nmF W z b (nI 0) (nI 30), sk W z b, 0, 0, 0, 0).1 = 0) = false := decide_eq_false q
      rw [decide_eq_false q]
      obtain ⟨n2, n3⟩ := f3 q
      exact rt_t bI_f (rt_ret ⟨⟨f1', SP_f q n2 n3⟩, rfl⟩)
theorem sp_readStepC {np : Nat} (O : SO I) (R : RdC I W z a) (h3 : I 37 3 = nI e) (he : ¬ wkI W z a = -1 → e < 75) (h6 : I 37 6 = nI o) (ho : o ≤ 6) : Rt L X (runM (d + 7) nX9_readStep [.ref 37, .ref 1, .int (nI np)] (mm L X I J)) (some (.int (bI (decide ((clS W z np o a).1 = 0))))) (fun I' J' => (Fr fRC I I' ∧ SP I I' (clS W z np o a) e o) ∧ J' = J) := by
  obtain ⟨B, hz, hz2, ha, h5⟩ := R
  have he2 := wE_le (W := W) ha
  have v1 := nmV_le (W := W) he2.2
  have v2 := nmV_le (W := W) v1.2.1
  have os6 : os 1000006 := .inr (.inr rfl)
  have ews : wdS 1000006 = wdW := rfl
  rw [e_X9_readStep]
  (first | refine rt_eq (q_X9_readStep_0) ?_ | refine rt_eq (q_X9_readStep_6) ?_ | refine rt_eq (q_X9_readStep_72) ?_ | refine rt_eq (q_X9_readStep_58) ?_ | refine rt_eq (q_X9_readStep_24) ?_ | refine rt_eq (q_X9_readStep_95) ?_ | refine rt_eq (q_X9_readStep_84) ?_ | refine rt_eq (q_X9_readStep_61) ?_ | refine rt_eq (q_X9_readStep_104) ?_ | refine rt_eq (q_X9_readStep_110) ?_)
  have nm := sp_named (d := d) (L := L) (X := X) (J := J) os6 O B hz hz2 ha h5
  rw [ews] at nm
  refine rt_bnd nm ?_
  rintro I1 J1 ⟨⟨f1, f2, f3⟩, rfl⟩
  have f1' : Fr fRC I I1 := fr_mono f1 (by decide)
  have ew : plA W (sk W z a) (wE W z a) wdW 0 = wkI W z a := rfl
  rw [ew] at f2 f3 ⊢
  (first | refine rt_eq (q_X9_readStep_0) ?_ | refine rt_eq (q_X9_readStep_6) ?_ | refine rt_eq (q_X9_readStep_72) ?_ | refine rt_eq (q_X9_readStep_58) ?_ | refine rt_eq (q_X9_readStep_24) ?_ | refine rt_eq (q_X9_readStep_95) ?_ | refine rt_eq (q_X9_readStep_84) ?_ | refine rt_eq (q_X9_readStep_61) ?_ | refine rt_eq (q_X9_readStep_104) ?_ | refine rt_eq (q_X9_readStep_110) ?_)
  by_cases c1 : wkI W z a = -1
  · have ec : clS W z np o a = (1, sk W z a, 0, 0, 0, 0) := if_pos c1
    rw [ec, c1]
    obtain ⟨k2, k3⟩ := f3 c1
    exact rt_f (by decide) (rt_ret ⟨⟨f1', SP_f (by decide) k2 k3⟩, rfl⟩)
  · obtain ⟨w1, w2, w3⟩ := wk_n c1
    obtain ⟨g5, g2, g3, g7⟩ := f2 c1
    have R1 : RdC I1 W z (wE W z a) := ⟨BC_fr B f1 (by decide), (f1 1 6 rfl).trans hz, hz2, he2.2, g5⟩
    have h31 : I1 37 3 = nI e := (f1 37 3 rfl).trans h3
    have h61 : I1 37 6 = nI o := (f1 37 6 rfl).trans h6
    have e75 := he c1
    rw [w1]
    refine rt_t (by (try simp (disch := omega) only [nI_leI, nI_ltI, nI_eq, nI_add, pk_mul, n_0add, Nat.zero_add, nI_clamp]) <;> omega) ?_
    by_cases c2 : wkN W z a = 8
    · have ec : clS W z np o a = clG W z o (sk W z a) (wE W z a) := by
        unfold clS
        rw [if_neg c1, if_pos c2]
        rfl
      rw [c2]
      refine rt_t rfl (rt_bnd (sp_readAgain (d := d + 2) (t := sk W z a) R1 h31 e75 h61 ho g7) ?_)
      rintro I2 J2 ⟨⟨k1, k2⟩, rfl⟩
      (first | refine rt_eq (q_X9_readStep_0) ?_ | refine rt_eq (q_X9_readStep_6) ?_ | refine rt_eq (q_X9_readStep_72) ?_ | refine rt_eq (q_X9_readStep_58) ?_ | refine rt_eq (q_X9_readStep_24) ?_ | refine rt_eq (q_X9_readStep_95) ?_ | refine rt_eq (q_X9_readStep_84) ?_ | refine rt_eq (q_X9_readStep_61) ?_ | refine rt_eq (q_X9_readStep_104) ?_ | refine rt_eq (q_X9_readStep_110) ?_)
      rw [ec]
      exact rt_gd bI_b01 (rt_ret ⟨⟨fr_tr f1' k1, SP_0 k2 f1 g2 g3⟩, rfl⟩)
    · refine rt_f (by (try simp (disch := omega) only [nI_leI, nI_ltI, nI_eq, nI_add, pk_mul, n_0add, Nat.zero_add, nI_clamp]) <;> omega) ?_
      have fin : ∀ (k p v b' : Nat) (I2 : MI32) (u2 : Option Value), ¬ k = 8 → Fr fTC I I2 → I2 1 2 = I 1 2 → I2 1 3 = I 1 3 → I2 1 5 = nI b' → b' ≤ z → clS W z np o a = clE W z b' k p v 59 → Rt L X (runI (runM (d + 6)) iX9_readStep (95, [some (.ref 37), some (.ref 1), u2, some (.int (nI k)), some (.int (nI p)), some (.int (nI v))], [], mm L X I2 J1)) (some (.int (bI (decide ((clS W z np o a).1 = 0))))) (fun I' J' => (Fr fRC I I' ∧ SP I I' (clS W z np o a) e o) ∧ J' = J1) := by
        intro k p v b' I2 u2 q1 q2 q3 q4 q5 q6 q7
        rw [q7]
        refine rt_mono (rs_95 (o := o) q1 ⟨BC_fr B q2 (by decide), (q2 1 6 rfl).trans hz, hz2, q6, q5⟩ ((q2 37 3 rfl).trans h3) e75) ?_
        rintro I3 J3 ⟨⟨r1, r2⟩, rfl⟩
        exact ⟨⟨fr_tr (fr_mono q2 (by decide)) r1, SP_0 r2 q2 q3 q4⟩, rfl⟩
      have num : ∀ (x : Int32), x = hiW np (wkN W z a) → ¬ (wkN W z a = 2 ∨ wkN W z a = 7) → Rt L X (runI (runM (d + 6)) iX9_readStep (58, [some (.ref 37), some (.ref 1), some (.int (nI np)), some (.int (nI (wkN W z a))), some (.int (nI 0)), some (.int (nI 0))], [.int x, .int (nI 0), .ref 1], mm L X I1 J1)) (some (.int (bI (decide ((clS W z np o a).1 = 0))))) (fun I' J' => (Fr fRC I I' ∧ SP I I' (clS W z np o a) e o) ∧ J' = J1) := by
        intro x hx c3
        (first | refine rt_eq (q_X9_readStep_0) ?_ | refine rt_eq (q_X9_readStep_6) ?_ | refine rt_eq (q_X9_readStep_72) ?_ | refine rt_eq (q_X9_readStep_58) ?_ | refine rt_eq (q_X9_readStep_24) ?_ | refine rt_eq (q_X9_readStep_95) ?_ | refine rt_eq (q_X9_readStep_84) ?_ | refine rt_eq (q_X9_readStep_61) ?_ | refine rt_eq (q_X9_readStep_104) ?_ | refine rt_eq (q_X9_readStep_110) ?_)
        rw [hx]
        refine rt_bnd (sp_numeral R1.1 R1.2.1 hz2 he2.2 g5) ?_
        rintro I2 J2 ⟨⟨k1, k2, k3⟩, rfl⟩
        have fr2 : Fr fTC I I2 := fr_tr f1 k1
        (first | refine rt_eq (q_X9_readStep_0) ?_ | refine rt_eq (q_X9_readStep_6) ?_ | refine rt_eq (q_X9_readStep_72) ?_ | refine rt_eq (q_X9_readStep_58) ?_ | refine rt_eq (q_X9_readStep_24) ?_ | refine rt_eq (q_X9_readStep_95) ?_ | refine rt_eq (q_X9_readStep_84) ?_ | refine rt_eq (q_X9_readStep_61) ?_ | refine rt_eq (q_X9_readStep_104) ?_ | refine rt_eq (q_X9_readStep_110) ?_)
        by_cases c4 : nmF W z (wE W z a) (nI 0) (hiW np (wkN W z a)) = 0
        · obtain ⟨l5, l4, l2, l3, l7⟩ := k2 c4
          rw [decide_eq_true c4]
          refine rt_f (show ¬ bI true = nI 0 by decide) ?_
          rw [l4]
          (first | refine rt_eq (q_X9_readStep_0) ?_ | refine rt_eq (q_X9_readStep_6) ?_ | refine rt_eq (q_X9_readStep_72) ?_ | refine rt_eq (q_X9_readStep_58) ?_ | refine rt_eq (q_X9_readStep_24) ?_ | refine rt_eq (q_X9_readStep_95) ?_ | refine rt_eq (q_X9_readStep_84) ?_ | refine rt_eq (q_X9_readStep_61) ?_ | refine rt_eq (q_X9_readStep_104) ?_ | refine rt_eq (q_X9_readStep_110) ?_)
          by_cases c5 : wkN W z a = 3
          · rw [c5]
            refine rt_t rfl (rt_bnd (sp_numeral (BC_fr B fr2 (by decide)) ((fr2 1 6 rfl).trans hz) hz2 v1.2.1 l5) ?_)
            rintro I3 J3 ⟨⟨m1, m2, m3⟩, rfl⟩
            have fr3 : Fr fTC I I3 := fr_tr fr2 m1
            (first | refine rt_eq (q_X9_readStep_0) ?_ | refine rt_eq (q_X9_readStep_6) ?_ | refine rt_eq (q_X9_readStep_72) ?_ | refine rt_eq (q_X9_readStep_58) ?_ | refine rt_eq (q_X9_readStep_24) ?_ | refine rt_eq (q_X9_readStep_95) ?_ | refine rt_eq (q_X9_readStep_84) ?_ | refine rt_eq (q_X9_readStep_61) ?_ | refine rt_eq (q_X9_readStep_104) ?_ | refine rt_eq (q_X9_readStep_110) ?_)
            by_cases c6 : nmF W z (nmV W z (wE W z a)).1 (nI 0) (nI 9) = 0
            · obtain ⟨n5, n4, n2, n3, n7⟩ := m2 c6
              rw [decide_eq_true c6]
              refine rt_f (show ¬ bI true = nI 0 by decide) ?_
              rw [n4]
              refine fin 3 _ _ _ I3 _ (by decide) fr3 (n2.trans (l2.trans g2)) (n3.trans (l3.trans g3)) n5 v2.2.1 ?_
              unfold clS
              rw [if_neg c1, if_neg c2, if_neg c3, if_neg (not_not_intro c4), if_pos c5, if_neg (not_not_intro c6)]
            · have ec : clS W z np o a = (nmF W z (nmV W z (wE W z a)).1 (nI 0) (nI 9), sk W z (nmV W z (wE W z a)).1, 0, 0, 0, 0) := by
                unfold clS
                rw [if_neg c1, if_neg c2, if_neg c3, if_neg (not_not_intro c4), if_pos c5, if_pos c6]
              obtain ⟨n2, n3⟩ := m3 c6
              rw [ec, decide_eq_false c6]
              refine rt_t bI_f (rt_r (rt_ret ⟨⟨fr_mono fr3 (by decide), SP_f c6 n2 n3⟩, rfl⟩) ?_)
              rfl
          · refine rt_f (by (try simp (disch := omega) only [nI_leI, nI_ltI, nI_eq, nI_add, pk_mul, n_0add, Nat.zero_add, nI_clamp]) <;> omega) ?_
            refine fin _ _ 0 _ I2 _ c2 fr2 (l2.trans g2) (l3.trans g3) l5 v1.2.1 ?_
            unfold clS
            rw [if_neg c1, if_neg c2, if_neg c3, if_neg (not_not_intro c4), if_neg c5]
        · have ec : clS W z np o a = (nmF W z (wE W z a) (nI 0) (hiW np (wkN W z a)), sk W z (wE W z a), 0, 0, 0, 0) := by
            unfold clS
            rw [if_neg c1, if_neg c2, if_neg c3, if_pos c4]
          obtain ⟨n2, n3⟩ := k3 c4
          rw [ec, decide_eq_false c4]
          refine rt_t bI_f (rt_r (rt_ret ⟨⟨fr_mono fr2 (by decide), SP_f c4 n2 n3⟩, rfl⟩) ?_)
          rfl
      have sim : (wkN W z a = 2 ∨ wkN W z a = 7) → Rt L X (runI (runM (d + 6)) iX9_readStep (72, [some (.ref 37), some (.ref 1), some (.int (nI np)), some (.int (nI (wkN W z a))), some (.int (nI 0)), some (.int (nI 0))], [], mm L X I1 J1)) (some (.int (bI (decide ((clS W z np o a).1 = 0))))) (fun I' J' => (Fr fRC I I' ∧ SP I I' (clS W z np o a) e o) ∧ J' = J1) := by
        intro c3
        (first | refine rt_eq (q_X9_readStep_0) ?_ | refine rt_eq (q_X9_readStep_6) ?_ | refine rt_eq (q_X9_readStep_72) ?_ | refine rt_eq (q_X9_readStep_58) ?_ | refine rt_eq (q_X9_readStep_24) ?_ | refine rt_eq (q_X9_readStep_95) ?_ | refine rt_eq (q_X9_readStep_84) ?_ | refine rt_eq (q_X9_readStep_61) ?_ | refine rt_eq (q_X9_readStep_104) ?_ | refine rt_eq (q_X9_readStep_110) ?_)
        refine rt_f (by (try simp (disch := omega) only [nI_leI, nI_ltI, nI_eq, nI_add, pk_mul, n_0add, Nat.zero_add, nI_clamp]) <;> omega) ?_
        refine fin (wkN W z a) 0 0 _ I1 _ c2 f1 g2 g3 g5 he2.2 ?_
        unfold clS
        rw [if_neg c1, if_neg c2, if_pos c3]
      by_cases c3 : wkN W z a = 2
      · exact rt_t (by rw [c3]) (sim (.inl c3))
      · refine rt_f (by (try simp (disch := omega) only [nI_leI, nI_ltI, nI_eq, nI_add, pk_mul, n_0add, Nat.zero_add, nI_clamp]) <;> omega) ?_
        by_cases c4 : wkN W z a = 7
        · exact rt_t (by rw [c4]) (sim (.inr c4))
        · refine rt_f (by (try simp (disch := omega) only [nI_leI, nI_ltI, nI_eq, nI_add, pk_mul, n_0add, Nat.zero_add, nI_clamp]) <;> omega) ?_
          by_cases c5 : wkN W z a = 6
          · refine rt_t (by rw [c5]) (num _ ?_ (by omega))
            unfold hiW
            rw [if_pos c5]
          · refine rt_f (by (try simp (disch := omega) only [nI_leI, nI_ltI, nI_eq, nI_add, pk_mul, n_0add, Nat.zero_add, nI_clamp]) <;> omega) (num _ ?_ (by omega))
            unfold hiW
            rw [if_neg c5]
theorem sp_readClose {g : Nat} (R : RdC I W z b) (h3 : I 37 3 = nI e) (he : e < 75) (h6 : I 37 6 = nI (o + 1)) (ho : o < 6) (h41 : I 41 o = nI g) (hg : g < 75) (hs : sgn W z b 93) : Rt L X (runM (d + 4) nX9_readClose [.ref 37, .ref 1] (mm L X I J)) (some (.int (bI (decide (sgn W z (sk W z b + 1) 59))))) (fun I' J' => (Fr fRC I I' ∧ (sgn W z (sk W z b + 1) 59 → I' 1 5 = nI (sk W z (sk W z b + 1) + 1) ∧ I' 1 2 = I 1 2 ∧ I' 1 3 = I 1 3 ∧ I' 37 6 = nI o ∧ (∀ j, I' 41 j = I 41 j) ∧ AD (up2 I 40 g (nI e)) I' e 9 0 g) ∧ (¬ sgn W z (sk W z b + 1) 59 → I' 1 2 = nI 1 ∧ I' 1 3 = nI (sk W z (sk W z b + 1)))) ∧ J' = J) := by
  obtain ⟨B, hz, hz2, hb, h5⟩ := R
  rw [e_X9_readClose]
  (first | refine rt_eq (q_X9_readClose_0) ?_ | refine rt_eq (q_X9_readClose_21) ?_ | refine rt_eq (q_X9_readClose_34) ?_ | refine rt_eq (q_X9_readClose_42) ?_ | refine rt_eq (q_X9_readClose_48) ?_ | refine rt_eq (q_X9_readClose_57) ?_)
  rw [h6, n_sub1, up2_s]
  refine rt_bne (sp_pick ka_41 (by decide)) ?_
  rw [pk_n (by omega) (by decide), up2_n (by decide), h41]
  (first | refine rt_eq (q_X9_readClose_0) ?_ | refine rt_eq (q_X9_readClose_21) ?_ | refine rt_eq (q_X9_readClose_34) ?_ | refine rt_eq (q_X9_readClose_42) ?_ | refine rt_eq (q_X9_readClose_48) ?_ | refine rt_eq (q_X9_readClose_57) ?_)
  refine rt_bne (sp_put ka_40 (by decide)) ?_
  rw [pt_n hg (by decide), up2_k (by decide), h3]
  (first | refine rt_eq (q_X9_readClose_0) ?_ | refine rt_eq (q_X9_readClose_21) ?_ | refine rt_eq (q_X9_readClose_34) ?_ | refine rt_eq (q_X9_readClose_42) ?_ | refine rt_eq (q_X9_readClose_48) ?_ | refine rt_eq (q_X9_readClose_57) ?_)
  generalize hI2 : up2 (up2 I 37 6 (nI o)) 40 g (nI e) = I2
  have k1 : Fr [(40, 0), (37, 7)] I I2 := by
    rw [← hI2]
    exact fr_up (fr_up fr_rfl rfl) rfl
  have k6 : I2 37 6 = nI o := by rw [← hI2, up2_n (by decide), up2_s]
  have k40 : ∀ j, I2 40 j = (up2 I 40 g (nI e)) 40 j := fun j => by rw [← hI2, up2_at, up2_at, up2_n (by decide)]
  refine rt_be (sp_add (e := e) ((k1 37 3 rfl).trans h3) he) ?_
  obtain ⟨l1, l2⟩ := AD_up (I := I2) (e := e) (k := 9) (p := 0) (v := g)
  generalize up2 (up2 (up2 (up2 I2 38 e (nI 9)) 39 e (nI 0)) 40 e (nI g)) 37 3 (nI (e + 1)) = I3 at l1 l2 ⊢
  have l3 : AD (up2 I 40 g (nI e)) I3 e 9 0 g := by
    obtain ⟨a1, a2, a3, a4, a5⟩ := l2
    refine ⟨a1, a2, a3, a4, fun j hj => ?_⟩
    obtain ⟨b1, b2, b3⟩ := a5 j hj
    refine ⟨?_, ?_, b3.trans (k40 j)⟩
    · rw [b1, k1 38 j rfl, up2_n (by decide)]
    · rw [b2, k1 39 j rfl, up2_n (by decide)]
  have fr3 : Fr fRC I I3 := fr_tr (fr_mono k1 (by decide)) (fr_mono l1 (by decide))
  (first | refine rt_eq (q_X9_readClose_0) ?_ | refine rt_eq (q_X9_readClose_21) ?_ | refine rt_eq (q_X9_readClose_34) ?_ | refine rt_eq (q_X9_readClose_42) ?_ | refine rt_eq (q_X9_readClose_48) ?_ | refine rt_eq (q_X9_readClose_57) ?_)
  refine rt_bnd (sp_signC (c := 93) (BC_fr B fr3 (by decide)) ((fr3 1 6 rfl).trans hz) hz2 hb ((l1 1 5 rfl).trans ((k1 1 5 rfl).trans h5)) (by decide)) ?_
  rintro I4 J4 ⟨⟨m1, m2, m3⟩, rfl⟩
  have fr4 : Fr fRC I I4 := fr_tr fr3 (fr_mono m1 (by decide))
  obtain ⟨n5, n2, n3⟩ := m2 hs
  (first | refine rt_eq (q_X9_readClose_0) ?_ | refine rt_eq (q_X9_readClose_21) ?_ | refine rt_eq (q_X9_readClose_34) ?_ | refine rt_eq (q_X9_readClose_42) ?_ | refine rt_eq (q_X9_readClose_48) ?_ | refine rt_eq (q_X9_readClose_57) ?_)
  rw [decide_eq_true hs]
  refine rt_f (show ¬ bI true = nI 0 by decide) ?_
  refine rt_bnd (sp_signC (c := 59) (BC_fr B fr4 (by decide)) ((fr4 1 6 rfl).trans hz) hz2 (by have := hs.1; omega) n5 (by decide)) ?_
  rintro I5 J5 ⟨⟨p1, p2, p3⟩, rfl⟩
  have fr5 : Fr fRC I I5 := fr_tr fr4 (fr_mono p1 (by decide))
  (first | refine rt_eq (q_X9_readClose_0) ?_ | refine rt_eq (q_X9_readClose_21) ?_ | refine rt_eq (q_X9_readClose_34) ?_ | refine rt_eq (q_X9_readClose_42) ?_ | refine rt_eq (q_X9_readClose_48) ?_ | refine rt_eq (q_X9_readClose_57) ?_)
  by_cases q : sgn W z (sk W z b + 1) 59
  · obtain ⟨r5, r2, r3⟩ := p2 q
    rw [decide_eq_true q]
    refine rt_f (show ¬ bI true = nI 0 by decide) (rt_ret ⟨⟨fr5, fun _ => ⟨r5, ?_, ?_, ?_, fun j => ?_, AD_fr (AD_fr l3 m1 (by decide)) p1 (by decide)⟩, fun q2 => absurd q q2⟩, rfl⟩)
    · rw [r2, n2, l1 1 2 rfl, k1 1 2 rfl]
    · rw [r3, n3, l1 1 3 rfl, k1 1 3 rfl]
    · rw [p1 37 6 rfl, m1 37 6 rfl, l1 37 6 rfl, k6]
    · rw [p1 41 j rfl, m1 41 j rfl, l1 41 j rfl, k1 41 j rfl]
  · rw [decide_eq_false q]
    exact rt_t bI_f (rt_ret ⟨⟨fr5, fun q2 => absurd q2 q, fun _ => p3 q⟩, rfl⟩)
end WC
