/-! A HOUSE, BY THE MODEL: the whole asking -/
section HG
variable {d L X : Nat} {I : MI32} {J : MI64} {W : Nat → Nat} {z tp : Nat} {h : Hs} {x : Int32}
theorem lp_houseM {u1 rr : Option Value} {Q : MI32 → MI64 → Prop} (B : BM I W) (B2 : ∀ k, k < 600 → W k < 256) (hz : I 72 2 = nI z) (hz2 : z ≤ 600) : ∀ f c a h I', c + f = 61 → c ≤ 60 → a ≤ z → Fr fCM I I' → I' 72 4 = nI (sk W z a) → I' 72 5 = nI 0 → I' 72 7 = nI c → HR I' h → hOK h → (∀ I'', Fr fCM I I'' → ((hP W z f c a h).1 = 0 → I'' 72 5 = nI 0 ∧ HR I'' (hP W z f c a h).2.2 ∧ hOK (hP W z f c a h).2.2) → (¬ (hP W z f c a h).1 = 0 → I'' 72 5 = nI (hP W z f c a h).1 ∧ I'' 72 6 = nI (hP W z f c a h).2.1) → Rt L X (runI (runM (d + 6)) iX12_house (71, [some (.ref 72), u1], [], mm L X I'' J)) rr Q) → Rt L X (c_X12_house_42 (d + 6) L X I' J u1) rr Q
  | 0, c, a, h, I', hc, hc2 => by
    exfalso
    omega
  | f + 1, c, a, h, I', hc, hc2 => by
    intro ha fr h4 h0 h7 H ok kk
    have ih := lp_houseM (u1 := u1) (rr := rr) (Q := Q) B B2 hz hz2 f (c + 1)
    have hs := sk_le (W := W) ha
    (first | refine rt_eq (q_X12_house_0) ?_ | refine rt_eq (q_X12_house_15) ?_ | refine rt_eq (q_X12_house_23) ?_ | refine rt_eq (q_X12_house_28) ?_ | refine rt_eq (q_X12_house_38) ?_ | refine rt_eq (q_X12_house_42) ?_ | refine rt_eq (q_X12_house_71) ?_ | refine rt_eq (q_X12_house_64) ?_ | refine rt_eq (q_X12_house_92) ?_ | refine rt_eq (q_X12_house_82) ?_ | refine rt_eq (q_X12_house_68) ?_)
    rw [h4, cm_2 fr, hz]
    refine rt_t h0 ?_
    by_cases e : sk W z a = z
    · have ep : hP W z (f + 1) c a h = (0, 0, h) := if_pos e
      rw [ep] at kk
      exact rt_t (by (try simp (disch := omega) only [nI_leI, nI_ltI, nI_eq, nI_add, pk_mul, n_0add, Nat.zero_add, nI_clamp]) <;> omega) (kk I' fr (fun _ => ⟨h0, H, ok⟩) (fun q => absurd rfl q))
    · have ep : hP W z (f + 1) c a h = if ¬ (hcl W z c a h).1 = 0 then ((hcl W z c a h).1, (hcl W z c a h).2.1, h) else hP W z f (c + 1) (hcl W z c a h).2.2.1 (hcl W z c a h).2.2.2 := if_neg e
      refine rt_f (by (try simp (disch := omega) only [nI_leI, nI_ltI, nI_eq, nI_add, pk_mul, n_0add, Nat.zero_add, nI_clamp]) <;> omega) ?_
      have st := sp_clause (d := d) (L := L) (X := X) (J := J) (BM_cm B fr) B2 ((cm_2 fr).trans hz) hz2 hs.2 h4 h0 h7 hc2 H ok
      rw [hcl_sk ha] at st
      refine rt_bnd st ?_
      have r3 := hcl_3 (W := W) (z := z) (c := c) (a := a) (h := h)
      have rk := hcl_ok (W := W) (z := z) (c := c) ha ok
      generalize hcl W z c a h = R at ep r3 rk
      rintro I1 J1 ⟨⟨g1, g2, g3⟩, rfl⟩
      have fr1 : Fr fCM I I1 := fr_tr fr g1
      by_cases c1 : R.1 = 0
      · obtain ⟨x4, x5, x7, xH⟩ := g2 c1
        obtain ⟨y1, y2, y3⟩ := rk c1
        clear g2 g3
        rw [if_neg (not_not_intro c1)] at ep
        rw [ep] at kk
        (first | refine rt_eq (q_X12_house_0) ?_ | refine rt_eq (q_X12_house_15) ?_ | refine rt_eq (q_X12_house_23) ?_ | refine rt_eq (q_X12_house_28) ?_ | refine rt_eq (q_X12_house_38) ?_ | refine rt_eq (q_X12_house_42) ?_ | refine rt_eq (q_X12_house_71) ?_ | refine rt_eq (q_X12_house_64) ?_ | refine rt_eq (q_X12_house_92) ?_ | refine rt_eq (q_X12_house_82) ?_ | refine rt_eq (q_X12_house_68) ?_)
        refine rt_bnd (sp_blanks (BM_cm B fr1) B2 ((cm_2 fr1).trans hz) hz2 y1 x4) ?_
        rintro I2 J2 ⟨⟨p1, p2⟩, rfl⟩
        (first | refine rt_eq (q_X12_house_0) ?_ | refine rt_eq (q_X12_house_15) ?_ | refine rt_eq (q_X12_house_23) ?_ | refine rt_eq (q_X12_house_28) ?_ | refine rt_eq (q_X12_house_38) ?_ | refine rt_eq (q_X12_house_42) ?_ | refine rt_eq (q_X12_house_71) ?_ | refine rt_eq (q_X12_house_64) ?_ | refine rt_eq (q_X12_house_92) ?_ | refine rt_eq (q_X12_house_82) ?_ | refine rt_eq (q_X12_house_68) ?_)
        have n5 : ∀ x y, ¬ x = 72 → I2 x y = I1 x y := fun x y hx => p1 x y (by simp [inF]; omega)
        refine ih _ _ I2 (by omega) (by omega) y1 (fr_tr2 fr1 p1 cm_5) p2 ((p1 72 5 rfl).trans x5) ((p1 72 7 rfl).trans x7) ?_ y3 kk
        obtain ⟨r1, r2, r4, r5⟩ := xH
        refine ⟨fun k hk => ?_, fun p hp => ?_, fun e he => ?_, fun g hg => ?_⟩
        · rw [n5 _ _ (by decide), r1 k hk]
        · rw [n5 _ _ (by omega), n5 _ _ (by omega), n5 _ _ (by omega), n5 _ _ (by omega)]
          exact r2 p hp
        · rw [n5 _ _ (by omega), n5 _ _ (by omega)]
          exact r4 e he
        · rw [n5 _ _ (by omega), n5 _ _ (by omega)]
          exact r5 g hg
      · obtain ⟨x5, x6, a', x7, x8⟩ := g3 c1
        clear g2 g3
        rw [if_pos c1] at ep
        rw [ep] at kk
        (first | refine rt_eq (q_X12_house_0) ?_ | refine rt_eq (q_X12_house_15) ?_ | refine rt_eq (q_X12_house_23) ?_ | refine rt_eq (q_X12_house_28) ?_ | refine rt_eq (q_X12_house_38) ?_ | refine rt_eq (q_X12_house_42) ?_ | refine rt_eq (q_X12_house_71) ?_ | refine rt_eq (q_X12_house_64) ?_ | refine rt_eq (q_X12_house_92) ?_ | refine rt_eq (q_X12_house_82) ?_ | refine rt_eq (q_X12_house_68) ?_)
        refine rt_bnd (sp_blanks (BM_cm B fr1) B2 ((cm_2 fr1).trans hz) hz2 x7 x8) ?_
        rintro I2 J2 ⟨⟨p1, p2⟩, rfl⟩
        have e5 : I2 72 5 = nI R.1 := (p1 72 5 rfl).trans x5
        (first | refine rt_eq (q_X12_house_0) ?_ | refine rt_eq (q_X12_house_15) ?_ | refine rt_eq (q_X12_house_23) ?_ | refine rt_eq (q_X12_house_28) ?_ | refine rt_eq (q_X12_house_38) ?_ | refine rt_eq (q_X12_house_42) ?_ | refine rt_eq (q_X12_house_71) ?_ | refine rt_eq (q_X12_house_64) ?_ | refine rt_eq (q_X12_house_92) ?_ | refine rt_eq (q_X12_house_82) ?_ | refine rt_eq (q_X12_house_68) ?_)
        (first | refine rt_eq (q_X12_house_0) ?_ | refine rt_eq (q_X12_house_15) ?_ | refine rt_eq (q_X12_house_23) ?_ | refine rt_eq (q_X12_house_28) ?_ | refine rt_eq (q_X12_house_38) ?_ | refine rt_eq (q_X12_house_42) ?_ | refine rt_eq (q_X12_house_71) ?_ | refine rt_eq (q_X12_house_64) ?_ | refine rt_eq (q_X12_house_92) ?_ | refine rt_eq (q_X12_house_82) ?_ | refine rt_eq (q_X12_house_68) ?_)
        refine rt_f (by rw [e5]; exact nI_ne0 (by omega) (by omega)) ?_
        exact kk I2 (fr_tr2 fr1 p1 cm_5) (fun q => absurd q c1) (fun _ => ⟨e5, (p1 72 6 rfl).trans x6⟩)
theorem sp_tellsNothing : Rt L X (runM (d + 1) nX12_tellsNothing [.ref 72] (mm L X I J)) none (fun I' J' => (Fr [(75, 0)] I I' ∧ HR I' h00) ∧ J' = J) := by
  rw [e_X12_tellsNothing]
  (first | refine rt_eq (q_X12_tellsNothing_0) ?_ | refine rt_eq (q_X12_tellsNothing_2) ?_)
  (first | refine rt_eq (q_X12_tellsNothing_0) ?_ | refine rt_eq (q_X12_tellsNothing_2) ?_)
  refine rt_f (by decide) (rt_gd (by decide) ?_)
  rw [nI_add]
  (first | refine rt_eq (q_X12_tellsNothing_0) ?_ | refine rt_eq (q_X12_tellsNothing_2) ?_)
  refine rt_f (by decide) (rt_gd (by decide) ?_)
  rw [nI_add]
  (first | refine rt_eq (q_X12_tellsNothing_0) ?_ | refine rt_eq (q_X12_tellsNothing_2) ?_)
  refine rt_f (by decide) (rt_gd (by decide) ?_)
  rw [nI_add]
  (first | refine rt_eq (q_X12_tellsNothing_0) ?_ | refine rt_eq (q_X12_tellsNothing_2) ?_)
  refine rt_t (by decide) ?_
  rw [show (nI 0).toNatClampNeg = 0 by decide, show (nI (0 + 1)).toNatClampNeg = 1 by decide, show (nI (0 + 1 + 1)).toNatClampNeg = 2 by decide]
  refine rt_ret ⟨⟨fr_up (fr_up (fr_up (fr_up fr_rfl rfl) rfl) rfl) rfl, fun k hk => ?_, fun p hp => absurd hp (Nat.not_lt_zero _), fun p hp => absurd hp (Nat.not_lt_zero _), fun p hp => absurd hp (Nat.not_lt_zero _)⟩, rfl⟩
  have : k = 0 ∨ k = 1 ∨ k = 2 ∨ k = 3 := by omega
  rcases this with rfl | rfl | rfl | rfl
  · rw [up2_k (by decide), up2_k (by decide), up2_k (by decide), up2_s]
    rfl
  · rw [up2_k (by decide), up2_k (by decide), up2_s]
    rfl
  · rw [up2_k (by decide), up2_s]
    rfl
  · rw [up2_s]
    rfl
theorem gr_of {g n w : Nat} (h1 : (Nat.blt g 1000000 && (K0[g]? == some (4, n))) = true) (h2 : ∀ j, j < n → R0 g j = some (g + 1 + j)) (h3 : ∀ s, s < n → (Nat.blt (g + 1 + s) 1000000 && (K0[g + 1 + s]? == some (1, w))) = true) : gr g n w := ⟨ka_of h1, h2, fun j hj => ka_of (h3 j hj)⟩
theorem gr_77 : gr 77 6 4 := gr_of (by decide +kernel) (by decide +kernel) (by decide +kernel)
theorem gr_84 : gr 84 6 4 := gr_of (by decide +kernel) (by decide +kernel) (by decide +kernel)
theorem gr_91 : gr 91 4 2 := gr_of (by decide +kernel) (by decide +kernel) (by decide +kernel)
theorem gr_96 : gr 96 5 2 := gr_of (by decide +kernel) (by decide +kernel) (by decide +kernel)
theorem gr_102 : gr 102 5 2 := gr_of (by decide +kernel) (by decide +kernel) (by decide +kernel)
theorem gr_108 : gr 108 5 2 := gr_of (by decide +kernel) (by decide +kernel) (by decide +kernel)
theorem lp_ba2 {rr : Option Value} {Q : MI32 → MI64 → Prop} : ∀ r k I', k + r = 4 → Fr [(76, 0)] I I' → (∀ i, i < k → I' 76 i = I 75 i) → (∀ I'', Fr [(76, 0)] I I'' → (∀ i, i < 4 → I'' 76 i = I 75 i) → Rt L X (c_X12_beginsAnew_2 (d + 1) L X I'' J (nI 4)) rr Q) → Rt L X (c_X12_beginsAnew_2 (d + 1) L X I' J (nI k)) rr Q
  | 0, k, I', hk, hf, A, kk => by
    have e : k = 4 := by omega
    subst e
    exact kk I' hf A
  | r + 1, k, I', hk, hf, A, kk => by
    have ih := lp_ba2 (rr := rr) (Q := Q) r (k + 1)
    (first | refine rt_eq (q_X12_beginsAnew_0) ?_ | refine rt_eq (q_X12_beginsAnew_2) ?_ | refine rt_eq (q_X12_beginsAnew_42) ?_ | refine rt_eq (q_X12_beginsAnew_59) ?_ | refine rt_eq (q_X12_beginsAnew_76) ?_ | refine rt_eq (q_X12_beginsAnew_88) ?_ | refine rt_eq (q_X12_beginsAnew_109) ?_ | refine rt_eq (q_X12_beginsAnew_132) ?_ | refine rt_eq (q_X12_beginsAnew_181) ?_)
    refine rt_f (by (try simp (disch := omega) only [nI_leI, nI_ltI, nI_eq, nI_add, pk_mul, n_0add, Nat.zero_add, nI_clamp]) <;> omega) (rt_gd (inb_n (by omega) (by decide)) ?_)
    rw [nI_clamp (by omega), nI_add, hf 75 k rfl]
    refine ih _ (by omega) (fr_up hf rfl) (fun i hi => ?_) kk
    rw [up2_at]
    by_cases q : i = k
    · rw [if_pos q, q]
    · rw [if_neg q]
      exact A i (by omega)
theorem lp_ba88 {rr : Option Value} {Q : MI32 → MI64 → Prop} : ∀ r k I', k + r = 31 → Fr [(533, 0)] I I' → (∀ i, i < k → I' 533 i = nI 0) → (∀ I'', Fr [(533, 0)] I I'' → (∀ i, i < 31 → I'' 533 i = nI 0) → Rt L X (c_X12_beginsAnew_88 (d + 1) L X I'' J (nI 31)) rr Q) → Rt L X (c_X12_beginsAnew_88 (d + 1) L X I' J (nI k)) rr Q
  | 0, k, I', hk, hf, A, kk => by
    have e : k = 31 := by omega
    subst e
    exact kk I' hf A
  | r + 1, k, I', hk, hf, A, kk => by
    have ih := lp_ba88 (rr := rr) (Q := Q) r (k + 1)
    (first | refine rt_eq (q_X12_beginsAnew_0) ?_ | refine rt_eq (q_X12_beginsAnew_2) ?_ | refine rt_eq (q_X12_beginsAnew_42) ?_ | refine rt_eq (q_X12_beginsAnew_59) ?_ | refine rt_eq (q_X12_beginsAnew_76) ?_ | refine rt_eq (q_X12_beginsAnew_88) ?_ | refine rt_eq (q_X12_beginsAnew_109) ?_ | refine rt_eq (q_X12_beginsAnew_132) ?_ | refine rt_eq (q_X12_beginsAnew_181) ?_)
    refine rt_f (by (try simp (disch := omega) only [nI_leI, nI_ltI, nI_eq, nI_add, pk_mul, n_0add, Nat.zero_add, nI_clamp]) <;> omega) (rt_gd (inb_n (by omega) (by decide)) ?_)
    rw [nI_clamp (by omega), nI_add]
    refine ih _ (by omega) (fr_up hf rfl) (fun i hi => ?_) kk
    rw [up2_at]
    by_cases q : i = k
    · rw [if_pos q]
    · rw [if_neg q]
      exact A i (by omega)
theorem lp_ba109 {rr : Option Value} {Q : MI32 → MI64 → Prop} : ∀ r k I', k + r = 6 → Fr [(533, 0)] I I' → (∀ i, I' 533 i = if i < k then -1 else I 533 i) → (∀ I'', Fr [(533, 0)] I I'' → (∀ i, I'' 533 i = if i < 6 then -1 else I 533 i) → Rt L X (c_X12_beginsAnew_109 (d + 1) L X I'' J (nI 6)) rr Q) → Rt L X (c_X12_beginsAnew_109 (d + 1) L X I' J (nI k)) rr Q
  | 0, k, I', hk, hf, A, kk => by
    have e : k = 6 := by omega
    subst e
    exact kk I' hf A
  | r + 1, k, I', hk, hf, A, kk => by
    have ih := lp_ba109 (rr := rr) (Q := Q) r (k + 1)
    (first | refine rt_eq (q_X12_beginsAnew_0) ?_ | refine rt_eq (q_X12_beginsAnew_2) ?_ | refine rt_eq (q_X12_beginsAnew_42) ?_ | refine rt_eq (q_X12_beginsAnew_59) ?_ | refine rt_eq (q_X12_beginsAnew_76) ?_ | refine rt_eq (q_X12_beginsAnew_88) ?_ | refine rt_eq (q_X12_beginsAnew_109) ?_ | refine rt_eq (q_X12_beginsAnew_132) ?_ | refine rt_eq (q_X12_beginsAnew_181) ?_)
    rw [n_0add]
    refine rt_f (by (try simp (disch := omega) only [nI_leI, nI_ltI, nI_eq, nI_add, pk_mul, n_0add, Nat.zero_add, nI_clamp]) <;> omega) (rt_gd (inb_n (by omega) (by decide)) ?_)
    rw [nI_clamp (by omega), nI_add]
    refine ih _ (by omega) (fr_up hf rfl) (fun i => ?_) kk
    rw [up2_at, A i]
    by_cases q : i = k
    · rw [if_pos q, if_pos (by omega)]
    · rw [if_neg q]
      by_cases q2 : i < k
      · rw [if_pos q2, if_pos (by omega)]
      · rw [if_neg q2, if_neg (by omega)]
theorem lp_ba132 {rr : Option Value} {Q : MI32 → MI64 → Prop} : ∀ r k I', k + r = 5 → Fr [(533, 0)] I I' → (∀ i, I' 533 i = if 24 ≤ i ∧ i < 24 + k then -1 else I 533 i) → (∀ I'', Fr [(533, 0)] I I'' → (∀ i, I'' 533 i = if 24 ≤ i ∧ i < 24 + 5 then -1 else I 533 i) → Rt L X (c_X12_beginsAnew_132 (d + 1) L X I'' J (nI 5)) rr Q) → Rt L X (c_X12_beginsAnew_132 (d + 1) L X I' J (nI k)) rr Q
  | 0, k, I', hk, hf, A, kk => by
    have e : k = 5 := by omega
    subst e
    exact kk I' hf A
  | r + 1, k, I', hk, hf, A, kk => by
    have ih := lp_ba132 (rr := rr) (Q := Q) r (k + 1)
    (first | refine rt_eq (q_X12_beginsAnew_0) ?_ | refine rt_eq (q_X12_beginsAnew_2) ?_ | refine rt_eq (q_X12_beginsAnew_42) ?_ | refine rt_eq (q_X12_beginsAnew_59) ?_ | refine rt_eq (q_X12_beginsAnew_76) ?_ | refine rt_eq (q_X12_beginsAnew_88) ?_ | refine rt_eq (q_X12_beginsAnew_109) ?_ | refine rt_eq (q_X12_beginsAnew_132) ?_ | refine rt_eq (q_X12_beginsAnew_181) ?_)
    rw [nI_add]
    refine rt_f (by (try simp (disch := omega) only [nI_leI, nI_ltI, nI_eq, nI_add, pk_mul, n_0add, Nat.zero_add, nI_clamp]) <;> omega) (rt_gd (inb_n (by omega) (by decide)) ?_)
    rw [nI_clamp (by omega), nI_add]
    refine ih _ (by omega) (fr_up hf rfl) (fun i => ?_) kk
    rw [up2_at, A i]
    by_cases q : i = 24 + k
    · rw [if_pos q, if_pos (by omega)]
    · rw [if_neg q]
      by_cases q2 : 24 ≤ i ∧ i < 24 + k
      · rw [if_pos q2, if_pos (by omega)]
      · rw [if_neg q2, if_neg (by omega)]
def fBA : Fls := [(76, 0), (533, 0), (72, 40), (72, 20), (72, 35), (72, 36), (72, 37), (72, 38)] ++ cells 85 6 ++ cells 97 5 ++ cells 109 5
theorem sp_beginsAnew (H : HR I h) (ok : hOK h) : Rt L X (runM (d + 2) nX12_beginsAnew [.ref 72] (mm L X I J)) none (fun I' J' => (Fr fBA I I' ∧ HM I' h (h 0 1) ∧ (∀ k, k < 31 → I' 533 k = nt0 (nI (h 0 3)) k) ∧ I' 72 19 = nI 0 ∧ I' 72 34 = nI 0 ∧ I' 72 35 = nI 0 ∧ I' 72 36 = nI 0 ∧ I' 72 37 = nI 0) ∧ J' = J) := by
  obtain ⟨⟨o1, o2, o3, -, -⟩, o6, o7⟩ := ok
  obtain ⟨r1, r2, r3, r4⟩ := H
  rw [e_X12_beginsAnew]
  (first | refine rt_eq (q_X12_beginsAnew_0) ?_ | refine rt_eq (q_X12_beginsAnew_2) ?_ | refine rt_eq (q_X12_beginsAnew_42) ?_ | refine rt_eq (q_X12_beginsAnew_59) ?_ | refine rt_eq (q_X12_beginsAnew_76) ?_ | refine rt_eq (q_X12_beginsAnew_88) ?_ | refine rt_eq (q_X12_beginsAnew_109) ?_ | refine rt_eq (q_X12_beginsAnew_132) ?_ | refine rt_eq (q_X12_beginsAnew_181) ?_)
  refine lp_ba2 (I := I) 4 0 I rfl fr_rfl (fun i hi => absurd hi (Nat.not_lt_zero i)) ?_
  intro I1 f1 a1
  have t : ∀ k, k < 4 → I1 76 k = nI (h 0 k) := fun k hk => (a1 k hk).trans (r1 k hk)
  (first | refine rt_eq (q_X12_beginsAnew_0) ?_ | refine rt_eq (q_X12_beginsAnew_2) ?_ | refine rt_eq (q_X12_beginsAnew_42) ?_ | refine rt_eq (q_X12_beginsAnew_59) ?_ | refine rt_eq (q_X12_beginsAnew_76) ?_ | refine rt_eq (q_X12_beginsAnew_88) ?_ | refine rt_eq (q_X12_beginsAnew_109) ?_ | refine rt_eq (q_X12_beginsAnew_132) ?_ | refine rt_eq (q_X12_beginsAnew_181) ?_)
  rw [t 0 (by decide)]
  refine rt_t (by decide) (rt_bndN (sp_lays gr_77 gr_84 o1 o1 (by decide) (by decide) (by decide) (by decide) (fun i j hi hj => by omega)) ?_)
  rintro I2 J2 ⟨⟨f2, a2⟩, rfl⟩
  have t2 : ∀ k, I2 76 k = I1 76 k := fun k => ag_of (s := [(76, 0)]) f2 (by decide +kernel) 76 k rfl
  (first | refine rt_eq (q_X12_beginsAnew_0) ?_ | refine rt_eq (q_X12_beginsAnew_2) ?_ | refine rt_eq (q_X12_beginsAnew_42) ?_ | refine rt_eq (q_X12_beginsAnew_59) ?_ | refine rt_eq (q_X12_beginsAnew_76) ?_ | refine rt_eq (q_X12_beginsAnew_88) ?_ | refine rt_eq (q_X12_beginsAnew_109) ?_ | refine rt_eq (q_X12_beginsAnew_132) ?_ | refine rt_eq (q_X12_beginsAnew_181) ?_)
  rw [t2, t 1 (by decide)]
  refine rt_bndN (sp_lays gr_91 gr_96 o2 (by omega) (by decide) (by decide) (by decide) (by decide) (fun i j hi hj => by omega)) ?_
  rintro I3 J3 ⟨⟨f3, a3⟩, rfl⟩
  have t3 : ∀ k, I3 76 k = I1 76 k := fun k => (ag_of (s := [(76, 0)]) f3 (by decide +kernel) 76 k rfl).trans (t2 k)
  (first | refine rt_eq (q_X12_beginsAnew_0) ?_ | refine rt_eq (q_X12_beginsAnew_2) ?_ | refine rt_eq (q_X12_beginsAnew_42) ?_ | refine rt_eq (q_X12_beginsAnew_59) ?_ | refine rt_eq (q_X12_beginsAnew_76) ?_ | refine rt_eq (q_X12_beginsAnew_88) ?_ | refine rt_eq (q_X12_beginsAnew_109) ?_ | refine rt_eq (q_X12_beginsAnew_132) ?_ | refine rt_eq (q_X12_beginsAnew_181) ?_)
  rw [t3, t 2 (by decide)]
  refine rt_bndN (sp_lays gr_102 gr_108 o3 o3 (by decide) (by decide) (by decide) (by decide) (fun i j hi hj => by omega)) ?_
  rintro I4 J4 ⟨⟨f4, a4⟩, rfl⟩
  have t4 : ∀ k, I4 76 k = I1 76 k := fun k => (ag_of (s := [(76, 0)]) f4 (by decide +kernel) 76 k rfl).trans (t3 k)
  (first | refine rt_eq (q_X12_beginsAnew_0) ?_ | refine rt_eq (q_X12_beginsAnew_2) ?_ | refine rt_eq (q_X12_beginsAnew_42) ?_ | refine rt_eq (q_X12_beginsAnew_59) ?_ | refine rt_eq (q_X12_beginsAnew_76) ?_ | refine rt_eq (q_X12_beginsAnew_88) ?_ | refine rt_eq (q_X12_beginsAnew_109) ?_ | refine rt_eq (q_X12_beginsAnew_132) ?_ | refine rt_eq (q_X12_beginsAnew_181) ?_)
  rw [t4, t 1 (by decide)]
  have f5 : Fr [(72, 40)] I4 (up2 I4 72 39 (nI (h 0 1))) := fr_up fr_rfl rfl
  have e5 : (up2 I4 72 39 (nI (h 0 1))) 72 39 = nI (h 0 1) := up2_s
  generalize up2 I4 72 39 (nI (h 0 1)) = I5 at f5 e5 ⊢
  refine lp_ba88 (I := I5) 31 0 I5 rfl fr_rfl (fun i hi => absurd hi (Nat.not_lt_zero i)) ?_
  intro I6 f6 a6
  (first | refine rt_eq (q_X12_beginsAnew_0) ?_ | refine rt_eq (q_X12_beginsAnew_2) ?_ | refine rt_eq (q_X12_beginsAnew_42) ?_ | refine rt_eq (q_X12_beginsAnew_59) ?_ | refine rt_eq (q_X12_beginsAnew_76) ?_ | refine rt_eq (q_X12_beginsAnew_88) ?_ | refine rt_eq (q_X12_beginsAnew_109) ?_ | refine rt_eq (q_X12_beginsAnew_132) ?_ | refine rt_eq (q_X12_beginsAnew_181) ?_)
  refine rt_t (by decide) ?_
  refine lp_ba109 (I := I6) 6 0 I6 rfl fr_rfl (fun i => (if_neg (Nat.not_lt_zero i)).symm) ?_
  intro I7 f7 a7
  (first | refine rt_eq (q_X12_beginsAnew_0) ?_ | refine rt_eq (q_X12_beginsAnew_2) ?_ | refine rt_eq (q_X12_beginsAnew_42) ?_ | refine rt_eq (q_X12_beginsAnew_59) ?_ | refine rt_eq (q_X12_beginsAnew_76) ?_ | refine rt_eq (q_X12_beginsAnew_88) ?_ | refine rt_eq (q_X12_beginsAnew_109) ?_ | refine rt_eq (q_X12_beginsAnew_132) ?_ | refine rt_eq (q_X12_beginsAnew_181) ?_)
  refine rt_t (by decide) ?_
  refine lp_ba132 (I := I7) 5 0 I7 rfl fr_rfl (fun i => (if_neg (by omega)).symm) ?_
  intro I8 f8 a8
  have f58 : Fr [(533, 0)] I5 I8 := fr_tr (fr_tr f6 f7) f8
  have t8 : ∀ k, I8 76 k = I1 76 k := fun k => by rw [f58 76 k rfl, f5 76 k rfl, t4 k]
  (first | refine rt_eq (q_X12_beginsAnew_0) ?_ | refine rt_eq (q_X12_beginsAnew_2) ?_ | refine rt_eq (q_X12_beginsAnew_42) ?_ | refine rt_eq (q_X12_beginsAnew_59) ?_ | refine rt_eq (q_X12_beginsAnew_76) ?_ | refine rt_eq (q_X12_beginsAnew_88) ?_ | refine rt_eq (q_X12_beginsAnew_109) ?_ | refine rt_eq (q_X12_beginsAnew_132) ?_ | refine rt_eq (q_X12_beginsAnew_181) ?_)
  rw [t8, t 3 (by decide)]
  refine rt_t (by decide) ?_
  (first | refine rt_eq (q_X12_beginsAnew_0) ?_ | refine rt_eq (q_X12_beginsAnew_2) ?_ | refine rt_eq (q_X12_beginsAnew_42) ?_ | refine rt_eq (q_X12_beginsAnew_59) ?_ | refine rt_eq (q_X12_beginsAnew_76) ?_ | refine rt_eq (q_X12_beginsAnew_88) ?_ | refine rt_eq (q_X12_beginsAnew_109) ?_ | refine rt_eq (q_X12_beginsAnew_132) ?_ | refine rt_eq (q_X12_beginsAnew_181) ?_)
  generalize hI9 : up2 (up2 (up2 (up2 (up2 (up2 I8 533 29 (nI (h 0 3))) 72 19 (nI 0)) 72 34 (nI 0)) 72 35 (nI 0)) 72 36 (nI 0)) 72 37 (nI 0) = I9
  have f9 : Fr [(533, 0), (72, 20), (72, 35), (72, 36), (72, 37), (72, 38)] I8 I9 := by
    rw [← hI9]
    exact fr_up (fr_up (fr_up (fr_up (fr_up (fr_up fr_rfl rfl) rfl) rfl) rfl) rfl) rfl
  have e19 : I9 72 19 = nI 0 := by rw [← hI9, up2_k (by decide), up2_k (by decide), up2_k (by decide), up2_k (by decide), up2_s]
  have e34 : I9 72 34 = nI 0 := by rw [← hI9, up2_k (by decide), up2_k (by decide), up2_k (by decide), up2_s]
  have e35 : I9 72 35 = nI 0 := by rw [← hI9, up2_k (by decide), up2_k (by decide), up2_s]
  have e36 : I9 72 36 = nI 0 := by rw [← hI9, up2_k (by decide), up2_s]
  have e37 : I9 72 37 = nI 0 := by rw [← hI9, up2_s]
  have e533 : ∀ k, I9 533 k = if k = 29 then nI (h 0 3) else I8 533 k := fun k => by rw [← hI9, up2_n (by decide), up2_n (by decide), up2_n (by decide), up2_n (by decide), up2_n (by decide), up2_at]
  clear hI9
  have f49 : Fr [(72, 40), (533, 0), (72, 20), (72, 35), (72, 36), (72, 37), (72, 38)] I4 I9 := fr_tr (fr_tr (fr_mono f5 (by decide)) (fr_mono f58 (by decide))) (fr_mono f9 (by decide))
  have all : Fr fBA I I9 := fr_tr (fr_tr (fr_tr (fr_tr (fr_mono f1 (by decide +kernel)) (fr_mono f2 (by decide +kernel))) (fr_mono f3 (by decide +kernel))) (fr_mono f4 (by decide +kernel))) (fr_mono f49 (by decide +kernel))
  have src78 : ∀ p k, p < 6 → I1 (77 + 1 + p) k = I (77 + 1 + p) k := fun p k hp => ag_of (s := cells 78 6) f1 (by decide +kernel) _ k (in_cells hp)
  have src92 : ∀ p k, p < 4 → I2 (91 + 1 + p) k = I (91 + 1 + p) k := fun p k hp => by
    rw [ag_of (s := cells 92 4) f2 (by decide +kernel) _ k (in_cells hp), ag_of (s := cells 92 4) f1 (by decide +kernel) _ k (in_cells hp)]
  have src103 : ∀ p k, p < 5 → I3 (102 + 1 + p) k = I (102 + 1 + p) k := fun p k hp => by
    rw [ag_of (s := cells 103 5) f3 (by decide +kernel) _ k (in_cells hp), ag_of (s := cells 103 5) f2 (by decide +kernel) _ k (in_cells hp), ag_of (s := cells 103 5) f1 (by decide +kernel) _ k (in_cells hp)]
  have d85 : ∀ p k, p < h 0 0 → k < 4 → I9 (85 + p) k = I (78 + p) k := fun p k hp hk => by
    have q := a2 p k hp hk
    rw [src78 p k (by omega)] at q
    rw [ag_of (s := cells 85 6) f49 (by decide +kernel) _ k (in_cells (show p < 6 by omega)), ag_of (s := cells 85 6) f4 (by decide +kernel) _ k (in_cells (show p < 6 by omega)), ag_of (s := cells 85 6) f3 (by decide +kernel) _ k (in_cells (show p < 6 by omega))]
    exact q
  have d97 : ∀ p k, p < h 0 1 → k < 2 → I9 (97 + p) k = I (92 + p) k := fun p k hp hk => by
    have q := a3 p k hp hk
    rw [src92 p k (by omega)] at q
    rw [ag_of (s := cells 97 5) f49 (by decide +kernel) _ k (in_cells (show p < 5 by omega)), ag_of (s := cells 97 5) f4 (by decide +kernel) _ k (in_cells (show p < 5 by omega))]
    exact q
  have d109 : ∀ p k, p < h 0 2 → k < 2 → I9 (109 + p) k = I (103 + p) k := fun p k hp hk => by
    have q := a4 p k hp hk
    rw [src103 p k (by omega)] at q
    rw [ag_of (s := cells 109 5) f49 (by decide +kernel) _ k (in_cells (show p < 5 by omega))]
    exact q
  have t9 : ∀ k, k < 4 → I9 76 k = nI (h 0 k) := fun k hk => by rw [f9 76 k rfl, t8, t k hk]
  refine rt_ret ⟨⟨all, ⟨t9 0 (by decide), t9 1 (by decide), t9 2 (by decide), ?_, by omega, fun p hp => ?_, fun e he => ?_, fun f hf => ?_⟩, fun k hk => ?_, e19, e34, e35, e36, e37⟩, rfl⟩
  · rw [f9 72 39 rfl, f58 72 39 rfl, e5]
  · rw [d85 p 0 hp (by decide), d85 p 1 hp (by decide), d85 p 2 hp (by decide), d85 p 3 hp (by decide)]
    exact r2 p hp
  · rw [d97 e 0 he (by decide), d97 e 1 he (by decide)]
    exact ⟨(r3 e he).1, (r3 e he).2, o6 e he⟩
  · rw [d109 f 0 hf (by decide), d109 f 1 hf (by decide)]
    exact r4 f hf
  · rw [e533, a8, a7, a6 k hk]
    unfold nt0
    by_cases k29 : k = 29
    · rw [if_pos k29, if_neg (by omega), if_neg (by omega), if_neg (by omega), if_pos k29]
    · rw [if_neg k29]
      by_cases k24 : 24 ≤ k ∧ k < 24 + 5
      · rw [if_pos k24, if_neg (by omega), if_neg (by omega), if_pos (by omega)]
      · rw [if_neg k24]
        by_cases k6 : k < 6
        · rw [if_pos k6, if_pos k6]
        · rw [if_neg k6, if_neg k6]
          by_cases k24' : k < 24
          · rw [if_pos k24']
          · rw [if_neg k24', if_neg (by omega), if_neg k29]
def fHfM : Fls := fStT ++ fCM ++ [(72, 1), (72, 4)]
def fHoM : Fls := fHfM ++ fBA
theorem m_house (B : BM I W) (B2 : ∀ k, k < 600 → W k < 256) (ht : I 72 1 = nI tp) (htp : tp ≤ 600) (hn : z ≤ tp) : Rt L X (runM (d + 7) nX12_house [.ref 72, .int (nI z)] (mm L X I J)) (some (.int (hAns W z))) (fun I' J' => (I' 72 0 = nI 0 ∧ I' 72 1 = nI 0 ∧ ((hW W z).1 = 0 → Fr fHoM I I' ∧ I' 72 3 = -1 ∧ hOK (hW W z).2.2 ∧ HM I' (hW W z).2.2 ((hW W z).2.2 0 1) ∧ (∀ k, k < 31 → I' 533 k = nt0 (nI ((hW W z).2.2 0 3)) k) ∧ I' 72 19 = nI 0 ∧ I' 72 34 = nI 0 ∧ I' 72 35 = nI 0 ∧ I' 72 36 = nI 0 ∧ I' 72 37 = nI 0) ∧ (¬ (hW W z).1 = 0 → Fr fHfM I I' ∧ I' 72 3 = nI (hW W z).2.1)) ∧ J' = J) := by
  rw [e_X12_house]
  (first | refine rt_eq (q_X12_house_0) ?_ | refine rt_eq (q_X12_house_15) ?_ | refine rt_eq (q_X12_house_23) ?_ | refine rt_eq (q_X12_house_28) ?_ | refine rt_eq (q_X12_house_38) ?_ | refine rt_eq (q_X12_house_42) ?_ | refine rt_eq (q_X12_house_71) ?_ | refine rt_eq (q_X12_house_64) ?_ | refine rt_eq (q_X12_house_92) ?_ | refine rt_eq (q_X12_house_82) ?_ | refine rt_eq (q_X12_house_68) ?_)
  rw [show (up2 I 72 0 (nI 0)) 72 1 = nI tp by rw [up2_k (by decide), ht]]
  refine rt_bne (in_t (by (try simp (disch := omega) only [nI_leI, nI_ltI, nI_eq, nI_add, pk_mul, n_0add, Nat.zero_add, nI_clamp]) <;> omega) (by (try simp (disch := omega) only [nI_leI, nI_ltI, nI_eq, nI_add, pk_mul, n_0add, Nat.zero_add, nI_clamp]) <;> omega)) ?_
  (first | refine rt_eq (q_X12_house_0) ?_ | refine rt_eq (q_X12_house_15) ?_ | refine rt_eq (q_X12_house_23) ?_ | refine rt_eq (q_X12_house_28) ?_ | refine rt_eq (q_X12_house_38) ?_ | refine rt_eq (q_X12_house_42) ?_ | refine rt_eq (q_X12_house_71) ?_ | refine rt_eq (q_X12_house_64) ?_ | refine rt_eq (q_X12_house_92) ?_ | refine rt_eq (q_X12_house_82) ?_ | refine rt_eq (q_X12_house_68) ?_)
  refine rt_f (by decide) ?_
  (first | refine rt_eq (q_X12_house_0) ?_ | refine rt_eq (q_X12_house_15) ?_ | refine rt_eq (q_X12_house_23) ?_ | refine rt_eq (q_X12_house_28) ?_ | refine rt_eq (q_X12_house_38) ?_ | refine rt_eq (q_X12_house_42) ?_ | refine rt_eq (q_X12_house_71) ?_ | refine rt_eq (q_X12_house_64) ?_ | refine rt_eq (q_X12_house_92) ?_ | refine rt_eq (q_X12_house_82) ?_ | refine rt_eq (q_X12_house_68) ?_)
  refine rt_be (bad_f up2_s) ?_
  (first | refine rt_eq (q_X12_house_0) ?_ | refine rt_eq (q_X12_house_15) ?_ | refine rt_eq (q_X12_house_23) ?_ | refine rt_eq (q_X12_house_28) ?_ | refine rt_eq (q_X12_house_38) ?_ | refine rt_eq (q_X12_house_42) ?_ | refine rt_eq (q_X12_house_71) ?_ | refine rt_eq (q_X12_house_64) ?_ | refine rt_eq (q_X12_house_92) ?_ | refine rt_eq (q_X12_house_82) ?_ | refine rt_eq (q_X12_house_68) ?_)
  have gz : Fr [(72, 1)] I (up2 I 72 0 (nI 0)) := fr_up fr_rfl rfl
  refine rt_t rfl (rt_bnd (sp_starts (BM_fr B gz (by decide)) B2 (by omega)) ?_)
  rintro I1 J1 ⟨⟨f1, f2, f3, f4, f5, f6, f7, f8⟩, rfl⟩
  have e0 : I1 72 0 = nI 0 := by rw [f1 72 0 rfl, up2_s]
  (first | refine rt_eq (q_X12_house_0) ?_ | refine rt_eq (q_X12_house_15) ?_ | refine rt_eq (q_X12_house_23) ?_ | refine rt_eq (q_X12_house_28) ?_ | refine rt_eq (q_X12_house_38) ?_ | refine rt_eq (q_X12_house_42) ?_ | refine rt_eq (q_X12_house_71) ?_ | refine rt_eq (q_X12_house_64) ?_ | refine rt_eq (q_X12_house_92) ?_ | refine rt_eq (q_X12_house_82) ?_ | refine rt_eq (q_X12_house_68) ?_)
  refine rt_bnd (sp_tellsNothing) ?_
  rintro I2 J2 ⟨⟨g2, HR2⟩, rfl⟩
  have g12 : Fr ([(72, 1)] ++ fStT ++ [(75, 0)]) I I2 := fr_tr (fr_tr (fr_mono gz (by decide)) (fr_mono f1 (by decide))) (fr_mono g2 (by decide))
  refine lp_houseM (I := I2) (BM_fr B g12 (by decide)) B2 ((g2 72 2 rfl).trans f3) (by omega) 61 0 0 h00 I2 rfl (by decide) (Nat.zero_le _) fr_rfl ((g2 72 4 rfl).trans f4) ((g2 72 5 rfl).trans f5) ((g2 72 7 rfl).trans f7) HR2 hOK_0 ?_
  intro I3 k1 k2 k3
  have er : hP W z 61 0 0 h00 = hW W z := rfl
  rw [er] at k2 k3
  have fr3 : Fr fHfM I I3 := fr_tr (fr_mono g12 (by decide +kernel)) (fr_mono k1 (by decide +kernel))
  have n72 : ∀ k, dj fCM [(72, k + 1)] = true → I3 72 k = I2 72 k := fun k hk => ag_of (s := [(72, k + 1)]) k1 hk 72 k (by simp [inF])
  have e03 : I3 72 0 = nI 0 := by rw [n72 0 (by decide +kernel), g2 72 0 rfl, e0]
  have e13 : I3 72 1 = nI 0 := by rw [n72 1 (by decide +kernel), g2 72 1 rfl, f2]
  (first | refine rt_eq (q_X12_house_0) ?_ | refine rt_eq (q_X12_house_15) ?_ | refine rt_eq (q_X12_house_23) ?_ | refine rt_eq (q_X12_house_28) ?_ | refine rt_eq (q_X12_house_38) ?_ | refine rt_eq (q_X12_house_42) ?_ | refine rt_eq (q_X12_house_71) ?_ | refine rt_eq (q_X12_house_64) ?_ | refine rt_eq (q_X12_house_92) ?_ | refine rt_eq (q_X12_house_82) ?_ | refine rt_eq (q_X12_house_68) ?_)
  unfold hAns
  by_cases q : (hW W z).1 = 0
  · rw [if_pos q]
    obtain ⟨x5, xH, xO⟩ := k2 q
    have f4' : Fr [(72, 4)] I3 (up2 I3 72 3 (-1)) := fr_up fr_rfl rfl
    have e34 : (up2 I3 72 3 (-1)) 72 3 = -1 := up2_s
    have HR4 : HR (up2 I3 72 3 (-1)) (hW W z).2.2 := by
      obtain ⟨r1, r2, r3, r4⟩ := xH
      refine ⟨fun k hk => ?_, fun p hp => ?_, fun e he => ?_, fun g hg => ?_⟩
      · rw [up2_n (by decide), r1 k hk]
      · rw [up2_n (by omega)]
        exact r2 p hp
      · rw [up2_n (by omega)]
        exact r3 e he
      · rw [up2_n (by omega)]
        exact r4 g hg
    generalize up2 I3 72 3 (-1) = I4 at f4' e34 HR4 ⊢
    refine rt_t x5 (rt_bnd (sp_beginsAnew HR4 xO) ?_)
    rintro I5 J5 ⟨⟨m1, m2, m3, m19, m34, m35, m36, m37⟩, rfl⟩
    (first | refine rt_eq (q_X12_house_0) ?_ | refine rt_eq (q_X12_house_15) ?_ | refine rt_eq (q_X12_house_23) ?_ | refine rt_eq (q_X12_house_28) ?_ | refine rt_eq (q_X12_house_38) ?_ | refine rt_eq (q_X12_house_42) ?_ | refine rt_eq (q_X12_house_71) ?_ | refine rt_eq (q_X12_house_64) ?_ | refine rt_eq (q_X12_house_92) ?_ | refine rt_eq (q_X12_house_82) ?_ | refine rt_eq (q_X12_house_68) ?_)
    rw [m2.1]
    have h45 : ∀ k, dj fBA [(72, k + 1)] = true → I5 72 k = I4 72 k := fun k hk => ag_of (s := [(72, k + 1)]) m1 hk 72 k (by simp [inF])
    refine rt_ret ⟨⟨?_, ?_, fun _ => ⟨?_, ?_, xO, m2, m3, m19, m34, m35, m36, m37⟩, fun q2 => absurd q q2⟩, rfl⟩
    · rw [h45 0 (by decide +kernel), f4' 72 0 rfl, e03]
    · rw [h45 1 (by decide +kernel), f4' 72 1 rfl, e13]
    · exact fr_tr (fr_tr (fr_mono fr3 (by decide +kernel)) (fr_mono f4' (by decide +kernel))) (fr_mono m1 (by decide +kernel))
    · rw [h45 3 (by decide +kernel), e34]
  · rw [if_neg q]
    obtain ⟨x5, x6⟩ := k3 q
    have r3 : (hW W z).1 ≤ 3 := hP_3 _ _ _ _
    refine rt_f (by rw [x5]; exact nI_ne0 (by omega) (by omega)) (rt_be sp_ends ?_)
    (first | refine rt_eq (q_X12_house_0) ?_ | refine rt_eq (q_X12_house_15) ?_ | refine rt_eq (q_X12_house_23) ?_ | refine rt_eq (q_X12_house_28) ?_ | refine rt_eq (q_X12_house_38) ?_ | refine rt_eq (q_X12_house_42) ?_ | refine rt_eq (q_X12_house_71) ?_ | refine rt_eq (q_X12_house_64) ?_ | refine rt_eq (q_X12_house_92) ?_ | refine rt_eq (q_X12_house_82) ?_ | refine rt_eq (q_X12_house_68) ?_)
    rw [x5, x6]
    refine rt_ret ⟨⟨?_, ?_, fun q2 => absurd q2 q, fun _ => ⟨fr_up fr3 (by decide +kernel), up2_s⟩⟩, rfl⟩
    · rw [up2_k (by decide), e03]
    · rw [up2_k (by decide), e13]
theorem b_house (ht : I 72 1 = nI tp) (htp : tp ≤ 600) (hx : ¬ ∃ n, n ≤ tp ∧ x = nI n) : runM (d + 2) nX12_house [.ref 72, .int x] (mm L X I J) = rI (nI 0) (mm L X (bdM I 1 1) J) := by
  rw [e_X12_house]
  (first | refine Eq.trans (q_X12_house_0) ?_ | refine Eq.trans (q_X12_house_15) ?_ | refine Eq.trans (q_X12_house_23) ?_ | refine Eq.trans (q_X12_house_28) ?_ | refine Eq.trans (q_X12_house_38) ?_ | refine Eq.trans (q_X12_house_42) ?_ | refine Eq.trans (q_X12_house_71) ?_ | refine Eq.trans (q_X12_house_64) ?_ | refine Eq.trans (q_X12_house_92) ?_ | refine Eq.trans (q_X12_house_82) ?_ | refine Eq.trans (q_X12_house_68) ?_)
  rw [show (up2 I 72 0 (nI 0)) 72 1 = nI tp by rw [up2_k (by decide), ht]]
  refine Eq.trans (bndN_e (in_f (fun q => hx ((in_M (by omega)).mp q)))) ?_
  (first | refine Eq.trans (q_X12_house_0) ?_ | refine Eq.trans (q_X12_house_15) ?_ | refine Eq.trans (q_X12_house_23) ?_ | refine Eq.trans (q_X12_house_28) ?_ | refine Eq.trans (q_X12_house_38) ?_ | refine Eq.trans (q_X12_house_42) ?_ | refine Eq.trans (q_X12_house_71) ?_ | refine Eq.trans (q_X12_house_64) ?_ | refine Eq.trans (q_X12_house_92) ?_ | refine Eq.trans (q_X12_house_82) ?_ | refine Eq.trans (q_X12_house_68) ?_)
  rw [if_pos rfl]
  (first | refine Eq.trans (q_X12_house_0) ?_ | refine Eq.trans (q_X12_house_15) ?_ | refine Eq.trans (q_X12_house_23) ?_ | refine Eq.trans (q_X12_house_28) ?_ | refine Eq.trans (q_X12_house_38) ?_ | refine Eq.trans (q_X12_house_42) ?_ | refine Eq.trans (q_X12_house_71) ?_ | refine Eq.trans (q_X12_house_64) ?_ | refine Eq.trans (q_X12_house_92) ?_ | refine Eq.trans (q_X12_house_82) ?_ | refine Eq.trans (q_X12_house_68) ?_)
  refine Eq.trans (bnd_e (bad_t (by decide) (by decide) (by decide))) ?_
  (first | refine Eq.trans (q_X12_house_0) ?_ | refine Eq.trans (q_X12_house_15) ?_ | refine Eq.trans (q_X12_house_23) ?_ | refine Eq.trans (q_X12_house_28) ?_ | refine Eq.trans (q_X12_house_38) ?_ | refine Eq.trans (q_X12_house_42) ?_ | refine Eq.trans (q_X12_house_71) ?_ | refine Eq.trans (q_X12_house_64) ?_ | refine Eq.trans (q_X12_house_92) ?_ | refine Eq.trans (q_X12_house_82) ?_ | refine Eq.trans (q_X12_house_68) ?_)
  exact if_neg (by decide)
end HG
