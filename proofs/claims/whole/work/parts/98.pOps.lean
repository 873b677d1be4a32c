/-! EACH ASKING, BY BOTH: texts -/
section OT
variable {I I' : MI32} {h : Hs} {nL : Nat} {cd : Cd} {n : Nat} {N : Nt} {x : Int32}
theorem NR_nt0 {np : Nat} {v : Int32} (h6 : np ≤ 6) : NR np 0 (nt0 v) := by
  refine ⟨⟨by decide, h6⟩, fun k hk => absurd hk (Nat.not_lt_zero _), fun k _ hk => if_pos hk, fun i j _ hj => absurd hj (Nat.not_lt_zero _), fun p hp => ?_⟩
  have e : nt0 v (6 + p) = nI 0 := by
    unfold nt0
    rw [if_neg (by omega), if_pos (by omega)]
  rw [e]
  exact ⟨rfl, by decide⟩
theorem NX_nt0 {np nf v : Nat} (hv : v ≤ 99) : NX np nf (nt0 (nI v)) := by
  have e1 : ∀ p, p < 6 → nt0 (nI v) (12 + p) = nI 0 := fun p hp => by
    unfold nt0
    rw [if_neg (by omega), if_pos (by omega)]
  have e2 : ∀ p, p < 6 → nt0 (nI v) (18 + p) = nI 0 := fun p hp => by
    unfold nt0
    rw [if_neg (by omega), if_pos (by omega)]
  have e3 : ∀ f, f < 5 → nt0 (nI v) (24 + f) = -1 := fun p hp => by
    unfold nt0
    rw [if_neg (by omega), if_neg (by omega), if_pos (by omega)]
  have e4 : nt0 (nI v) 29 = nI v := rfl
  have z0 : nI 0 = nI (nv (nI 0)) ∧ nv (nI 0) ≤ 9 := ⟨rfl, by decide⟩
  refine ⟨fun p hp => by rw [e1 p hp]; exact z0, fun p hp => by rw [e2 p hp]; exact z0, fun p _ hp => e2 p hp, fun f _ hf => e3 f hf, ?_, ?_⟩
  · rw [e4, nv_n (by omega)]
  · rw [e4, nv_n (by omega)]
    exact hv
theorem op_house (HI : Inv I) : OP nX11_house nX12_house [.int x] cI (.int (nI 0)) I := by
  obtain ⟨h, nL, cd, n, N, W, tp, wk, B, im, K, nl, ln, bk, pl, rf, c0, c1, C, Cc, M, F⟩ := HI
  intro L X J
  have ok := F.1
  have k16 := IC_16 C
  have hC := C
  have hM := M
  obtain ⟨⟨s1, s2, s3⟩, a2, a3, a4, a5, a6, a7, a8, a9, a10, a11, a12, a13⟩ := hC
  obtain ⟨⟨m1, m2⟩, b2, b3, b4, b5, b6, b7, b8, b9, b10, b11⟩ := hM
  obtain ⟨-, F2, F3, F4, F5, F6, F7, F8, F9⟩ := id F
  by_cases hx : ∃ n, n ≤ tp ∧ x = nI n
  · obtain ⟨zz, hz, rfl⟩ := hx
    obtain ⟨I1, J1, e1, ⟨p1, p2⟩, rfl⟩ := c_house (d := 991) (L := L) (X := X) (J := J) a3 a4 a5 a6 F5 hz
    have gm : AgM I I1 := by
      by_cases q : (hW W zz).1 = 0
      · exact fr_C (p1 q).1 (by decide)
      · exact fr_C (p2 q).1 (by decide)
    have M1 := IM_C ok k16.1 k16.2 M gm
    refine .inl ⟨_, I1, _, e1, gm, rfl, fun J2 => ?_⟩
    obtain ⟨I2, J3, e2, ⟨z0, z1, q1, q2⟩, rfl⟩ := m_house (d := 993) (L := L) (X := X) (J := J2) M1.2.2.1 F6 M1.2.2.2.1 F5 hz
    obtain ⟨⟨m1, m2⟩, b2, b3, b4, b5, b6, b7, b8, b9, b10, b11⟩ := M1
    by_cases q : (hW W zz).1 = 0
    · obtain ⟨G, t1, t3, tO, tH, tL, tN, tB, t483, t484, t37, t564, t568, e5x⟩ := p1 q
      obtain ⟨H, y3, -, yH, yN, y19, y34, y35, y36, y37⟩ := q1 q
      have gc := fr_M H (by decide +kernel)
      have h5 := tO.1.2.2.1
      generalize (hW W zz).2.2 = g at tO tH tN yH yN h5
      have C1 : IC I1 g 11 cd0 0 (I2 533) W 0 0 B 0 K 0 (fun _ => none) (-1) (nI 0) c0 c1 := ⟨⟨tH, tL, Calm_fr s3 (ag_of G (by decide +kernel))⟩, NC_cong (by decide) tN yN, SO_fr a3 G (by decide +kernel), UT_fr a4 G (by decide +kernel), BC_fr a5 G (by decide +kernel), t1, t3, t37, (G 0 14 rfl).trans a9, (G 0 15 rfl).trans a10, tB, ⟨t483, by decide, fun i hi => absurd hi (Nat.not_lt_zero i)⟩, ⟨t484, by decide, fun i hi => absurd hi (Nat.not_lt_zero i)⟩⟩
      have Cc1 : Cch I1 g 11 cd0 (I2 533) := ⟨.inl t564, .inl t568, fun f hf e => absurd (e5x.symm.trans e).symm (nI_m1 f (by omega)), (ag_of (s := [(63, 1)]) G (by decide +kernel) 63 0 rfl).trans Cc.2.2.2⟩
      exact ⟨I2, e2, z0, g, 11, cd0, 0, I2 533, W, 0, 0, B, 0, K, 0, ln, fun _ => none, -1, nI 0, c0, c1, IC_M C1 gc, Cch_M Cc1 gc, ⟨⟨yH, .inr ⟨y19, rfl, fun _ _ => rfl⟩⟩, rfl, BM_fr b3 H (by decide +kernel), z1, y3, y36, (ag_of (s := [(74, 1)]) H (by decide +kernel) 74 0 rfl).trans b7, (ag_of (s := [(74, 2)]) H (by decide +kernel) 74 1 rfl).trans b8, ⟨y34, by decide, fun i hi => absurd hi (Nat.not_lt_zero i)⟩, ⟨y35, fun i hi => absurd hi (Nat.not_lt_zero i)⟩, ⟨y37, fun i hi => absurd hi (Nat.not_lt_zero i)⟩⟩, ⟨tO.1, wf_0, NR_cong (NR_nt0 tO.1.1) yN, NX_cong (NX_nt0 tO.2.2) yN, by decide, F6, ⟨fun i hi => absurd hi (Nat.not_lt_zero i), fun k v _ e => absurd (show (none : Option Nat) = some v from e) (by simp)⟩, fun i hi => absurd hi (Nat.not_lt_zero i), fun i hi => absurd hi (Nat.not_lt_zero i)⟩⟩
    · obtain ⟨G, t1, t3⟩ := p2 q
      obtain ⟨H, y3⟩ := q2 q
      have gc := fr_M H (by decide +kernel)
      have C1 : IC I1 h nL cd n N W 0 wk B im K nl bk (nI (hW W zz).2.1) rf c0 c1 := ⟨⟨HC_fr s1 (ag_of G (by decide +kernel)), LawC_fr s2 (ag_of G (by decide +kernel)), Calm_fr s3 (ag_of G (by decide +kernel))⟩, NC_fr a2 (ag_of G (by decide +kernel)), SO_fr a3 G (by decide +kernel), UT_fr a4 G (by decide +kernel), BC_fr a5 G (by decide +kernel), t1, t3, (G 37 7 rfl).trans a8, (G 0 14 rfl).trans a9, (G 0 15 rfl).trans a10, ⟨(G 31 0 rfl).trans a11.1, fun k hk => (G 32 k rfl).trans (a11.2 k hk)⟩, PC_ag a12 (ag_of G (by decide +kernel)), KC_ag a13 (ag_of G (by decide +kernel))⟩
      have Cc1 : Cch I1 h nL cd N := ⟨ch1_ag Cc.1 (ag_of G (by decide +kernel)), ch2_ag Cc.2.1 (ag_of G (by decide +kernel)), ch3_ag Cc.2.2.1 (ag_of G (by decide +kernel)), (ag_of (s := [(63, 1)]) G (by decide +kernel) 63 0 rfl).trans Cc.2.2.2⟩
      exact ⟨I2, e2, z0, h, nL, cd, n, N, W, 0, wk, B, im, K, nl, ln, bk, _, rf, c0, c1, IC_M C1 gc, Cch_M Cc1 gc, ⟨⟨HM_fr m1 ok (ag_of H (by decide +kernel)), LawM_fr m2 (ag_of H (by decide +kernel))⟩, (funext fun k => ag_of (s := [(533, 0)]) H (by decide +kernel) 533 k rfl).trans b2, BM_fr b3 H (by decide +kernel), z1, y3, (ag_of (s := [(72, 37)]) H (by decide +kernel) 72 36 rfl).trans b6, (ag_of (s := [(74, 1)]) H (by decide +kernel) 74 0 rfl).trans b7, (ag_of (s := [(74, 2)]) H (by decide +kernel) 74 1 rfl).trans b8, bkM_ag b9 (ag_of H (by decide +kernel)), PM_ag b10 k16.1 (ag_of H (by decide +kernel)), KM_ag b11 k16.2 (ag_of H (by decide +kernel))⟩, ⟨ok, F2, F3, F4, by decide, F6, F7, F8, F9⟩⟩
  · exact .inr (op_r (k := 1) (t := 1) (by decide) rfl C Cc M F (x_house a6 F5 hx) (fun I1 J2 M1 => b_house M1.2.2.2.1 F5 hx))
theorem op_law (HI : Inv I) : OP nX11_law nX12_law [.int x] cI (.int (nI 0)) I := by
  obtain ⟨h, nL, cd, n, N, W, tp, wk, B, im, K, nl, ln, bk, pl, rf, c0, c1, C, Cc, M, F⟩ := HI
  intro L X J
  have ok := F.1
  have k16 := IC_16 C
  have hC := C
  have hM := M
  obtain ⟨⟨s1, s2, s3⟩, a2, a3, a4, a5, a6, a7, a8, a9, a10, a11, a12, a13⟩ := hC
  obtain ⟨⟨m1, m2⟩, b2, b3, b4, b5, b6, b7, b8, b9, b10, b11⟩ := hM
  obtain ⟨-, F2, F3, F4, F5, F6, F7, F8, F9⟩ := id F
  by_cases hx : ∃ n, n ≤ tp ∧ n ≤ 150 ∧ x = nI n
  · obtain ⟨zz, hz, hz2, rfl⟩ := hx
    obtain ⟨I1, J1, e1, ⟨p1, p2⟩, rfl⟩ := c_law (d := 970) (L := L) (X := X) (J := J) a3 a5 a6 F5 hz hz2
    have gm : AgM I I1 := by
      by_cases q : (lwF W zz).1 = 0
      · exact fr_C (p1 q).1 (by decide)
      · exact fr_C (p2 q).1 (by decide)
    have M1 := IM_C ok k16.1 k16.2 M gm
    have h5 := ok.2.2.1
    refine .inl ⟨_, I1, _, e1, gm, rfl, fun J2 => ?_⟩
    obtain ⟨I2, J3, e2, ⟨z0, z1, q1, q2⟩, rfl⟩ := m_law (d := 972) (L := L) (X := X) (J := J2) M1.2.2.1 F6 M1.2.2.2.1 F5 hz hz2
    obtain ⟨⟨m1, m2⟩, b2, b3, b4, b5, b6, b7, b8, b9, b10, b11⟩ := M1
    by_cases q : (lwF W zz).1 = 0
    · obtain ⟨G, t1, t3, tR, tL, e5x⟩ := p1 q
      obtain ⟨H, y3, -, yL⟩ := q1 q
      have wf := (lwR_ok tR).2.2.2
      have gc := fr_M H (by decide +kernel)
      have C1 : IC I1 h (lwR W zz).2.2.2.1 (lwR W zz).2.2.2.2 n N W 0 wk B im K nl bk (-1) rf c0 c1 := ⟨⟨HC_fr s1 (ag_of G (by decide +kernel)), tL, Calm_fr s3 (ag_of G (by decide +kernel))⟩, NC_fr a2 (ag_of G (by decide +kernel)), SO_fr a3 G (by decide +kernel), UT_fr a4 G (by decide +kernel), BC_fr a5 G (by decide +kernel), t1, t3, (G 37 7 rfl).trans a8, (G 0 14 rfl).trans a9, (G 0 15 rfl).trans a10, ⟨(G 31 0 rfl).trans a11.1, fun k hk => (G 32 k rfl).trans (a11.2 k hk)⟩, PC_ag a12 (ag_of G (by decide +kernel)), KC_ag a13 (ag_of G (by decide +kernel))⟩
      have Cc1 : Cch I1 h (lwR W zz).2.2.2.1 (lwR W zz).2.2.2.2 N := ⟨ch1_ag Cc.1 (ag_of G (by decide +kernel)), ch2_ag Cc.2.1 (ag_of G (by decide +kernel)), fun f hf e => absurd (e5x.symm.trans e).symm (nI_m1 f (by omega)), (ag_of (s := [(63, 1)]) G (by decide +kernel) 63 0 rfl).trans Cc.2.2.2⟩
      exact ⟨I2, e2, z0, h, _, _, n, N, W, 0, wk, B, im, K, nl, ln, bk, -1, rf, c0, c1, IC_M C1 gc, Cch_M Cc1 gc, ⟨⟨HM_fr m1 ok (ag_of H (by decide +kernel)), yL⟩, (funext fun k => ag_of (s := [(533, 0)]) H (by decide +kernel) 533 k rfl).trans b2, BM_fr b3 H (by decide +kernel), z1, y3, (ag_of (s := [(72, 37)]) H (by decide +kernel) 72 36 rfl).trans b6, (ag_of (s := [(74, 1)]) H (by decide +kernel) 74 0 rfl).trans b7, (ag_of (s := [(74, 2)]) H (by decide +kernel) 74 1 rfl).trans b8, bkM_ag b9 (ag_of H (by decide +kernel)), PM_ag b10 k16.1 (ag_of H (by decide +kernel)), KM_ag b11 k16.2 (ag_of H (by decide +kernel))⟩, ⟨ok, wf, F3, F4, by decide, F6, F7, F8, F9⟩⟩
    · obtain ⟨G, t1, t3⟩ := p2 q
      obtain ⟨H, y3⟩ := q2 q
      have gc := fr_M H (by decide +kernel)
      have C1 : IC I1 h nL cd n N W 0 wk B im K nl bk (nI (lwF W zz).2) rf c0 c1 := ⟨⟨HC_fr s1 (ag_of G (by decide +kernel)), LawC_fr s2 (ag_of G (by decide +kernel)), Calm_fr s3 (ag_of G (by decide +kernel))⟩, NC_fr a2 (ag_of G (by decide +kernel)), SO_fr a3 G (by decide +kernel), UT_fr a4 G (by decide +kernel), BC_fr a5 G (by decide +kernel), t1, t3, (G 37 7 rfl).trans a8, (G 0 14 rfl).trans a9, (G 0 15 rfl).trans a10, ⟨(G 31 0 rfl).trans a11.1, fun k hk => (G 32 k rfl).trans (a11.2 k hk)⟩, PC_ag a12 (ag_of G (by decide +kernel)), KC_ag a13 (ag_of G (by decide +kernel))⟩
      have Cc1 : Cch I1 h nL cd N := ⟨ch1_ag Cc.1 (ag_of G (by decide +kernel)), ch2_ag Cc.2.1 (ag_of G (by decide +kernel)), ch3_ag Cc.2.2.1 (ag_of G (by decide +kernel)), (ag_of (s := [(63, 1)]) G (by decide +kernel) 63 0 rfl).trans Cc.2.2.2⟩
      exact ⟨I2, e2, z0, h, nL, cd, n, N, W, 0, wk, B, im, K, nl, ln, bk, _, rf, c0, c1, IC_M C1 gc, Cch_M Cc1 gc, ⟨⟨HM_fr m1 ok (ag_of H (by decide +kernel)), LawM_fr m2 (ag_of H (by decide +kernel))⟩, (funext fun k => ag_of (s := [(533, 0)]) H (by decide +kernel) 533 k rfl).trans b2, BM_fr b3 H (by decide +kernel), z1, y3, (ag_of (s := [(72, 37)]) H (by decide +kernel) 72 36 rfl).trans b6, (ag_of (s := [(74, 1)]) H (by decide +kernel) 74 0 rfl).trans b7, (ag_of (s := [(74, 2)]) H (by decide +kernel) 74 1 rfl).trans b8, bkM_ag b9 (ag_of H (by decide +kernel)), PM_ag b10 k16.1 (ag_of H (by decide +kernel)), KM_ag b11 k16.2 (ag_of H (by decide +kernel))⟩, ⟨ok, F2, F3, F4, by decide, F6, F7, F8, F9⟩⟩
  · exact .inr (op_r (k := 1) (t := 1) (by decide) rfl C Cc M F (x_law a6 F5 hx) (fun I1 J2 M1 => b_law M1.2.2.2.1 F5 hx))
theorem op_book (HI : Inv I) : OP nX11_book nX12_book [.int x] cI (.int (nI 0)) I := by
  obtain ⟨h, nL, cd, n, N, W, tp, wk, B, im, K, nl, ln, bk, pl, rf, c0, c1, C, Cc, M, F⟩ := HI
  intro L X J
  have ok := F.1
  have k16 := IC_16 C
  have hC := C
  have hM := M
  obtain ⟨⟨s1, s2, s3⟩, a2, a3, a4, a5, a6, a7, a8, a9, a10, a11, a12, a13⟩ := hC
  obtain ⟨⟨m1, m2⟩, b2, b3, b4, b5, b6, b7, b8, b9, b10, b11⟩ := hM
  obtain ⟨-, F2, F3, F4, F5, F6, F7, F8, F9⟩ := id F
  by_cases hx : ∃ n, n ≤ tp ∧ n ≤ 60 ∧ x = nI n
  · obtain ⟨zz, hz, hz2, rfl⟩ := hx
    obtain ⟨I1, J1, e1, ⟨G, t1, p1, p2⟩, rfl⟩ := c_book (d := 993) (L := L) (X := X) (J := J) a5 a6 F5 hz hz2
    have gm : AgM I I1 := fr_C G (by decide)
    have M1 := IM_C ok k16.1 k16.2 M gm
    refine .inl ⟨_, I1, _, e1, gm, rfl, fun J2 => ?_⟩
    obtain ⟨I2, J3, e2, ⟨H, z0, z1, q1, q2⟩, rfl⟩ := m_book (d := 996) (L := L) (X := X) (J := J2) M1.2.2.1 F6 M1.2.2.2.1 F5 hz hz2
    obtain ⟨⟨m1, m2⟩, b2, b3, b4, b5, b6, b7, b8, b9, b10, b11⟩ := M1
    have gc := fr_M H (by decide +kernel)
    have Cc1 : Cch I1 h nL cd N := ⟨ch1_ag Cc.1 (ag_of G (by decide +kernel)), ch2_ag Cc.2.1 (ag_of G (by decide +kernel)), ch3_ag Cc.2.2.1 (ag_of G (by decide +kernel)), (ag_of (s := [(63, 1)]) G (by decide +kernel) 63 0 rfl).trans Cc.2.2.2⟩
    by_cases q : (bkP W zz 7 0 bS0).1 = 0
    · obtain ⟨t31, t32, t3, tO⟩ := p1 q
      obtain ⟨yB, y3, -⟩ := q1 q
      have C1 : IC I1 h nL cd n N W 0 wk B im K (bkP W zz 7 0 bS0).2.2.1 (bkP W zz 7 0 bS0).2.2.2.2 (-1) rf c0 c1 := ⟨⟨HC_fr s1 (ag_of G (by decide +kernel)), LawC_fr s2 (ag_of G (by decide +kernel)), Calm_fr s3 (ag_of G (by decide +kernel))⟩, NC_fr a2 (ag_of G (by decide +kernel)), SO_fr a3 G (by decide +kernel), UT_fr a4 G (by decide +kernel), BC_fr a5 G (by decide +kernel), t1, t3, (G 37 7 rfl).trans a8, (G 0 14 rfl).trans a9, (G 0 15 rfl).trans a10, ⟨t31, t32⟩, PC_ag a12 (ag_of G (by decide +kernel)), KC_ag a13 (ag_of G (by decide +kernel))⟩
      exact ⟨I2, e2, z0, h, nL, cd, n, N, W, 0, wk, B, im, K, _, _, _, -1, rf, c0, c1, IC_M C1 gc, Cch_M Cc1 gc, ⟨⟨HM_fr m1 ok (ag_of H (by decide +kernel)), LawM_fr m2 (ag_of H (by decide +kernel))⟩, (funext fun k => ag_of (s := [(533, 0)]) H (by decide +kernel) 533 k rfl).trans b2, BM_fr b3 H (by decide +kernel), z1, y3, (ag_of (s := [(72, 37)]) H (by decide +kernel) 72 36 rfl).trans b6, (ag_of (s := [(74, 1)]) H (by decide +kernel) 74 0 rfl).trans b7, (ag_of (s := [(74, 2)]) H (by decide +kernel) 74 1 rfl).trans b8, yB, PM_ag b10 k16.1 (ag_of H (by decide +kernel)), KM_ag b11 k16.2 (ag_of H (by decide +kernel))⟩, ⟨ok, F2, F3, F4, by decide, F6, tO.1, F8, F9⟩⟩
    · obtain ⟨t31, t32, t3⟩ := p2 q
      obtain ⟨y34, yr, y3⟩ := q2 q
      have C1 : IC I1 h nL cd n N W 0 wk B im K nl bk (nI (bkP W zz 7 0 bS0).2.1) rf c0 c1 := ⟨⟨HC_fr s1 (ag_of G (by decide +kernel)), LawC_fr s2 (ag_of G (by decide +kernel)), Calm_fr s3 (ag_of G (by decide +kernel))⟩, NC_fr a2 (ag_of G (by decide +kernel)), SO_fr a3 G (by decide +kernel), UT_fr a4 G (by decide +kernel), BC_fr a5 G (by decide +kernel), t1, t3, (G 37 7 rfl).trans a8, (G 0 14 rfl).trans a9, (G 0 15 rfl).trans a10, ⟨t31.trans a11.1, fun k hk => (t32 k).trans (a11.2 k hk)⟩, PC_ag a12 (ag_of G (by decide +kernel)), KC_ag a13 (ag_of G (by decide +kernel))⟩
      exact ⟨I2, e2, z0, h, nL, cd, n, N, W, 0, wk, B, im, K, nl, ln, bk, _, rf, c0, c1, IC_M C1 gc, Cch_M Cc1 gc, ⟨⟨HM_fr m1 ok (ag_of H (by decide +kernel)), LawM_fr m2 (ag_of H (by decide +kernel))⟩, (funext fun k => ag_of (s := [(533, 0)]) H (by decide +kernel) 533 k rfl).trans b2, BM_fr b3 H (by decide +kernel), z1, y3, (ag_of (s := [(72, 37)]) H (by decide +kernel) 72 36 rfl).trans b6, (ag_of (s := [(74, 1)]) H (by decide +kernel) 74 0 rfl).trans b7, (ag_of (s := [(74, 2)]) H (by decide +kernel) 74 1 rfl).trans b8, ⟨y34.trans b9.1, b9.2.1, fun i hi => by have := b9.2.1; rw [yr i 0 (by omega), yr i 1 (by omega)]; exact b9.2.2 i hi⟩, PM_ag b10 k16.1 (ag_of H (by decide +kernel)), KM_ag b11 k16.2 (ag_of H (by decide +kernel))⟩, ⟨ok, F2, F3, F4, by decide, F6, F7, F8, F9⟩⟩
  · exact .inr (op_r (k := 1) (t := 1) (by decide) rfl C Cc M F (x_book a6 F5 hx) (fun I1 J2 M1 => b_book M1.2.2.2.1 F5 hx))
theorem op_work (HI : Inv I) : OP nX11_work nX12_work [.int x] cI (.int (nI 0)) I := by
  obtain ⟨h, nL, cd, n, N, W, tp, wk, B, im, K, nl, ln, bk, pl, rf, c0, c1, C, Cc, M, F⟩ := HI
  intro L X J
  have ok := F.1
  have k16 := IC_16 C
  have hC := C
  have hM := M
  obtain ⟨⟨s1, s2, s3⟩, a2, a3, a4, a5, a6, a7, a8, a9, a10, a11, a12, a13⟩ := hC
  obtain ⟨⟨m1, m2⟩, b2, b3, b4, b5, b6, b7, b8, b9, b10, b11⟩ := hM
  obtain ⟨-, F2, F3, F4, F5, F6, F7, F8, F9⟩ := id F
  by_cases hx : ∃ n, n ≤ tp ∧ n ≤ 150 ∧ x = nI n
  · obtain ⟨zz, hz, hz2, rfl⟩ := hx
    have h5 := ok.2.2.1
    by_cases hw : wk < 16
    · obtain ⟨I1, J1, e1, ⟨p1, p2⟩, rfl⟩ := c_work (d := 990) (L := L) (X := X) (J := J) (IC_CS C F) a3 a5 a6 F5 hz hz2 a12 hw
      have gm : AgM I I1 := by
        by_cases q : (rdW W zz (h 0 0)).1 = 0
        · exact fr_C (p1 q).1 (by decide)
        · exact fr_C (p2 q).1 (by decide)
      have M1 := IM_C ok k16.1 k16.2 M gm
      have RR : ∃ e, (rdW W zz (h 0 0)).1 = 0 → RW (h 0 0) (rdW W zz (h 0 0)).2.2.2.2 (I1 38) (I1 39) (I1 40) 80 0 0 (rdW W zz (h 0 0)).2.2.2.1 0 e := by
        by_cases q : (rdW W zz (h 0 0)).1 = 0
        · obtain ⟨-, -, -, -, -, -, -, e, re⟩ := p1 q
          exact ⟨e, fun _ => re⟩
        · exact ⟨0, fun q2 => absurd q2 q⟩
      obtain ⟨ee, RR⟩ := RR
      refine .inl ⟨_, I1, _, e1, gm, rfl, fun J2 => ?_⟩
      obtain ⟨I2, J3, e2, ⟨z0, q1, q2⟩, rfl⟩ := m_work (d := 982) (L := L) (X := X) (J := J2) (IM_MS M1 F) M1.2.2.1 F6 M1.2.2.2.1 F5 hz hz2 M1.2.2.2.2.2.2.2.2.2.1.1 hw RR
      obtain ⟨⟨m1, m2⟩, b2, b3, b4, b5, b6, b7, b8, b9, b10, b11⟩ := M1
      by_cases q : (rdW W zz (h 0 0)).1 = 0
      · obtain ⟨G, t1, t3, tP, tN, t37, e5x, -⟩ := p1 q
        obtain ⟨H, y1, y3, y35, yw, yo, y533, y36, yW⟩ := q1 q
        have gc := fr_M H (by decide +kernel)
        generalize wkG h nL cd W zz n N = S at tN t37 y533 y36 yW
        have C1 : IC I1 h nL cd S.2.2.2.1 S.2.2.2.2 W 0 (wk + 1) (bnA B wk (n, N)) im K nl bk (-1) (nI S.2.2.1) c0 c1 := ⟨⟨HC_fr s1 (ag_of G (by decide +kernel)), LawC_fr s2 (ag_of G (by decide +kernel)), Calm_fr s3 (ag_of G (by decide +kernel))⟩, tN, SO_fr a3 G (by decide +kernel), UT_fr a4 G (by decide +kernel), BC_fr a5 G (by decide +kernel), t1, t3, t37, (G 0 14 rfl).trans a9, (G 0 15 rfl).trans a10, ⟨(G 31 0 rfl).trans a11.1, fun k hk => (G 32 k rfl).trans (a11.2 k hk)⟩, tP, KC_ag a13 (ag_of G (by decide +kernel))⟩
        have Cc1 : Cch I1 h nL cd S.2.2.2.2 := ⟨ch1_ag Cc.1 (ag_of G (by decide +kernel)), ch2_ag Cc.2.1 (ag_of G (by decide +kernel)), fun f hf e => absurd (e5x.symm.trans e).symm (nI_m1 f (by omega)), (ag_of (s := [(63, 1)]) G (by decide +kernel) 63 0 rfl).trans Cc.2.2.2⟩
        have pm : PM I2 (wk + 1) (bnA B wk (n, N)) := by
          refine ⟨y35, fun i hi k hk => ?_⟩
          by_cases e : i = wk
          · have ek : bnA B wk (n, N) i = (n, N) := if_pos e
            rw [ek, e]
            exact yw k hk
          · have ek : bnA B wk (n, N) i = B i := if_neg e
            rw [ek, yo i k (by omega) e]
            exact b10.2 i (by omega) k hk
        exact ⟨I2, e2, z0, h, nL, cd, S.2.2.2.1, S.2.2.2.2, W, 0, wk + 1, bnA B wk (n, N), im, K, nl, ln, bk, -1, nI S.2.2.1, c0, c1, IC_M C1 gc, Cch_M Cc1 gc, ⟨⟨HM_fr m1 ok (ag_of H (by decide +kernel)), LawM_fr m2 (ag_of H (by decide +kernel))⟩, y533, BM_fr b3 H (by decide +kernel), y1, y3, y36, (ag_of (s := [(74, 1)]) H (by decide +kernel) 74 0 rfl).trans b7, (ag_of (s := [(74, 2)]) H (by decide +kernel) 74 1 rfl).trans b8, bkM_ag b9 (ag_of H (by decide +kernel)), pm, KM_ag b11 k16.2 (ag_of H (by decide +kernel))⟩, ⟨ok, F2, yW.1, yW.2.1, by decide, F6, F7, fun i hi => by
          by_cases e : i = wk
          · have ek : bnA B wk (n, N) i = (n, N) := if_pos e
            rw [ek]
            exact ⟨F3, F4⟩
          · have ek : bnA B wk (n, N) i = B i := if_neg e
            rw [ek]
            exact F8 i (by omega), F9⟩⟩
      · obtain ⟨G, t1, t3⟩ := p2 q
        obtain ⟨H, y1, y3⟩ := q2 q
        have gc := fr_M H (by decide +kernel)
        have C1 : IC I1 h nL cd n N W 0 wk B im K nl bk (nI (rdW W zz (h 0 0)).2.1) rf c0 c1 := ⟨⟨HC_fr s1 (ag_of G (by decide +kernel)), LawC_fr s2 (ag_of G (by decide +kernel)), Calm_fr s3 (ag_of G (by decide +kernel))⟩, NC_fr a2 (ag_of G (by decide +kernel)), SO_fr a3 G (by decide +kernel), UT_fr a4 G (by decide +kernel), BC_fr a5 G (by decide +kernel), t1, t3, (G 37 7 rfl).trans a8, (G 0 14 rfl).trans a9, (G 0 15 rfl).trans a10, ⟨(G 31 0 rfl).trans a11.1, fun k hk => (G 32 k rfl).trans (a11.2 k hk)⟩, PC_ag a12 (ag_of G (by decide +kernel)), KC_ag a13 (ag_of G (by decide +kernel))⟩
        have Cc1 : Cch I1 h nL cd N := ⟨ch1_ag Cc.1 (ag_of G (by decide +kernel)), ch2_ag Cc.2.1 (ag_of G (by decide +kernel)), ch3_ag Cc.2.2.1 (ag_of G (by decide +kernel)), (ag_of (s := [(63, 1)]) G (by decide +kernel) 63 0 rfl).trans Cc.2.2.2⟩
        exact ⟨I2, e2, z0, h, nL, cd, n, N, W, 0, wk, B, im, K, nl, ln, bk, _, rf, c0, c1, IC_M C1 gc, Cch_M Cc1 gc, ⟨⟨HM_fr m1 ok (ag_of H (by decide +kernel)), LawM_fr m2 (ag_of H (by decide +kernel))⟩, (funext fun k => ag_of (s := [(533, 0)]) H (by decide +kernel) 533 k rfl).trans b2, BM_fr b3 H (by decide +kernel), y1, y3, (ag_of (s := [(72, 37)]) H (by decide +kernel) 72 36 rfl).trans b6, (ag_of (s := [(74, 1)]) H (by decide +kernel) 74 0 rfl).trans b7, (ag_of (s := [(74, 2)]) H (by decide +kernel) 74 1 rfl).trans b8, bkM_ag b9 (ag_of H (by decide +kernel)), PM_ag b10 k16.1 (ag_of H (by decide +kernel)), KM_ag b11 k16.2 (ag_of H (by decide +kernel))⟩, ⟨ok, F2, F3, F4, by decide, F6, F7, F8, F9⟩⟩
    · have e16 : wk = 16 := by omega
      subst e16
      obtain ⟨I1, J1, e1, ⟨G, t1, t3⟩, rfl⟩ := c_work20 (d := 996) (L := L) (X := X) (J := J) a5 a6 F5 hz hz2 a12.1
      have gm : AgM I I1 := fr_C G (by decide)
      have M1 := IM_C ok k16.1 k16.2 M gm
      refine .inl ⟨_, I1, _, e1, gm, rfl, fun J2 => ?_⟩
      obtain ⟨I2, J3, e2, ⟨H, z0, z1, y3⟩, rfl⟩ := m_work20 (d := 998) (L := L) (X := X) (J := J2) M1.2.2.2.1 F5 hz hz2 M1.2.2.2.2.2.2.2.2.2.1.1
      obtain ⟨⟨m1, m2⟩, b2, b3, b4, b5, b6, b7, b8, b9, b10, b11⟩ := M1
      have gc := fr_M H (by decide +kernel)
      have C1 : IC I1 h nL cd n N W 0 16 B im K nl bk (-1) rf c0 c1 := ⟨⟨HC_fr s1 (ag_of G (by decide +kernel)), LawC_fr s2 (ag_of G (by decide +kernel)), Calm_fr s3 (ag_of G (by decide +kernel))⟩, NC_fr a2 (ag_of G (by decide +kernel)), SO_fr a3 G (by decide +kernel), UT_fr a4 G (by decide +kernel), BC_fr a5 G (by decide +kernel), t1, t3, (G 37 7 rfl).trans a8, (G 0 14 rfl).trans a9, (G 0 15 rfl).trans a10, ⟨(G 31 0 rfl).trans a11.1, fun k hk => (G 32 k rfl).trans (a11.2 k hk)⟩, PC_ag a12 (ag_of G (by decide +kernel)), KC_ag a13 (ag_of G (by decide +kernel))⟩
      have Cc1 : Cch I1 h nL cd N := ⟨ch1_ag Cc.1 (ag_of G (by decide +kernel)), ch2_ag Cc.2.1 (ag_of G (by decide +kernel)), ch3_ag Cc.2.2.1 (ag_of G (by decide +kernel)), (ag_of (s := [(63, 1)]) G (by decide +kernel) 63 0 rfl).trans Cc.2.2.2⟩
      exact ⟨I2, e2, z0, h, nL, cd, n, N, W, 0, 16, B, im, K, nl, ln, bk, -1, rf, c0, c1, IC_M C1 gc, Cch_M Cc1 gc, ⟨⟨HM_fr m1 ok (ag_of H (by decide +kernel)), LawM_fr m2 (ag_of H (by decide +kernel))⟩, (funext fun k => ag_of (s := [(533, 0)]) H (by decide +kernel) 533 k rfl).trans b2, BM_fr b3 H (by decide +kernel), z1, y3, (ag_of (s := [(72, 37)]) H (by decide +kernel) 72 36 rfl).trans b6, (ag_of (s := [(74, 1)]) H (by decide +kernel) 74 0 rfl).trans b7, (ag_of (s := [(74, 2)]) H (by decide +kernel) 74 1 rfl).trans b8, bkM_ag b9 (ag_of H (by decide +kernel)), PM_ag b10 k16.1 (ag_of H (by decide +kernel)), KM_ag b11 k16.2 (ag_of H (by decide +kernel))⟩, ⟨ok, F2, F3, F4, by decide, F6, F7, F8, F9⟩⟩
  · exact .inr (op_r (k := 1) (t := 1) (by decide) rfl C Cc M F (x_work a6 F5 hx) (fun I1 J2 M1 => b_work M1.2.2.2.1 F5 hx))
end OT
