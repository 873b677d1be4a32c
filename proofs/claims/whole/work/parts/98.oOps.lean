/-! EACH ASKING, BY BOTH: those that change what is kept -/
section OC
variable {I I' : MI32} {h : Hs} {nL : Nat} {cd : Cd} {n : Nat} {N : Nt} {x x1 x2 x3 x4 x5 : Int32}
theorem ch1_ag (H : I 56 4 = nI 0 ∨ (I 56 4 = nI 1 ∧ chC I h (h 0 1))) (q : Ag [(56, 5), (56, 7), (56, 8), (59, 0)] I I') : I' 56 4 = nI 0 ∨ (I' 56 4 = nI 1 ∧ chC I' h (h 0 1)) := by
  rw [q 56 4 rfl]
  exact H.imp id (fun ⟨e1, e2, e3, e4⟩ => ⟨e1, (q 56 7 rfl).trans e2, (q 56 6 rfl).trans e3, fun k hk => (q 59 k rfl).trans (e4 k hk)⟩)
theorem ch2_ag (H : I 56 8 = nI 0 ∨ (I 56 8 = nI 1 ∧ jcC I h)) (q : Ag [(56, 9), (56, 10), (56, 11)] I I') : I' 56 8 = nI 0 ∨ (I' 56 8 = nI 1 ∧ jcC I' h) := by
  rw [q 56 8 rfl]
  refine H.imp id (fun ⟨e1, e2⟩ => ⟨e1, ?_⟩)
  unfold jcC
  rw [q 56 9 rfl, q 56 10 rfl]
  exact e2
theorem ch3_ag (H : ∀ f, f < h 0 2 → I 56 11 = nI f → shC I h (h 0 1) nL cd N f) (q : Ag [(56, 12), (56, 14), (60, 0)] I I') : ∀ f, f < h 0 2 → I' 56 11 = nI f → shC I' h (h 0 1) nL cd N f := by
  intro f hf e
  rw [q 56 11 rfl] at e
  exact shB_ag (H f hf e) (ag_sub q (by decide))
/-- what asking without a refusal must answer -/
def OD (cid mid : Nat) (a : List Value) (I : MI32) : Prop := ∀ L X J, A1 1000 cid mid a (.int (nI 0)) I L X J
theorem op_chain (HI : Inv I) : OP nX11_chain nX12_chain [.int x] cI (.int (nI 0)) I := by
  obtain ⟨h, nL, cd, n, N, W, tp, wk, B, im, K, nl, ln, bk, pl, rf, c0, c1, C, Cc, M, F⟩ := HI
  intro L X J
  have ok := F.1
  have k16 := IC_16 C
  have hC := C
  have hM := M
  obtain ⟨⟨s1, s2, s3⟩, a2, a3, a4, a5, a6, a7, a8, a9, a10, a11, a12, a13⟩ := hC
  obtain ⟨⟨m1, m2⟩, b2, b3, b4, b5, b6, b7, b8, b9, b10, b11⟩ := hM
  obtain ⟨-, F2, F3, F4, F5, F6, F7, F8, F9⟩ := id F
  by_cases hx : ∃ p, p ≤ 1 ∧ x = nI p
  · obtain ⟨q, hw, rfl⟩ := hx
    refine .inl (op_g C M F (rt_mono (c_chain (IC_CS C F) hw Cc.1) (fun I' J' g => g.1)) (fun I' g => ⟨IC_ag C (ag_of g.1 (by decide)), ?_, fr_C g.1 (by decide)⟩) (fun I1 J2 M1 _ => m_chain (IM_MS M1 F) hw))
    have G := g.1
    exact ⟨.inr ⟨g.2.1, g.2.2⟩, ch2_ag Cc.2.1 (ag_of G (by decide +kernel)), ch3_ag Cc.2.2.1 (ag_of G (by decide +kernel)), (ag_of (s := [(63, 1)]) G (by decide +kernel) 63 0 rfl).trans Cc.2.2.2⟩
  · exact .inr (op_r (k := 1) (t := 1) (by decide) rfl C Cc M F (x_chain hx) (fun I1 J2 M1 => b_chain hx))
theorem op_chained (HI : Inv I) : OP nX11_chained nX12_chained [.int x] cI (.int (nI 0)) I := by
  obtain ⟨h, nL, cd, n, N, W, tp, wk, B, im, K, nl, ln, bk, pl, rf, c0, c1, C, Cc, M, F⟩ := HI
  intro L X J
  have ok := F.1
  have k16 := IC_16 C
  have hC := C
  have hM := M
  obtain ⟨⟨s1, s2, s3⟩, a2, a3, a4, a5, a6, a7, a8, a9, a10, a11, a12, a13⟩ := hC
  obtain ⟨⟨m1, m2⟩, b2, b3, b4, b5, b6, b7, b8, b9, b10, b11⟩ := hM
  obtain ⟨-, F2, F3, F4, F5, F6, F7, F8, F9⟩ := id F
  by_cases hx : x < nI 0
  · exact .inr (op_r (k := 1) (t := 1) (by decide) rfl C Cc M F (x_chained hx) (fun I1 J2 M1 => b_chained hx))
  · obtain ⟨q, hw, rfl⟩ := nat_of hx
    refine .inl (op_g C M F (rt_mono (c_chained (IC_CS C F) hw Cc.1) (fun I' J' g => g.1)) (fun I' g => ⟨IC_ag C (ag_of g.1 (by decide)), ?_, fr_C g.1 (by decide)⟩) (fun I1 J2 M1 _ => m_chained (IM_MS M1 F) hw))
    have G := g.1
    exact ⟨.inr ⟨g.2.1, g.2.2⟩, ch2_ag Cc.2.1 (ag_of G (by decide +kernel)), ch3_ag Cc.2.2.1 (ag_of G (by decide +kernel)), (ag_of (s := [(63, 1)]) G (by decide +kernel) 63 0 rfl).trans Cc.2.2.2⟩
theorem op_joiner (HI : Inv I) : OP nX11_joiner nX12_joiner [.int x] cI (.int (nI 0)) I := by
  obtain ⟨h, nL, cd, n, N, W, tp, wk, B, im, K, nl, ln, bk, pl, rf, c0, c1, C, Cc, M, F⟩ := HI
  intro L X J
  have ok := F.1
  have k16 := IC_16 C
  have hC := C
  have hM := M
  obtain ⟨⟨s1, s2, s3⟩, a2, a3, a4, a5, a6, a7, a8, a9, a10, a11, a12, a13⟩ := hC
  obtain ⟨⟨m1, m2⟩, b2, b3, b4, b5, b6, b7, b8, b9, b10, b11⟩ := hM
  obtain ⟨-, F2, F3, F4, F5, F6, F7, F8, F9⟩ := id F
  by_cases hx : ∃ p, p ≤ 1 ∧ x = nI p
  · obtain ⟨q, hw, rfl⟩ := hx
    obtain ⟨I1, J1, e1, ⟨G, g2, g3, g4⟩, rfl⟩ := c_joiner (d := 991) (L := L) (X := X) (J := J) (IC_CS C F) hw Cc.2.1
    have gm := fr_C G (by decide)
    have M1 := IM_C ok k16.1 k16.2 M gm
    refine .inl ⟨_, I1, _, e1, gm, rfl, fun J2 => ?_⟩
    obtain ⟨I2, J3, e2, ⟨H, z2, z3⟩, rfl⟩ := m_joiner (d := 995) (L := L) (X := X) (J := J2) (IM_MS M1 F) hw
    have gc := fr_M H (by decide +kernel)
    obtain ⟨⟨m1, m2⟩, b2, b3, b4, b5, b6, b7, b8, b9, b10, b11⟩ := M1
    have C1 : IC I1 h nL cd n N W tp wk B im K nl bk pl rf c0 c1 := ⟨⟨g2, LawC_fr s2 (ag_of G (by decide +kernel)), Calm_fr s3 (ag_of G (by decide +kernel))⟩, NC_fr a2 (ag_of G (by decide +kernel)), SO_fr a3 G (by decide +kernel), UT_fr a4 G (by decide +kernel), BC_fr a5 G (by decide +kernel), (G 1 1 rfl).trans a6, (G 1 3 rfl).trans a7, (G 37 7 rfl).trans a8, (G 0 14 rfl).trans a9, (G 0 15 rfl).trans a10, ⟨(G 31 0 rfl).trans a11.1, fun k hk => (G 32 k rfl).trans (a11.2 k hk)⟩, PC_ag a12 (ag_of G (by decide +kernel)), KC_ag a13 (ag_of G (by decide +kernel))⟩
    have Cc1 : Cch I1 h nL cd N := ⟨ch1_ag Cc.1 (ag_of G (by decide +kernel)), .inr ⟨g3, g4⟩, ch3_ag Cc.2.2.1 (ag_of G (by decide +kernel)), (ag_of (s := [(63, 1)]) G (by decide +kernel) 63 0 rfl).trans Cc.2.2.2⟩
    exact ⟨I2, e2, z2, h, nL, cd, n, N, W, tp, wk, B, im, K, nl, ln, bk, pl, rf, c0, c1, IC_M C1 gc, Cch_M Cc1 gc, ⟨⟨z3, LawM_fr m2 (ag_of H (by decide +kernel))⟩, (funext fun k => ag_of (s := [(533, 0)]) H (by decide +kernel) 533 k rfl).trans b2, BM_fr b3 H (by decide +kernel), (ag_of (s := [(72, 2)]) H (by decide +kernel) 72 1 rfl).trans b4, (ag_of (s := [(72, 4)]) H (by decide +kernel) 72 3 rfl).trans b5, (ag_of (s := [(72, 37)]) H (by decide +kernel) 72 36 rfl).trans b6, (ag_of (s := [(74, 1)]) H (by decide +kernel) 74 0 rfl).trans b7, (ag_of (s := [(74, 2)]) H (by decide +kernel) 74 1 rfl).trans b8, bkM_ag b9 (ag_of H (by decide +kernel)), PM_ag b10 k16.1 (ag_of H (by decide +kernel)), KM_ag b11 k16.2 (ag_of H (by decide +kernel))⟩, F⟩
  · exact .inr (op_r (k := 1) (t := 1) (by decide) rfl C Cc M F (x_joiner hx) (fun I1 J2 M1 => b_joiner hx))
theorem op_brief (HI : Inv I) : OP nX11_brief nX12_brief [.int x1] cN (.int (nI 0)) I := by
  obtain ⟨h, nL, cd, n, N, W, tp, wk, B, im, K, nl, ln, bk, pl, rf, c0, c1, C, Cc, M, F⟩ := HI
  intro L X J
  have ok := F.1
  have k16 := IC_16 C
  have hC := C
  have hM := M
  obtain ⟨⟨s1, s2, s3⟩, a2, a3, a4, a5, a6, a7, a8, a9, a10, a11, a12, a13⟩ := hC
  obtain ⟨⟨m1, m2⟩, b2, b3, b4, b5, b6, b7, b8, b9, b10, b11⟩ := hM
  obtain ⟨-, F2, F3, F4, F5, F6, F7, F8, F9⟩ := id F
  have h5 := ok.2.2.1
  by_cases hx : ∃ p, p < h 0 2 ∧ x1 = nI p
  · obtain ⟨p, hp, rfl⟩ := hx
    refine .inl (op_g C M F (c_brief (IC_CS C F) hp (Cc.2.2.1 p hp)) (fun I' g => ⟨IC_ag C (ag_of g.1 (by decide)), ?_, fr_C g.1 (by decide)⟩) (fun I1 J2 M1 _ => m_brief (IM_MS M1 F) hp))
    have G := g.1
    exact ⟨ch1_ag Cc.1 (ag_of G (by decide +kernel)), ch2_ag Cc.2.1 (ag_of G (by decide +kernel)), fun f hf e => (nI_eq (by omega) (by omega)).mp (g.2.1.symm.trans e) ▸ g.2.2, (ag_of (s := [(63, 1)]) G (by decide +kernel) 63 0 rfl).trans Cc.2.2.2⟩
  · exact .inr (op_r (k := 0) (t := 1) (by decide) rfl C Cc M F (x_brief s1.2.2.1 ok hx) (fun I1 J2 M1 => b_brief M1.1.1.2.2.1 ok hx))
theorem op_briefly (HI : Inv I) : OP nX11_briefly nX12_briefly [.int x1, .int x2] cB (.int (nI 0)) I := by
  obtain ⟨h, nL, cd, n, N, W, tp, wk, B, im, K, nl, ln, bk, pl, rf, c0, c1, C, Cc, M, F⟩ := HI
  intro L X J
  have ok := F.1
  have k16 := IC_16 C
  have hC := C
  have hM := M
  obtain ⟨⟨s1, s2, s3⟩, a2, a3, a4, a5, a6, a7, a8, a9, a10, a11, a12, a13⟩ := hC
  obtain ⟨⟨m1, m2⟩, b2, b3, b4, b5, b6, b7, b8, b9, b10, b11⟩ := hM
  obtain ⟨-, F2, F3, F4, F5, F6, F7, F8, F9⟩ := id F
  have h5 := ok.2.2.1
  by_cases hx : ∃ p, p < h 0 2 ∧ x1 = nI p
  · obtain ⟨p, hp, rfl⟩ := hx
    by_cases hy : x2 < nI 0
    · exact .inr (op_r (k := 1) (t := 2) (by decide) rfl C Cc M F (x_briefly1 s1.2.2.1 ok hp hy) (fun I1 J2 M1 => b_briefly1 M1.1.1.2.2.1 ok hp hy))
    · obtain ⟨q, hw, rfl⟩ := nat_of hy
      refine .inl (op_g C M F (c_briefly (IC_CS C F) hp hw (Cc.2.2.1 p hp)) (fun I' g => ⟨IC_ag C (ag_of g.1 (by decide)), ?_, fr_C g.1 (by decide)⟩) (fun I1 J2 M1 _ => m_briefly (IM_MS M1 F) hp hw))
      have G := g.1
      exact ⟨ch1_ag Cc.1 (ag_of G (by decide +kernel)), ch2_ag Cc.2.1 (ag_of G (by decide +kernel)), fun f hf e => (nI_eq (by omega) (by omega)).mp (g.2.1.symm.trans e) ▸ g.2.2, (ag_of (s := [(63, 1)]) G (by decide +kernel) 63 0 rfl).trans Cc.2.2.2⟩
  · exact .inr (op_r (k := 0) (t := 1) (by decide) rfl C Cc M F (x_briefly0 s1.2.2.1 ok hx) (fun I1 J2 M1 => b_briefly0 M1.1.1.2.2.1 ok hx))
theorem op_wed (HI : Inv I) : OD nX11_wed nX12_wed [] I := by
  obtain ⟨h, nL, cd, n, N, W, tp, wk, B, im, K, nl, ln, bk, pl, rf, c0, c1, C, Cc, M, F⟩ := HI
  intro L X J
  have ok := F.1
  have k16 := IC_16 C
  have hC := C
  have hM := M
  obtain ⟨⟨s1, s2, s3⟩, a2, a3, a4, a5, a6, a7, a8, a9, a10, a11, a12, a13⟩ := hC
  obtain ⟨⟨m1, m2⟩, b2, b3, b4, b5, b6, b7, b8, b9, b10, b11⟩ := hM
  obtain ⟨-, F2, F3, F4, F5, F6, F7, F8, F9⟩ := id F
  refine op_g C M F (rt_mono (c_wed (IC_CS C F) Cc.2.2.2) (fun I' J' g => g.1)) (fun I' g => ⟨IC_ag C (ag_of g.1 (by decide)), ?_, fr_C g.1 (by decide)⟩) (fun I1 J2 M1 _ => m_wed (IM_MS M1 F))
  have G := g.1
  exact ⟨ch1_ag Cc.1 (ag_of G (by decide +kernel)), ch2_ag Cc.2.1 (ag_of G (by decide +kernel)), ch3_ag Cc.2.2.1 (ag_of G (by decide +kernel)), g.2⟩
theorem op_fault (HI : Inv I) : OD nX11_fault nX12_fault [] I := by
  obtain ⟨h, nL, cd, n, N, W, tp, wk, B, im, K, nl, ln, bk, pl, rf, c0, c1, C, Cc, M, F⟩ := HI
  intro L X J
  have ok := F.1
  have k16 := IC_16 C
  have hC := C
  have hM := M
  obtain ⟨⟨s1, s2, s3⟩, a2, a3, a4, a5, a6, a7, a8, a9, a10, a11, a12, a13⟩ := hC
  obtain ⟨⟨m1, m2⟩, b2, b3, b4, b5, b6, b7, b8, b9, b10, b11⟩ := hM
  obtain ⟨-, F2, F3, F4, F5, F6, F7, F8, F9⟩ := id F
  refine op_q (v := .int pl) C Cc M F ⟨I, J, (c_fault (d := 999)).trans ?_, fr_rfl⟩ (fun I1 J2 M1 _ => ⟨_, J2, (m_fault (d := 999)).trans ?_, ⟨fr_up fr_rfl (by decide), up2_s⟩, rfl⟩)
  · rw [a7]
  · rw [M1.2.2.2.2.1]
theorem op_status (HI : Inv I) : OD nX11_status nX12_status [.int x] I := by
  obtain ⟨h, nL, cd, n, N, W, tp, wk, B, im, K, nl, ln, bk, pl, rf, c0, c1, C, Cc, M, F⟩ := HI
  intro L X J
  have ok := F.1
  have k16 := IC_16 C
  have hC := C
  have hM := M
  obtain ⟨⟨s1, s2, s3⟩, a2, a3, a4, a5, a6, a7, a8, a9, a10, a11, a12, a13⟩ := hC
  obtain ⟨⟨m1, m2⟩, b2, b3, b4, b5, b6, b7, b8, b9, b10, b11⟩ := hM
  obtain ⟨-, F2, F3, F4, F5, F6, F7, F8, F9⟩ := id F
  refine op_q (v := .int (if x = nI 0 then c0 else if x = nI 1 then c1 else -1)) C Cc M F ⟨I, J, (c_status (d := 999)).trans ?_, fr_rfl⟩ (fun I1 J2 M1 _ => ⟨_, J2, (m_status (d := 998)).trans ?_, ⟨fr_up fr_rfl (by decide), up2_s⟩, rfl⟩)
  · rw [a9, a10]
  · rw [M1.2.2.2.2.2.2.1, M1.2.2.2.2.2.2.2.1]
theorem op_count (HI : Inv I) : OD nX11_count nX12_count [.int x] I := by
  obtain ⟨h, nL, cd, n, N, W, tp, wk, B, im, K, nl, ln, bk, pl, rf, c0, c1, C, Cc, M, F⟩ := HI
  intro L X J
  have ok := F.1
  have k16 := IC_16 C
  have hC := C
  have hM := M
  obtain ⟨⟨s1, s2, s3⟩, a2, a3, a4, a5, a6, a7, a8, a9, a10, a11, a12, a13⟩ := hC
  obtain ⟨⟨m1, m2⟩, b2, b3, b4, b5, b6, b7, b8, b9, b10, b11⟩ := hM
  obtain ⟨-, F2, F3, F4, F5, F6, F7, F8, F9⟩ := id F
  refine op_q (v := .int (if x = nI 0 then nI im else if x = nI 1 then nI tp else if x = nI 2 then nI wk else -1)) C Cc M F ⟨I, J, (c_count (d := 999)).trans ?_, fr_rfl⟩ (fun I1 J2 M1 _ => ⟨_, J2, (m_count (d := 999)).trans ?_, ⟨fr_up fr_rfl (by decide), up2_s⟩, rfl⟩)
  · rw [a13.1, a6, a12.1]
  · rw [M1.2.2.2.2.2.2.2.2.2.2.1, M1.2.2.2.1, M1.2.2.2.2.2.2.2.2.2.1.1]
theorem op_feed (HI : Inv I) : OD nX11_feed nX12_feed [.int x1, .int x2, .int x3, .int x4, .int x5] I := by
  obtain ⟨h, nL, cd, n, N, W, tp, wk, B, im, K, nl, ln, bk, pl, rf, c0, c1, C, Cc, M, F⟩ := HI
  intro L X J
  have ok := F.1
  have k16 := IC_16 C
  have hC := C
  have hM := M
  obtain ⟨⟨s1, s2, s3⟩, a2, a3, a4, a5, a6, a7, a8, a9, a10, a11, a12, a13⟩ := hC
  obtain ⟨⟨m1, m2⟩, b2, b3, b4, b5, b6, b7, b8, b9, b10, b11⟩ := hM
  obtain ⟨-, F2, F3, F4, F5, F6, F7, F8, F9⟩ := id F
  by_cases h6 : tp + 20 ≤ 600
  · obtain ⟨I1, J1, e1, ⟨G, g2, g3⟩, rfl⟩ := c_feed (d := 998) (L := L) (X := X) (J := J) (x1 := x1) (x2 := x2) (x3 := x3) (x4 := x4) (x5 := x5) a5 a6 h6
    have gm := fr_C G (by decide)
    have M1 := IM_C ok k16.1 k16.2 M gm
    refine ⟨_, I1, _, e1, gm, rfl, fun J2 => ?_⟩
    obtain ⟨I2, J3, e2, ⟨H, z2, z3, z4⟩, rfl⟩ := m_feed (d := 999) (L := L) (X := X) (J := J2) (x1 := x1) (x2 := x2) (x3 := x3) (x4 := x4) (x5 := x5) M1.2.2.1 M1.2.2.2.1 h6
    have gc := fr_M H (by decide +kernel)
    obtain ⟨⟨m1, m2⟩, b2, b3, b4, b5, b6, b7, b8, b9, b10, b11⟩ := M1
    have C1 : IC I1 h nL cd n N (fdW W tp (f20 x1 x2 x3 x4 x5) 20) (tp + 20) wk B im K nl bk pl rf c0 c1 := ⟨⟨HC_fr s1 (ag_of G (by decide +kernel)), LawC_fr s2 (ag_of G (by decide +kernel)), Calm_fr s3 (ag_of G (by decide +kernel))⟩, NC_fr a2 (ag_of G (by decide +kernel)), SO_fr a3 G (by decide +kernel), UT_fr a4 G (by decide +kernel), g2, g3, (G 1 3 rfl).trans a7, (G 37 7 rfl).trans a8, (G 0 14 rfl).trans a9, (G 0 15 rfl).trans a10, ⟨(G 31 0 rfl).trans a11.1, fun k hk => (G 32 k rfl).trans (a11.2 k hk)⟩, PC_ag a12 (ag_of G (by decide +kernel)), KC_ag a13 (ag_of G (by decide +kernel))⟩
    have Cc1 : Cch I1 h nL cd N := ⟨ch1_ag Cc.1 (ag_of G (by decide +kernel)), ch2_ag Cc.2.1 (ag_of G (by decide +kernel)), ch3_ag Cc.2.2.1 (ag_of G (by decide +kernel)), (ag_of (s := [(63, 1)]) G (by decide +kernel) 63 0 rfl).trans Cc.2.2.2⟩
    exact ⟨I2, e2, z4, h, nL, cd, n, N, _, tp + 20, wk, B, im, K, nl, ln, bk, pl, rf, c0, c1, IC_M C1 gc, Cch_M Cc1 gc, ⟨⟨HM_fr m1 ok (ag_of H (by decide +kernel)), LawM_fr m2 (ag_of H (by decide +kernel))⟩, (funext fun k => ag_of (s := [(533, 0)]) H (by decide +kernel) 533 k rfl).trans b2, z2, z3, (ag_of (s := [(72, 4)]) H (by decide +kernel) 72 3 rfl).trans b5, (ag_of (s := [(72, 37)]) H (by decide +kernel) 72 36 rfl).trans b6, (ag_of (s := [(74, 1)]) H (by decide +kernel) 74 0 rfl).trans b7, (ag_of (s := [(74, 2)]) H (by decide +kernel) 74 1 rfl).trans b8, bkM_ag b9 (ag_of H (by decide +kernel)), PM_ag b10 k16.1 (ag_of H (by decide +kernel)), KM_ag b11 k16.2 (ag_of H (by decide +kernel))⟩, ⟨ok, F2, F3, F4, h6, fun k hk => (g2 k hk).2, F7, F8, F9⟩⟩
  · exact op_q C Cc M F ⟨I, J, c_feed0 (d := 998) a6 (by omega) F5, fr_rfl⟩ (fun I1 J2 M1 _ => ⟨_, J2, m_feed0 (d := 999) M1.2.2.2.1 (by omega) F5, ⟨fr_up fr_rfl (by decide), up2_s⟩, rfl⟩)
theorem op_undo (HI : Inv I) : OD nX11_undo nX12_undo [] I := by
  obtain ⟨h, nL, cd, n, N, W, tp, wk, B, im, K, nl, ln, bk, pl, rf, c0, c1, C, Cc, M, F⟩ := HI
  intro L X J
  have ok := F.1
  have k16 := IC_16 C
  have hC := C
  have hM := M
  obtain ⟨⟨s1, s2, s3⟩, a2, a3, a4, a5, a6, a7, a8, a9, a10, a11, a12, a13⟩ := hC
  obtain ⟨⟨m1, m2⟩, b2, b3, b4, b5, b6, b7, b8, b9, b10, b11⟩ := hM
  obtain ⟨-, F2, F3, F4, F5, F6, F7, F8, F9⟩ := id F
  rcases wk with _ | w0
  · exact op_q C Cc M F ⟨I, J, c_undo0 (d := 999) a12.1, fr_rfl⟩ (fun I1 J2 M1 _ => ⟨_, J2, m_undo0 (d := 999) M1.2.2.2.2.2.2.2.2.2.1.1, ⟨fr_up fr_rfl (by decide), up2_s⟩, rfl⟩)
  · obtain ⟨I1, J1, e1, ⟨G, g2, g3, g4, e5x⟩, rfl⟩ := c_undo (d := 997) (L := L) (X := X) (J := J) a12
    have gm := fr_C G (by decide)
    have M1 := IM_C ok k16.1 k16.2 M gm
    have h5 := ok.2.2.1
    have wn := F8 w0 (by omega)
    refine ⟨_, I1, _, e1, gm, rfl, fun J2 => ?_⟩
    obtain ⟨I2, J3, e2, ⟨H, z0, z35, z36, z533⟩, rfl⟩ := m_undo (d := 998) (L := L) (X := X) (J := J2) M1.2.2.2.2.2.2.2.2.2.1.1 (by omega)
    have gc := fr_M H (by decide +kernel)
    obtain ⟨⟨m1, m2⟩, b2, b3, b4, b5, b6, b7, b8, b9, b10, b11⟩ := M1
    have en : ∀ k, k < 31 → I2 533 k = (B w0).2 k := fun k hk => (z533 k hk).trans (b10.2 w0 (by omega) k hk)
    have C1 : IC I1 h nL cd (B w0).1 (I2 533) W tp w0 B im K nl bk pl (nI 0) c0 c1 := ⟨⟨HC_fr s1 (ag_of G (by decide +kernel)), LawC_fr s2 (ag_of G (by decide +kernel)), Calm_fr s3 (ag_of G (by decide +kernel))⟩, NC_cong wn.1.1.1 g3 en, SO_fr a3 G (by decide +kernel), UT_fr a4 G (by decide +kernel), BC_fr a5 G (by decide +kernel), (G 1 1 rfl).trans a6, (G 1 3 rfl).trans a7, g4, (G 0 14 rfl).trans a9, (G 0 15 rfl).trans a10, ⟨(G 31 0 rfl).trans a11.1, fun k hk => (G 32 k rfl).trans (a11.2 k hk)⟩, g2, KC_ag a13 (ag_of G (by decide +kernel))⟩
    have Cc1 : Cch I1 h nL cd (I2 533) := ⟨ch1_ag Cc.1 (ag_of G (by decide +kernel)), ch2_ag Cc.2.1 (ag_of G (by decide +kernel)), fun f hf e => absurd (e5x.symm.trans e).symm (nI_m1 f (by omega)), (ag_of (s := [(63, 1)]) G (by decide +kernel) 63 0 rfl).trans Cc.2.2.2⟩
    exact ⟨I2, e2, z0, h, nL, cd, (B w0).1, I2 533, W, tp, w0, B, im, K, nl, ln, bk, pl, nI 0, c0, c1, IC_M C1 gc, Cch_M Cc1 gc, ⟨⟨HM_fr m1 ok (ag_of H (by decide +kernel)), LawM_fr m2 (ag_of H (by decide +kernel))⟩, rfl, BM_fr b3 H (by decide +kernel), (ag_of (s := [(72, 2)]) H (by decide +kernel) 72 1 rfl).trans b4, (ag_of (s := [(72, 4)]) H (by decide +kernel) 72 3 rfl).trans b5, z36, (ag_of (s := [(74, 1)]) H (by decide +kernel) 74 0 rfl).trans b7, (ag_of (s := [(74, 2)]) H (by decide +kernel) 74 1 rfl).trans b8, bkM_ag b9 (ag_of H (by decide +kernel)), ⟨z35, fun i hi k hk => (ag_of (s := cells 537 16) H (by decide +kernel) _ k (in_cells (show i < 16 by omega))).trans (b10.2 i (by omega) k hk)⟩, KM_ag b11 k16.2 (ag_of H (by decide +kernel))⟩, ⟨ok, F2, NR_cong wn.1 en, NX_cong wn.2 en, F5, F6, F7, fun i hi => F8 i (by omega), F9⟩⟩
theorem op_image (HI : Inv I) : OD nX11_image nX12_image [] I := by
  obtain ⟨h, nL, cd, n, N, W, tp, wk, B, im, K, nl, ln, bk, pl, rf, c0, c1, C, Cc, M, F⟩ := HI
  intro L X J
  have ok := F.1
  have k16 := IC_16 C
  have hC := C
  have hM := M
  obtain ⟨⟨s1, s2, s3⟩, a2, a3, a4, a5, a6, a7, a8, a9, a10, a11, a12, a13⟩ := hC
  obtain ⟨⟨m1, m2⟩, b2, b3, b4, b5, b6, b7, b8, b9, b10, b11⟩ := hM
  obtain ⟨-, F2, F3, F4, F5, F6, F7, F8, F9⟩ := id F
  by_cases h3 : im = 3
  · subst h3
    exact op_q C Cc M F ⟨I, J, c_image0 (d := 998) a13.1, fr_rfl⟩ (fun I1 J2 M1 _ => ⟨_, J2, m_image0 (d := 999) M1.2.2.2.2.2.2.2.2.2.2.1, ⟨fr_up fr_rfl (by decide), up2_s⟩, rfl⟩)
  · obtain ⟨I1, J1, e1, ⟨G, g2⟩, rfl⟩ := c_image (d := 997) (L := L) (X := X) (J := J) a12 a13 (by omega) F3.1.1 a2
    have gm := fr_C G (by decide)
    have M1 := IM_C ok k16.1 k16.2 M gm
    refine ⟨_, I1, _, e1, gm, rfl, fun J2 => ?_⟩
    obtain ⟨I2, J3, e2, ⟨H0, z0, z37, zv⟩, rfl⟩ := m_image (d := 997) (L := L) (X := X) (J := J2) M1.2.2.2.2.2.2.2.2.2.2.1 (show im < 3 by omega)
    have H : Fr ([(72, 1), (72, 38), (72, 39)] ++ cells 554 3) I1 I2 := by
      intro a k q
      refine H0 a k ?_
      rw [inF_app, Bool.or_eq_false_iff] at q
      have hne : ¬ a = 554 + im := fun e => by
        have q2 := q.2
        rw [e, in_cells (show im < 3 by omega)] at q2
        exact absurd q2 (by decide)
      rw [show [(554 + im, 0), (72, 1), (72, 38), (72, 39)] = [(554 + im, 0)] ++ [(72, 1), (72, 38), (72, 39)] from rfl, inF_app, q.1, Bool.or_false]
      simp [inF]
      exact fun e => absurd e.symm hne
    have gc := fr_M H (by decide +kernel)
    obtain ⟨⟨m1, m2⟩, b2, b3, b4, b5, b6, b7, b8, b9, b10, b11⟩ := M1
    have C1 : IC I1 h nL cd n N W tp wk B (im + 1) (imA K im (wk, (n, N), B)) nl bk pl rf c0 c1 := ⟨⟨HC_fr s1 (ag_of G (by decide +kernel)), LawC_fr s2 (ag_of G (by decide +kernel)), Calm_fr s3 (ag_of G (by decide +kernel))⟩, NC_fr a2 (ag_of G (by decide +kernel)), SO_fr a3 G (by decide +kernel), UT_fr a4 G (by decide +kernel), BC_fr a5 G (by decide +kernel), (G 1 1 rfl).trans a6, (G 1 3 rfl).trans a7, (G 37 7 rfl).trans a8, (G 0 14 rfl).trans a9, (G 0 15 rfl).trans a10, ⟨(G 31 0 rfl).trans a11.1, fun k hk => (G 32 k rfl).trans (a11.2 k hk)⟩, PC_ag a12 (ag_of G (by decide +kernel)), g2⟩
    have Cc1 : Cch I1 h nL cd N := ⟨ch1_ag Cc.1 (ag_of G (by decide +kernel)), ch2_ag Cc.2.1 (ag_of G (by decide +kernel)), ch3_ag Cc.2.2.1 (ag_of G (by decide +kernel)), (ag_of (s := [(63, 1)]) G (by decide +kernel) 63 0 rfl).trans Cc.2.2.2⟩
    have old : ∀ j k, j < im → I2 (554 + j) k = I1 (554 + j) k := fun j k hj => H0 _ k (by simp [inF]; omega)
    have km : KM I2 (im + 1) (imA K im (wk, (n, N), B)) := by
      refine ⟨z37, fun j hj => ?_⟩
      by_cases q : j = im
      · subst q
        have ek : imA K j (wk, (n, N), B) j = (wk, (n, N), B) := if_pos rfl
        rw [ek]
        refine ⟨?_, fun k hk => ?_, fun i hi k hk => ?_⟩
        · rw [zv 0 (by decide)]
          exact b10.1
        · rw [zv (1 + k) (by omega)]
          unfold vvI
          rw [if_neg (by omega), if_pos (by omega), show 1 + k - 1 = k by omega, b2]
        · dsimp only at hi
          rw [zv _ (by omega)]
          unfold vvI
          rw [if_neg (by omega), if_neg (by omega), show (32 + 31 * i + k - 32) / 31 = i by omega, show (32 + 31 * i + k - 32) % 31 = k by omega]
          exact b10.2 i hi k hk
      · have ek : imA K im (wk, (n, N), B) j = K j := if_neg q
        rw [ek]
        obtain ⟨y1, y2, y3⟩ := b11.2 j (by omega)
        exact ⟨(old j 0 (by omega)).trans y1, fun k hk => (old j _ (by omega)).trans (y2 k hk), fun i hi k hk => (old j _ (by omega)).trans (y3 i hi k hk)⟩
    exact ⟨I2, e2, z0, h, nL, cd, n, N, W, tp, wk, B, im + 1, imA K im (wk, (n, N), B), nl, ln, bk, pl, rf, c0, c1, IC_M C1 gc, Cch_M Cc1 gc, ⟨⟨HM_fr m1 ok (ag_of H (by decide +kernel)), LawM_fr m2 (ag_of H (by decide +kernel))⟩, (funext fun k => ag_of (s := [(533, 0)]) H (by decide +kernel) 533 k rfl).trans b2, BM_fr b3 H (by decide +kernel), (ag_of (s := [(72, 2)]) H (by decide +kernel) 72 1 rfl).trans b4, (ag_of (s := [(72, 4)]) H (by decide +kernel) 72 3 rfl).trans b5, (ag_of (s := [(72, 37)]) H (by decide +kernel) 72 36 rfl).trans b6, (ag_of (s := [(74, 1)]) H (by decide +kernel) 74 0 rfl).trans b7, (ag_of (s := [(74, 2)]) H (by decide +kernel) 74 1 rfl).trans b8, bkM_ag b9 (ag_of H (by decide +kernel)), PM_ag b10 k16.1 (ag_of H (by decide +kernel)), km⟩, ⟨ok, F2, F3, F4, F5, F6, F7, F8, fun j hj => by
      by_cases q : j = im
      · have ek : imA K im (wk, (n, N), B) j = (wk, (n, N), B) := if_pos q
        rw [ek]
        exact ⟨k16.1, ⟨F3, F4⟩, F8⟩
      · have ek : imA K im (wk, (n, N), B) j = K j := if_neg q
        rw [ek]
        exact F9 j (by omega)⟩⟩
theorem op_restore (HI : Inv I) : OD nX11_restore nX12_restore [] I := by
  obtain ⟨h, nL, cd, n, N, W, tp, wk, B, im, K, nl, ln, bk, pl, rf, c0, c1, C, Cc, M, F⟩ := HI
  intro L X J
  have ok := F.1
  have k16 := IC_16 C
  have hC := C
  have hM := M
  obtain ⟨⟨s1, s2, s3⟩, a2, a3, a4, a5, a6, a7, a8, a9, a10, a11, a12, a13⟩ := hC
  obtain ⟨⟨m1, m2⟩, b2, b3, b4, b5, b6, b7, b8, b9, b10, b11⟩ := hM
  obtain ⟨-, F2, F3, F4, F5, F6, F7, F8, F9⟩ := id F
  rcases im with _ | j0
  · exact op_q C Cc M F ⟨I, J, c_restore0 (d := 999) a13.1, fr_rfl⟩ (fun I1 J2 M1 _ => ⟨_, J2, m_restore0 (d := 999) M1.2.2.2.2.2.2.2.2.2.2.1, ⟨fr_up fr_rfl (by decide), up2_s⟩, rfl⟩)
  · obtain ⟨I1, J1, e1, ⟨G, g2, g3, g4, g5, e5x⟩, rfl⟩ := c_restore (d := 997) (L := L) (X := X) (J := J) a13
    have gm := fr_C G (by decide)
    have M1 := IM_C ok k16.1 k16.2 M gm
    have h5 := ok.2.2.1
    obtain ⟨w16, wn, wb⟩ := F9 j0 (by omega)
    refine ⟨_, I1, _, e1, gm, rfl, fun J2 => ?_⟩
    obtain ⟨I2, J3, e2, ⟨H, z0, z37, z36, z35, z533, zw⟩, rfl⟩ := m_restore (d := 997) (L := L) (X := X) (J := J2) M1.2.2.2.2.2.2.2.2.2.2.1 (by omega)
    have gc := fr_M H (by decide +kernel)
    obtain ⟨⟨m1, m2⟩, b2, b3, b4, b5, b6, b7, b8, b9, b10, b11⟩ := M1
    obtain ⟨y1, y2, y3⟩ := b11.2 j0 (by omega)
    have en : ∀ k, k < 31 → I2 533 k = (K j0).2.1.2 k := fun k hk => (z533 k hk).trans (y2 k hk)
    have C1 : IC I1 h nL cd (K j0).2.1.1 (I2 533) W tp (K j0).1 (K j0).2.2 j0 K nl bk pl (nI 0) c0 c1 := ⟨⟨HC_fr s1 (ag_of G (by decide +kernel)), LawC_fr s2 (ag_of G (by decide +kernel)), Calm_fr s3 (ag_of G (by decide +kernel))⟩, NC_cong wn.1.1.1 g4 en, SO_fr a3 G (by decide +kernel), UT_fr a4 G (by decide +kernel), BC_fr a5 G (by decide +kernel), (G 1 1 rfl).trans a6, (G 1 3 rfl).trans a7, g5, (G 0 14 rfl).trans a9, (G 0 15 rfl).trans a10, ⟨(G 31 0 rfl).trans a11.1, fun k hk => (G 32 k rfl).trans (a11.2 k hk)⟩, g3, g2⟩
    have Cc1 : Cch I1 h nL cd (I2 533) := ⟨ch1_ag Cc.1 (ag_of G (by decide +kernel)), ch2_ag Cc.2.1 (ag_of G (by decide +kernel)), fun f hf e => absurd (e5x.symm.trans e).symm (nI_m1 f (by omega)), (ag_of (s := [(63, 1)]) G (by decide +kernel) 63 0 rfl).trans Cc.2.2.2⟩
    exact ⟨I2, e2, z0, h, nL, cd, (K j0).2.1.1, I2 533, W, tp, (K j0).1, (K j0).2.2, j0, K, nl, ln, bk, pl, nI 0, c0, c1, IC_M C1 gc, Cch_M Cc1 gc, ⟨⟨HM_fr m1 ok (ag_of H (by decide +kernel)), LawM_fr m2 (ag_of H (by decide +kernel))⟩, rfl, BM_fr b3 H (by decide +kernel), (ag_of (s := [(72, 2)]) H (by decide +kernel) 72 1 rfl).trans b4, (ag_of (s := [(72, 4)]) H (by decide +kernel) 72 3 rfl).trans b5, z36, (ag_of (s := [(74, 1)]) H (by decide +kernel) 74 0 rfl).trans b7, (ag_of (s := [(74, 2)]) H (by decide +kernel) 74 1 rfl).trans b8, bkM_ag b9 (ag_of H (by decide +kernel)), ⟨z35.trans y1, fun i hi k hk => (zw i k (by omega) hk).trans (y3 i hi k hk)⟩, ⟨z37, fun j hj => by have r : ∀ k, I2 (554 + j) k = I1 (554 + j) k := fun k => ag_of (s := cells 554 3) H (by decide +kernel) _ k (in_cells (show j < 3 by omega)); obtain ⟨t1, t2, t3⟩ := b11.2 j (by omega); exact ⟨(r _).trans t1, fun k hk => (r _).trans (t2 k hk), fun i hi k hk => (r _).trans (t3 i hi k hk)⟩⟩⟩, ⟨ok, F2, NR_cong wn.1 en, NX_cong wn.2 en, F5, F6, F7, wb, fun j hj => F9 j (by omega)⟩⟩
end OC
