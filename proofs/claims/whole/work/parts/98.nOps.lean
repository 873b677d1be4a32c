/-! EACH ASKING, BY BOTH -/
/-- which sort of value -/
def tgV (v : Value) : Nat := match v with
  | .int _ => 0
  | .long _ => 1
  | _ => 2
/-- both answer v, and the states are held together behind it -/
def A1 (Dc cid mid : Nat) (a : List Value) (z : Value) (I : MI32) (L X : Nat) (J : MI64) : Prop := ∃ (v : Value) (I1 : MI32) (J1 : MI64), runM Dc cid (.ref 0 :: a) (mm L X I J) = some (.inl (some v), mm L X I1 J1) ∧ AgM I I1 ∧ tgV v = tgV z ∧ ∀ J2, ∃ I2, runM 1000 mid (.ref 72 :: a) (mm L X I1 J2) = some (.inl (some v), mm L X I2 J2) ∧ I2 72 0 = nI 0 ∧ Inv I2
/-- both refuse -/
def A2 (Dc cid mid : Nat) (a : List Value) (cc : Nat → Nat) (z : Value) (I : MI32) (L X : Nat) (J : MI64) : Prop := ∃ (k : Nat) (I1 : MI32), k ≤ 1 ∧ cc k ≤ 2 ∧ runM Dc cid (.ref 0 :: a) (mm L X I J) = some (.inr k, mm L (X + 1) I1 J) ∧ AgM I I1 ∧ ∀ J2, ∃ I2, runM 1000 mid (.ref 72 :: a) (mm L (X + 1) I1 J2) = some (.inl (some z), mm L (X + 1) I2 J2) ∧ I2 72 0 = nI (cc k) ∧ Inv I2
def OP (cid mid : Nat) (a : List Value) (cc : Nat → Nat) (z : Value) (I : MI32) : Prop := ∀ L X J, A1 999 cid mid a z I L X J ∨ A2 999 cid mid a cc z I L X J
def cI : Nat → Nat := fun e => if e = 1 then 1 else 9
def cN : Nat → Nat := fun e => if e = 0 then 1 else 9
def cB : Nat → Nat := fun e => e + 1
section OQ
variable {I : MI32} {L X Dc cid mid t k : Nat} {J : MI64} {a : List Value} {cc : Nat → Nat} {v z : Value} {h : Hs} {nL : Nat} {cd : Cd} {n : Nat} {N : Nt} {W : Nat → Nat} {tp wk : Nat} {B : Bn} {im : Nat} {K : Im} {nl : Nat} {ln : Ln} {bk : Bk} {pl rf c0 c1 : Int32}
theorem op_g {P : MI32 → Prop} (C : IC I h nL cd n N W tp wk B im K nl bk pl rf c0 c1) (M : IM I h nL cd N W tp wk B im K nl ln pl rf c0 c1) (F : WF h nL cd n N W tp wk B im K nl ln bk) (hc : Rt L X (runM Dc cid (.ref 0 :: a) (mm L X I J)) (some v) (fun I' _ => P I')) (hP : ∀ I', P I' → IC I' h nL cd n N W tp wk B im K nl bk pl rf c0 c1 ∧ Cch I' h nL cd N ∧ AgM I I') (hm : ∀ I1 J2, IM I1 h nL cd N W tp wk B im K nl ln pl rf c0 c1 → AgM I I1 → Rt L X (runM 1000 mid (.ref 72 :: a) (mm L X I1 J2)) (some v) (fun I' J' => (Fr fQM I1 I' ∧ I' 72 0 = nI 0) ∧ J' = J2))  (hv : tgV v = tgV z := by rfl) : A1 Dc cid mid a z I L X J := by
  obtain ⟨I1, J1, e1, p1⟩ := hc
  obtain ⟨C1, Cc1, g1⟩ := hP I1 p1
  have k16 := IC_16 C
  have M1 := IM_C F.1 k16.1 k16.2 M g1
  refine ⟨v, I1, J1, e1, g1, hv, fun J2 => ?_⟩
  obtain ⟨I2, J3, e2, ⟨f2, z2⟩, rfl⟩ := hm I1 J2 M1 g1
  have gc := iq_MC f2
  exact ⟨I2, e2, z2, h, nL, cd, n, N, W, tp, wk, B, im, K, nl, ln, bk, pl, rf, c0, c1, IC_M C1 gc, Cch_M Cc1 gc, iq_M F.1 k16.1 k16.2 f2 M1, F⟩
theorem op_q (C : IC I h nL cd n N W tp wk B im K nl bk pl rf c0 c1) (Cc : Cch I h nL cd N) (M : IM I h nL cd N W tp wk B im K nl ln pl rf c0 c1) (F : WF h nL cd n N W tp wk B im K nl ln bk) (hc : Rt L X (runM Dc cid (.ref 0 :: a) (mm L X I J)) (some v) (fun I' _ => Fr fQC I I')) (hm : ∀ I1 J2, IM I1 h nL cd N W tp wk B im K nl ln pl rf c0 c1 → AgM I I1 → Rt L X (runM 1000 mid (.ref 72 :: a) (mm L X I1 J2)) (some v) (fun I' J' => (Fr fQM I1 I' ∧ I' 72 0 = nI 0) ∧ J' = J2))  (hv : tgV v = tgV z := by rfl) : A1 Dc cid mid a z I L X J := op_g C M F hc (fun _ g => ⟨iq_C g C, iq_Cch g Cc, iq_CM g⟩) hm hv
theorem op_2 (C : IC I h nL cd n N W tp wk B im K nl bk pl rf c0 c1) (Cc : Cch I h nL cd N) (M : IM I h nL cd N W tp wk B im K nl ln pl rf c0 c1) (F : WF h nL cd n N W tp wk B im K nl ln bk) (hc : Rt L X (runM Dc cid (.ref 0 :: a) (mm L X I J)) (some v) (fun I' _ => Fr fQ2 I I' ∧ Calm I')) (hm : ∀ I1 J2, IM I1 h nL cd N W tp wk B im K nl ln pl rf c0 c1 → AgM I I1 → Rt L X (runM 1000 mid (.ref 72 :: a) (mm L X I1 J2)) (some v) (fun I' J' => (Fr fQM I1 I' ∧ I' 72 0 = nI 0) ∧ J' = J2))  (hv : tgV v = tgV z := by rfl) : A1 Dc cid mid a z I L X J := by
  refine op_g C M F hc (fun I' g => ⟨?_, Cch_ag Cc (ag_of g.1 (by decide +kernel)), fr_C g.1 (by decide +kernel)⟩) hm hv
  have q : Ag (sHC ++ sLC ++ sNC 43 ++ [(1000003, 0), (1000005, 0), (1000007, 0), (1000001, 0), (2, 0), (1, 2), (1, 4), (37, 8), (0, 15), (0, 16), (31, 1), (32, 0), (48, 4), (48, 5), (49, 0), (50, 0), (51, 0)]) I I' := ag_of g.1 (by decide +kernel)
  obtain ⟨⟨s1, s2, s3⟩, a2, a3, a4, a5, a6, a7, a8, a9, a10, a11, a12, a13⟩ := C
  refine ⟨⟨HC_fr s1 (ag_sub q (by decide)), LawC_fr s2 (ag_sub q (by decide)), g.2⟩, NC_fr a2 (ag_sub q (by decide)), ?_, ?_, ?_, (q 1 1 rfl).trans a6, (q 1 3 rfl).trans a7, (q 37 7 rfl).trans a8, (q 0 14 rfl).trans a9, (q 0 15 rfl).trans a10, ⟨(q 31 0 rfl).trans a11.1, fun k hk => (q 32 k rfl).trans (a11.2 k hk)⟩, PC_ag a12 (ag_sub q (by decide)), KC_ag a13 (ag_sub q (by decide))⟩
  · intro a ha k hk
    rcases ha with rfl | rfl | rfl
    · exact (q 1000003 k rfl).trans (a3 _ (.inl rfl) k hk)
    · exact (q 1000005 k rfl).trans (a3 _ (.inr (.inl rfl)) k hk)
    · exact (q 1000007 k rfl).trans (a3 _ (.inr (.inr rfl)) k hk)
  · exact fun k hk => (q 1000001 k rfl).trans (a4 k hk)
  · intro k hk
    rw [q 2 k rfl]
    exact a5 k hk
theorem op_r (hk : k ≤ 1) (ht : cc k = t) (C : IC I h nL cd n N W tp wk B im K nl bk pl rf c0 c1) (Cc : Cch I h nL cd N) (M : IM I h nL cd N W tp wk B im K nl ln pl rf c0 c1) (F : WF h nL cd n N W tp wk B im K nl ln bk) (hc : runM Dc cid (.ref 0 :: a) (mm L X I J) = some (.inr k, mm L (X + 1) (if k = 0 then ex0 I else ex1 I) J)) (hm : ∀ I1 J2, IM I1 h nL cd N W tp wk B im K nl ln pl rf c0 c1 → runM 1000 mid (.ref 72 :: a) (mm L (X + 1) I1 J2) = some (.inl (some z), mm L (X + 1) (bdM I1 t k) J2)) (ht2 : t ≤ 2 := by decide) : A2 Dc cid mid a cc z I L X J := by
  have k16 := IC_16 C
  have C1 := ir_C hk C
  have M1 := IM_C F.1 k16.1 k16.2 M (ir_AM (I := I) (k := k))
  refine ⟨k, _, hk, by omega, hc, ir_AM, fun J2 => ?_⟩
  obtain ⟨M2, g2, z2⟩ := ir_M (t := t) hk F.1 k16.1 k16.2 M1
  exact ⟨_, hm _ J2 M1, by rw [ht, z2], h, nL, cd, n, N, W, tp, wk, B, im, K, nl, ln, bk, pl, rf, _, _, IC_M C1 g2, Cch_M (ir_Cch Cc) g2, M2, F⟩
theorem nat_of {x : Int32} (q : ¬ x < nI 0) : ∃ k, k < 2 ^ 31 ∧ x = nI k := by
  have h1 := Int32.toInt_lt x
  have h2 : x ≤ nI 2147483647 := by
    rw [Int32.le_iff_toInt_le, nI_toInt (by decide)]
    omega
  obtain ⟨p, hp, e⟩ := nI_of2 (M := nI 2147483647) (n_toI (show 2147483647 < 2 ^ 31 by decide)) q h2
  exact ⟨p, by omega, e⟩
end OQ
section OA
variable {I : MI32} {x x1 x2 x3 x4 x5 x6 x7 x8 x9 : Int32}
theorem op_told (HI : Inv I) : OP nX11_told nX12_told [.int x] cI (.int (nI 0)) I := by
  obtain ⟨h, nL, cd, n, N, W, tp, wk, B, im, K, nl, ln, bk, pl, rf, c0, c1, C, Cc, M, F⟩ := HI
  intro L X J
  have ok := F.1
  have k16 := IC_16 C
  by_cases hx : ∃ p, p ≤ 11 ∧ x = nI p
  · obtain ⟨q, hw, rfl⟩ := hx
    have e1 : I 31 0 = nI nl := C.2.2.2.2.2.2.2.2.2.2.1.1
    have e2 : I 37 7 = rf := C.2.2.2.2.2.2.2.1
    refine .inl (op_q (v := .int (toldA h nL cd n N (nI nl) rf q)) C Cc M F (rt_v (c_told (IC_CS C F) hw) (by rw [e1, e2])) (fun I1 J2 M1 _ => rt_v (m_told (IM_MS M1 F) hw) ?_))
    rw [M1.2.2.2.2.2.2.2.2.1.1, M1.2.2.2.2.2.1]
  · exact .inr (op_r (k := 1) (t := 1) (by decide) rfl C Cc M F (x_told hx) (fun I1 J2 M1 => b_told hx))
theorem op_next (HI : Inv I) : OP nX11_next nX12_next [.int x] cI (.int (nI 0)) I := by
  obtain ⟨h, nL, cd, n, N, W, tp, wk, B, im, K, nl, ln, bk, pl, rf, c0, c1, C, Cc, M, F⟩ := HI
  intro L X J
  have ok := F.1
  have k16 := IC_16 C
  by_cases hx : ∃ p, p ≤ 1 ∧ x = nI p
  · obtain ⟨q, hw, rfl⟩ := hx
    exact .inl (op_q C Cc M F (c_next (IC_CS C F) hw) (fun I1 J2 M1 _ => m_next (IM_MS M1 F) hw))
  · exact .inr (op_r (k := 1) (t := 1) (by decide) rfl C Cc M F (x_next hx) (fun I1 J2 M1 => b_next hx))
theorem op_worst (HI : Inv I) : OP nX11_worst nX12_worst [.int x] cI (.int (nI 0)) I := by
  obtain ⟨h, nL, cd, n, N, W, tp, wk, B, im, K, nl, ln, bk, pl, rf, c0, c1, C, Cc, M, F⟩ := HI
  intro L X J
  have ok := F.1
  have k16 := IC_16 C
  by_cases hx : ∃ p, p ≤ 1 ∧ x = nI p
  · obtain ⟨q, hw, rfl⟩ := hx
    exact .inl (op_q C Cc M F (c_worst (IC_CS C F) hw) (fun I1 J2 M1 _ => m_worst (IM_MS M1 F) hw))
  · exact .inr (op_r (k := 1) (t := 1) (by decide) rfl C Cc M F (x_worst hx) (fun I1 J2 M1 => b_worst hx))
theorem op_kin (HI : Inv I) : OP nX11_kin nX12_kin [.int x] cI (.int (nI 0)) I := by
  obtain ⟨h, nL, cd, n, N, W, tp, wk, B, im, K, nl, ln, bk, pl, rf, c0, c1, C, Cc, M, F⟩ := HI
  intro L X J
  have ok := F.1
  have k16 := IC_16 C
  by_cases hx : ∃ p, p ≤ 9 ∧ x = nI p
  · obtain ⟨q, hw, rfl⟩ := hx
    exact .inl (op_q C Cc M F (c_kin (IC_CS C F) hw) (fun I1 J2 M1 _ => m_kin (IM_MS M1 F) hw))
  · exact .inr (op_r (k := 1) (t := 1) (by decide) rfl C Cc M F (x_kin hx) (fun I1 J2 M1 => b_kin hx))
theorem op_ahead (HI : Inv I) : OP nX11_ahead nX12_ahead [.int x] cI (.int (nI 0)) I := by
  obtain ⟨h, nL, cd, n, N, W, tp, wk, B, im, K, nl, ln, bk, pl, rf, c0, c1, C, Cc, M, F⟩ := HI
  intro L X J
  have ok := F.1
  have k16 := IC_16 C
  by_cases hx : ∃ p, p ≤ 99 ∧ x = nI p
  · obtain ⟨q, hw, rfl⟩ := hx
    exact .inl (op_q C Cc M F (c_ahead (IC_CS C F) hw) (fun I1 J2 M1 _ => m_ahead (IM_MS M1 F) hw))
  · exact .inr (op_r (k := 1) (t := 1) (by decide) rfl C Cc M F (x_ahead hx) (fun I1 J2 M1 => b_ahead hx))
theorem op_leaks (HI : Inv I) : OP nX11_leaks nX12_leaks [.int x] cI (.int (nI 0)) I := by
  obtain ⟨h, nL, cd, n, N, W, tp, wk, B, im, K, nl, ln, bk, pl, rf, c0, c1, C, Cc, M, F⟩ := HI
  intro L X J
  have ok := F.1
  have k16 := IC_16 C
  by_cases hx : ∃ p, p ≤ 1 ∧ x = nI p
  · obtain ⟨q, hw, rfl⟩ := hx
    exact .inl (op_2 C Cc M F (c_leaks (IC_CS C F) (bk_of C F) hw) (fun I1 J2 M1 _ => m_leaks (IM_MS M1 F) M1.2.2.2.2.2.2.2.2.1 F.2.2.2.2.2.2.1 hw))
  · exact .inr (op_r (k := 1) (t := 1) (by decide) rfl C Cc M F (x_leaks hx) (fun I1 J2 M1 => b_leaks hx))
theorem op_look (HI : Inv I) : OP nX11_look nX12_look [.int x] cI (.int (nI 0)) I := by
  obtain ⟨h, nL, cd, n, N, W, tp, wk, B, im, K, nl, ln, bk, pl, rf, c0, c1, C, Cc, M, F⟩ := HI
  intro L X J
  have ok := F.1
  have k16 := IC_16 C
  by_cases hx : ∃ p, p ≤ 1 ∧ x = nI p
  · obtain ⟨q, hw, rfl⟩ := hx
    exact .inl (op_2 C Cc M F (c_look (IC_CS C F) (bk_of C F) hw) (fun I1 J2 M1 _ => m_look (IM_MS M1 F) M1.2.2.2.2.2.2.2.2.1 F.2.2.2.2.2.2.1 hw))
  · exact .inr (op_r (k := 1) (t := 1) (by decide) rfl C Cc M F (x_look hx) (fun I1 J2 M1 => b_look hx))
theorem op_piece (HI : Inv I) : OP nX11_piece nX12_piece [.int x1, .int x2] cB (.int (nI 0)) I := by
  obtain ⟨h, nL, cd, n, N, W, tp, wk, B, im, K, nl, ln, bk, pl, rf, c0, c1, C, Cc, M, F⟩ := HI
  intro L X J
  have ok := F.1
  have k16 := IC_16 C
  by_cases hx : ∃ p, p < h 0 0 ∧ x1 = nI p
  · obtain ⟨p, hp, rfl⟩ := hx
    by_cases hy : ∃ p, p ≤ 7 ∧ x2 = nI p
    · obtain ⟨q, hw, rfl⟩ := hy
      exact .inl (op_q C Cc M F (c_piece (IC_CS C F) hp hw) (fun I1 J2 M1 _ => m_piece (IM_MS M1 F) hp hw))
    · exact .inr (op_r (k := 1) (t := 2) (by decide) rfl C Cc M F (x_piece1 C.1.1.1 ok hp hy) (fun I1 J2 M1 => b_piece1 M1.1.1.1 ok hp hy))
  · exact .inr (op_r (k := 0) (t := 1) (by decide) rfl C Cc M F (x_piece0 C.1.1.1 ok hx) (fun I1 J2 M1 => b_piece0 M1.1.1.1 ok hx))
theorem op_collar (HI : Inv I) : OP nX11_collar nX12_collar [.int x1, .int x2] cB (.int (nI 0)) I := by
  obtain ⟨h, nL, cd, n, N, W, tp, wk, B, im, K, nl, ln, bk, pl, rf, c0, c1, C, Cc, M, F⟩ := HI
  intro L X J
  have ok := F.1
  have k16 := IC_16 C
  by_cases hx : ∃ p, p < h 0 1 ∧ x1 = nI p
  · obtain ⟨p, hp, rfl⟩ := hx
    by_cases hy : ∃ p, p ≤ 1 ∧ x2 = nI p
    · obtain ⟨q, hw, rfl⟩ := hy
      exact .inl (op_q C Cc M F (c_collar (IC_CS C F) hp hw) (fun I1 J2 M1 _ => m_collar (IM_MS M1 F) hp hw))
    · exact .inr (op_r (k := 1) (t := 2) (by decide) rfl C Cc M F (x_collar1 C.1.1.2.1 ok hp hy) (fun I1 J2 M1 => b_collar1 M1.1.1.2.1 ok hp hy))
  · exact .inr (op_r (k := 0) (t := 1) (by decide) rfl C Cc M F (x_collar0 C.1.1.2.1 ok hx) (fun I1 J2 M1 => b_collar0 M1.1.1.2.1 ok hx))
theorem op_fire (HI : Inv I) : OP nX11_fire nX12_fire [.int x1, .int x2] cB (.int (nI 0)) I := by
  obtain ⟨h, nL, cd, n, N, W, tp, wk, B, im, K, nl, ln, bk, pl, rf, c0, c1, C, Cc, M, F⟩ := HI
  intro L X J
  have ok := F.1
  have k16 := IC_16 C
  by_cases hx : ∃ p, p < h 0 2 ∧ x1 = nI p
  · obtain ⟨p, hp, rfl⟩ := hx
    by_cases hy : ∃ p, p ≤ 3 ∧ x2 = nI p
    · obtain ⟨q, hw, rfl⟩ := hy
      exact .inl (op_q C Cc M F (c_fire (IC_CS C F) hp hw) (fun I1 J2 M1 _ => m_fire (IM_MS M1 F) hp hw))
    · exact .inr (op_r (k := 1) (t := 2) (by decide) rfl C Cc M F (x_fire1 C.1.1.2.2.1 ok hp hy) (fun I1 J2 M1 => b_fire1 M1.1.1.2.2.1 ok hp hy))
  · exact .inr (op_r (k := 0) (t := 1) (by decide) rfl C Cc M F (x_fire0 C.1.1.2.2.1 ok hx) (fun I1 J2 M1 => b_fire0 M1.1.1.2.2.1 ok hx))
theorem op_row (HI : Inv I) : OP nX11_row nX12_row [.int x] cI (.int (nI 0)) I := by
  obtain ⟨h, nL, cd, n, N, W, tp, wk, B, im, K, nl, ln, bk, pl, rf, c0, c1, C, Cc, M, F⟩ := HI
  intro L X J
  have ok := F.1
  have k16 := IC_16 C
  by_cases hx : x < nI 0
  · exact .inr (op_r (k := 1) (t := 1) (by decide) rfl C Cc M F (x_row hx) (fun I1 J2 M1 => b_row hx))
  · obtain ⟨q, hw, rfl⟩ := nat_of hx
    exact .inl (op_q C Cc M F (c_row (IC_CS C F) hw) (fun I1 J2 M1 _ => m_row (IM_MS M1 F) hw))
theorem op_behind (HI : Inv I) : OP nX11_behind nX12_behind [.int x] cI (.int (nI 0)) I := by
  obtain ⟨h, nL, cd, n, N, W, tp, wk, B, im, K, nl, ln, bk, pl, rf, c0, c1, C, Cc, M, F⟩ := HI
  intro L X J
  have ok := F.1
  have k16 := IC_16 C
  by_cases hx : x < nI 0
  · exact .inr (op_r (k := 1) (t := 1) (by decide) rfl C Cc M F (x_behind hx) (fun I1 J2 M1 => b_behind hx))
  · obtain ⟨q, hw, rfl⟩ := nat_of hx
    exact .inl (op_q C Cc M F (c_behind (IC_CS C F) hw) (fun I1 J2 M1 _ => m_behind (IM_MS M1 F) hw))
theorem op_would (HI : Inv I) : OP nX11_would nX12_would [.int x1, .int x2, .int x3, .int x4, .int x5, .int x6, .int x7, .int x8, .int x9] cI (.int (nI 0)) I := by
  obtain ⟨h, nL, cd, n, N, W, tp, wk, B, im, K, nl, ln, bk, pl, rf, c0, c1, C, Cc, M, F⟩ := HI
  intro L X J
  have ok := F.1
  have k16 := IC_16 C
  by_cases hx : (nI 0 ≤ x1 ∧ x1 ≤ nI 99) ∧ (nI 0 ≤ x2 ∧ x2 ≤ nI 9) ∧ (nI 1 ≤ x3 ∧ x3 ≤ nI 30) ∧ (nI 0 ≤ x4 ∧ x4 ≤ nI 9) ∧ (nI 0 ≤ x5 ∧ x5 ≤ nI 9) ∧ (nI 0 ≤ x6 ∧ x6 ≤ nI 5) ∧ (nI 0 ≤ x7 ∧ x7 ≤ nI 1) ∧ (nI 0 ≤ x8 ∧ x8 ≤ nI 99) ∧ (nI 0 ≤ x9 ∧ x9 ≤ nI 5)
  · exact .inl (op_q C Cc M F (c_would (IC_CS C F) hx) (fun I1 J2 M1 _ => m_would (IM_MS M1 F) hx))
  · exact .inr (op_r (k := 1) (t := 1) (by decide) rfl C Cc M F (x_would hx) (fun I1 J2 M1 => b_would hx))
theorem op_fits (HI : Inv I) : OP nX11_fits nX12_fits [.int x1, .int x2] cI (.int (nI 0)) I := by
  obtain ⟨h, nL, cd, n, N, W, tp, wk, B, im, K, nl, ln, bk, pl, rf, c0, c1, C, Cc, M, F⟩ := HI
  intro L X J
  have ok := F.1
  have k16 := IC_16 C
  by_cases hx : (∃ p, p ≤ 9 ∧ x1 = nI p) ∧ ∃ p, p ≤ 9 ∧ x2 = nI p
  · obtain ⟨⟨s, hs, rfl⟩, t, ht, rfl⟩ := hx
    exact .inl (op_q C Cc M F (c_fits (IC_CS C F) hs ht) (fun I1 J2 M1 _ => m_fits (IM_MS M1 F) hs ht))
  · exact .inr (op_r (k := 1) (t := 1) (by decide) rfl C Cc M F (x_fits hx) (fun I1 J2 M1 => b_fits hx))
theorem op_can (HI : Inv I) : OP nX11_can nX12_can [.int x1] cN (.int (nI 0)) I := by
  obtain ⟨h, nL, cd, n, N, W, tp, wk, B, im, K, nl, ln, bk, pl, rf, c0, c1, C, Cc, M, F⟩ := HI
  intro L X J
  have ok := F.1
  have k16 := IC_16 C
  by_cases hx : ∃ p, p < h 0 0 ∧ x1 = nI p
  · obtain ⟨p, hp, rfl⟩ := hx
    exact .inl (op_q C Cc M F (c_can (IC_CS C F) hp) (fun I1 J2 M1 _ => m_can (IM_MS M1 F) hp))
  · exact .inr (op_r (k := 0) (t := 1) (by decide) rfl C Cc M F (x_can C.1.1.1 ok hx) (fun I1 J2 M1 => b_can M1.1.1.1 ok hx))
theorem op_needed (HI : Inv I) : OP nX11_needed nX12_needed [.int x1] cN (.int (nI 0)) I := by
  obtain ⟨h, nL, cd, n, N, W, tp, wk, B, im, K, nl, ln, bk, pl, rf, c0, c1, C, Cc, M, F⟩ := HI
  intro L X J
  have ok := F.1
  have k16 := IC_16 C
  by_cases hx : ∃ p, p < h 0 2 ∧ x1 = nI p
  · obtain ⟨p, hp, rfl⟩ := hx
    exact .inl (op_q C Cc M F (c_needed (IC_CS C F) hp) (fun I1 J2 M1 _ => m_needed (IM_MS M1 F) hp))
  · exact .inr (op_r (k := 0) (t := 1) (by decide) rfl C Cc M F (x_needed C.1.1.2.2.1 ok hx) (fun I1 J2 M1 => b_needed M1.1.1.2.2.1 ok hx))
theorem op_share (HI : Inv I) : OP nX11_share nX12_share [.int x1, .int x2, .int x3] cB (.int (nI 0)) I := by
  obtain ⟨h, nL, cd, n, N, W, tp, wk, B, im, K, nl, ln, bk, pl, rf, c0, c1, C, Cc, M, F⟩ := HI
  intro L X J
  have ok := F.1
  have k16 := IC_16 C
  by_cases hx : ∃ p, p < h 0 2 ∧ x1 = nI p
  · obtain ⟨p, hp, rfl⟩ := hx
    by_cases hy : (∃ T, T ≤ 2 ^ h 0 2 - 1 ∧ x2 = nI T) ∧ ∃ c, c ≤ 999 ∧ x3 = nI c
    · obtain ⟨⟨T, hT, rfl⟩, c, hc, rfl⟩ := hy
      exact .inl (op_q C Cc M F (c_share (IC_CS C F) hp hT hc) (fun I1 J2 M1 _ => m_share (IM_MS M1 F) hp hT hc))
    · exact .inr (op_r (k := 1) (t := 2) (by decide) rfl C Cc M F (x_share1 C.1.1.2.2.1 ok hp hy) (fun I1 J2 M1 => b_share1 M1.1.1.2.2.1 ok hp hy))
  · exact .inr (op_r (k := 0) (t := 1) (by decide) rfl C Cc M F (x_share0 C.1.1.2.2.1 ok hx) (fun I1 J2 M1 => b_share0 M1.1.1.2.2.1 ok hx))
theorem op_sure (HI : Inv I) : OP nX11_sure nX12_sure [.int x1, .int x2, .int x3] cB (.long (lN 0)) I := by
  obtain ⟨h, nL, cd, n, N, W, tp, wk, B, im, K, nl, ln, bk, pl, rf, c0, c1, C, Cc, M, F⟩ := HI
  intro L X J
  have ok := F.1
  have k16 := IC_16 C
  by_cases hx : ∃ p, p < h 0 2 ∧ x1 = nI p
  · obtain ⟨p, hp, rfl⟩ := hx
    by_cases hy : (∃ T, T ≤ 16 ∧ x2 = nI T) ∧ ∃ c, c ≤ 1 ∧ x3 = nI c
    · obtain ⟨⟨T, hT, rfl⟩, c, hc, rfl⟩ := hy
      exact .inl (op_2 C Cc M F (c_sure (IC_CS C F) hp hT hc) (fun I1 J2 M1 _ => m_sure (IM_MS M1 F) hp hT hc))
    · exact .inr (op_r (k := 1) (t := 2) (by decide) rfl C Cc M F (x_sure1 C.1.1.2.2.1 ok hp hy) (fun I1 J2 M1 => b_sure1 M1.1.1.2.2.1 ok hp hy))
  · exact .inr (op_r (k := 0) (t := 1) (by decide) rfl C Cc M F (x_sure0 C.1.1.2.2.1 ok hx) (fun I1 J2 M1 => b_sure0 M1.1.1.2.2.1 ok hx))
theorem op_street (HI : Inv I) : OP nX11_street nX12_street [.int x1, .int x2, .int x3] cI (.int (nI 0)) I := by
  obtain ⟨h, nL, cd, n, N, W, tp, wk, B, im, K, nl, ln, bk, pl, rf, c0, c1, C, Cc, M, F⟩ := HI
  intro L X J
  have ok := F.1
  have k16 := IC_16 C
  by_cases hx : (nI 0 ≤ x1 ∧ x1 ≤ nI 99) ∧ (nI 0 ≤ x2 ∧ x2 ≤ nI 9) ∧ (nI 0 ≤ x3 ∧ x3 ≤ nI 2)
  · obtain ⟨p1, h1, rfl⟩ := (in_M (by decide)).mp hx.1
    obtain ⟨p2, h2, rfl⟩ := (in_M (by decide)).mp hx.2.1
    obtain ⟨p3, h3, rfl⟩ := (in_M (by decide)).mp hx.2.2
    exact .inl (op_2 C Cc M F (c_street (IC_CS C F) h1 h2 h3) (fun I1 J2 M1 _ => m_street (IM_MS M1 F) h1 h2 h3))
  · exact .inr (op_r (k := 1) (t := 1) (by decide) rfl C Cc M F (x_street hx) (fun I1 J2 M1 => b_street hx))
theorem cp_31 {N : Nt} (e : I 533 = N) : ∀ k, k < 31 → cpN I 533 534 k = N k := fun k hk => by
  unfold cpN
  rw [if_pos hk, e]
theorem cp_g {I1 : MI32} (g : AgM I I1) : cpN I 533 534 = cpN I1 533 534 := funext fun i => by
  unfold cpN
  rw [g 533 i (by decide), g 534 i (by decide)]
theorem op_year (HI : Inv I) : OP nX11_year nX12_year [.int x1, .int x2, .int x3, .int x4] cI (.int (nI 0)) I := by
  obtain ⟨h, nL, cd, n, N, W, tp, wk, B, im, K, nl, ln, bk, pl, rf, c0, c1, C, Cc, M, F⟩ := HI
  intro L X J
  have ok := F.1
  have k16 := IC_16 C
  by_cases hx : (nI 1 ≤ x2 ∧ x2 ≤ nI 96) ∧ (nI 0 ≤ x3 ∧ x3 ≤ nI 16) ∧ (nI 0 ≤ x4 ∧ x4 ≤ nI 3)
  · obtain ⟨p1, h0, h1, rfl⟩ := (in_1M (by decide)).mp hx.1
    obtain ⟨p2, h2, rfl⟩ := (in_M (by decide)).mp hx.2.1
    obtain ⟨p3, h3, rfl⟩ := (in_M (by decide)).mp hx.2.2
    exact .inl (op_q C Cc M F (c_year (CS_cong (IC_CS C F) (cp_31 M.2.1)) h0 h1 h2 h3) (fun I1 J2 M1 g => m_year (IM_MS M1 F) (cp_g g) h0 h1 h2 h3))
  · exact .inr (op_r (k := 1) (t := 1) (by decide) rfl C Cc M F (x_year hx) (fun I1 J2 M1 => b_year hx))
theorem op_span (HI : Inv I) : OP nX11_span nX12_span [.int x1, .int x2, .int x3, .int x4, .int x5, .int x6] cI (.int (nI 0)) I := by
  obtain ⟨h, nL, cd, n, N, W, tp, wk, B, im, K, nl, ln, bk, pl, rf, c0, c1, C, Cc, M, F⟩ := HI
  intro L X J
  have ok := F.1
  have k16 := IC_16 C
  have h5 := ok.2.2.1
  by_cases hx : (nI 1 ≤ x2 ∧ x2 ≤ nI 20) ∧ (nI 1 ≤ x3 ∧ x3 ≤ nI 96) ∧ (nI 0 ≤ x4 ∧ x4 ≤ nI 16) ∧ (nI 0 ≤ x5 ∧ x5 ≤ nI 2) ∧ (nI 0 ≤ x6 ∧ x6 ≤ nI (h 0 2) - nI 1)
  · obtain ⟨p0, g0, g1, rfl⟩ := (in_1M (by decide)).mp hx.1
    obtain ⟨p1, h0, h1, rfl⟩ := (in_1M (by decide)).mp hx.2.1
    obtain ⟨p2, h2, rfl⟩ := (in_M (by decide)).mp hx.2.2.1
    obtain ⟨p3, h3, rfl⟩ := (in_M (by decide)).mp hx.2.2.2.1
    obtain ⟨p4, h4, rfl⟩ := (in_np (by omega)).mp hx.2.2.2.2
    exact .inl (op_q C Cc M F (c_span (CS_cong (IC_CS C F) (cp_31 M.2.1)) g0 g1 h0 h1 h2 h3 h4) (fun I1 J2 M1 g => m_span (IM_MS M1 F) (cp_g g) g0 g1 h0 h1 h2 h3 h4))
  · exact .inr (op_r (k := 1) (t := 1) (by decide) rfl C Cc M F (x_span C.1.1.2.2.1 hx) (fun I1 J2 M1 => b_span M1.1.1.2.2.1 (by omega) hx))
end OA
