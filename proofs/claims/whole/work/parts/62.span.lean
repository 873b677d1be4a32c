/-! ASKED: span -/
section AF
variable {d L X : Nat} {I : MI32} {J : MI64} {x1 x2 x3 x4 x5 x6 x7 x8 x9 : Int32} {p f w k q hours many : Nat} {h : Hs} {nL n : Nat} {cd : Cd} {N : Nt}
theorem st2_hi {m k p v i : Nat} (R : NR (h 0 0) n N) (h5 : h 0 2 ≤ 5) (hp : p < 6) (hi : 31 ≤ i) : st2N h m nL cd k p v n N i = N i := by
  have n6 := R.1.1
  unfold st2N
  by_cases z : stD h m k p v n N = true
  · rw [if_pos z]
    unfold stN
    by_cases k0 : k = 0
    · rw [if_pos k0, upd_n (by omega)]
    rw [if_neg k0]
    by_cases k1 : k = 1
    · rw [if_pos k1, upd_n (by omega)]
    rw [if_neg k1]
    by_cases k2 : k = 2
    · rw [if_pos k2, upd_n (by omega)]
    rw [if_neg k2]
    by_cases k3 : k = 3
    · rw [if_pos k3, upd_n (by omega)]
    rw [if_neg k3]
    by_cases k4 : k = 4
    · rw [if_pos k4, upd_n (by omega)]
    rw [if_neg k4]
    by_cases k5 : k = 5
    · rw [if_pos k5, upd_n (by omega)]
    rw [if_neg k5]
    by_cases k6 : k = 6
    · rw [if_pos k6, upd_n (by omega)]
    rw [if_neg k6]
    unfold hourN
    rw [upd_n (by omega)]
    exact hourJ_lo (.inr (by omega))
  · rw [if_neg z]
theorem yrA_hi {m i : Nat} {y : Ys} (ok : HOK h) (h0 : 0 < h 0 0) (w : wlY h y) (hi : 31 ≤ i) : (yrA h m nL cd y).2.2 i = y.2.2 i := by
  have h5 := ok.2.2.1
  have h6 := ok.1
  have hlt : rv (rnd y.1) % h 0 0 < h 0 0 := Nat.mod_lt _ h0
  unfold yrA
  generalize rv (rnd y.1) % h 0 0 = p at hlt
  generalize kdY (rv (rnd (rnd y.1)) % 4) = k
  generalize rnd (rnd y.1) = s
  show st2N h m nL cd k p 0 y.2.1 y.2.2 i = y.2.2 i
  exact st2_hi w.1 h5 (by omega) hi
theorem yrL_hi {m i : Nat} {y : Ys} (ok : HOK h) (w : wlY h y) (hi : 31 ≤ i) : (yrL h m nL cd q y).2.2 i = y.2.2 i := by
  have h5 := ok.2.2.1
  have e0 := st2_hi (nL := nL) (cd := cd) (m := m) (k := 2) (p := 0) (v := 0) w.1 h5 (by decide) hi
  by_cases e2 : rv (rnd y.1) % 16 < q
  · have eL : yrL h m nL cd q y = (rnd y.1, st2n h m 2 0 0 y.2.1 y.2.2, st2N h m nL cd 2 0 0 y.2.1 y.2.2) := if_pos e2
    rw [eL]
    exact e0
  · have eL : yrL h m nL cd q y = (rnd y.1, y.2) := if_neg e2
    rw [eL]
theorem yrD_hi {m i : Nat} {y : Ys} (ok : HOK h) (w : wlY h y) (hi : 31 ≤ i) : (yrD h m nL cd q y).2.2 i = y.2.2 i := by
  unfold yrD
  by_cases e : h 0 0 = 0
  · rw [if_pos e]
  · rw [if_neg e, yrL_hi ok (wl_A ok (by omega) w) hi, yrA_hi ok (by omega) w hi]
theorem yrH_hi {m i : Nat} {y : Ys} (ok : HOK h) (w : wlY h y) (hi : 31 ≤ i) : (yrH h m nL cd q y).2.2 i = y.2.2 i := by
  have h5 := ok.2.2.1
  have e1 := yrD_hi (m := m) (nL := nL) (cd := cd) (q := q) ok w hi
  unfold yrH
  generalize yrD h m nL cd q y = z at e1
  show hourN (rchd h nL cd z.2.2 z.2.1) (h 0 2) z.2.2 i = y.2.2 i
  rw [← e1]
  unfold hourN
  rw [upd_n (by omega)]
  exact hourJ_lo (.inr (by omega))
theorem yrs_hi {m i : Nat} (ok : HOK h) (hi : 31 ≤ i) : ∀ r j z, wlY h z.1 → (accF (yrZ h m nL cd q) r j z).1.2.2 i = z.1.2.2 i
  | 0, j, z, w => rfl
  | r + 1, j, z, w => by
    have e := yrs_hi (m := m) ok hi r (j + 1) (yrH h m nL cd q z.1, yrP h m nL cd q z.1 z.2) (wl_H ok w)
    exact e.trans (yrH_hi ok w hi)
def spS (h : Hs) (nL : Nat) (cd : Cd) (q hours : Nat) (s : Int32) (n : Nat) (N : Nt) (f k : Nat) (z : Nat × Nat × Nat) : Nat × Nat × Nat := (Nat.min z.1 (yrs h (h 0 1) nL cd q hours (s + nI k) n N).1.2.1, Nat.max z.2.1 (yrs h (h 0 1) nL cd q hours (s + nI k) n N).1.2.1, z.2.2 + tb (bitsN (outP (yrs h (h 0 1) nL cd q hours (s + nI k) n N).1.2.2) (h 0 2)) f)
def spA (h : Hs) (nL : Nat) (cd : Cd) (q hours : Nat) (s : Int32) (n : Nat) (N : Nt) (f many w : Nat) : Int32 := if w = 0 then nI (accF (spS h nL cd q hours s n N f) many 0 (6, 0, 0)).1 else if w = 1 then nI (accF (spS h nL cd q hours s n N f) many 0 (6, 0, 0)).2.1 else nI (accF (spS h nL cd q hours s n N f) many 0 (6, 0, 0)).2.2
theorem lp_spC {s : Int32} (V : CS I h nL cd n N) (hh2 : hours ≤ 96) (hm : many ≤ 20) (hq : q ≤ 16) (hw : w ≤ 2) (hf : f < h 0 2) : ∀ r j I' z, j + r = many → Fr fYC I I' → z.1 ≤ 6 → z.2.1 ≤ 6 → accF (spS h nL cd q hours s n N f) r j z = accF (spS h nL cd q hours s n N f) many 0 (6, 0, 0) → Rt L X (c_X11_span_90 (d + 7) L X I' J s (nI many) (nI hours) (nI q) (nI w) (nI f) (nI z.1) (nI z.2.1) (nI z.2.2) (nI j)) (some (.int (spA h nL cd q hours s n N f many w))) (fun I'' _ => Fr fYC I I'')
  | 0, j, I', z, hj, hfr, z1, z2, he => by
    have e : z = accF (spS h nL cd q hours s n N f) many 0 (6, 0, 0) := he
    (first | refine rt_eq (q_X11_span_0) ?_ | refine rt_eq (q_X11_span_8) ?_ | refine rt_eq (q_X11_span_36) ?_ | refine rt_eq (q_X11_span_18) ?_ | refine rt_eq (q_X11_span_37) ?_ | refine rt_eq (q_X11_span_29) ?_ | refine rt_eq (q_X11_span_40) ?_ | refine rt_eq (q_X11_span_48) ?_ | refine rt_eq (q_X11_span_73) ?_ | refine rt_eq (q_X11_span_66) ?_ | refine rt_eq (q_X11_span_74) ?_ | refine rt_eq (q_X11_span_77) ?_ | refine rt_eq (q_X11_span_90) ?_ | refine rt_eq (q_X11_span_114) ?_ | refine rt_eq (q_X11_span_160) ?_ | refine rt_eq (q_X11_span_165) ?_)
    refine rt_t (by (try simp (disch := omega) only [nI_leI, nI_ltI, nI_eq, nI_add, pk_mul, n_0add, Nat.zero_add, nI_clamp]) <;> omega) ?_
    have : w = 0 ∨ w = 1 ∨ w = 2 := by omega
    rcases this with rfl | rfl | rfl
    all_goals repeat (first | refine rt_t (by decide) ?_ | refine rt_f (by decide) ?_)
    · exact rt_v (rt_ret hfr) (by rw [e]; rfl)
    · exact rt_v (rt_ret hfr) (by rw [e]; rfl)
    · exact rt_v (rt_ret hfr) (by rw [e]; rfl)
  | r + 1, j, I', z, hj, hfr, z1, z2, he => by
    have ih := lp_spC (s := s) V hh2 hm hq hw hf r (j + 1)
    have V' := V
    obtain ⟨ok, W, S, C, R, Z⟩ := V'
    have h5 := ok.2.2.1
    have S' := SC_yc S hfr
    have C' := NC_fr C (ag_of hfr (by decide))
    have he' : accF (spS h nL cd q hours s n N f) r (j + 1) (spS h nL cd q hours s n N f j z) = accF (spS h nL cd q hours s n N f) many 0 (6, 0, 0) := he
    have wl : wlY h (yrs h (h 0 1) nL cd q hours (s + nI j) n N).1 := wl_yrs (s := s) ok R Z hours 0 ((s + nI j, n, N), nI 0) ⟨R, Z⟩
    (first | refine rt_eq (q_X11_span_0) ?_ | refine rt_eq (q_X11_span_8) ?_ | refine rt_eq (q_X11_span_36) ?_ | refine rt_eq (q_X11_span_18) ?_ | refine rt_eq (q_X11_span_37) ?_ | refine rt_eq (q_X11_span_29) ?_ | refine rt_eq (q_X11_span_40) ?_ | refine rt_eq (q_X11_span_48) ?_ | refine rt_eq (q_X11_span_73) ?_ | refine rt_eq (q_X11_span_66) ?_ | refine rt_eq (q_X11_span_74) ?_ | refine rt_eq (q_X11_span_77) ?_ | refine rt_eq (q_X11_span_90) ?_ | refine rt_eq (q_X11_span_114) ?_ | refine rt_eq (q_X11_span_160) ?_ | refine rt_eq (q_X11_span_165) ?_)
    refine rt_f (by (try simp (disch := omega) only [nI_leI, nI_ltI, nI_eq, nI_add, pk_mul, n_0add, Nat.zero_add, nI_clamp]) <;> omega) ?_
    refine rt_bnd (sp_live ok W hq (by omega) S' C' R Z) ?_
    rintro I1 J1 ⟨⟨f1, f2, -⟩, rfl⟩
    have es : spS h nL cd q hours s n N f j z = (Nat.min z.1 (yrs h (h 0 1) nL cd q hours (s + nI j) n N).1.2.1, Nat.max z.2.1 (yrs h (h 0 1) nL cd q hours (s + nI j) n N).1.2.1, z.2.2 + tb (bitsN (outP (yrs h (h 0 1) nL cd q hours (s + nI j) n N).1.2.2) (h 0 2)) f) := rfl
    rw [es] at he'
    generalize yrs h (h 0 1) nL cd q hours (s + nI j) n N = y at f2 wl he'
    have y6 := wl.1.1.1
    (first | refine rt_eq (q_X11_span_0) ?_ | refine rt_eq (q_X11_span_8) ?_ | refine rt_eq (q_X11_span_36) ?_ | refine rt_eq (q_X11_span_18) ?_ | refine rt_eq (q_X11_span_37) ?_ | refine rt_eq (q_X11_span_29) ?_ | refine rt_eq (q_X11_span_40) ?_ | refine rt_eq (q_X11_span_48) ?_ | refine rt_eq (q_X11_span_73) ?_ | refine rt_eq (q_X11_span_66) ?_ | refine rt_eq (q_X11_span_74) ?_ | refine rt_eq (q_X11_span_77) ?_ | refine rt_eq (q_X11_span_90) ?_ | refine rt_eq (q_X11_span_114) ?_ | refine rt_eq (q_X11_span_160) ?_ | refine rt_eq (q_X11_span_165) ?_)
    rw [f2.1, mn_n (by omega) (by omega), mx_n (by omega) (by omega)]
    refine rt_be (sp_outBits (.inr rfl) f2) ?_
    (first | refine rt_eq (q_X11_span_0) ?_ | refine rt_eq (q_X11_span_8) ?_ | refine rt_eq (q_X11_span_36) ?_ | refine rt_eq (q_X11_span_18) ?_ | refine rt_eq (q_X11_span_37) ?_ | refine rt_eq (q_X11_span_29) ?_ | refine rt_eq (q_X11_span_40) ?_ | refine rt_eq (q_X11_span_48) ?_ | refine rt_eq (q_X11_span_73) ?_ | refine rt_eq (q_X11_span_66) ?_ | refine rt_eq (q_X11_span_74) ?_ | refine rt_eq (q_X11_span_77) ?_ | refine rt_eq (q_X11_span_90) ?_ | refine rt_eq (q_X11_span_114) ?_ | refine rt_eq (q_X11_span_160) ?_ | refine rt_eq (q_X11_span_165) ?_)
    rw [out5 wl.2 h5]
    refine rt_bne sp_bit ?_
    have hb : bitsN (outP y.1.2.2) (h 0 2) < 2 ^ 5 := Nat.lt_of_lt_of_le (bitsN_lt _) (Nat.pow_le_pow_right (by decide) h5)
    rw [n_bit (by omega) (by omega)]
    (first | refine rt_eq (q_X11_span_0) ?_ | refine rt_eq (q_X11_span_8) ?_ | refine rt_eq (q_X11_span_36) ?_ | refine rt_eq (q_X11_span_18) ?_ | refine rt_eq (q_X11_span_37) ?_ | refine rt_eq (q_X11_span_29) ?_ | refine rt_eq (q_X11_span_40) ?_ | refine rt_eq (q_X11_span_48) ?_ | refine rt_eq (q_X11_span_73) ?_ | refine rt_eq (q_X11_span_66) ?_ | refine rt_eq (q_X11_span_74) ?_ | refine rt_eq (q_X11_span_77) ?_ | refine rt_eq (q_X11_span_90) ?_ | refine rt_eq (q_X11_span_114) ?_ | refine rt_eq (q_X11_span_160) ?_ | refine rt_eq (q_X11_span_165) ?_)
    rw [nI_add, nI_add]
    exact ih I1 (Nat.min z.1 y.1.2.1, Nat.max z.2.1 y.1.2.1, z.2.2 + tb (bitsN (outP y.1.2.2) (h 0 2)) f) (by omega) (fr_tr hfr f1) (Nat.le_trans (Nat.min_le_left _ _) z1) (Nat.max_le.mpr ⟨z2, y6⟩) he'
theorem lp_spM {s : Int32} {M : Nt} (V : MS I h nL cd n N) (hM : M = cpN I 533 534) (hh2 : hours ≤ 96) (hm : many ≤ 20) (hq : q ≤ 16) (hw : w ≤ 2) (hf : f < h 0 2) : ∀ r j I' z x7 u11, j + r = many → Fr fYM I I' → cpN I' 533 534 = M → z.1 ≤ 6 → z.2.1 ≤ 6 → (j = 0 → x7 = -1 ∧ z.1 = 6) → (0 < j → x7 = nI z.1) → 0 < many → accF (spS h nL cd q hours s n M f) r j z = accF (spS h nL cd q hours s n M f) many 0 (6, 0, 0) → Rt L X (c_X12_span_71 (d + 10) L X I' J s (nI many) (nI hours) (nI q) (nI w) (nI f) x7 (nI z.2.1) (nI z.2.2) (nI j) u11) (some (.int (spA h nL cd q hours s n M f many w))) (fun I'' J' => Fr fYM I I'' ∧ J' = J)
  | 0, j, I', z, x7, u11, hj, hfr, hcp, z1, z2, hz0, hz1, hmp, he => by
    have e : z = accF (spS h nL cd q hours s n M f) many 0 (6, 0, 0) := he
    rw [hz1 (by omega)]
    (first | refine rt_eq (q_X12_span_0) ?_ | refine rt_eq (q_X12_span_13) ?_ | refine rt_eq (q_X12_span_44) ?_ | refine rt_eq (q_X12_span_22) ?_ | refine rt_eq (q_X12_span_49) ?_ | refine rt_eq (q_X12_span_32) ?_ | refine rt_eq (q_X12_span_54) ?_ | refine rt_eq (q_X12_span_41) ?_ | refine rt_eq (q_X12_span_71) ?_ | refine rt_eq (q_X12_span_88) ?_ | refine rt_eq (q_X12_span_95) ?_ | refine rt_eq (q_X12_span_115) ?_ | refine rt_eq (q_X12_span_124) ?_ | refine rt_eq (q_X12_span_136) ?_ | refine rt_eq (q_X12_span_141) ?_ | refine rt_eq (q_X12_span_149) ?_)
    refine rt_t (by (try simp (disch := omega) only [nI_leI, nI_ltI, nI_eq, nI_add, pk_mul, n_0add, Nat.zero_add, nI_clamp]) <;> omega) ?_
    have : w = 0 ∨ w = 1 ∨ w = 2 := by omega
    rcases this with rfl | rfl | rfl
    all_goals repeat (first | refine rt_t (by decide) ?_ | refine rt_f (by decide) ?_)
    · exact rt_v (rt_ret ⟨hfr, rfl⟩) (by rw [e]; rfl)
    · exact rt_v (rt_ret ⟨hfr, rfl⟩) (by rw [e]; rfl)
    · exact rt_v (rt_ret ⟨hfr, rfl⟩) (by rw [e]; rfl)
  | r + 1, j, I', z, x7, u11, hj, hfr, hcp, z1, z2, hz0, hz1, hmp, he => by
    have ih := lp_spM (s := s) V hM hh2 hm hq hw hf r (j + 1)
    have V' := V
    obtain ⟨ok, W, S, e, R, Z⟩ := V'
    have h5 := ok.2.2.1
    have S' := SM_ym S ok hfr
    have e533 : I' 533 = N := by
      rw [← e]
      exact funext fun i => hfr 533 i rfl
    have R' := R
    have Z' := Z
    rw [← e533] at R' Z'
    have hc : ∀ i, i < 31 → M i = N i := fun i hi => by
      rw [hM, ← e]
      exact if_pos hi
    have RM : NR (h 0 0) n M := NR_congr R (fun i hi => hc i (by omega))
    have ZM : NX (h 0 0) (h 0 2) M := NX_congr Z hc
    have he' : accF (spS h nL cd q hours s n M f) r (j + 1) (spS h nL cd q hours s n M f j z) = accF (spS h nL cd q hours s n M f) many 0 (6, 0, 0) := he
    have hhi : ∀ i, 31 ≤ i → (yrs h (h 0 1) nL cd q hours (s + nI j) n M).1.2.2 i = M i := fun i hi => yrs_hi ok hi hours 0 ((s + nI j, n, M), nI 0) ⟨RM, ZM⟩
    (first | refine rt_eq (q_X12_span_0) ?_ | refine rt_eq (q_X12_span_13) ?_ | refine rt_eq (q_X12_span_44) ?_ | refine rt_eq (q_X12_span_22) ?_ | refine rt_eq (q_X12_span_49) ?_ | refine rt_eq (q_X12_span_32) ?_ | refine rt_eq (q_X12_span_54) ?_ | refine rt_eq (q_X12_span_41) ?_ | refine rt_eq (q_X12_span_71) ?_ | refine rt_eq (q_X12_span_88) ?_ | refine rt_eq (q_X12_span_95) ?_ | refine rt_eq (q_X12_span_115) ?_ | refine rt_eq (q_X12_span_124) ?_ | refine rt_eq (q_X12_span_136) ?_ | refine rt_eq (q_X12_span_141) ?_ | refine rt_eq (q_X12_span_149) ?_)
    refine rt_f (by (try simp (disch := omega) only [nI_leI, nI_ltI, nI_eq, nI_add, pk_mul, n_0add, Nat.zero_add, nI_clamp]) <;> omega) ?_
    refine rt_bnd (sp_yearBy ok W hq (by omega) S' hcp.symm R' Z') ?_
    rintro I1 J1 ⟨⟨f1, f2, -, wl⟩, rfl⟩
    have es : spS h nL cd q hours s n M f j z = (Nat.min z.1 (yrs h (h 0 1) nL cd q hours (s + nI j) n M).1.2.1, Nat.max z.2.1 (yrs h (h 0 1) nL cd q hours (s + nI j) n M).1.2.1, z.2.2 + tb (bitsN (outP (yrs h (h 0 1) nL cd q hours (s + nI j) n M).1.2.2) (h 0 2)) f) := rfl
    rw [es] at he'
    generalize yrs h (h 0 1) nL cd q hours (s + nI j) n M = y at f2 wl he' hhi
    have y6 := wl.1.1.1
    have hcp1 : cpN I1 533 534 = M := by
      funext i
      by_cases z : i < 31
      · rw [show cpN I1 533 534 i = I1 533 i from if_pos z, f1 533 i rfl, e533, hc i z]
      · rw [show cpN I1 533 534 i = I1 534 i from if_neg z, f2, hhi i (by omega)]
    have R1 := wl.1
    rw [← f2] at R1
    have S1 := SM_ym S' ok f1
    (first | refine rt_eq (q_X12_span_0) ?_ | refine rt_eq (q_X12_span_13) ?_ | refine rt_eq (q_X12_span_44) ?_ | refine rt_eq (q_X12_span_22) ?_ | refine rt_eq (q_X12_span_49) ?_ | refine rt_eq (q_X12_span_32) ?_ | refine rt_eq (q_X12_span_54) ?_ | refine rt_eq (q_X12_span_41) ?_ | refine rt_eq (q_X12_span_71) ?_ | refine rt_eq (q_X12_span_88) ?_ | refine rt_eq (q_X12_span_95) ?_ | refine rt_eq (q_X12_span_115) ?_ | refine rt_eq (q_X12_span_124) ?_ | refine rt_eq (q_X12_span_136) ?_ | refine rt_eq (q_X12_span_141) ?_ | refine rt_eq (q_X12_span_149) ?_)
    refine rt_bne (sp_manyIn ka_534 R1) ?_
    (first | refine rt_eq (q_X12_span_0) ?_ | refine rt_eq (q_X12_span_13) ?_ | refine rt_eq (q_X12_span_44) ?_ | refine rt_eq (q_X12_span_22) ?_ | refine rt_eq (q_X12_span_49) ?_ | refine rt_eq (q_X12_span_32) ?_ | refine rt_eq (q_X12_span_54) ?_ | refine rt_eq (q_X12_span_41) ?_ | refine rt_eq (q_X12_span_71) ?_ | refine rt_eq (q_X12_span_88) ?_ | refine rt_eq (q_X12_span_95) ?_ | refine rt_eq (q_X12_span_115) ?_ | refine rt_eq (q_X12_span_124) ?_ | refine rt_eq (q_X12_span_136) ?_ | refine rt_eq (q_X12_span_141) ?_ | refine rt_eq (q_X12_span_149) ?_)
    have tail : ∀ u7, Rt L X (runI (runM (d + 10)) iX12_span (115, [some (.ref 72), some (.int s), some (.int (nI many)), some (.int (nI hours)), some (.int (nI q)), some (.int (nI w)), some (.int (nI f)), u7, some (.int (nI z.2.1)), some (.int (nI z.2.2)), some (.int (nI j)), some (.int (nI y.1.2.1))], [.int (nI (Nat.min z.1 y.1.2.1))], mm L X I1 J1)) (some (.int (spA h nL cd q hours s n M f many w))) (fun I'' J' => Fr fYM I I'' ∧ J' = J1) := by
      intro u7
      (first | refine rt_eq (q_X12_span_0) ?_ | refine rt_eq (q_X12_span_13) ?_ | refine rt_eq (q_X12_span_44) ?_ | refine rt_eq (q_X12_span_22) ?_ | refine rt_eq (q_X12_span_49) ?_ | refine rt_eq (q_X12_span_32) ?_ | refine rt_eq (q_X12_span_54) ?_ | refine rt_eq (q_X12_span_41) ?_ | refine rt_eq (q_X12_span_71) ?_ | refine rt_eq (q_X12_span_88) ?_ | refine rt_eq (q_X12_span_95) ?_ | refine rt_eq (q_X12_span_115) ?_ | refine rt_eq (q_X12_span_124) ?_ | refine rt_eq (q_X12_span_136) ?_ | refine rt_eq (q_X12_span_141) ?_ | refine rt_eq (q_X12_span_149) ?_)
      refine rt_bne sp_more ?_
      rw [← mxI_alt, mx_n (by omega) (by omega)]
      (first | refine rt_eq (q_X12_span_0) ?_ | refine rt_eq (q_X12_span_13) ?_ | refine rt_eq (q_X12_span_44) ?_ | refine rt_eq (q_X12_span_22) ?_ | refine rt_eq (q_X12_span_49) ?_ | refine rt_eq (q_X12_span_32) ?_ | refine rt_eq (q_X12_span_54) ?_ | refine rt_eq (q_X12_span_41) ?_ | refine rt_eq (q_X12_span_71) ?_ | refine rt_eq (q_X12_span_88) ?_ | refine rt_eq (q_X12_span_95) ?_ | refine rt_eq (q_X12_span_115) ?_ | refine rt_eq (q_X12_span_124) ?_ | refine rt_eq (q_X12_span_136) ?_ | refine rt_eq (q_X12_span_141) ?_ | refine rt_eq (q_X12_span_149) ?_)
      refine rt_be (sp_outIn ka_534 S1.1.2.2.1 h5) ?_
      rw [f2]
      (first | refine rt_eq (q_X12_span_0) ?_ | refine rt_eq (q_X12_span_13) ?_ | refine rt_eq (q_X12_span_44) ?_ | refine rt_eq (q_X12_span_22) ?_ | refine rt_eq (q_X12_span_49) ?_ | refine rt_eq (q_X12_span_32) ?_ | refine rt_eq (q_X12_span_54) ?_ | refine rt_eq (q_X12_span_41) ?_ | refine rt_eq (q_X12_span_71) ?_ | refine rt_eq (q_X12_span_88) ?_ | refine rt_eq (q_X12_span_95) ?_ | refine rt_eq (q_X12_span_115) ?_ | refine rt_eq (q_X12_span_124) ?_ | refine rt_eq (q_X12_span_136) ?_ | refine rt_eq (q_X12_span_141) ?_ | refine rt_eq (q_X12_span_149) ?_)
      have hb : bitsN (outP y.1.2.2) (h 0 2) < 2 ^ 5 := Nat.lt_of_lt_of_le (bitsN_lt _) (Nat.pow_le_pow_right (by decide) h5)
      refine rt_bne (has_n (by omega) (by omega)) ?_
      (first | refine rt_eq (q_X12_span_0) ?_ | refine rt_eq (q_X12_span_13) ?_ | refine rt_eq (q_X12_span_44) ?_ | refine rt_eq (q_X12_span_22) ?_ | refine rt_eq (q_X12_span_49) ?_ | refine rt_eq (q_X12_span_32) ?_ | refine rt_eq (q_X12_span_54) ?_ | refine rt_eq (q_X12_span_41) ?_ | refine rt_eq (q_X12_span_71) ?_ | refine rt_eq (q_X12_span_88) ?_ | refine rt_eq (q_X12_span_95) ?_ | refine rt_eq (q_X12_span_115) ?_ | refine rt_eq (q_X12_span_124) ?_ | refine rt_eq (q_X12_span_136) ?_ | refine rt_eq (q_X12_span_141) ?_ | refine rt_eq (q_X12_span_149) ?_)
      have done : ∀ b, b = tb (bitsN (outP y.1.2.2) (h 0 2)) f → ∀ u9 u11, Rt L X (runI (runM (d + 10)) iX12_span (149, [some (.ref 72), some (.int s), some (.int (nI many)), some (.int (nI hours)), some (.int (nI q)), some (.int (nI w)), some (.int (nI f)), some (.int (nI (Nat.min z.1 y.1.2.1))), some (.int (nI (Nat.max z.2.1 y.1.2.1))), u9, some (.int (nI j)), u11], [.int (nI b), .int (nI z.2.2)], mm L X I1 J1)) (some (.int (spA h nL cd q hours s n M f many w))) (fun I'' J' => Fr fYM I I'' ∧ J' = J1) := by
        intro b hb2 u9 u11
        (first | refine rt_eq (q_X12_span_0) ?_ | refine rt_eq (q_X12_span_13) ?_ | refine rt_eq (q_X12_span_44) ?_ | refine rt_eq (q_X12_span_22) ?_ | refine rt_eq (q_X12_span_49) ?_ | refine rt_eq (q_X12_span_32) ?_ | refine rt_eq (q_X12_span_54) ?_ | refine rt_eq (q_X12_span_41) ?_ | refine rt_eq (q_X12_span_71) ?_ | refine rt_eq (q_X12_span_88) ?_ | refine rt_eq (q_X12_span_95) ?_ | refine rt_eq (q_X12_span_115) ?_ | refine rt_eq (q_X12_span_124) ?_ | refine rt_eq (q_X12_span_136) ?_ | refine rt_eq (q_X12_span_141) ?_ | refine rt_eq (q_X12_span_149) ?_)
        rw [nI_add, nI_add, hb2]
        exact ih I1 (Nat.min z.1 y.1.2.1, Nat.max z.2.1 y.1.2.1, z.2.2 + tb (bitsN (outP y.1.2.2) (h 0 2)) f) _ _ (by omega) (fr_tr hfr f1) hcp1 (Nat.le_trans (Nat.min_le_left _ _) z1) (Nat.max_le.mpr ⟨z2, y6⟩) (fun q => by omega) (fun _ => rfl) hmp he'
      by_cases t : (bitsN (outP y.1.2.2) (h 0 2)).testBit f = true
      · rw [t]
        refine rt_f (by decide) ?_
        exact done 1 (tb_test.mpr t).symm _ _
      · rw [Bool.not_eq_true] at t
        rw [t]
        refine rt_t bI_f ?_
        exact done 0 (tb_test0.mpr t).symm _ _
    rcases Nat.eq_zero_or_pos j with j0 | j0
    · obtain ⟨a1, a2⟩ := hz0 j0
      refine rt_t a1 ?_
      have em : Nat.min z.1 y.1.2.1 = y.1.2.1 := Nat.min_eq_right (by omega)
      rw [em] at tail
      exact tail _
    · have a1 := hz1 j0
      subst a1
      refine rt_f (nI_m1 _ (by omega)) ?_
      refine rt_bne sp_less ?_
      rw [← mnI_alt, mn_n (by omega) (by omega)]
      exact tail _
theorem c_span {s : Int32} (V : CS I h nL cd n N) (hm0 : 1 ≤ many) (hm : many ≤ 20) (hh : 1 ≤ hours) (hh2 : hours ≤ 96) (hq : q ≤ 16) (hw : w ≤ 2) (hf : f < h 0 2) : Rt L X (runM (d + 8) nX11_span [.ref 0, .int s, .int (nI many), .int (nI hours), .int (nI q), .int (nI w), .int (nI f)] (mm L X I J)) (some (.int (spA h nL cd q hours s n N f many w))) (fun I' _ => Fr fQC I I') := by
  have V' := V
  obtain ⟨ok, W, S, C, R, Z⟩ := V'
  have h5 := ok.2.2.1
  have cf := (in_np (x := nI f) (show h 0 2 ≤ 6 by omega)).mpr ⟨f, hf, rfl⟩
  have c1 : nI 1 ≤ nI many ∧ nI many ≤ nI 20 := ⟨(by (try simp (disch := omega) only [nI_leI, nI_ltI, nI_eq, nI_add, pk_mul, n_0add, Nat.zero_add, nI_clamp]) <;> omega), (by (try simp (disch := omega) only [nI_leI, nI_ltI, nI_eq, nI_add, pk_mul, n_0add, Nat.zero_add, nI_clamp]) <;> omega)⟩
  have c2 : nI 1 ≤ nI hours ∧ nI hours ≤ nI 96 := ⟨(by (try simp (disch := omega) only [nI_leI, nI_ltI, nI_eq, nI_add, pk_mul, n_0add, Nat.zero_add, nI_clamp]) <;> omega), (by (try simp (disch := omega) only [nI_leI, nI_ltI, nI_eq, nI_add, pk_mul, n_0add, Nat.zero_add, nI_clamp]) <;> omega)⟩
  have c3 : nI 0 ≤ nI q ∧ nI q ≤ nI 16 := ⟨(by (try simp (disch := omega) only [nI_leI, nI_ltI, nI_eq, nI_add, pk_mul, n_0add, Nat.zero_add, nI_clamp]) <;> omega), (by (try simp (disch := omega) only [nI_leI, nI_ltI, nI_eq, nI_add, pk_mul, n_0add, Nat.zero_add, nI_clamp]) <;> omega)⟩
  have c4 : nI 0 ≤ nI w ∧ nI w ≤ nI 2 := ⟨(by (try simp (disch := omega) only [nI_leI, nI_ltI, nI_eq, nI_add, pk_mul, n_0add, Nat.zero_add, nI_clamp]) <;> omega), (by (try simp (disch := omega) only [nI_leI, nI_ltI, nI_eq, nI_add, pk_mul, n_0add, Nat.zero_add, nI_clamp]) <;> omega)⟩
  have KF := S.1.2.2.1
  rw [e_X11_span]
  (first | refine rt_eq (q_X11_span_0) ?_ | refine rt_eq (q_X11_span_8) ?_ | refine rt_eq (q_X11_span_36) ?_ | refine rt_eq (q_X11_span_18) ?_ | refine rt_eq (q_X11_span_37) ?_ | refine rt_eq (q_X11_span_29) ?_ | refine rt_eq (q_X11_span_40) ?_ | refine rt_eq (q_X11_span_48) ?_ | refine rt_eq (q_X11_span_73) ?_ | refine rt_eq (q_X11_span_66) ?_ | refine rt_eq (q_X11_span_74) ?_ | refine rt_eq (q_X11_span_77) ?_ | refine rt_eq (q_X11_span_90) ?_ | refine rt_eq (q_X11_span_114) ?_ | refine rt_eq (q_X11_span_160) ?_ | refine rt_eq (q_X11_span_165) ?_)
  refine rt_bne (wi_t c1.1 c1.2) ?_
  (first | refine rt_eq (q_X11_span_0) ?_ | refine rt_eq (q_X11_span_8) ?_ | refine rt_eq (q_X11_span_36) ?_ | refine rt_eq (q_X11_span_18) ?_ | refine rt_eq (q_X11_span_37) ?_ | refine rt_eq (q_X11_span_29) ?_ | refine rt_eq (q_X11_span_40) ?_ | refine rt_eq (q_X11_span_48) ?_ | refine rt_eq (q_X11_span_73) ?_ | refine rt_eq (q_X11_span_66) ?_ | refine rt_eq (q_X11_span_74) ?_ | refine rt_eq (q_X11_span_77) ?_ | refine rt_eq (q_X11_span_90) ?_ | refine rt_eq (q_X11_span_114) ?_ | refine rt_eq (q_X11_span_160) ?_ | refine rt_eq (q_X11_span_165) ?_)
  repeat (first | refine rt_t (by decide) ?_ | refine rt_f (by decide) ?_)
  refine rt_bne (wi_t c2.1 c2.2) ?_
  (first | refine rt_eq (q_X11_span_0) ?_ | refine rt_eq (q_X11_span_8) ?_ | refine rt_eq (q_X11_span_36) ?_ | refine rt_eq (q_X11_span_18) ?_ | refine rt_eq (q_X11_span_37) ?_ | refine rt_eq (q_X11_span_29) ?_ | refine rt_eq (q_X11_span_40) ?_ | refine rt_eq (q_X11_span_48) ?_ | refine rt_eq (q_X11_span_73) ?_ | refine rt_eq (q_X11_span_66) ?_ | refine rt_eq (q_X11_span_74) ?_ | refine rt_eq (q_X11_span_77) ?_ | refine rt_eq (q_X11_span_90) ?_ | refine rt_eq (q_X11_span_114) ?_ | refine rt_eq (q_X11_span_160) ?_ | refine rt_eq (q_X11_span_165) ?_)
  repeat (first | refine rt_t (by decide) ?_ | refine rt_f (by decide) ?_)
  refine rt_bne (wi_t c3.1 c3.2) ?_
  (first | refine rt_eq (q_X11_span_0) ?_ | refine rt_eq (q_X11_span_8) ?_ | refine rt_eq (q_X11_span_36) ?_ | refine rt_eq (q_X11_span_18) ?_ | refine rt_eq (q_X11_span_37) ?_ | refine rt_eq (q_X11_span_29) ?_ | refine rt_eq (q_X11_span_40) ?_ | refine rt_eq (q_X11_span_48) ?_ | refine rt_eq (q_X11_span_73) ?_ | refine rt_eq (q_X11_span_66) ?_ | refine rt_eq (q_X11_span_74) ?_ | refine rt_eq (q_X11_span_77) ?_ | refine rt_eq (q_X11_span_90) ?_ | refine rt_eq (q_X11_span_114) ?_ | refine rt_eq (q_X11_span_160) ?_ | refine rt_eq (q_X11_span_165) ?_)
  repeat (first | refine rt_t (by decide) ?_ | refine rt_f (by decide) ?_)
  (first | refine rt_eq (q_X11_span_0) ?_ | refine rt_eq (q_X11_span_8) ?_ | refine rt_eq (q_X11_span_36) ?_ | refine rt_eq (q_X11_span_18) ?_ | refine rt_eq (q_X11_span_37) ?_ | refine rt_eq (q_X11_span_29) ?_ | refine rt_eq (q_X11_span_40) ?_ | refine rt_eq (q_X11_span_48) ?_ | refine rt_eq (q_X11_span_73) ?_ | refine rt_eq (q_X11_span_66) ?_ | refine rt_eq (q_X11_span_74) ?_ | refine rt_eq (q_X11_span_77) ?_ | refine rt_eq (q_X11_span_90) ?_ | refine rt_eq (q_X11_span_114) ?_ | refine rt_eq (q_X11_span_160) ?_ | refine rt_eq (q_X11_span_165) ?_)
  refine rt_be ex_t ?_
  (first | refine rt_eq (q_X11_span_0) ?_ | refine rt_eq (q_X11_span_8) ?_ | refine rt_eq (q_X11_span_36) ?_ | refine rt_eq (q_X11_span_18) ?_ | refine rt_eq (q_X11_span_37) ?_ | refine rt_eq (q_X11_span_29) ?_ | refine rt_eq (q_X11_span_40) ?_ | refine rt_eq (q_X11_span_48) ?_ | refine rt_eq (q_X11_span_73) ?_ | refine rt_eq (q_X11_span_66) ?_ | refine rt_eq (q_X11_span_74) ?_ | refine rt_eq (q_X11_span_77) ?_ | refine rt_eq (q_X11_span_90) ?_ | refine rt_eq (q_X11_span_114) ?_ | refine rt_eq (q_X11_span_160) ?_ | refine rt_eq (q_X11_span_165) ?_)
  refine rt_bne (wi_t c4.1 c4.2) ?_
  (first | refine rt_eq (q_X11_span_0) ?_ | refine rt_eq (q_X11_span_8) ?_ | refine rt_eq (q_X11_span_36) ?_ | refine rt_eq (q_X11_span_18) ?_ | refine rt_eq (q_X11_span_37) ?_ | refine rt_eq (q_X11_span_29) ?_ | refine rt_eq (q_X11_span_40) ?_ | refine rt_eq (q_X11_span_48) ?_ | refine rt_eq (q_X11_span_73) ?_ | refine rt_eq (q_X11_span_66) ?_ | refine rt_eq (q_X11_span_74) ?_ | refine rt_eq (q_X11_span_77) ?_ | refine rt_eq (q_X11_span_90) ?_ | refine rt_eq (q_X11_span_114) ?_ | refine rt_eq (q_X11_span_160) ?_ | refine rt_eq (q_X11_span_165) ?_)
  repeat (first | refine rt_t (by decide) ?_ | refine rt_f (by decide) ?_)
  rw [KF]
  refine rt_bne (wi_t cf.1 cf.2) ?_
  (first | refine rt_eq (q_X11_span_0) ?_ | refine rt_eq (q_X11_span_8) ?_ | refine rt_eq (q_X11_span_36) ?_ | refine rt_eq (q_X11_span_18) ?_ | refine rt_eq (q_X11_span_37) ?_ | refine rt_eq (q_X11_span_29) ?_ | refine rt_eq (q_X11_span_40) ?_ | refine rt_eq (q_X11_span_48) ?_ | refine rt_eq (q_X11_span_73) ?_ | refine rt_eq (q_X11_span_66) ?_ | refine rt_eq (q_X11_span_74) ?_ | refine rt_eq (q_X11_span_77) ?_ | refine rt_eq (q_X11_span_90) ?_ | refine rt_eq (q_X11_span_114) ?_ | refine rt_eq (q_X11_span_160) ?_ | refine rt_eq (q_X11_span_165) ?_)
  repeat (first | refine rt_t (by decide) ?_ | refine rt_f (by decide) ?_)
  (first | refine rt_eq (q_X11_span_0) ?_ | refine rt_eq (q_X11_span_8) ?_ | refine rt_eq (q_X11_span_36) ?_ | refine rt_eq (q_X11_span_18) ?_ | refine rt_eq (q_X11_span_37) ?_ | refine rt_eq (q_X11_span_29) ?_ | refine rt_eq (q_X11_span_40) ?_ | refine rt_eq (q_X11_span_48) ?_ | refine rt_eq (q_X11_span_73) ?_ | refine rt_eq (q_X11_span_66) ?_ | refine rt_eq (q_X11_span_74) ?_ | refine rt_eq (q_X11_span_77) ?_ | refine rt_eq (q_X11_span_90) ?_ | refine rt_eq (q_X11_span_114) ?_ | refine rt_eq (q_X11_span_160) ?_ | refine rt_eq (q_X11_span_165) ?_)
  refine rt_be ex_t ?_
  (first | refine rt_eq (q_X11_span_0) ?_ | refine rt_eq (q_X11_span_8) ?_ | refine rt_eq (q_X11_span_36) ?_ | refine rt_eq (q_X11_span_18) ?_ | refine rt_eq (q_X11_span_37) ?_ | refine rt_eq (q_X11_span_29) ?_ | refine rt_eq (q_X11_span_40) ?_ | refine rt_eq (q_X11_span_48) ?_ | refine rt_eq (q_X11_span_73) ?_ | refine rt_eq (q_X11_span_66) ?_ | refine rt_eq (q_X11_span_74) ?_ | refine rt_eq (q_X11_span_77) ?_ | refine rt_eq (q_X11_span_90) ?_ | refine rt_eq (q_X11_span_114) ?_ | refine rt_eq (q_X11_span_160) ?_ | refine rt_eq (q_X11_span_165) ?_)
  exact rt_mono (lp_spC V hh2 hm hq hw hf many 0 I (6, 0, 0) (by omega) fr_rfl (by decide) (by decide) rfl) (fun I' J' f1 => fr_mono f1 fq_Y)
theorem m_span {s : Int32} {M : Nt} (V : MS I h nL cd n N) (hM : M = cpN I 533 534) (hm0 : 1 ≤ many) (hm : many ≤ 20) (hh : 1 ≤ hours) (hh2 : hours ≤ 96) (hq : q ≤ 16) (hw : w ≤ 2) (hf : f < h 0 2) : Rt L X (runM (d + 11) nX12_span [.ref 72, .int s, .int (nI many), .int (nI hours), .int (nI q), .int (nI w), .int (nI f)] (mm L X I J)) (some (.int (spA h nL cd q hours s n M f many w))) (fun I' J' => (Fr fQM I I' ∧ I' 72 0 = nI 0) ∧ J' = J) := by
  rw [e_X12_span]
  (first | refine rt_eq (q_X12_span_0) ?_ | refine rt_eq (q_X12_span_13) ?_ | refine rt_eq (q_X12_span_44) ?_ | refine rt_eq (q_X12_span_22) ?_ | refine rt_eq (q_X12_span_49) ?_ | refine rt_eq (q_X12_span_32) ?_ | refine rt_eq (q_X12_span_54) ?_ | refine rt_eq (q_X12_span_41) ?_ | refine rt_eq (q_X12_span_71) ?_ | refine rt_eq (q_X12_span_88) ?_ | refine rt_eq (q_X12_span_95) ?_ | refine rt_eq (q_X12_span_115) ?_ | refine rt_eq (q_X12_span_124) ?_ | refine rt_eq (q_X12_span_136) ?_ | refine rt_eq (q_X12_span_141) ?_ | refine rt_eq (q_X12_span_149) ?_)
  have V0 := MS0 V; generalize hI0 : up2 I 72 0 (nI 0) = I0 at V0 ⊢; have f0 : Fr fQM I I0 := by rw [← hI0]; exact fr_up fr_rfl rfl
  have t0 : I0 72 0 = nI 0 := by rw [← hI0, up2_s]
  have hM0 : M = cpN I0 533 534 := by
    rw [hM, ← hI0]
    unfold cpN
    rw [up2_n (by decide), up2_n (by decide)]
  clear hI0
  have V1 := V0
  obtain ⟨ok, W, S, e, R, Z⟩ := V1
  have h5 := ok.2.2.1
  refine rt_bne (in_t (by (try simp (disch := omega) only [nI_leI, nI_ltI, nI_eq, nI_add, pk_mul, n_0add, Nat.zero_add, nI_clamp]) <;> omega) (by (try simp (disch := omega) only [nI_leI, nI_ltI, nI_eq, nI_add, pk_mul, n_0add, Nat.zero_add, nI_clamp]) <;> omega)) ?_
  (first | refine rt_eq (q_X12_span_0) ?_ | refine rt_eq (q_X12_span_13) ?_ | refine rt_eq (q_X12_span_44) ?_ | refine rt_eq (q_X12_span_22) ?_ | refine rt_eq (q_X12_span_49) ?_ | refine rt_eq (q_X12_span_32) ?_ | refine rt_eq (q_X12_span_54) ?_ | refine rt_eq (q_X12_span_41) ?_ | refine rt_eq (q_X12_span_71) ?_ | refine rt_eq (q_X12_span_88) ?_ | refine rt_eq (q_X12_span_95) ?_ | refine rt_eq (q_X12_span_115) ?_ | refine rt_eq (q_X12_span_124) ?_ | refine rt_eq (q_X12_span_136) ?_ | refine rt_eq (q_X12_span_141) ?_ | refine rt_eq (q_X12_span_149) ?_)
  repeat (first | refine rt_t (by decide) ?_ | refine rt_f (by decide) ?_)
  refine rt_bne (yr_t hh hh2 hq) ?_
  (first | refine rt_eq (q_X12_span_0) ?_ | refine rt_eq (q_X12_span_13) ?_ | refine rt_eq (q_X12_span_44) ?_ | refine rt_eq (q_X12_span_22) ?_ | refine rt_eq (q_X12_span_49) ?_ | refine rt_eq (q_X12_span_32) ?_ | refine rt_eq (q_X12_span_54) ?_ | refine rt_eq (q_X12_span_41) ?_ | refine rt_eq (q_X12_span_71) ?_ | refine rt_eq (q_X12_span_88) ?_ | refine rt_eq (q_X12_span_95) ?_ | refine rt_eq (q_X12_span_115) ?_ | refine rt_eq (q_X12_span_124) ?_ | refine rt_eq (q_X12_span_136) ?_ | refine rt_eq (q_X12_span_141) ?_ | refine rt_eq (q_X12_span_149) ?_)
  repeat (first | refine rt_t (by decide) ?_ | refine rt_f (by decide) ?_)
  refine rt_bne (in_t (by (try simp (disch := omega) only [nI_leI, nI_ltI, nI_eq, nI_add, pk_mul, n_0add, Nat.zero_add, nI_clamp]) <;> omega) (by (try simp (disch := omega) only [nI_leI, nI_ltI, nI_eq, nI_add, pk_mul, n_0add, Nat.zero_add, nI_clamp]) <;> omega)) ?_
  (first | refine rt_eq (q_X12_span_0) ?_ | refine rt_eq (q_X12_span_13) ?_ | refine rt_eq (q_X12_span_44) ?_ | refine rt_eq (q_X12_span_22) ?_ | refine rt_eq (q_X12_span_49) ?_ | refine rt_eq (q_X12_span_32) ?_ | refine rt_eq (q_X12_span_54) ?_ | refine rt_eq (q_X12_span_41) ?_ | refine rt_eq (q_X12_span_71) ?_ | refine rt_eq (q_X12_span_88) ?_ | refine rt_eq (q_X12_span_95) ?_ | refine rt_eq (q_X12_span_115) ?_ | refine rt_eq (q_X12_span_124) ?_ | refine rt_eq (q_X12_span_136) ?_ | refine rt_eq (q_X12_span_141) ?_ | refine rt_eq (q_X12_span_149) ?_)
  repeat (first | refine rt_t (by decide) ?_ | refine rt_f (by decide) ?_)
  refine rt_be (if_t S.1.2.2.1 (by omega) hf) ?_
  (first | refine rt_eq (q_X12_span_0) ?_ | refine rt_eq (q_X12_span_13) ?_ | refine rt_eq (q_X12_span_44) ?_ | refine rt_eq (q_X12_span_22) ?_ | refine rt_eq (q_X12_span_49) ?_ | refine rt_eq (q_X12_span_32) ?_ | refine rt_eq (q_X12_span_54) ?_ | refine rt_eq (q_X12_span_41) ?_ | refine rt_eq (q_X12_span_71) ?_ | refine rt_eq (q_X12_span_88) ?_ | refine rt_eq (q_X12_span_95) ?_ | refine rt_eq (q_X12_span_115) ?_ | refine rt_eq (q_X12_span_124) ?_ | refine rt_eq (q_X12_span_136) ?_ | refine rt_eq (q_X12_span_141) ?_ | refine rt_eq (q_X12_span_149) ?_)
  repeat (first | refine rt_t (by decide) ?_ | refine rt_f (by decide) ?_)
  (first | refine rt_eq (q_X12_span_0) ?_ | refine rt_eq (q_X12_span_13) ?_ | refine rt_eq (q_X12_span_44) ?_ | refine rt_eq (q_X12_span_22) ?_ | refine rt_eq (q_X12_span_49) ?_ | refine rt_eq (q_X12_span_32) ?_ | refine rt_eq (q_X12_span_54) ?_ | refine rt_eq (q_X12_span_41) ?_ | refine rt_eq (q_X12_span_71) ?_ | refine rt_eq (q_X12_span_88) ?_ | refine rt_eq (q_X12_span_95) ?_ | refine rt_eq (q_X12_span_115) ?_ | refine rt_eq (q_X12_span_124) ?_ | refine rt_eq (q_X12_span_136) ?_ | refine rt_eq (q_X12_span_141) ?_ | refine rt_eq (q_X12_span_149) ?_)
  refine rt_be (bad_f t0) ?_
  (first | refine rt_eq (q_X12_span_0) ?_ | refine rt_eq (q_X12_span_13) ?_ | refine rt_eq (q_X12_span_44) ?_ | refine rt_eq (q_X12_span_22) ?_ | refine rt_eq (q_X12_span_49) ?_ | refine rt_eq (q_X12_span_32) ?_ | refine rt_eq (q_X12_span_54) ?_ | refine rt_eq (q_X12_span_41) ?_ | refine rt_eq (q_X12_span_71) ?_ | refine rt_eq (q_X12_span_88) ?_ | refine rt_eq (q_X12_span_95) ?_ | refine rt_eq (q_X12_span_115) ?_ | refine rt_eq (q_X12_span_124) ?_ | refine rt_eq (q_X12_span_136) ?_ | refine rt_eq (q_X12_span_141) ?_ | refine rt_eq (q_X12_span_149) ?_)
  repeat (first | refine rt_t (by decide) ?_ | refine rt_f (by decide) ?_)
  refine rt_mono (lp_spM V0 hM0 hh2 hm hq hw hf many 0 I0 (6, 0, 0) _ _ (by omega) fr_rfl hM0.symm (by decide) (by decide) (fun _ => ⟨rfl, rfl⟩) (fun q => by omega) (by omega) rfl) ?_
  rintro I1 J1 ⟨f1, rfl⟩
  exact ⟨⟨fr_tr f0 (fr_mono f1 fm_Y), (f1 72 0 rfl).trans t0⟩, rfl⟩
theorem b_span {nf : Nat} (KF : I 76 2 = nI nf) (h6 : nf ≤ 6) (hx : ¬ ((nI 1 ≤ x2 ∧ x2 ≤ nI 20) ∧ (nI 1 ≤ x3 ∧ x3 ≤ nI 96) ∧ (nI 0 ≤ x4 ∧ x4 ≤ nI 16) ∧ (nI 0 ≤ x5 ∧ x5 ≤ nI 2) ∧ (nI 0 ≤ x6 ∧ x6 ≤ nI nf - nI 1))) : runM (d + 3) nX12_span [.ref 72, .int x1, .int x2, .int x3, .int x4, .int x5, .int x6] (mm L X I J) = rI (nI 0) (mm L X (bdM I 1 1) J) := by
  have tail : ∀ u7 u8 u9 u10 u11, runI (runM (d + 2)) iX12_span (44, [some (.ref 72), some (.int x1), some (.int x2), some (.int x3), some (.int x4), some (.int x5), some (.int x6), u7, u8, u9, u10, u11], [.ref 72], mm L X (up2 I 72 0 (nI 0)) J) = rI (nI 0) (mm L X (bdM I 1 1) J) := by
    intro u7 u8 u9 u10 u11
    (first | refine Eq.trans (q_X12_span_0) ?_ | refine Eq.trans (q_X12_span_13) ?_ | refine Eq.trans (q_X12_span_44) ?_ | refine Eq.trans (q_X12_span_22) ?_ | refine Eq.trans (q_X12_span_49) ?_ | refine Eq.trans (q_X12_span_32) ?_ | refine Eq.trans (q_X12_span_54) ?_ | refine Eq.trans (q_X12_span_41) ?_ | refine Eq.trans (q_X12_span_71) ?_ | refine Eq.trans (q_X12_span_88) ?_ | refine Eq.trans (q_X12_span_95) ?_ | refine Eq.trans (q_X12_span_115) ?_ | refine Eq.trans (q_X12_span_124) ?_ | refine Eq.trans (q_X12_span_136) ?_ | refine Eq.trans (q_X12_span_141) ?_ | refine Eq.trans (q_X12_span_149) ?_)
    (first | refine Eq.trans (q_X12_span_0) ?_ | refine Eq.trans (q_X12_span_13) ?_ | refine Eq.trans (q_X12_span_44) ?_ | refine Eq.trans (q_X12_span_22) ?_ | refine Eq.trans (q_X12_span_49) ?_ | refine Eq.trans (q_X12_span_32) ?_ | refine Eq.trans (q_X12_span_54) ?_ | refine Eq.trans (q_X12_span_41) ?_ | refine Eq.trans (q_X12_span_71) ?_ | refine Eq.trans (q_X12_span_88) ?_ | refine Eq.trans (q_X12_span_95) ?_ | refine Eq.trans (q_X12_span_115) ?_ | refine Eq.trans (q_X12_span_124) ?_ | refine Eq.trans (q_X12_span_136) ?_ | refine Eq.trans (q_X12_span_141) ?_ | refine Eq.trans (q_X12_span_149) ?_)
    refine (bnd_e (bad_t (by decide) (by decide) (by decide))).trans ?_
    (first | refine Eq.trans (q_X12_span_0) ?_ | refine Eq.trans (q_X12_span_13) ?_ | refine Eq.trans (q_X12_span_44) ?_ | refine Eq.trans (q_X12_span_22) ?_ | refine Eq.trans (q_X12_span_49) ?_ | refine Eq.trans (q_X12_span_32) ?_ | refine Eq.trans (q_X12_span_54) ?_ | refine Eq.trans (q_X12_span_41) ?_ | refine Eq.trans (q_X12_span_71) ?_ | refine Eq.trans (q_X12_span_88) ?_ | refine Eq.trans (q_X12_span_95) ?_ | refine Eq.trans (q_X12_span_115) ?_ | refine Eq.trans (q_X12_span_124) ?_ | refine Eq.trans (q_X12_span_136) ?_ | refine Eq.trans (q_X12_span_141) ?_ | refine Eq.trans (q_X12_span_149) ?_)
    rw [if_neg (by decide)]
  rw [e_X12_span]
  (first | refine Eq.trans (q_X12_span_0) ?_ | refine Eq.trans (q_X12_span_13) ?_ | refine Eq.trans (q_X12_span_44) ?_ | refine Eq.trans (q_X12_span_22) ?_ | refine Eq.trans (q_X12_span_49) ?_ | refine Eq.trans (q_X12_span_32) ?_ | refine Eq.trans (q_X12_span_54) ?_ | refine Eq.trans (q_X12_span_41) ?_ | refine Eq.trans (q_X12_span_71) ?_ | refine Eq.trans (q_X12_span_88) ?_ | refine Eq.trans (q_X12_span_95) ?_ | refine Eq.trans (q_X12_span_115) ?_ | refine Eq.trans (q_X12_span_124) ?_ | refine Eq.trans (q_X12_span_136) ?_ | refine Eq.trans (q_X12_span_141) ?_ | refine Eq.trans (q_X12_span_149) ?_)
  rcases Classical.em (¬ (nI 1 ≤ x2 ∧ x2 ≤ nI 20)) with c1 | c1
  · refine (bndN_e (in_f c1)).trans ?_
    (first | refine Eq.trans (q_X12_span_0) ?_ | refine Eq.trans (q_X12_span_13) ?_ | refine Eq.trans (q_X12_span_44) ?_ | refine Eq.trans (q_X12_span_22) ?_ | refine Eq.trans (q_X12_span_49) ?_ | refine Eq.trans (q_X12_span_32) ?_ | refine Eq.trans (q_X12_span_54) ?_ | refine Eq.trans (q_X12_span_41) ?_ | refine Eq.trans (q_X12_span_71) ?_ | refine Eq.trans (q_X12_span_88) ?_ | refine Eq.trans (q_X12_span_95) ?_ | refine Eq.trans (q_X12_span_115) ?_ | refine Eq.trans (q_X12_span_124) ?_ | refine Eq.trans (q_X12_span_136) ?_ | refine Eq.trans (q_X12_span_141) ?_ | refine Eq.trans (q_X12_span_149) ?_)
    rw [if_pos rfl]
    exact tail _ _ _ _ _
  replace c1 := Classical.not_not.mp c1
  refine (bndN_e (in_t c1.1 c1.2)).trans ?_
  (first | refine Eq.trans (q_X12_span_0) ?_ | refine Eq.trans (q_X12_span_13) ?_ | refine Eq.trans (q_X12_span_44) ?_ | refine Eq.trans (q_X12_span_22) ?_ | refine Eq.trans (q_X12_span_49) ?_ | refine Eq.trans (q_X12_span_32) ?_ | refine Eq.trans (q_X12_span_54) ?_ | refine Eq.trans (q_X12_span_41) ?_ | refine Eq.trans (q_X12_span_71) ?_ | refine Eq.trans (q_X12_span_88) ?_ | refine Eq.trans (q_X12_span_95) ?_ | refine Eq.trans (q_X12_span_115) ?_ | refine Eq.trans (q_X12_span_124) ?_ | refine Eq.trans (q_X12_span_136) ?_ | refine Eq.trans (q_X12_span_141) ?_ | refine Eq.trans (q_X12_span_149) ?_)
  rw [if_neg (by decide)]
  rcases Classical.em (¬ ((nI 1 ≤ x3 ∧ x3 ≤ nI 96) ∧ (nI 0 ≤ x4 ∧ x4 ≤ nI 16))) with c2 | c2
  · refine (bndN_e (yr_f c2)).trans ?_
    (first | refine Eq.trans (q_X12_span_0) ?_ | refine Eq.trans (q_X12_span_13) ?_ | refine Eq.trans (q_X12_span_44) ?_ | refine Eq.trans (q_X12_span_22) ?_ | refine Eq.trans (q_X12_span_49) ?_ | refine Eq.trans (q_X12_span_32) ?_ | refine Eq.trans (q_X12_span_54) ?_ | refine Eq.trans (q_X12_span_41) ?_ | refine Eq.trans (q_X12_span_71) ?_ | refine Eq.trans (q_X12_span_88) ?_ | refine Eq.trans (q_X12_span_95) ?_ | refine Eq.trans (q_X12_span_115) ?_ | refine Eq.trans (q_X12_span_124) ?_ | refine Eq.trans (q_X12_span_136) ?_ | refine Eq.trans (q_X12_span_141) ?_ | refine Eq.trans (q_X12_span_149) ?_)
    rw [if_pos rfl]
    exact tail _ _ _ _ _
  replace c2 := Classical.not_not.mp c2
  refine (bndN_e (yr_t0 c2.1 c2.2)).trans ?_
  (first | refine Eq.trans (q_X12_span_0) ?_ | refine Eq.trans (q_X12_span_13) ?_ | refine Eq.trans (q_X12_span_44) ?_ | refine Eq.trans (q_X12_span_22) ?_ | refine Eq.trans (q_X12_span_49) ?_ | refine Eq.trans (q_X12_span_32) ?_ | refine Eq.trans (q_X12_span_54) ?_ | refine Eq.trans (q_X12_span_41) ?_ | refine Eq.trans (q_X12_span_71) ?_ | refine Eq.trans (q_X12_span_88) ?_ | refine Eq.trans (q_X12_span_95) ?_ | refine Eq.trans (q_X12_span_115) ?_ | refine Eq.trans (q_X12_span_124) ?_ | refine Eq.trans (q_X12_span_136) ?_ | refine Eq.trans (q_X12_span_141) ?_ | refine Eq.trans (q_X12_span_149) ?_)
  rw [if_neg (by decide)]
  rcases Classical.em (¬ (nI 0 ≤ x5 ∧ x5 ≤ nI 2)) with c4 | c4
  · refine (bndN_e (in_f c4)).trans ?_
    (first | refine Eq.trans (q_X12_span_0) ?_ | refine Eq.trans (q_X12_span_13) ?_ | refine Eq.trans (q_X12_span_44) ?_ | refine Eq.trans (q_X12_span_22) ?_ | refine Eq.trans (q_X12_span_49) ?_ | refine Eq.trans (q_X12_span_32) ?_ | refine Eq.trans (q_X12_span_54) ?_ | refine Eq.trans (q_X12_span_41) ?_ | refine Eq.trans (q_X12_span_71) ?_ | refine Eq.trans (q_X12_span_88) ?_ | refine Eq.trans (q_X12_span_95) ?_ | refine Eq.trans (q_X12_span_115) ?_ | refine Eq.trans (q_X12_span_124) ?_ | refine Eq.trans (q_X12_span_136) ?_ | refine Eq.trans (q_X12_span_141) ?_ | refine Eq.trans (q_X12_span_149) ?_)
    rw [if_pos rfl]
    exact tail _ _ _ _ _
  replace c4 := Classical.not_not.mp c4
  refine (bndN_e (in_t c4.1 c4.2)).trans ?_
  (first | refine Eq.trans (q_X12_span_0) ?_ | refine Eq.trans (q_X12_span_13) ?_ | refine Eq.trans (q_X12_span_44) ?_ | refine Eq.trans (q_X12_span_22) ?_ | refine Eq.trans (q_X12_span_49) ?_ | refine Eq.trans (q_X12_span_32) ?_ | refine Eq.trans (q_X12_span_54) ?_ | refine Eq.trans (q_X12_span_41) ?_ | refine Eq.trans (q_X12_span_71) ?_ | refine Eq.trans (q_X12_span_88) ?_ | refine Eq.trans (q_X12_span_95) ?_ | refine Eq.trans (q_X12_span_115) ?_ | refine Eq.trans (q_X12_span_124) ?_ | refine Eq.trans (q_X12_span_136) ?_ | refine Eq.trans (q_X12_span_141) ?_ | refine Eq.trans (q_X12_span_149) ?_)
  rw [if_neg (by decide)]
  refine (bnd_e (if_f (by rw [up2_n (by decide)]; exact KF) h6 (fun q => hx ⟨c1, c2.1, c2.2, c4, (in_np h6).mpr q⟩))).trans ?_
  (first | refine Eq.trans (q_X12_span_0) ?_ | refine Eq.trans (q_X12_span_13) ?_ | refine Eq.trans (q_X12_span_44) ?_ | refine Eq.trans (q_X12_span_22) ?_ | refine Eq.trans (q_X12_span_49) ?_ | refine Eq.trans (q_X12_span_32) ?_ | refine Eq.trans (q_X12_span_54) ?_ | refine Eq.trans (q_X12_span_41) ?_ | refine Eq.trans (q_X12_span_71) ?_ | refine Eq.trans (q_X12_span_88) ?_ | refine Eq.trans (q_X12_span_95) ?_ | refine Eq.trans (q_X12_span_115) ?_ | refine Eq.trans (q_X12_span_124) ?_ | refine Eq.trans (q_X12_span_136) ?_ | refine Eq.trans (q_X12_span_141) ?_ | refine Eq.trans (q_X12_span_149) ?_)
  rw [if_pos rfl]
  exact tail _ _ _ _ _
theorem x_span {nf : Nat} (KF : I 3 2 = nI nf) (hx : ¬ ((nI 1 ≤ x2 ∧ x2 ≤ nI 20) ∧ (nI 1 ≤ x3 ∧ x3 ≤ nI 96) ∧ (nI 0 ≤ x4 ∧ x4 ≤ nI 16) ∧ (nI 0 ≤ x5 ∧ x5 ≤ nI 2) ∧ (nI 0 ≤ x6 ∧ x6 ≤ nI nf - nI 1))) : runM (d + 2) nX11_span [.ref 0, .int x1, .int x2, .int x3, .int x4, .int x5, .int x6] (mm L X I J) = some (.inr 1, mm L (X + 1) (ex1 I) J) := by
  have tail36 : ∀ (u0 u1 u2 u3 : Option Value), runI (runM (d + 1)) iX11_span (36, [some (.ref 0), some (.int x1), some (.int x2), some (.int x3), some (.int x4), some (.int x5), some (.int x6), u0, u1, u2, u3], [.ref 0], mm L X I J) = some (.inr 1, mm L (X + 1) (ex1 I) J) := by
    intro u0 u1 u2 u3
    (first | refine Eq.trans (q_X11_span_0) ?_ | refine Eq.trans (q_X11_span_8) ?_ | refine Eq.trans (q_X11_span_36) ?_ | refine Eq.trans (q_X11_span_18) ?_ | refine Eq.trans (q_X11_span_37) ?_ | refine Eq.trans (q_X11_span_29) ?_ | refine Eq.trans (q_X11_span_40) ?_ | refine Eq.trans (q_X11_span_48) ?_ | refine Eq.trans (q_X11_span_73) ?_ | refine Eq.trans (q_X11_span_66) ?_ | refine Eq.trans (q_X11_span_74) ?_ | refine Eq.trans (q_X11_span_77) ?_ | refine Eq.trans (q_X11_span_90) ?_ | refine Eq.trans (q_X11_span_114) ?_ | refine Eq.trans (q_X11_span_160) ?_ | refine Eq.trans (q_X11_span_165) ?_)
    (first | refine Eq.trans (q_X11_span_0) ?_ | refine Eq.trans (q_X11_span_8) ?_ | refine Eq.trans (q_X11_span_36) ?_ | refine Eq.trans (q_X11_span_18) ?_ | refine Eq.trans (q_X11_span_37) ?_ | refine Eq.trans (q_X11_span_29) ?_ | refine Eq.trans (q_X11_span_40) ?_ | refine Eq.trans (q_X11_span_48) ?_ | refine Eq.trans (q_X11_span_73) ?_ | refine Eq.trans (q_X11_span_66) ?_ | refine Eq.trans (q_X11_span_74) ?_ | refine Eq.trans (q_X11_span_77) ?_ | refine Eq.trans (q_X11_span_90) ?_ | refine Eq.trans (q_X11_span_114) ?_ | refine Eq.trans (q_X11_span_160) ?_ | refine Eq.trans (q_X11_span_165) ?_)
    exact bnd_x ex_f
  have tail73 : ∀ (u0 u1 u2 u3 : Option Value), runI (runM (d + 1)) iX11_span (73, [some (.ref 0), some (.int x1), some (.int x2), some (.int x3), some (.int x4), some (.int x5), some (.int x6), u0, u1, u2, u3], [.ref 0], mm L X I J) = some (.inr 1, mm L (X + 1) (ex1 I) J) := by
    intro u0 u1 u2 u3
    (first | refine Eq.trans (q_X11_span_0) ?_ | refine Eq.trans (q_X11_span_8) ?_ | refine Eq.trans (q_X11_span_36) ?_ | refine Eq.trans (q_X11_span_18) ?_ | refine Eq.trans (q_X11_span_37) ?_ | refine Eq.trans (q_X11_span_29) ?_ | refine Eq.trans (q_X11_span_40) ?_ | refine Eq.trans (q_X11_span_48) ?_ | refine Eq.trans (q_X11_span_73) ?_ | refine Eq.trans (q_X11_span_66) ?_ | refine Eq.trans (q_X11_span_74) ?_ | refine Eq.trans (q_X11_span_77) ?_ | refine Eq.trans (q_X11_span_90) ?_ | refine Eq.trans (q_X11_span_114) ?_ | refine Eq.trans (q_X11_span_160) ?_ | refine Eq.trans (q_X11_span_165) ?_)
    (first | refine Eq.trans (q_X11_span_0) ?_ | refine Eq.trans (q_X11_span_8) ?_ | refine Eq.trans (q_X11_span_36) ?_ | refine Eq.trans (q_X11_span_18) ?_ | refine Eq.trans (q_X11_span_37) ?_ | refine Eq.trans (q_X11_span_29) ?_ | refine Eq.trans (q_X11_span_40) ?_ | refine Eq.trans (q_X11_span_48) ?_ | refine Eq.trans (q_X11_span_73) ?_ | refine Eq.trans (q_X11_span_66) ?_ | refine Eq.trans (q_X11_span_74) ?_ | refine Eq.trans (q_X11_span_77) ?_ | refine Eq.trans (q_X11_span_90) ?_ | refine Eq.trans (q_X11_span_114) ?_ | refine Eq.trans (q_X11_span_160) ?_ | refine Eq.trans (q_X11_span_165) ?_)
    exact bnd_x ex_f
  rw [e_X11_span]
  (first | refine Eq.trans (q_X11_span_0) ?_ | refine Eq.trans (q_X11_span_8) ?_ | refine Eq.trans (q_X11_span_36) ?_ | refine Eq.trans (q_X11_span_18) ?_ | refine Eq.trans (q_X11_span_37) ?_ | refine Eq.trans (q_X11_span_29) ?_ | refine Eq.trans (q_X11_span_40) ?_ | refine Eq.trans (q_X11_span_48) ?_ | refine Eq.trans (q_X11_span_73) ?_ | refine Eq.trans (q_X11_span_66) ?_ | refine Eq.trans (q_X11_span_74) ?_ | refine Eq.trans (q_X11_span_77) ?_ | refine Eq.trans (q_X11_span_90) ?_ | refine Eq.trans (q_X11_span_114) ?_ | refine Eq.trans (q_X11_span_160) ?_ | refine Eq.trans (q_X11_span_165) ?_)
  rcases Classical.em (¬ (nI 1 ≤ x2 ∧ x2 ≤ nI 20)) with c1 | c1
  · refine (bndN_e (wi_f c1)).trans ?_
    (first | refine Eq.trans (q_X11_span_0) ?_ | refine Eq.trans (q_X11_span_8) ?_ | refine Eq.trans (q_X11_span_36) ?_ | refine Eq.trans (q_X11_span_18) ?_ | refine Eq.trans (q_X11_span_37) ?_ | refine Eq.trans (q_X11_span_29) ?_ | refine Eq.trans (q_X11_span_40) ?_ | refine Eq.trans (q_X11_span_48) ?_ | refine Eq.trans (q_X11_span_73) ?_ | refine Eq.trans (q_X11_span_66) ?_ | refine Eq.trans (q_X11_span_74) ?_ | refine Eq.trans (q_X11_span_77) ?_ | refine Eq.trans (q_X11_span_90) ?_ | refine Eq.trans (q_X11_span_114) ?_ | refine Eq.trans (q_X11_span_160) ?_ | refine Eq.trans (q_X11_span_165) ?_)
    rw [if_pos rfl]
    exact tail36 _ _ _ _
  replace c1 := Classical.not_not.mp c1
  refine (bndN_e (wi_t c1.1 c1.2)).trans ?_
  (first | refine Eq.trans (q_X11_span_0) ?_ | refine Eq.trans (q_X11_span_8) ?_ | refine Eq.trans (q_X11_span_36) ?_ | refine Eq.trans (q_X11_span_18) ?_ | refine Eq.trans (q_X11_span_37) ?_ | refine Eq.trans (q_X11_span_29) ?_ | refine Eq.trans (q_X11_span_40) ?_ | refine Eq.trans (q_X11_span_48) ?_ | refine Eq.trans (q_X11_span_73) ?_ | refine Eq.trans (q_X11_span_66) ?_ | refine Eq.trans (q_X11_span_74) ?_ | refine Eq.trans (q_X11_span_77) ?_ | refine Eq.trans (q_X11_span_90) ?_ | refine Eq.trans (q_X11_span_114) ?_ | refine Eq.trans (q_X11_span_160) ?_ | refine Eq.trans (q_X11_span_165) ?_)
  rw [if_neg (by decide)]
  rcases Classical.em (¬ (nI 1 ≤ x3 ∧ x3 ≤ nI 96)) with c2 | c2
  · refine (bndN_e (wi_f c2)).trans ?_
    (first | refine Eq.trans (q_X11_span_0) ?_ | refine Eq.trans (q_X11_span_8) ?_ | refine Eq.trans (q_X11_span_36) ?_ | refine Eq.trans (q_X11_span_18) ?_ | refine Eq.trans (q_X11_span_37) ?_ | refine Eq.trans (q_X11_span_29) ?_ | refine Eq.trans (q_X11_span_40) ?_ | refine Eq.trans (q_X11_span_48) ?_ | refine Eq.trans (q_X11_span_73) ?_ | refine Eq.trans (q_X11_span_66) ?_ | refine Eq.trans (q_X11_span_74) ?_ | refine Eq.trans (q_X11_span_77) ?_ | refine Eq.trans (q_X11_span_90) ?_ | refine Eq.trans (q_X11_span_114) ?_ | refine Eq.trans (q_X11_span_160) ?_ | refine Eq.trans (q_X11_span_165) ?_)
    rw [if_pos rfl]
    exact tail36 _ _ _ _
  replace c2 := Classical.not_not.mp c2
  refine (bndN_e (wi_t c2.1 c2.2)).trans ?_
  (first | refine Eq.trans (q_X11_span_0) ?_ | refine Eq.trans (q_X11_span_8) ?_ | refine Eq.trans (q_X11_span_36) ?_ | refine Eq.trans (q_X11_span_18) ?_ | refine Eq.trans (q_X11_span_37) ?_ | refine Eq.trans (q_X11_span_29) ?_ | refine Eq.trans (q_X11_span_40) ?_ | refine Eq.trans (q_X11_span_48) ?_ | refine Eq.trans (q_X11_span_73) ?_ | refine Eq.trans (q_X11_span_66) ?_ | refine Eq.trans (q_X11_span_74) ?_ | refine Eq.trans (q_X11_span_77) ?_ | refine Eq.trans (q_X11_span_90) ?_ | refine Eq.trans (q_X11_span_114) ?_ | refine Eq.trans (q_X11_span_160) ?_ | refine Eq.trans (q_X11_span_165) ?_)
  rw [if_neg (by decide)]
  rcases Classical.em (¬ (nI 0 ≤ x4 ∧ x4 ≤ nI 16)) with c3 | c3
  · refine (bndN_e (wi_f c3)).trans ?_
    (first | refine Eq.trans (q_X11_span_0) ?_ | refine Eq.trans (q_X11_span_8) ?_ | refine Eq.trans (q_X11_span_36) ?_ | refine Eq.trans (q_X11_span_18) ?_ | refine Eq.trans (q_X11_span_37) ?_ | refine Eq.trans (q_X11_span_29) ?_ | refine Eq.trans (q_X11_span_40) ?_ | refine Eq.trans (q_X11_span_48) ?_ | refine Eq.trans (q_X11_span_73) ?_ | refine Eq.trans (q_X11_span_66) ?_ | refine Eq.trans (q_X11_span_74) ?_ | refine Eq.trans (q_X11_span_77) ?_ | refine Eq.trans (q_X11_span_90) ?_ | refine Eq.trans (q_X11_span_114) ?_ | refine Eq.trans (q_X11_span_160) ?_ | refine Eq.trans (q_X11_span_165) ?_)
    rw [if_pos rfl]
    exact tail36 _ _ _ _
  replace c3 := Classical.not_not.mp c3
  refine (bndN_e (wi_t c3.1 c3.2)).trans ?_
  (first | refine Eq.trans (q_X11_span_0) ?_ | refine Eq.trans (q_X11_span_8) ?_ | refine Eq.trans (q_X11_span_36) ?_ | refine Eq.trans (q_X11_span_18) ?_ | refine Eq.trans (q_X11_span_37) ?_ | refine Eq.trans (q_X11_span_29) ?_ | refine Eq.trans (q_X11_span_40) ?_ | refine Eq.trans (q_X11_span_48) ?_ | refine Eq.trans (q_X11_span_73) ?_ | refine Eq.trans (q_X11_span_66) ?_ | refine Eq.trans (q_X11_span_74) ?_ | refine Eq.trans (q_X11_span_77) ?_ | refine Eq.trans (q_X11_span_90) ?_ | refine Eq.trans (q_X11_span_114) ?_ | refine Eq.trans (q_X11_span_160) ?_ | refine Eq.trans (q_X11_span_165) ?_)
  rw [if_neg (by decide)]
  (first | refine Eq.trans (q_X11_span_0) ?_ | refine Eq.trans (q_X11_span_8) ?_ | refine Eq.trans (q_X11_span_36) ?_ | refine Eq.trans (q_X11_span_18) ?_ | refine Eq.trans (q_X11_span_37) ?_ | refine Eq.trans (q_X11_span_29) ?_ | refine Eq.trans (q_X11_span_40) ?_ | refine Eq.trans (q_X11_span_48) ?_ | refine Eq.trans (q_X11_span_73) ?_ | refine Eq.trans (q_X11_span_66) ?_ | refine Eq.trans (q_X11_span_74) ?_ | refine Eq.trans (q_X11_span_77) ?_ | refine Eq.trans (q_X11_span_90) ?_ | refine Eq.trans (q_X11_span_114) ?_ | refine Eq.trans (q_X11_span_160) ?_ | refine Eq.trans (q_X11_span_165) ?_)
  refine (bnd_e ex_t).trans ?_
  (first | refine Eq.trans (q_X11_span_0) ?_ | refine Eq.trans (q_X11_span_8) ?_ | refine Eq.trans (q_X11_span_36) ?_ | refine Eq.trans (q_X11_span_18) ?_ | refine Eq.trans (q_X11_span_37) ?_ | refine Eq.trans (q_X11_span_29) ?_ | refine Eq.trans (q_X11_span_40) ?_ | refine Eq.trans (q_X11_span_48) ?_ | refine Eq.trans (q_X11_span_73) ?_ | refine Eq.trans (q_X11_span_66) ?_ | refine Eq.trans (q_X11_span_74) ?_ | refine Eq.trans (q_X11_span_77) ?_ | refine Eq.trans (q_X11_span_90) ?_ | refine Eq.trans (q_X11_span_114) ?_ | refine Eq.trans (q_X11_span_160) ?_ | refine Eq.trans (q_X11_span_165) ?_)
  rcases Classical.em (¬ (nI 0 ≤ x5 ∧ x5 ≤ nI 2)) with c4 | c4
  · refine (bndN_e (wi_f c4)).trans ?_
    (first | refine Eq.trans (q_X11_span_0) ?_ | refine Eq.trans (q_X11_span_8) ?_ | refine Eq.trans (q_X11_span_36) ?_ | refine Eq.trans (q_X11_span_18) ?_ | refine Eq.trans (q_X11_span_37) ?_ | refine Eq.trans (q_X11_span_29) ?_ | refine Eq.trans (q_X11_span_40) ?_ | refine Eq.trans (q_X11_span_48) ?_ | refine Eq.trans (q_X11_span_73) ?_ | refine Eq.trans (q_X11_span_66) ?_ | refine Eq.trans (q_X11_span_74) ?_ | refine Eq.trans (q_X11_span_77) ?_ | refine Eq.trans (q_X11_span_90) ?_ | refine Eq.trans (q_X11_span_114) ?_ | refine Eq.trans (q_X11_span_160) ?_ | refine Eq.trans (q_X11_span_165) ?_)
    rw [if_pos rfl]
    exact tail73 _ _ _ _
  replace c4 := Classical.not_not.mp c4
  refine (bndN_e (wi_t c4.1 c4.2)).trans ?_
  (first | refine Eq.trans (q_X11_span_0) ?_ | refine Eq.trans (q_X11_span_8) ?_ | refine Eq.trans (q_X11_span_36) ?_ | refine Eq.trans (q_X11_span_18) ?_ | refine Eq.trans (q_X11_span_37) ?_ | refine Eq.trans (q_X11_span_29) ?_ | refine Eq.trans (q_X11_span_40) ?_ | refine Eq.trans (q_X11_span_48) ?_ | refine Eq.trans (q_X11_span_73) ?_ | refine Eq.trans (q_X11_span_66) ?_ | refine Eq.trans (q_X11_span_74) ?_ | refine Eq.trans (q_X11_span_77) ?_ | refine Eq.trans (q_X11_span_90) ?_ | refine Eq.trans (q_X11_span_114) ?_ | refine Eq.trans (q_X11_span_160) ?_ | refine Eq.trans (q_X11_span_165) ?_)
  rw [if_neg (by decide)]
  rw [KF]
  rcases Classical.em (¬ (nI 0 ≤ x6 ∧ x6 ≤ nI nf - nI 1)) with c5 | c5
  · refine (bndN_e (wi_f c5)).trans ?_
    (first | refine Eq.trans (q_X11_span_0) ?_ | refine Eq.trans (q_X11_span_8) ?_ | refine Eq.trans (q_X11_span_36) ?_ | refine Eq.trans (q_X11_span_18) ?_ | refine Eq.trans (q_X11_span_37) ?_ | refine Eq.trans (q_X11_span_29) ?_ | refine Eq.trans (q_X11_span_40) ?_ | refine Eq.trans (q_X11_span_48) ?_ | refine Eq.trans (q_X11_span_73) ?_ | refine Eq.trans (q_X11_span_66) ?_ | refine Eq.trans (q_X11_span_74) ?_ | refine Eq.trans (q_X11_span_77) ?_ | refine Eq.trans (q_X11_span_90) ?_ | refine Eq.trans (q_X11_span_114) ?_ | refine Eq.trans (q_X11_span_160) ?_ | refine Eq.trans (q_X11_span_165) ?_)
    rw [if_pos rfl]
    exact tail73 _ _ _ _
  replace c5 := Classical.not_not.mp c5
  refine (bndN_e (wi_t c5.1 c5.2)).trans ?_
  (first | refine Eq.trans (q_X11_span_0) ?_ | refine Eq.trans (q_X11_span_8) ?_ | refine Eq.trans (q_X11_span_36) ?_ | refine Eq.trans (q_X11_span_18) ?_ | refine Eq.trans (q_X11_span_37) ?_ | refine Eq.trans (q_X11_span_29) ?_ | refine Eq.trans (q_X11_span_40) ?_ | refine Eq.trans (q_X11_span_48) ?_ | refine Eq.trans (q_X11_span_73) ?_ | refine Eq.trans (q_X11_span_66) ?_ | refine Eq.trans (q_X11_span_74) ?_ | refine Eq.trans (q_X11_span_77) ?_ | refine Eq.trans (q_X11_span_90) ?_ | refine Eq.trans (q_X11_span_114) ?_ | refine Eq.trans (q_X11_span_160) ?_ | refine Eq.trans (q_X11_span_165) ?_)
  rw [if_neg (by decide)]
  exact absurd ⟨c1, c2, c3, c4, c5⟩ hx
end AF
