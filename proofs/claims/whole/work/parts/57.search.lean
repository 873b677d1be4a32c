/-! SHORT, BY THE CLASS: the search -/
/-- what a search leaves behind -/
def SrQ (h : Hs) (m nL : Nat) (cd : Cd) (N : Nt) (f : Nat) (I : MI32) (J : MI64) (u : Nat) (B' : Option (Nat × List Nat)) (I' : MI32) (J' : MI64) : Prop := Fr fSh I I' ∧ (∀ i, i < pcN u → I' 61 i = I 61 i) ∧ shB I' B' ∧ (∀ c, c < 76800 → vis J' c = true → vis J c = true ∨ pcN u < pcN (c / 1200)) ∧ MetI h m nL cd N f J' B' (pcN u)
section SR
variable {d L X : Nat} {I : MI32} {J : MI64} {h : Hs} {m nL n : Nat} {cd : Cd} {N : Nt} {f : Nat}
theorem rc_eq {u fl : Nat} (K : HC I h m) (ok : HOK h) (hf : f < h 0 2) (hu : u < 2 ^ h 0 0) (hfl : fl ≤ 99) : decide (pk (I 10) 5 (nI f) ≤ nI (lnN h u) ∧ pk (I 11) 5 (nI f) ≤ nI fl) = rcN h f u fl := by
  have h5 := ok.2.2.1
  have hl := ln_le ok hu
  obtain ⟨k1, k2⟩ := K.2.2.2.2.2.1 f hf
  have b := ok.2.2.2.2 f hf
  rw [pk_n (by omega) (by decide), pk_n (by omega) (by decide), k1, k2]
  unfold rcN
  rw [Bool.eq_iff_iff]
  simp only [decide_eq_true_eq, Bool.and_eq_true]
  rw [nI_leI (by omega) (by omega), nI_leI (by omega) (by omega)]
theorem lp_search {u fl K : Nat} {l : Option Nat} {pre : List Nat} {Bf : Option (Nat × List Nat)} (ok : HOK h) (W : wfC cd nL 0 0) (hK : pcN u + (K + 1) = 7) (hu : u < 2 ^ h 0 0) (hl : lOK h l) (hfl : fl ≤ 99) (C : CX I h m nL cd n N f) (hpre : pre.length = pcN u) (hpa : ∀ i, i < pcN u → I 61 i = nI (pre.getD i 0)) (ih : ∀ u l fl pre B I J, pcN u + K = 7 → u < 2 ^ h 0 0 → lOK h l → fl ≤ 99 → CX I h m nL cd n N f → pre.length = pcN u → (∀ i, i < pcN u → I 61 i = nI (pre.getD i 0)) → shB I B → (∀ z, B = some z → pcN u < z.1) → MetI h m nL cd N f J B (pcN u) → Rt L X (runM (d + K + 5) nX5_searchShort [.ref 56, .ref 43, .int (nI (pcN u)), .int (nI u), .int (o2i l), .int (nI fl), .int (nI (lnN h u))] (mm L X I J)) none (SrQ h m nL cd N f I J u (btr B (shf (pcN u) pre (shN h m nL cd N f K u l fl))))) : ∀ q w I' J' Bw u8 u9 u10, w + q = 2 * h 0 0 → SrQ h m nL cd N f I J u Bw I' J' → accF (flB h m nL cd N f u l fl K (pcN u) pre) q w Bw = Bf → Rt L X (c_X5_searchShort_42 (d + K + 5) L X I' J' 43 (nI (pcN u)) (nI u) (o2i l) (nI fl) (nI (lnN h u)) (nI w) u8 u9 u10) none (SrQ h m nL cd N f I J u Bf)
  | 0, w, I', J', Bw, u8, u9, u10, hw, hS, he => by
    have h6 := ok.1
    obtain ⟨s1, s2, s3, s4, s5⟩ := hS
    have C' := CX_fr C s1
    have h1 : oc3 43 := .inl rfl
    have e : Bw = Bf := he
    subst e
    (first | refine rt_eq (q_X5_searchShort_0 (by first | assumption | rfl | exact .inl rfl | exact .inr rfl)) ?_ | refine rt_eq (q_X5_searchShort_15 (by first | assumption | rfl | exact .inl rfl | exact .inr rfl)) ?_ | refine rt_eq (q_X5_searchShort_42 (by first | assumption | rfl | exact .inl rfl | exact .inr rfl)) ?_ | refine rt_eq (q_X5_searchShort_81 (by first | assumption | rfl | exact .inl rfl | exact .inr rfl)) ?_ | refine rt_eq (q_X5_searchShort_90 (by first | assumption | rfl | exact .inl rfl | exact .inr rfl)) ?_ | refine rt_eq (q_X5_searchShort_127 (by first | assumption | rfl | exact .inl rfl | exact .inr rfl)) ?_ | refine rt_eq (q_X5_searchShort_189 (by first | assumption | rfl | exact .inl rfl | exact .inr rfl)) ?_ | refine rt_eq (q_X5_searchShort_147 (by first | assumption | rfl | exact .inl rfl | exact .inr rfl)) ?_ | refine rt_eq (q_X5_searchShort_160 (by first | assumption | rfl | exact .inl rfl | exact .inr rfl)) ?_ | refine rt_eq (q_X5_searchShort_185 (by first | assumption | rfl | exact .inl rfl | exact .inr rfl)) ?_)
    rw [C'.1.1, pk_mul]
    refine rt_t (by (try simp (disch := omega) only [nI_leI, nI_ltI, nI_eq, nI_add, pk_mul, n_0add, Nat.zero_add, nI_clamp]) <;> omega) ?_
    exact rt_ret ⟨s1, s2, s3, s4, s5⟩
  | q + 1, w, I', J', Bw, u8, u9, u10, hw, hS, he => by
    have go := lp_search (Bf := Bf) ok W hK hu hl hfl C hpre hpa ih q (w + 1)
    have h6 := ok.1
    have p6 := pow6 ok
    have hln := ln_le ok hu
    have h1 : oc3 43 := .inl rfl
    obtain ⟨s1, s2, s3, s4, s5⟩ := hS
    have C' := CX_fr C s1
    obtain ⟨c1, c2, c3, c4, c5, c6⟩ := C'
    have he' : accF (flB h m nL cd N f u l fl K (pcN u) pre) q (w + 1) (flB h m nL cd N f u l fl K (pcN u) pre w Bw) = Bf := he
    -- nothing more can be had
    have stop : (∀ i, w ≤ i → ∀ z, shf (pcN u) pre (chl h m nL cd N f u l fl K i) = some z → ∃ y, Bw = some y ∧ y.1 ≤ z.1) → SrQ h m nL cd N f I J u Bf I' J' := by
      intro hno
      have e : accF (flB h m nL cd N f u l fl K (pcN u) pre) (q + 1) w Bw = Bw := by
        refine accF_id (q + 1) w (fun i i1 i2 => ?_)
        exact btr_no (hno i i1)
      rw [e] at he
      subst he
      exact ⟨s1, s2, s3, s4, s5⟩
    have skip : flB h m nL cd N f u l fl K (pcN u) pre w Bw = Bw → ∀ I2 J2 u8 u9 u10, SrQ h m nL cd N f I J u Bw I2 J2 → Rt L X (runI (runM (d + K + 5)) iX5_searchShort (189, [some (.ref 56), some (.ref 43), some (.int (nI (pcN u))), some (.int (nI u)), some (.int (o2i l)), some (.int (nI fl)), some (.int (nI (lnN h u))), some (.int (nI w)), u8, u9, u10], [], mm L X I2 J2)) none (SrQ h m nL cd N f I J u Bf) := by
      intro hsame I2 J2 u8 u9 u10 hS2
      (first | refine rt_eq (q_X5_searchShort_0 (by first | assumption | rfl | exact .inl rfl | exact .inr rfl)) ?_ | refine rt_eq (q_X5_searchShort_15 (by first | assumption | rfl | exact .inl rfl | exact .inr rfl)) ?_ | refine rt_eq (q_X5_searchShort_42 (by first | assumption | rfl | exact .inl rfl | exact .inr rfl)) ?_ | refine rt_eq (q_X5_searchShort_81 (by first | assumption | rfl | exact .inl rfl | exact .inr rfl)) ?_ | refine rt_eq (q_X5_searchShort_90 (by first | assumption | rfl | exact .inl rfl | exact .inr rfl)) ?_ | refine rt_eq (q_X5_searchShort_127 (by first | assumption | rfl | exact .inl rfl | exact .inr rfl)) ?_ | refine rt_eq (q_X5_searchShort_189 (by first | assumption | rfl | exact .inl rfl | exact .inr rfl)) ?_ | refine rt_eq (q_X5_searchShort_147 (by first | assumption | rfl | exact .inl rfl | exact .inr rfl)) ?_ | refine rt_eq (q_X5_searchShort_160 (by first | assumption | rfl | exact .inl rfl | exact .inr rfl)) ?_ | refine rt_eq (q_X5_searchShort_185 (by first | assumption | rfl | exact .inl rfl | exact .inr rfl)) ?_)
      rw [nI_add]
      exact go I2 J2 Bw _ _ _ (by omega) hS2 (by rw [← he', hsame])
    have step : (∀ z, Bw = some z → pcN u + 1 < z.1) → pcN u < 6 → Rt L X (runI (runM (d + K + 5)) iX5_searchShort (81, [some (.ref 56), some (.ref 43), some (.int (nI (pcN u))), some (.int (nI u)), some (.int (o2i l)), some (.int (nI fl)), some (.int (nI (lnN h u))), some (.int (nI w)), u8, u9, u10], [], mm L X I' J')) none (SrQ h m nL cd N f I J u Bf) := by
      intro hB hj6
      (first | refine rt_eq (q_X5_searchShort_0 (by first | assumption | rfl | exact .inl rfl | exact .inr rfl)) ?_ | refine rt_eq (q_X5_searchShort_15 (by first | assumption | rfl | exact .inl rfl | exact .inr rfl)) ?_ | refine rt_eq (q_X5_searchShort_42 (by first | assumption | rfl | exact .inl rfl | exact .inr rfl)) ?_ | refine rt_eq (q_X5_searchShort_81 (by first | assumption | rfl | exact .inl rfl | exact .inr rfl)) ?_ | refine rt_eq (q_X5_searchShort_90 (by first | assumption | rfl | exact .inl rfl | exact .inr rfl)) ?_ | refine rt_eq (q_X5_searchShort_127 (by first | assumption | rfl | exact .inl rfl | exact .inr rfl)) ?_ | refine rt_eq (q_X5_searchShort_189 (by first | assumption | rfl | exact .inl rfl | exact .inr rfl)) ?_ | refine rt_eq (q_X5_searchShort_147 (by first | assumption | rfl | exact .inl rfl | exact .inr rfl)) ?_ | refine rt_eq (q_X5_searchShort_160 (by first | assumption | rfl | exact .inl rfl | exact .inr rfl)) ?_ | refine rt_eq (q_X5_searchShort_185 (by first | assumption | rfl | exact .inl rfl | exact .inr rfl)) ?_)
      refine rt_be (sp_canFollow c4 ok (by omega) hl (by omega)) ?_
      (first | refine rt_eq (q_X5_searchShort_0 (by first | assumption | rfl | exact .inl rfl | exact .inr rfl)) ?_ | refine rt_eq (q_X5_searchShort_15 (by first | assumption | rfl | exact .inl rfl | exact .inr rfl)) ?_ | refine rt_eq (q_X5_searchShort_42 (by first | assumption | rfl | exact .inl rfl | exact .inr rfl)) ?_ | refine rt_eq (q_X5_searchShort_81 (by first | assumption | rfl | exact .inl rfl | exact .inr rfl)) ?_ | refine rt_eq (q_X5_searchShort_90 (by first | assumption | rfl | exact .inl rfl | exact .inr rfl)) ?_ | refine rt_eq (q_X5_searchShort_127 (by first | assumption | rfl | exact .inl rfl | exact .inr rfl)) ?_ | refine rt_eq (q_X5_searchShort_189 (by first | assumption | rfl | exact .inl rfl | exact .inr rfl)) ?_ | refine rt_eq (q_X5_searchShort_147 (by first | assumption | rfl | exact .inl rfl | exact .inr rfl)) ?_ | refine rt_eq (q_X5_searchShort_160 (by first | assumption | rfl | exact .inl rfl | exact .inr rfl)) ?_ | refine rt_eq (q_X5_searchShort_185 (by first | assumption | rfl | exact .inl rfl | exact .inr rfl)) ?_)
      by_cases z : cfw h m u l w = true
      · rw [z]
        refine rt_f (by decide) ?_
        have hb := cfw_bit z
        have g2 := or_np (p := w / 2) hu (by omega)
        have ep := pc_or (p := w / 2) (by omega) hb
        have el := ln_or (h := h) (p := w / 2) (by omega) hb
        rw [NC_hope c5]
        have ew : nI w = nI (2 * (w / 2) + w % 2) := by rw [show 2 * (w / 2) + w % 2 = w by omega]
        rw [n_shr (by omega) (by decide), Nat.pow_one, n_pow (by omega), n_or]
        have bp := sp_behindPiece (d := d + K + 2) (L := L) (X := X) (J := J') (x4 := nI fl) (x5 := N 29) (k := pcN u) (p := w / 2) (t := w % 2) h1 c5 c1 ok c2 W (by omega) (by omega) hj6
        rw [← ew, c3.2.1 _ hj6, c3.2.2 _ hj6, add_n0, add_n0, (lf_eq (h := h) (nL := nL) (cd := cd) (N := N) (fl := fl) (w := w) (k := pcN u)).1] at bp
        have hlf := (lf_eq (h := h) (nL := nL) (cd := cd) (N := N) (fl := fl) (w := w) (k := pcN u)).2
        have hcl : chl h m nL cd N f u l fl K w = shf 1 [w] (shN h m nL cd N f K (u ||| 2 ^ (w / 2)) (some w) (lfN h nL cd N w fl (pcN u))) := if_pos z
        have hfB : ∀ B, flB h m nL cd N f u l fl K (pcN u) pre w B = btr B (shf (pcN u + 1) (pre ++ [w]) (shN h m nL cd N f K (u ||| 2 ^ (w / 2)) (some w) (lfN h nL cd N w fl (pcN u)))) := by
          intro B
          unfold flB
          rw [hcl, shf_shf]
        generalize hv : lfN h nL cd N w fl (pcN u) = v at bp hlf hcl hfB
        refine rt_bnd bp ?_
        rintro I2 J2 ⟨f2, rfl⟩
        have f2' : Fr fSh I' I2 := fr_mono f2 (by decide)
        (first | refine rt_eq (q_X5_searchShort_0 (by first | assumption | rfl | exact .inl rfl | exact .inr rfl)) ?_ | refine rt_eq (q_X5_searchShort_15 (by first | assumption | rfl | exact .inl rfl | exact .inr rfl)) ?_ | refine rt_eq (q_X5_searchShort_42 (by first | assumption | rfl | exact .inl rfl | exact .inr rfl)) ?_ | refine rt_eq (q_X5_searchShort_81 (by first | assumption | rfl | exact .inl rfl | exact .inr rfl)) ?_ | refine rt_eq (q_X5_searchShort_90 (by first | assumption | rfl | exact .inl rfl | exact .inr rfl)) ?_ | refine rt_eq (q_X5_searchShort_127 (by first | assumption | rfl | exact .inl rfl | exact .inr rfl)) ?_ | refine rt_eq (q_X5_searchShort_189 (by first | assumption | rfl | exact .inl rfl | exact .inr rfl)) ?_ | refine rt_eq (q_X5_searchShort_147 (by first | assumption | rfl | exact .inl rfl | exact .inr rfl)) ?_ | refine rt_eq (q_X5_searchShort_160 (by first | assumption | rfl | exact .inl rfl | exact .inr rfl)) ?_ | refine rt_eq (q_X5_searchShort_185 (by first | assumption | rfl | exact .inl rfl | exact .inr rfl)) ?_)
        generalize hu' : u ||| 2 ^ (w / 2) = u' at g2 ep el hcl hfB
        rw [pk_mul, nI_add, pk_mul, nI_add]
        have hc1 : (u' * 12 + w) * 100 + v < 76800 := by omega
        have hc2 : ((u' * 12 + w) * 100 + v) / 1200 = u' := by omega
        have hc3 : ((u' * 12 + w) * 100 + v) / 100 % 12 = w := by omega
        have hc4 : ((u' * 12 + w) * 100 + v) % 100 = v := by omega
        generalize hc : (u' * 12 + w) * 100 + v = c at hc1 hc2 hc3 hc4
        have C2 : CX I2 h m nL cd n N f := CX_fr ⟨c1, c2, c3, c4, c5, c6⟩ f2'
        refine rt_bnd (sp_isNew hc1) ?_
        rintro I3 J3 ⟨rfl, v3⟩
        (first | refine rt_eq (q_X5_searchShort_0 (by first | assumption | rfl | exact .inl rfl | exact .inr rfl)) ?_ | refine rt_eq (q_X5_searchShort_15 (by first | assumption | rfl | exact .inl rfl | exact .inr rfl)) ?_ | refine rt_eq (q_X5_searchShort_42 (by first | assumption | rfl | exact .inl rfl | exact .inr rfl)) ?_ | refine rt_eq (q_X5_searchShort_81 (by first | assumption | rfl | exact .inl rfl | exact .inr rfl)) ?_ | refine rt_eq (q_X5_searchShort_90 (by first | assumption | rfl | exact .inl rfl | exact .inr rfl)) ?_ | refine rt_eq (q_X5_searchShort_127 (by first | assumption | rfl | exact .inl rfl | exact .inr rfl)) ?_ | refine rt_eq (q_X5_searchShort_189 (by first | assumption | rfl | exact .inl rfl | exact .inr rfl)) ?_ | refine rt_eq (q_X5_searchShort_147 (by first | assumption | rfl | exact .inl rfl | exact .inr rfl)) ?_ | refine rt_eq (q_X5_searchShort_160 (by first | assumption | rfl | exact .inl rfl | exact .inr rfl)) ?_ | refine rt_eq (q_X5_searchShort_185 (by first | assumption | rfl | exact .inl rfl | exact .inr rfl)) ?_)
        have s2' : ∀ i, i < pcN u → I3 61 i = I 61 i := fun i hi => by rw [f2 61 i rfl]; exact s2 i hi
        have b2 : shB I3 Bw := by
          rcases Bw with _ | y
          · show I3 56 13 = -1
            rw [f2 56 13 rfl]
            exact s3
          · exact ⟨by rw [f2 56 13 rfl]; exact s3.1, s3.2.1, fun i hi => by rw [f2 60 i rfl]; exact s3.2.2 i hi⟩
        by_cases y : vis J2 c = true
        · rw [y]
          refine rt_t bI_f ?_
          have J32 : ∀ c', vis J3 c' = vis J2 c' := by
            intro c'
            rw [v3]
            by_cases e : c' = c
            · rw [e, y, Bool.true_or]
            · rw [decide_eq_false e, Bool.or_false]
          have D := s5 c hc1 y (by rw [hc2]; omega)
          refine skip ?_ I3 J3 _ _ _ ⟨fr_tr s1 f2', s2', b2, fun c' h1 h2 => s4 c' h1 (by rw [← J32]; exact h2), fun c' h1 h2 h3 => s5 c' h1 (by rw [← J32]; exact h2) h3⟩
          rw [hfB]
          refine btr_no ?_
          intro z0 hz
          unfold shf at hz
          rcases hs : shN h m nL cd N f K u' (some w) v with _ | ⟨k, s⟩
          · rw [hs] at hz
            cases hz
          · rw [hs] at hz
            cases hz
            unfold Done at D
            rw [hc2, hc3, hc4, ep, show 7 - (pcN u + 1) = K by omega] at D
            exact D k s hs
        · rw [Bool.not_eq_true] at y
          rw [y]
          refine rt_f (by decide) ?_
          refine rt_bne (sp_put ka_61 (by decide)) ?_
          rw [pt_n hj6 (by decide)]
          generalize hI4 : up2 I3 61 (pcN u) (nI w) = I4
          have f4 : Fr fSh I3 I4 := by rw [← hI4]; exact fr_up fr_rfl rfl
          have p4 : ∀ i, i < pcN u + 1 → I4 61 i = nI ((pre ++ [w]).getD i 0) := by
            intro i hi
            rw [← hI4, up2_at]
            by_cases e : i = pcN u
            · rw [if_pos e, e, ← hpre, List.getD_eq_getElem?_getD, List.getElem?_append_right (Nat.le_refl _)]
              simp
            · rw [if_neg e, s2' i (by omega), hpa i (by omega), List.getD_eq_getElem?_getD, List.getD_eq_getElem?_getD, List.getElem?_append_left (by omega)]
          have q4 : ∀ i, i < pcN u → I4 61 i = I3 61 i := fun i hi => by rw [← hI4, up2_k (by omega)]
          have b4 : shB I4 Bw := by
            rcases Bw with _ | y0
            · show I4 56 13 = -1
              rw [← hI4, up2_n (by decide)]
              exact b2
            · exact ⟨by rw [← hI4, up2_n (by decide)]; exact b2.1, b2.2.1, fun i hi => by rw [← hI4, up2_n (by decide)]; exact b2.2.2 i hi⟩
          clear hI4
          have C4 := CX_fr C2 f4
          (first | refine rt_eq (q_X5_searchShort_0 (by first | assumption | rfl | exact .inl rfl | exact .inr rfl)) ?_ | refine rt_eq (q_X5_searchShort_15 (by first | assumption | rfl | exact .inl rfl | exact .inr rfl)) ?_ | refine rt_eq (q_X5_searchShort_42 (by first | assumption | rfl | exact .inl rfl | exact .inr rfl)) ?_ | refine rt_eq (q_X5_searchShort_81 (by first | assumption | rfl | exact .inl rfl | exact .inr rfl)) ?_ | refine rt_eq (q_X5_searchShort_90 (by first | assumption | rfl | exact .inl rfl | exact .inr rfl)) ?_ | refine rt_eq (q_X5_searchShort_127 (by first | assumption | rfl | exact .inl rfl | exact .inr rfl)) ?_ | refine rt_eq (q_X5_searchShort_189 (by first | assumption | rfl | exact .inl rfl | exact .inr rfl)) ?_ | refine rt_eq (q_X5_searchShort_147 (by first | assumption | rfl | exact .inl rfl | exact .inr rfl)) ?_ | refine rt_eq (q_X5_searchShort_160 (by first | assumption | rfl | exact .inl rfl | exact .inr rfl)) ?_ | refine rt_eq (q_X5_searchShort_185 (by first | assumption | rfl | exact .inl rfl | exact .inr rfl)) ?_)
          refine rt_bne (sp_pick ka_4 (by decide)) ?_
          rw [pk_n (by omega) (by decide), (C4.1.2.2.2.1 (w / 2) (by omega)).1]
          (first | refine rt_eq (q_X5_searchShort_0 (by first | assumption | rfl | exact .inl rfl | exact .inr rfl)) ?_ | refine rt_eq (q_X5_searchShort_15 (by first | assumption | rfl | exact .inl rfl | exact .inr rfl)) ?_ | refine rt_eq (q_X5_searchShort_42 (by first | assumption | rfl | exact .inl rfl | exact .inr rfl)) ?_ | refine rt_eq (q_X5_searchShort_81 (by first | assumption | rfl | exact .inl rfl | exact .inr rfl)) ?_ | refine rt_eq (q_X5_searchShort_90 (by first | assumption | rfl | exact .inl rfl | exact .inr rfl)) ?_ | refine rt_eq (q_X5_searchShort_127 (by first | assumption | rfl | exact .inl rfl | exact .inr rfl)) ?_ | refine rt_eq (q_X5_searchShort_189 (by first | assumption | rfl | exact .inl rfl | exact .inr rfl)) ?_ | refine rt_eq (q_X5_searchShort_147 (by first | assumption | rfl | exact .inl rfl | exact .inr rfl)) ?_ | refine rt_eq (q_X5_searchShort_160 (by first | assumption | rfl | exact .inl rfl | exact .inr rfl)) ?_ | refine rt_eq (q_X5_searchShort_185 (by first | assumption | rfl | exact .inl rfl | exact .inr rfl)) ?_)
          rw [nI_add, nI_add, ← el]
          have ih1 := ih u' (some w) v (pre ++ [w]) Bw I4 J3 (by omega) g2 (lOK_s (by omega)) hlf C4 (by rw [List.length_append, hpre, ep]; rfl) (by rw [ep]; exact p4) b4 (by rw [ep]; exact hB) (fun c' h1 h2 h3 => by
            rw [v3] at h2
            by_cases e : c' = c
            · rw [e, hc2] at h3
              omega
            · rw [decide_eq_false e, Bool.or_false] at h2
              exact s5 c' h1 h2 (by omega))
          rw [ep] at ih1
          refine rt_bnd ih1 ?_
          rintro I5 J5 ⟨r1, r2, r3, r4, r5⟩
          rw [ep] at r2 r4 r5
          have fB := hfB Bw
          rw [← fB] at r3 r5
          (first | refine rt_eq (q_X5_searchShort_0 (by first | assumption | rfl | exact .inl rfl | exact .inr rfl)) ?_ | refine rt_eq (q_X5_searchShort_15 (by first | assumption | rfl | exact .inl rfl | exact .inr rfl)) ?_ | refine rt_eq (q_X5_searchShort_42 (by first | assumption | rfl | exact .inl rfl | exact .inr rfl)) ?_ | refine rt_eq (q_X5_searchShort_81 (by first | assumption | rfl | exact .inl rfl | exact .inr rfl)) ?_ | refine rt_eq (q_X5_searchShort_90 (by first | assumption | rfl | exact .inl rfl | exact .inr rfl)) ?_ | refine rt_eq (q_X5_searchShort_127 (by first | assumption | rfl | exact .inl rfl | exact .inr rfl)) ?_ | refine rt_eq (q_X5_searchShort_189 (by first | assumption | rfl | exact .inl rfl | exact .inr rfl)) ?_ | refine rt_eq (q_X5_searchShort_147 (by first | assumption | rfl | exact .inl rfl | exact .inr rfl)) ?_ | refine rt_eq (q_X5_searchShort_160 (by first | assumption | rfl | exact .inl rfl | exact .inr rfl)) ?_ | refine rt_eq (q_X5_searchShort_185 (by first | assumption | rfl | exact .inl rfl | exact .inr rfl)) ?_)
          rw [nI_add]
          refine go I5 J5 _ _ _ _ (by omega) ⟨fr_tr s1 (fr_tr f2' (fr_tr f4 r1)), fun i hi => by rw [r2 i (by omega), q4 i hi, s2' i hi], r3, ?_, ?_⟩ he'
          · intro c' h1 h2
            rcases r4 c' h1 h2 with a | a
            · rw [v3] at a
              by_cases e : c' = c
              · exact .inr (by rw [e, hc2]; omega)
              · rw [decide_eq_false e, Bool.or_false] at a
                exact s4 c' h1 a
            · exact .inr (by omega)
          · intro c' h1 h2 h3
            rcases Nat.lt_or_ge (pcN u + 1) (pcN (c' / 1200)) with a | a
            · exact r5 c' h1 h2 a
            · rcases r4 c' h1 h2 with b | b
              · rw [v3] at b
                by_cases e : c' = c
                · intro k s hks
                  rw [e, hc2, hc3, hc4, ep, show 7 - (pcN u + 1) = K by omega] at hks
                  rw [fB, hks, e, hc2, ep]
                  exact btr_le2 (y := (pcN u + 1 + k, pre ++ [w] ++ s))
                · rw [decide_eq_false e, Bool.or_false] at b
                  rw [fB]
                  exact Done_mono (s5 c' h1 b h3)
              · omega
      · have z' : cfw h m u l w = false := by simpa using z
        rw [z']
        refine rt_t bI_f ?_
        refine skip ?_ I' J' _ _ _ ⟨s1, s2, s3, s4, s5⟩
        unfold flB chl
        rw [if_neg z]
        rfl
    (first | refine rt_eq (q_X5_searchShort_0 (by first | assumption | rfl | exact .inl rfl | exact .inr rfl)) ?_ | refine rt_eq (q_X5_searchShort_15 (by first | assumption | rfl | exact .inl rfl | exact .inr rfl)) ?_ | refine rt_eq (q_X5_searchShort_42 (by first | assumption | rfl | exact .inl rfl | exact .inr rfl)) ?_ | refine rt_eq (q_X5_searchShort_81 (by first | assumption | rfl | exact .inl rfl | exact .inr rfl)) ?_ | refine rt_eq (q_X5_searchShort_90 (by first | assumption | rfl | exact .inl rfl | exact .inr rfl)) ?_ | refine rt_eq (q_X5_searchShort_127 (by first | assumption | rfl | exact .inl rfl | exact .inr rfl)) ?_ | refine rt_eq (q_X5_searchShort_189 (by first | assumption | rfl | exact .inl rfl | exact .inr rfl)) ?_ | refine rt_eq (q_X5_searchShort_147 (by first | assumption | rfl | exact .inl rfl | exact .inr rfl)) ?_ | refine rt_eq (q_X5_searchShort_160 (by first | assumption | rfl | exact .inl rfl | exact .inr rfl)) ?_ | refine rt_eq (q_X5_searchShort_185 (by first | assumption | rfl | exact .inl rfl | exact .inr rfl)) ?_)
    rw [c1.1, pk_mul]
    refine rt_f (by (try simp (disch := omega) only [nI_leI, nI_ltI, nI_eq, nI_add, pk_mul, n_0add, Nat.zero_add, nI_clamp]) <;> omega) ?_
    by_cases hj : 6 ≤ pcN u
    · refine rt_t (by (try simp (disch := omega) only [nI_leI, nI_ltI, nI_eq, nI_add, pk_mul, n_0add, Nat.zero_add, nI_clamp]) <;> omega) ?_
      refine rt_ret (stop ?_)
      intro i hi z hz
      have hK0 : K = 0 := by omega
      subst hK0
      unfold chl at hz
      by_cases y : cfw h m u l i = true
      · rw [if_pos y] at hz
        cases hz
      · rw [if_neg y] at hz
        cases hz
    · refine rt_f (by (try simp (disch := omega) only [nI_leI, nI_ltI, nI_eq, nI_add, pk_mul, n_0add, Nat.zero_add, nI_clamp]) <;> omega) ?_
      rcases Bw with _ | y
      · refine rt_t s3 ?_
        exact step (fun z e => by cases e) (by omega)
      · have e13 : I' 56 13 = nI y.1 := s3.1
        have y6 : y.1 ≤ 6 := s3.2.1
        rw [e13]
        refine rt_f (nI_m1 _ (by omega)) ?_
        rw [nI_add]
        by_cases yj : pcN u + 1 < y.1
        · refine rt_t (by (try simp (disch := omega) only [nI_leI, nI_ltI, nI_eq, nI_add, pk_mul, n_0add, Nat.zero_add, nI_clamp]) <;> omega) ?_
          exact step (fun z e => by cases e; exact yj) (by omega)
        · refine rt_f (by (try simp (disch := omega) only [nI_leI, nI_ltI, nI_eq, nI_add, pk_mul, n_0add, Nat.zero_add, nI_clamp]) <;> omega) ?_
          refine rt_ret (stop ?_)
          intro i hi z hz
          refine ⟨y, rfl, ?_⟩
          unfold chl at hz
          by_cases t : cfw h m u l i = true
          · rw [if_pos t, shf_shf] at hz
            unfold shf at hz
            rcases hs : shN h m nL cd N f K (u ||| 2 ^ (i / 2)) (some i) (lfN h nL cd N i fl (pcN u)) with _ | ⟨k, s⟩
            · rw [hs] at hz
              cases hz
            · rw [hs] at hz
              cases hz
              show y.1 ≤ pcN u + 1 + k
              omega
          · rw [if_neg t] at hz
            cases hz
theorem sp_search (ok : HOK h) (W : wfC cd nL 0 0) (hf : f < h 0 2) : ∀ K u l fl pre B I J, pcN u + K = 7 → u < 2 ^ h 0 0 → lOK h l → fl ≤ 99 → CX I h m nL cd n N f → pre.length = pcN u → (∀ i, i < pcN u → I 61 i = nI (pre.getD i 0)) → shB I B → (∀ z, B = some z → pcN u < z.1) → MetI h m nL cd N f J B (pcN u) → Rt L X (runM (d + K + 5) nX5_searchShort [.ref 56, .ref 43, .int (nI (pcN u)), .int (nI u), .int (o2i l), .int (nI fl), .int (nI (lnN h u))] (mm L X I J)) none (SrQ h m nL cd N f I J u (btr B (shf (pcN u) pre (shN h m nL cd N f K u l fl))))
  | 0, u, l, fl, pre, B, I, J, hK, hu, hl, hfl, C, hpre, hpa, hB, hBj, hM => by
    have := pc_le ok.1 hu
    have := ok.1
    omega
  | K + 1, u, l, fl, pre, B, I, J, hK, hu, hl, hfl, C, hpre, hpa, hB, hBj, hM => by
    have ih := sp_search ok W hf K
    have h1 : oc3 43 := .inl rfl
    have h6 := ok.1
    have hpc := pc_le ok.1 hu
    rw [show d + (K + 1) + 5 = (d + K + 5) + 1 by omega, e_X5_searchShort]
    (first | refine rt_eq (q_X5_searchShort_0 (by first | assumption | rfl | exact .inl rfl | exact .inr rfl)) ?_ | refine rt_eq (q_X5_searchShort_15 (by first | assumption | rfl | exact .inl rfl | exact .inr rfl)) ?_ | refine rt_eq (q_X5_searchShort_42 (by first | assumption | rfl | exact .inl rfl | exact .inr rfl)) ?_ | refine rt_eq (q_X5_searchShort_81 (by first | assumption | rfl | exact .inl rfl | exact .inr rfl)) ?_ | refine rt_eq (q_X5_searchShort_90 (by first | assumption | rfl | exact .inl rfl | exact .inr rfl)) ?_ | refine rt_eq (q_X5_searchShort_127 (by first | assumption | rfl | exact .inl rfl | exact .inr rfl)) ?_ | refine rt_eq (q_X5_searchShort_189 (by first | assumption | rfl | exact .inl rfl | exact .inr rfl)) ?_ | refine rt_eq (q_X5_searchShort_147 (by first | assumption | rfl | exact .inl rfl | exact .inr rfl)) ?_ | refine rt_eq (q_X5_searchShort_160 (by first | assumption | rfl | exact .inl rfl | exact .inr rfl)) ?_ | refine rt_eq (q_X5_searchShort_185 (by first | assumption | rfl | exact .inl rfl | exact .inr rfl)) ?_)
    rw [C.2.2.2.2.2]
    refine rt_be (sp_reaches (.inl rfl)) ?_
    rw [show decide (pk (I (3 + 7)) 5 (nI f) ≤ nI (lnN h u) ∧ pk (I (3 + 8)) 5 (nI f) ≤ nI fl) = rcN h f u fl from rc_eq C.1 ok hf hu hfl]
    (first | refine rt_eq (q_X5_searchShort_0 (by first | assumption | rfl | exact .inl rfl | exact .inr rfl)) ?_ | refine rt_eq (q_X5_searchShort_15 (by first | assumption | rfl | exact .inl rfl | exact .inr rfl)) ?_ | refine rt_eq (q_X5_searchShort_42 (by first | assumption | rfl | exact .inl rfl | exact .inr rfl)) ?_ | refine rt_eq (q_X5_searchShort_81 (by first | assumption | rfl | exact .inl rfl | exact .inr rfl)) ?_ | refine rt_eq (q_X5_searchShort_90 (by first | assumption | rfl | exact .inl rfl | exact .inr rfl)) ?_ | refine rt_eq (q_X5_searchShort_127 (by first | assumption | rfl | exact .inl rfl | exact .inr rfl)) ?_ | refine rt_eq (q_X5_searchShort_189 (by first | assumption | rfl | exact .inl rfl | exact .inr rfl)) ?_ | refine rt_eq (q_X5_searchShort_147 (by first | assumption | rfl | exact .inl rfl | exact .inr rfl)) ?_ | refine rt_eq (q_X5_searchShort_160 (by first | assumption | rfl | exact .inl rfl | exact .inr rfl)) ?_ | refine rt_eq (q_X5_searchShort_185 (by first | assumption | rfl | exact .inl rfl | exact .inr rfl)) ?_)
    by_cases z : rcN h f u fl = true
    · rw [z]
      refine rt_f (by decide) (rt_gd (by decide) ?_)
      rw [bs_reach z]
      have e : btr B (shf (pcN u) pre (some (0, []))) = some (pcN u, pre) := by
        have e0 : shf (pcN u) pre (some (0, [])) = some (pcN u, pre) := by
          unfold shf
          simp
        rw [e0]
        rcases B with _ | y
        · rfl
        · unfold btr
          simp only
          rw [if_pos (hBj y rfl)]
      rw [e]
      refine rt_ret ⟨fr_up1 (fr_up fr_rfl rfl) (fun j => rfl), fun i hi => by rw [up1_n (by decide), up2_n (by decide)], ⟨by rw [up1_n (by decide), up2_s], by show pcN u ≤ 6; omega, ?_⟩, fun c hc hv => .inl hv, ?_⟩
      · intro i hi
        have hi' : i < pcN u := hi
        rw [up1_s, pk_cpy_in (show (nI 0).toNatClampNeg ≤ i from Nat.zero_le i) (by rw [show (nI 0).toNatClampNeg = 0 by decide, show (nI 6).toNatClampNeg = 6 by decide]; omega), show (nI 0).toNatClampNeg = 0 by decide, Nat.zero_add, Nat.sub_zero, up2_n (by decide)]
        exact hpa i hi'
      · intro c hc hv hp k s hks
        obtain ⟨y, y1, y2⟩ := hM c hc hv hp k s hks
        have := hBj y y1
        exact ⟨(pcN u, pre), rfl, by show pcN u ≤ _; omega⟩
    · rw [Bool.not_eq_true] at z
      rw [z]
      refine rt_t bI_f ?_
      exact lp_search ok W hK hu hl hfl C hpre hpa ih (2 * h 0 0) 0 I J B _ _ _ (by omega) ⟨fr_rfl, fun i _ => rfl, hB, fun c _ hv => .inl hv, hM⟩ (fold_eq z)
/-- SHORT as the class keeps it -/
def shC (I : MI32) (h : Hs) (m nL : Nat) (cd : Cd) (N : Nt) (f : Nat) : Prop := shB I (shN h m nL cd N f 7 0 none (nv (N 29)))
def fFs : Fls := fSh ++ [(57, 0), (56, 12)]
theorem sp_findShort (ok : HOK h) (W : wfC cd nL 0 0) (S : SC I h m nL cd) (C : NC I 43 n N) (Z : NX (h 0 0) (h 0 2) N) (hf : f < h 0 2) (hc : I 56 11 = nI f → shC I h m nL cd N f) : Rt L X (runM (d + 13) nX5_findShort [.ref 56, .ref 43, .int (nI f)] (mm L X I J)) none (fun I' _ => Fr fFs I I' ∧ I' 56 11 = nI f ∧ shC I' h m nL cd N f) := by
  have h1 : oc3 43 := .inl rfl
  obtain ⟨z1, z2⟩ := Z.2.2.2.2
  rw [e_X5_findShort]
  (first | refine rt_eq (q_X5_findShort_0 (by first | assumption | rfl | exact .inl rfl | exact .inr rfl)) ?_ | refine rt_eq (q_X5_findShort_23 (by first | assumption | rfl | exact .inl rfl | exact .inr rfl)) ?_ | refine rt_eq (q_X5_findShort_31 (by first | assumption | rfl | exact .inl rfl | exact .inr rfl)) ?_ | refine rt_eq (q_X5_findShort_44) ?_)
  by_cases y : I 56 11 = nI f
  · refine rt_t y ?_
    exact rt_ret ⟨fr_rfl, y, hc y⟩
  · refine rt_f y ?_
    generalize hI1 : up2 (up2 I 56 11 (nI f)) 56 13 (-1) = I1
    have g1 : Fr [(56, 12), (56, 14)] I I1 := by rw [← hI1]; exact fr_up (fr_up fr_rfl rfl) rfl
    have e1 : I1 56 11 = nI f := by rw [← hI1, up2_k (by decide), up2_s]
    have e2 : I1 56 13 = -1 := by rw [← hI1, up2_s]
    clear hI1
    have S1 := SC_fr S g1 (by decide) (by decide) (by decide)
    have C1 := NC_fr C (ag_of g1 (by decide))
    refine rt_bnd (sp_fillFollowers S1.1 ok) ?_
    rintro I2 J2 ⟨⟨f2, F2⟩, rfl⟩
    (first | refine rt_eq (q_X5_findShort_0 (by first | assumption | rfl | exact .inl rfl | exact .inr rfl)) ?_ | refine rt_eq (q_X5_findShort_23 (by first | assumption | rfl | exact .inl rfl | exact .inr rfl)) ?_ | refine rt_eq (q_X5_findShort_31 (by first | assumption | rfl | exact .inl rfl | exact .inr rfl)) ?_ | refine rt_eq (q_X5_findShort_44) ?_)
    refine rt_bndN sp_fillJ ?_
    rintro I3 J3 ⟨rfl, v3⟩
    (first | refine rt_eq (q_X5_findShort_0 (by first | assumption | rfl | exact .inl rfl | exact .inr rfl)) ?_ | refine rt_eq (q_X5_findShort_23 (by first | assumption | rfl | exact .inl rfl | exact .inr rfl)) ?_ | refine rt_eq (q_X5_findShort_31 (by first | assumption | rfl | exact .inl rfl | exact .inr rfl)) ?_ | refine rt_eq (q_X5_findShort_44) ?_)
    have S3 := SC_fr S1 f2 (by decide) (by decide) (by decide)
    have C3 := NC_fr C1 (ag_of f2 (by decide))
    have X3 : CX I3 h m nL cd n N f := ⟨S3.1, S3.2.1, S3.2.2, F2, C3, by rw [f2 56 11 rfl]; exact e1⟩
    rw [NC_hope C3]
    have hs := sp_search (d := d) (L := L) (X := X) (n := n) (m := m) ok W hf 7 0 none (nv (N 29)) [] none I3 J3 rfl (Nat.two_pow_pos _) lOK_n z2 X3 rfl (fun i hi => absurd hi (Nat.not_lt_zero i)) (by show I3 56 13 = -1; rw [f2 56 13 rfl]; exact e2) (fun z e => by cases e) (fun c hcc hv _ => by rw [v3 c hcc] at hv; cases hv)
    have eln : lnN h 0 = 0 := by
      unfold lnN accF accF accF accF accF accF accF
      simp [tb]
    rw [← z1, show pcN 0 = 0 from rfl, eln] at hs
    refine rt_bnd hs ?_
    rintro I4 J4 ⟨r1, r2, r3, r4, r5⟩
    (first | refine rt_eq (q_X5_findShort_0 (by first | assumption | rfl | exact .inl rfl | exact .inr rfl)) ?_ | refine rt_eq (q_X5_findShort_23 (by first | assumption | rfl | exact .inl rfl | exact .inr rfl)) ?_ | refine rt_eq (q_X5_findShort_31 (by first | assumption | rfl | exact .inl rfl | exact .inr rfl)) ?_ | refine rt_eq (q_X5_findShort_44) ?_)
    refine rt_ret ⟨fr_tr (fr_mono g1 (by decide)) (fr_tr (fr_mono f2 (by decide)) (fr_mono r1 (by decide))), by rw [r1 56 11 rfl, f2 56 11 rfl]; exact e1, ?_⟩
    have e3 : btr none (shf 0 [] (shN h m nL cd N f 7 0 none (nv (N 29)))) = shN h m nL cd N f 7 0 none (nv (N 29)) := by
      rcases shN h m nL cd N f 7 0 none (nv (N 29)) with _ | ⟨k, s⟩
      · rfl
      · unfold btr shf
        simp only [Option.map_some, List.nil_append, Nat.zero_add]
    rw [e3] at r3
    exact r3
end SR
