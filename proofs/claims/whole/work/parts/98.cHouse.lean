/-! A HOUSE IS READ WHOLE, BY THE CLASS -/
section HC1
variable {d L X : Nat} {I : MI32} {J : MI64} {W : Nat → Nat} {z a b c : Nat} {h : Hs}
theorem sp_isFullH {K : Nat} (H : HS I h) (ok : HOK h) (hK : K < 4) : runM (d + 1) nX1_isFull [.ref 13, .int (nI K)] (mm L X I J) = rI (nI (if (K = 0 ∧ h 0 0 = 6) ∨ (K = 1 ∧ h 0 1 = 4) ∨ (K = 2 ∧ h 0 2 = 5) then 1 else 0)) (mm L X I J) := by
  have h0 : oc1 13 := .inr rfl
  obtain ⟨o1, o2, o3, -, -⟩ := ok
  obtain ⟨e0, e1, e2, -⟩ := H
  rw [e_X1_isFull]
  (first | refine Eq.trans (q_X1_isFull_0 (by first | assumption | rfl | exact .inl rfl | exact .inr rfl)) ?_ | refine Eq.trans (q_X1_isFull_1 (by first | assumption | rfl | exact .inl rfl | exact .inr rfl)) ?_ | refine Eq.trans (q_X1_isFull_28 (by first | assumption | rfl | exact .inl rfl | exact .inr rfl)) ?_ | refine Eq.trans (q_X1_isFull_43 (by first | assumption | rfl | exact .inl rfl | exact .inr rfl)) ?_ | refine Eq.trans (q_X1_isFull_57 (by first | assumption | rfl | exact .inl rfl | exact .inr rfl)) ?_ | refine Eq.trans (q_X1_isFull_71) ?_)
  (first | refine Eq.trans (q_X1_isFull_0 (by first | assumption | rfl | exact .inl rfl | exact .inr rfl)) ?_ | refine Eq.trans (q_X1_isFull_1 (by first | assumption | rfl | exact .inl rfl | exact .inr rfl)) ?_ | refine Eq.trans (q_X1_isFull_28 (by first | assumption | rfl | exact .inl rfl | exact .inr rfl)) ?_ | refine Eq.trans (q_X1_isFull_43 (by first | assumption | rfl | exact .inl rfl | exact .inr rfl)) ?_ | refine Eq.trans (q_X1_isFull_57 (by first | assumption | rfl | exact .inl rfl | exact .inr rfl)) ?_ | refine Eq.trans (q_X1_isFull_71) ?_)
  by_cases k0 : K = 0
  · rw [if_pos (by rw [k0])]
    (first | refine Eq.trans (q_X1_isFull_0 (by first | assumption | rfl | exact .inl rfl | exact .inr rfl)) ?_ | refine Eq.trans (q_X1_isFull_1 (by first | assumption | rfl | exact .inl rfl | exact .inr rfl)) ?_ | refine Eq.trans (q_X1_isFull_28 (by first | assumption | rfl | exact .inl rfl | exact .inr rfl)) ?_ | refine Eq.trans (q_X1_isFull_43 (by first | assumption | rfl | exact .inl rfl | exact .inr rfl)) ?_ | refine Eq.trans (q_X1_isFull_57 (by first | assumption | rfl | exact .inl rfl | exact .inr rfl)) ?_ | refine Eq.trans (q_X1_isFull_71) ?_)
    rw [e0]
    by_cases q : h 0 0 = 6
    · rw [if_neg (by ((try simp (disch := omega) only [nI_leI, nI_ltI, nI_eq, nI_add, pk_mul, n_0add, Nat.zero_add, nI_clamp]) <;> omega)), if_pos (.inl ⟨k0, q⟩)]
    · rw [if_pos (by ((try simp (disch := omega) only [nI_leI, nI_ltI, nI_eq, nI_add, pk_mul, n_0add, Nat.zero_add, nI_clamp]) <;> omega)), if_neg (by omega)]
  · rw [if_neg (by ((try simp (disch := omega) only [nI_leI, nI_ltI, nI_eq, nI_add, pk_mul, n_0add, Nat.zero_add, nI_clamp]) <;> omega))]
    by_cases k1 : K = 1
    · rw [if_pos (by rw [k1])]
      (first | refine Eq.trans (q_X1_isFull_0 (by first | assumption | rfl | exact .inl rfl | exact .inr rfl)) ?_ | refine Eq.trans (q_X1_isFull_1 (by first | assumption | rfl | exact .inl rfl | exact .inr rfl)) ?_ | refine Eq.trans (q_X1_isFull_28 (by first | assumption | rfl | exact .inl rfl | exact .inr rfl)) ?_ | refine Eq.trans (q_X1_isFull_43 (by first | assumption | rfl | exact .inl rfl | exact .inr rfl)) ?_ | refine Eq.trans (q_X1_isFull_57 (by first | assumption | rfl | exact .inl rfl | exact .inr rfl)) ?_ | refine Eq.trans (q_X1_isFull_71) ?_)
      rw [e1]
      by_cases q : h 0 1 = 4
      · rw [if_neg (by ((try simp (disch := omega) only [nI_leI, nI_ltI, nI_eq, nI_add, pk_mul, n_0add, Nat.zero_add, nI_clamp]) <;> omega)), if_pos (.inr (.inl ⟨k1, q⟩))]
      · rw [if_pos (by ((try simp (disch := omega) only [nI_leI, nI_ltI, nI_eq, nI_add, pk_mul, n_0add, Nat.zero_add, nI_clamp]) <;> omega)), if_neg (by omega)]
    · rw [if_neg (by ((try simp (disch := omega) only [nI_leI, nI_ltI, nI_eq, nI_add, pk_mul, n_0add, Nat.zero_add, nI_clamp]) <;> omega))]
      by_cases k2 : K = 2
      · rw [if_pos (by rw [k2])]
        (first | refine Eq.trans (q_X1_isFull_0 (by first | assumption | rfl | exact .inl rfl | exact .inr rfl)) ?_ | refine Eq.trans (q_X1_isFull_1 (by first | assumption | rfl | exact .inl rfl | exact .inr rfl)) ?_ | refine Eq.trans (q_X1_isFull_28 (by first | assumption | rfl | exact .inl rfl | exact .inr rfl)) ?_ | refine Eq.trans (q_X1_isFull_43 (by first | assumption | rfl | exact .inl rfl | exact .inr rfl)) ?_ | refine Eq.trans (q_X1_isFull_57 (by first | assumption | rfl | exact .inl rfl | exact .inr rfl)) ?_ | refine Eq.trans (q_X1_isFull_71) ?_)
        rw [e2]
        by_cases q : h 0 2 = 5
        · rw [if_neg (by ((try simp (disch := omega) only [nI_leI, nI_ltI, nI_eq, nI_add, pk_mul, n_0add, Nat.zero_add, nI_clamp]) <;> omega)), if_pos (.inr (.inr ⟨k2, q⟩))]
        · rw [if_pos (by ((try simp (disch := omega) only [nI_leI, nI_ltI, nI_eq, nI_add, pk_mul, n_0add, Nat.zero_add, nI_clamp]) <;> omega)), if_neg (by omega)]
      · rw [if_neg (by ((try simp (disch := omega) only [nI_leI, nI_ltI, nI_eq, nI_add, pk_mul, n_0add, Nat.zero_add, nI_clamp]) <;> omega)), if_neg (by omega)]
        (first | refine Eq.trans (q_X1_isFull_0 (by first | assumption | rfl | exact .inl rfl | exact .inr rfl)) ?_ | refine Eq.trans (q_X1_isFull_1 (by first | assumption | rfl | exact .inl rfl | exact .inr rfl)) ?_ | refine Eq.trans (q_X1_isFull_28 (by first | assumption | rfl | exact .inl rfl | exact .inr rfl)) ?_ | refine Eq.trans (q_X1_isFull_43 (by first | assumption | rfl | exact .inl rfl | exact .inr rfl)) ?_ | refine Eq.trans (q_X1_isFull_57 (by first | assumption | rfl | exact .inl rfl | exact .inr rfl)) ?_ | refine Eq.trans (q_X1_isFull_71) ?_)
        rfl
theorem sp_readClause {K : Nat} (R : RdC I W z b) (H : HS I h) (ok : HOK h) (hK : K < 4) (hn : ¬ hFull h c K) : Rt L X (runM (d + 6) nX1_readClause [.ref 13, .ref 1, .int (nI K)] (mm L X I J)) (some (.int (bI (decide ((hm W z K b).1 = 0))))) (fun I' J' => HQ I I' W z K b h ∧ J' = J) := by
  have h0 : oc1 13 := .inr rfl
  obtain ⟨o1, o2, o3, -, -⟩ := ok
  have n0 : K = 0 → h 0 0 < 6 := fun k => by
    have : ¬ h 0 0 = 6 := fun e => hn (.inr (.inl ⟨k, e⟩))
    omega
  have n1 : K = 1 → h 0 1 < 4 := fun k => by
    have : ¬ h 0 1 = 4 := fun e => hn (.inr (.inr (.inl ⟨k, e⟩)))
    omega
  have n2 : K = 2 → h 0 2 < 5 := fun k => by
    have : ¬ h 0 2 = 5 := fun e => hn (.inr (.inr (.inr ⟨k, e⟩)))
    omega
  rw [e_X1_readClause]
  (first | refine rt_eq (q_X1_readClause_0 (by first | assumption | rfl | exact .inl rfl | exact .inr rfl)) ?_ | refine rt_eq (q_X1_readClause_1 (by first | assumption | rfl | exact .inl rfl | exact .inr rfl)) ?_ | refine rt_eq (q_X1_readClause_28 (by first | assumption | rfl | exact .inl rfl | exact .inr rfl)) ?_ | refine rt_eq (q_X1_readClause_34 (by first | assumption | rfl | exact .inl rfl | exact .inr rfl)) ?_ | refine rt_eq (q_X1_readClause_40 (by first | assumption | rfl | exact .inl rfl | exact .inr rfl)) ?_ | refine rt_eq (q_X1_readClause_46 (by first | assumption | rfl | exact .inl rfl | exact .inr rfl)) ?_ | refine rt_eq (q_X1_readClause_33) ?_ | refine rt_eq (q_X1_readClause_39) ?_ | refine rt_eq (q_X1_readClause_45) ?_ | refine rt_eq (q_X1_readClause_51) ?_)
  (first | refine rt_eq (q_X1_readClause_0 (by first | assumption | rfl | exact .inl rfl | exact .inr rfl)) ?_ | refine rt_eq (q_X1_readClause_1 (by first | assumption | rfl | exact .inl rfl | exact .inr rfl)) ?_ | refine rt_eq (q_X1_readClause_28 (by first | assumption | rfl | exact .inl rfl | exact .inr rfl)) ?_ | refine rt_eq (q_X1_readClause_34 (by first | assumption | rfl | exact .inl rfl | exact .inr rfl)) ?_ | refine rt_eq (q_X1_readClause_40 (by first | assumption | rfl | exact .inl rfl | exact .inr rfl)) ?_ | refine rt_eq (q_X1_readClause_46 (by first | assumption | rfl | exact .inl rfl | exact .inr rfl)) ?_ | refine rt_eq (q_X1_readClause_33) ?_ | refine rt_eq (q_X1_readClause_39) ?_ | refine rt_eq (q_X1_readClause_45) ?_ | refine rt_eq (q_X1_readClause_51) ?_)
  by_cases k0 : K = 0
  · subst k0
    refine rt_t rfl ?_
    (first | refine rt_eq (q_X1_readClause_0 (by first | assumption | rfl | exact .inl rfl | exact .inr rfl)) ?_ | refine rt_eq (q_X1_readClause_1 (by first | assumption | rfl | exact .inl rfl | exact .inr rfl)) ?_ | refine rt_eq (q_X1_readClause_28 (by first | assumption | rfl | exact .inl rfl | exact .inr rfl)) ?_ | refine rt_eq (q_X1_readClause_34 (by first | assumption | rfl | exact .inl rfl | exact .inr rfl)) ?_ | refine rt_eq (q_X1_readClause_40 (by first | assumption | rfl | exact .inl rfl | exact .inr rfl)) ?_ | refine rt_eq (q_X1_readClause_46 (by first | assumption | rfl | exact .inl rfl | exact .inr rfl)) ?_ | refine rt_eq (q_X1_readClause_33) ?_ | refine rt_eq (q_X1_readClause_39) ?_ | refine rt_eq (q_X1_readClause_45) ?_ | refine rt_eq (q_X1_readClause_51) ?_)
    refine rt_bnd (sp_readPiece R H (n0 rfl)) ?_
    rintro I1 J1 ⟨f, rfl⟩
    (first | refine rt_eq (q_X1_readClause_0 (by first | assumption | rfl | exact .inl rfl | exact .inr rfl)) ?_ | refine rt_eq (q_X1_readClause_1 (by first | assumption | rfl | exact .inl rfl | exact .inr rfl)) ?_ | refine rt_eq (q_X1_readClause_28 (by first | assumption | rfl | exact .inl rfl | exact .inr rfl)) ?_ | refine rt_eq (q_X1_readClause_34 (by first | assumption | rfl | exact .inl rfl | exact .inr rfl)) ?_ | refine rt_eq (q_X1_readClause_40 (by first | assumption | rfl | exact .inl rfl | exact .inr rfl)) ?_ | refine rt_eq (q_X1_readClause_46 (by first | assumption | rfl | exact .inl rfl | exact .inr rfl)) ?_ | refine rt_eq (q_X1_readClause_33) ?_ | refine rt_eq (q_X1_readClause_39) ?_ | refine rt_eq (q_X1_readClause_45) ?_ | refine rt_eq (q_X1_readClause_51) ?_)
    exact rt_gd bI_b01 (rt_ret ⟨f, rfl⟩)
  · refine rt_f (by (try simp (disch := omega) only [nI_leI, nI_ltI, nI_eq, nI_add, pk_mul, n_0add, Nat.zero_add, nI_clamp]) <;> omega) ?_
    by_cases k1 : K = 1
    · subst k1
      refine rt_t rfl ?_
      (first | refine rt_eq (q_X1_readClause_0 (by first | assumption | rfl | exact .inl rfl | exact .inr rfl)) ?_ | refine rt_eq (q_X1_readClause_1 (by first | assumption | rfl | exact .inl rfl | exact .inr rfl)) ?_ | refine rt_eq (q_X1_readClause_28 (by first | assumption | rfl | exact .inl rfl | exact .inr rfl)) ?_ | refine rt_eq (q_X1_readClause_34 (by first | assumption | rfl | exact .inl rfl | exact .inr rfl)) ?_ | refine rt_eq (q_X1_readClause_40 (by first | assumption | rfl | exact .inl rfl | exact .inr rfl)) ?_ | refine rt_eq (q_X1_readClause_46 (by first | assumption | rfl | exact .inl rfl | exact .inr rfl)) ?_ | refine rt_eq (q_X1_readClause_33) ?_ | refine rt_eq (q_X1_readClause_39) ?_ | refine rt_eq (q_X1_readClause_45) ?_ | refine rt_eq (q_X1_readClause_51) ?_)
      refine rt_bnd (sp_readCollar R H (n1 rfl)) ?_
      rintro I1 J1 ⟨f, rfl⟩
      (first | refine rt_eq (q_X1_readClause_0 (by first | assumption | rfl | exact .inl rfl | exact .inr rfl)) ?_ | refine rt_eq (q_X1_readClause_1 (by first | assumption | rfl | exact .inl rfl | exact .inr rfl)) ?_ | refine rt_eq (q_X1_readClause_28 (by first | assumption | rfl | exact .inl rfl | exact .inr rfl)) ?_ | refine rt_eq (q_X1_readClause_34 (by first | assumption | rfl | exact .inl rfl | exact .inr rfl)) ?_ | refine rt_eq (q_X1_readClause_40 (by first | assumption | rfl | exact .inl rfl | exact .inr rfl)) ?_ | refine rt_eq (q_X1_readClause_46 (by first | assumption | rfl | exact .inl rfl | exact .inr rfl)) ?_ | refine rt_eq (q_X1_readClause_33) ?_ | refine rt_eq (q_X1_readClause_39) ?_ | refine rt_eq (q_X1_readClause_45) ?_ | refine rt_eq (q_X1_readClause_51) ?_)
      exact rt_gd bI_b01 (rt_ret ⟨f, rfl⟩)
    · refine rt_f (by (try simp (disch := omega) only [nI_leI, nI_ltI, nI_eq, nI_add, pk_mul, n_0add, Nat.zero_add, nI_clamp]) <;> omega) ?_
      by_cases k2 : K = 2
      · subst k2
        refine rt_t rfl ?_
        (first | refine rt_eq (q_X1_readClause_0 (by first | assumption | rfl | exact .inl rfl | exact .inr rfl)) ?_ | refine rt_eq (q_X1_readClause_1 (by first | assumption | rfl | exact .inl rfl | exact .inr rfl)) ?_ | refine rt_eq (q_X1_readClause_28 (by first | assumption | rfl | exact .inl rfl | exact .inr rfl)) ?_ | refine rt_eq (q_X1_readClause_34 (by first | assumption | rfl | exact .inl rfl | exact .inr rfl)) ?_ | refine rt_eq (q_X1_readClause_40 (by first | assumption | rfl | exact .inl rfl | exact .inr rfl)) ?_ | refine rt_eq (q_X1_readClause_46 (by first | assumption | rfl | exact .inl rfl | exact .inr rfl)) ?_ | refine rt_eq (q_X1_readClause_33) ?_ | refine rt_eq (q_X1_readClause_39) ?_ | refine rt_eq (q_X1_readClause_45) ?_ | refine rt_eq (q_X1_readClause_51) ?_)
        refine rt_bnd (sp_readFire R H (n2 rfl)) ?_
        rintro I1 J1 ⟨f, rfl⟩
        (first | refine rt_eq (q_X1_readClause_0 (by first | assumption | rfl | exact .inl rfl | exact .inr rfl)) ?_ | refine rt_eq (q_X1_readClause_1 (by first | assumption | rfl | exact .inl rfl | exact .inr rfl)) ?_ | refine rt_eq (q_X1_readClause_28 (by first | assumption | rfl | exact .inl rfl | exact .inr rfl)) ?_ | refine rt_eq (q_X1_readClause_34 (by first | assumption | rfl | exact .inl rfl | exact .inr rfl)) ?_ | refine rt_eq (q_X1_readClause_40 (by first | assumption | rfl | exact .inl rfl | exact .inr rfl)) ?_ | refine rt_eq (q_X1_readClause_46 (by first | assumption | rfl | exact .inl rfl | exact .inr rfl)) ?_ | refine rt_eq (q_X1_readClause_33) ?_ | refine rt_eq (q_X1_readClause_39) ?_ | refine rt_eq (q_X1_readClause_45) ?_ | refine rt_eq (q_X1_readClause_51) ?_)
        exact rt_gd bI_b01 (rt_ret ⟨f, rfl⟩)
      · refine rt_f (by (try simp (disch := omega) only [nI_leI, nI_ltI, nI_eq, nI_add, pk_mul, n_0add, Nat.zero_add, nI_clamp]) <;> omega) ?_
        have k3 : K = 3 := by omega
        subst k3
        (first | refine rt_eq (q_X1_readClause_0 (by first | assumption | rfl | exact .inl rfl | exact .inr rfl)) ?_ | refine rt_eq (q_X1_readClause_1 (by first | assumption | rfl | exact .inl rfl | exact .inr rfl)) ?_ | refine rt_eq (q_X1_readClause_28 (by first | assumption | rfl | exact .inl rfl | exact .inr rfl)) ?_ | refine rt_eq (q_X1_readClause_34 (by first | assumption | rfl | exact .inl rfl | exact .inr rfl)) ?_ | refine rt_eq (q_X1_readClause_40 (by first | assumption | rfl | exact .inl rfl | exact .inr rfl)) ?_ | refine rt_eq (q_X1_readClause_46 (by first | assumption | rfl | exact .inl rfl | exact .inr rfl)) ?_ | refine rt_eq (q_X1_readClause_33) ?_ | refine rt_eq (q_X1_readClause_39) ?_ | refine rt_eq (q_X1_readClause_45) ?_ | refine rt_eq (q_X1_readClause_51) ?_)
        refine rt_bnd (sp_readHope R H) ?_
        rintro I1 J1 ⟨f, rfl⟩
        (first | refine rt_eq (q_X1_readClause_0 (by first | assumption | rfl | exact .inl rfl | exact .inr rfl)) ?_ | refine rt_eq (q_X1_readClause_1 (by first | assumption | rfl | exact .inl rfl | exact .inr rfl)) ?_ | refine rt_eq (q_X1_readClause_28 (by first | assumption | rfl | exact .inl rfl | exact .inr rfl)) ?_ | refine rt_eq (q_X1_readClause_34 (by first | assumption | rfl | exact .inl rfl | exact .inr rfl)) ?_ | refine rt_eq (q_X1_readClause_40 (by first | assumption | rfl | exact .inl rfl | exact .inr rfl)) ?_ | refine rt_eq (q_X1_readClause_46 (by first | assumption | rfl | exact .inl rfl | exact .inr rfl)) ?_ | refine rt_eq (q_X1_readClause_33) ?_ | refine rt_eq (q_X1_readClause_39) ?_ | refine rt_eq (q_X1_readClause_45) ?_ | refine rt_eq (q_X1_readClause_51) ?_)
        exact rt_gd bI_b01 (rt_ret ⟨f, rfl⟩)
theorem lp_readHouse (O : SO I) : ∀ f c a h I' u3, c + f = 61 → c ≤ 60 → RdC I' W z a → Fr fHR I I' → HS I' h → hOK h → I' 1 2 = nI 0 → I' 1 3 = -1 → Rt L X (c_X1_readFrom_6 (d + 6) L X I' J 13 (nI c) u3) (some (.int (bI (decide ((hP W z f c a h).1 = 0))))) (fun I'' J' => (Fr fHR I I'' ∧ ((hP W z f c a h).1 = 0 → HS I'' (hP W z f c a h).2.2 ∧ hOK (hP W z f c a h).2.2 ∧ I'' 1 3 = -1) ∧ (¬ (hP W z f c a h).1 = 0 → I'' 1 2 = nI (hP W z f c a h).1 ∧ I'' 1 3 = nI (hP W z f c a h).2.1)) ∧ J' = J)
  | 0, c, a, h, I', u3, hc, hc2, R, hf, H, ok, h2, h3 => by
    exfalso
    omega
  | f + 1, c, a, h, I', u3, hc, hc2, R, hf, H, ok, h2, h3 => by
    have ih := lp_readHouse O f (c + 1)
    obtain ⟨B, hz, hz2, ha, h5⟩ := R
    have hs := sk_le (W := W) ha
    have he := wE_le (W := W) ha
    have ho : oc1 13 := .inr rfl
    have os2 : os 1000002 := .inl rfl
    have ews : wdS 1000002 = wdH := rfl
    (first | refine rt_eq (q_X1_readFrom_0 (by first | assumption | rfl | exact .inl rfl | exact .inr rfl)) ?_ | refine rt_eq (q_X1_readFrom_4 (by first | assumption | rfl | exact .inl rfl | exact .inr rfl)) ?_ | refine rt_eq (q_X1_readFrom_6 (by first | assumption | rfl | exact .inl rfl | exact .inr rfl)) ?_ | refine rt_eq (q_X1_readFrom_16 (by first | assumption | rfl | exact .inl rfl | exact .inr rfl)) ?_ | refine rt_eq (q_X1_readFrom_28 (by first | assumption | rfl | exact .inl rfl | exact .inr rfl)) ?_ | refine rt_eq (q_X1_readFrom_49) ?_ | refine rt_eq (q_X1_readFrom_46 (by first | assumption | rfl | exact .inl rfl | exact .inr rfl)) ?_ | refine rt_eq (q_X1_readFrom_53) ?_ | refine rt_eq (q_X1_readFrom_60 (by first | assumption | rfl | exact .inl rfl | exact .inr rfl)) ?_ | refine rt_eq (q_X1_readFrom_69 (by first | assumption | rfl | exact .inl rfl | exact .inr rfl)) ?_)
    refine rt_f (by (try simp (disch := omega) only [nI_leI, nI_ltI, nI_eq, nI_add, pk_mul, n_0add, Nat.zero_add, nI_clamp]) <;> omega) (rt_bnd (sp_peek B hz hz2 ha h5) ?_)
    rintro I1 J1 ⟨⟨f1, f2, f3⟩, rfl⟩
    have g1 : Fr fHR I I1 := fr_tr hf (fr_mono f1 (by decide))
    have H1 : HS I1 h := HS_fr H f1 (by decide)
    (first | refine rt_eq (q_X1_readFrom_0 (by first | assumption | rfl | exact .inl rfl | exact .inr rfl)) ?_ | refine rt_eq (q_X1_readFrom_4 (by first | assumption | rfl | exact .inl rfl | exact .inr rfl)) ?_ | refine rt_eq (q_X1_readFrom_6 (by first | assumption | rfl | exact .inl rfl | exact .inr rfl)) ?_ | refine rt_eq (q_X1_readFrom_16 (by first | assumption | rfl | exact .inl rfl | exact .inr rfl)) ?_ | refine rt_eq (q_X1_readFrom_28 (by first | assumption | rfl | exact .inl rfl | exact .inr rfl)) ?_ | refine rt_eq (q_X1_readFrom_49) ?_ | refine rt_eq (q_X1_readFrom_46 (by first | assumption | rfl | exact .inl rfl | exact .inr rfl)) ?_ | refine rt_eq (q_X1_readFrom_53) ?_ | refine rt_eq (q_X1_readFrom_60 (by first | assumption | rfl | exact .inl rfl | exact .inr rfl)) ?_ | refine rt_eq (q_X1_readFrom_69 (by first | assumption | rfl | exact .inl rfl | exact .inr rfl)) ?_)
    by_cases e : sk W z a = z
    · have ep : hP W z (f + 1) c a h = (0, 0, h) := if_pos e
      rw [ep, show byT W z (sk W z a) = -1 from if_neg (by omega)]
      exact rt_t rfl (rt_ret ⟨⟨g1, fun _ => ⟨H1, ok, (f1 1 3 rfl).trans h3⟩, fun q => absurd rfl q⟩, rfl⟩)
    · have ep : hP W z (f + 1) c a h = if ¬ (hcl W z c a h).1 = 0 then ((hcl W z c a h).1, (hcl W z c a h).2.1, h) else hP W z f (c + 1) (hcl W z c a h).2.2.1 (hcl W z c a h).2.2.2 := if_neg e
      have hb := (B (sk W z a) (by omega)).2
      rw [show byT W z (sk W z a) = nI (W (sk W z a)) from if_pos (by omega)]
      have B1 := BC_fr B f1 (by decide)
      have z1 : I1 1 6 = nI z := (f1 1 6 rfl).trans hz
      have nm := sp_named (d := d) (L := L) (X := X) (J := J1) os2 (SO_fr O g1 (by decide)) B1 z1 hz2 hs.2 f2
      rw [sk_sk ha, wE_sk ha, ews] at nm
      have ew : plA W (sk W z a) (wE W z a) wdH 0 = hkI W z a := rfl
      rw [ew] at nm
      refine rt_f (nI_m1 _ (by omega)) (rt_bnd nm ?_)
      rintro I2 J2 ⟨⟨k1, k2, k3⟩, rfl⟩
      have g2 : Fr fHR I I2 := fr_tr g1 (fr_mono k1 (by decide))
      have flt : ∀ (F w : Nat) (h' : Hs) (a' : Nat) (I3 : MI32), hcl W z c a h = (F, w, a', h') → ¬ F = 0 → Fr fHR I I3 → I3 1 2 = nI F → I3 1 3 = nI w → Rt L X (some (.inl (some (.int (nI 0))), mm L X I3 J2)) (some (.int (bI (decide ((hP W z (f + 1) c a h).1 = 0))))) (fun I'' J' => (Fr fHR I I'' ∧ ((hP W z (f + 1) c a h).1 = 0 → HS I'' (hP W z (f + 1) c a h).2.2 ∧ hOK (hP W z (f + 1) c a h).2.2 ∧ I'' 1 3 = -1) ∧ (¬ (hP W z (f + 1) c a h).1 = 0 → I'' 1 2 = nI (hP W z (f + 1) c a h).1 ∧ I'' 1 3 = nI (hP W z (f + 1) c a h).2.1)) ∧ J' = J2) := by
        intro F w h' a' I3 q1 q2 q3 q4 q5
        have ep2 : hP W z (f + 1) c a h = (F, w, h) := by
          rw [ep, q1]
          exact if_pos q2
        rw [ep2]
        have q6 : decide ((F, w, h).1 = 0) = false := decide_eq_false q2
        rw [q6]
        exact rt_ret ⟨⟨q3, fun q => absurd q q2, fun _ => ⟨q4, q5⟩⟩, rfl⟩
      (first | refine rt_eq (q_X1_readFrom_0 (by first | assumption | rfl | exact .inl rfl | exact .inr rfl)) ?_ | refine rt_eq (q_X1_readFrom_4 (by first | assumption | rfl | exact .inl rfl | exact .inr rfl)) ?_ | refine rt_eq (q_X1_readFrom_6 (by first | assumption | rfl | exact .inl rfl | exact .inr rfl)) ?_ | refine rt_eq (q_X1_readFrom_16 (by first | assumption | rfl | exact .inl rfl | exact .inr rfl)) ?_ | refine rt_eq (q_X1_readFrom_28 (by first | assumption | rfl | exact .inl rfl | exact .inr rfl)) ?_ | refine rt_eq (q_X1_readFrom_49) ?_ | refine rt_eq (q_X1_readFrom_46 (by first | assumption | rfl | exact .inl rfl | exact .inr rfl)) ?_ | refine rt_eq (q_X1_readFrom_53) ?_ | refine rt_eq (q_X1_readFrom_60 (by first | assumption | rfl | exact .inl rfl | exact .inr rfl)) ?_ | refine rt_eq (q_X1_readFrom_69 (by first | assumption | rfl | exact .inl rfl | exact .inr rfl)) ?_)
      by_cases c1 : hkI W z a = -1
      · have ec : hcl W z c a h = (1, sk W z a, 0, h) := if_pos c1
        obtain ⟨m2, m3⟩ := k3 c1
        rw [c1]
        exact rt_f (by decide) (flt _ _ _ _ I2 ec (by decide) g2 m2 m3)
      · obtain ⟨w1, w2, w3⟩ := hk_n c1
        obtain ⟨m5, m2, m3, m7⟩ := k2 c1
        have H2 : HS I2 h := HS_fr H1 k1 (by decide)
        rw [w1]
        refine rt_t (by (try simp (disch := omega) only [nI_leI, nI_ltI, nI_eq, nI_add, pk_mul, n_0add, Nat.zero_add, nI_clamp]) <;> omega) ?_
        have many : hFull h c (hkN W z a) → ∀ u0 u2 u3, Rt L X (runI (runM (d + 6)) iX1_readFrom (49, [u0, some (.ref 1), u2, u3], [], mm L X I2 J2)) (some (.int (bI (decide ((hP W z (f + 1) c a h).1 = 0))))) (fun I'' J' => (Fr fHR I I'' ∧ ((hP W z (f + 1) c a h).1 = 0 → HS I'' (hP W z (f + 1) c a h).2.2 ∧ hOK (hP W z (f + 1) c a h).2.2 ∧ I'' 1 3 = -1) ∧ (¬ (hP W z (f + 1) c a h).1 = 0 → I'' 1 2 = nI (hP W z (f + 1) c a h).1 ∧ I'' 1 3 = nI (hP W z (f + 1) c a h).2.1)) ∧ J' = J2) := by
          intro q u0 u2 u3
          have ec : hcl W z c a h = (3, sk W z a, 0, h) := by
            unfold hcl
            rw [if_neg c1, if_pos q]
          (first | refine rt_eq (q_X1_readFrom_0 (by first | assumption | rfl | exact .inl rfl | exact .inr rfl)) ?_ | refine rt_eq (q_X1_readFrom_4 (by first | assumption | rfl | exact .inl rfl | exact .inr rfl)) ?_ | refine rt_eq (q_X1_readFrom_6 (by first | assumption | rfl | exact .inl rfl | exact .inr rfl)) ?_ | refine rt_eq (q_X1_readFrom_16 (by first | assumption | rfl | exact .inl rfl | exact .inr rfl)) ?_ | refine rt_eq (q_X1_readFrom_28 (by first | assumption | rfl | exact .inl rfl | exact .inr rfl)) ?_ | refine rt_eq (q_X1_readFrom_49) ?_ | refine rt_eq (q_X1_readFrom_46 (by first | assumption | rfl | exact .inl rfl | exact .inr rfl)) ?_ | refine rt_eq (q_X1_readFrom_53) ?_ | refine rt_eq (q_X1_readFrom_60 (by first | assumption | rfl | exact .inl rfl | exact .inr rfl)) ?_ | refine rt_eq (q_X1_readFrom_69 (by first | assumption | rfl | exact .inl rfl | exact .inr rfl)) ?_)
          refine rt_be sp_tooMany ?_
          (first | refine rt_eq (q_X1_readFrom_0 (by first | assumption | rfl | exact .inl rfl | exact .inr rfl)) ?_ | refine rt_eq (q_X1_readFrom_4 (by first | assumption | rfl | exact .inl rfl | exact .inr rfl)) ?_ | refine rt_eq (q_X1_readFrom_6 (by first | assumption | rfl | exact .inl rfl | exact .inr rfl)) ?_ | refine rt_eq (q_X1_readFrom_16 (by first | assumption | rfl | exact .inl rfl | exact .inr rfl)) ?_ | refine rt_eq (q_X1_readFrom_28 (by first | assumption | rfl | exact .inl rfl | exact .inr rfl)) ?_ | refine rt_eq (q_X1_readFrom_49) ?_ | refine rt_eq (q_X1_readFrom_46 (by first | assumption | rfl | exact .inl rfl | exact .inr rfl)) ?_ | refine rt_eq (q_X1_readFrom_53) ?_ | refine rt_eq (q_X1_readFrom_60 (by first | assumption | rfl | exact .inl rfl | exact .inr rfl)) ?_ | refine rt_eq (q_X1_readFrom_69 (by first | assumption | rfl | exact .inl rfl | exact .inr rfl)) ?_)
          refine rt_gd (by decide) (flt _ _ _ _ _ ec (by decide) (fr_up (fr_up g2 rfl) rfl) ?_ ?_)
          · rw [up2_k (by decide), up2_s]
          · rw [up2_s, m7]
        by_cases c2 : c = 60
        · exact rt_t (by rw [c2]) (many (.inl c2) _ _ _)
        · refine rt_f (by (try simp (disch := omega) only [nI_leI, nI_ltI, nI_eq, nI_add, pk_mul, n_0add, Nat.zero_add, nI_clamp]) <;> omega) (rt_be (sp_isFullH H2 ok.1 w2) ?_)
          (first | refine rt_eq (q_X1_readFrom_0 (by first | assumption | rfl | exact .inl rfl | exact .inr rfl)) ?_ | refine rt_eq (q_X1_readFrom_4 (by first | assumption | rfl | exact .inl rfl | exact .inr rfl)) ?_ | refine rt_eq (q_X1_readFrom_6 (by first | assumption | rfl | exact .inl rfl | exact .inr rfl)) ?_ | refine rt_eq (q_X1_readFrom_16 (by first | assumption | rfl | exact .inl rfl | exact .inr rfl)) ?_ | refine rt_eq (q_X1_readFrom_28 (by first | assumption | rfl | exact .inl rfl | exact .inr rfl)) ?_ | refine rt_eq (q_X1_readFrom_49) ?_ | refine rt_eq (q_X1_readFrom_46 (by first | assumption | rfl | exact .inl rfl | exact .inr rfl)) ?_ | refine rt_eq (q_X1_readFrom_53) ?_ | refine rt_eq (q_X1_readFrom_60 (by first | assumption | rfl | exact .inl rfl | exact .inr rfl)) ?_ | refine rt_eq (q_X1_readFrom_69 (by first | assumption | rfl | exact .inl rfl | exact .inr rfl)) ?_)
          by_cases c3 : (hkN W z a = 0 ∧ h 0 0 = 6) ∨ (hkN W z a = 1 ∧ h 0 1 = 4) ∨ (hkN W z a = 2 ∧ h 0 2 = 5)
          · rw [if_pos c3]
            exact rt_f (by decide) (many (.inr c3) _ _ _)
          · rw [if_neg c3]
            have nf : ¬ hFull h c (hkN W z a) := fun q => q.elim c2 c3
            have R2 : RdC I2 W z (wE W z a) := ⟨BC_fr B1 k1 (by decide), (k1 1 6 rfl).trans z1, hz2, he.2, m5⟩
            refine rt_t rfl (rt_bnd (sp_readClause (c := c) R2 H2 ok.1 w2 nf) ?_)
            rintro I3 J3 ⟨⟨p1, p2, p3⟩, rfl⟩
            have g3 : Fr fHR I I3 := fr_tr g2 p1
            (first | refine rt_eq (q_X1_readFrom_0 (by first | assumption | rfl | exact .inl rfl | exact .inr rfl)) ?_ | refine rt_eq (q_X1_readFrom_4 (by first | assumption | rfl | exact .inl rfl | exact .inr rfl)) ?_ | refine rt_eq (q_X1_readFrom_6 (by first | assumption | rfl | exact .inl rfl | exact .inr rfl)) ?_ | refine rt_eq (q_X1_readFrom_16 (by first | assumption | rfl | exact .inl rfl | exact .inr rfl)) ?_ | refine rt_eq (q_X1_readFrom_28 (by first | assumption | rfl | exact .inl rfl | exact .inr rfl)) ?_ | refine rt_eq (q_X1_readFrom_49) ?_ | refine rt_eq (q_X1_readFrom_46 (by first | assumption | rfl | exact .inl rfl | exact .inr rfl)) ?_ | refine rt_eq (q_X1_readFrom_53) ?_ | refine rt_eq (q_X1_readFrom_60 (by first | assumption | rfl | exact .inl rfl | exact .inr rfl)) ?_ | refine rt_eq (q_X1_readFrom_69 (by first | assumption | rfl | exact .inl rfl | exact .inr rfl)) ?_)
            by_cases c4 : (hm W z (hkN W z a) (wE W z a)).1 = 0
            · obtain ⟨R3, H3, s2, s3⟩ := p2 c4
              rw [decide_eq_true c4]
              refine rt_f (show ¬ bI true = nI 0 by decide) (rt_bnd (sp_signC (c := 59) R3.1 R3.2.1 hz2 R3.2.2.2.1 R3.2.2.2.2 (by decide)) ?_)
              rintro I4 J4 ⟨⟨t1, t2, t3⟩, rfl⟩
              have g4 : Fr fHR I I4 := fr_tr g3 (fr_mono t1 (by decide))
              (first | refine rt_eq (q_X1_readFrom_0 (by first | assumption | rfl | exact .inl rfl | exact .inr rfl)) ?_ | refine rt_eq (q_X1_readFrom_4 (by first | assumption | rfl | exact .inl rfl | exact .inr rfl)) ?_ | refine rt_eq (q_X1_readFrom_6 (by first | assumption | rfl | exact .inl rfl | exact .inr rfl)) ?_ | refine rt_eq (q_X1_readFrom_16 (by first | assumption | rfl | exact .inl rfl | exact .inr rfl)) ?_ | refine rt_eq (q_X1_readFrom_28 (by first | assumption | rfl | exact .inl rfl | exact .inr rfl)) ?_ | refine rt_eq (q_X1_readFrom_49) ?_ | refine rt_eq (q_X1_readFrom_46 (by first | assumption | rfl | exact .inl rfl | exact .inr rfl)) ?_ | refine rt_eq (q_X1_readFrom_53) ?_ | refine rt_eq (q_X1_readFrom_60 (by first | assumption | rfl | exact .inl rfl | exact .inr rfl)) ?_ | refine rt_eq (q_X1_readFrom_69 (by first | assumption | rfl | exact .inl rfl | exact .inr rfl)) ?_)
              by_cases c5 : sgn W z (hm W z (hkN W z a) (wE W z a)).2.2 59
              · have ec : hcl W z c a h = (0, 0, sk W z (hm W z (hkN W z a) (wE W z a)).2.2 + 1, hAdd W z h (hkN W z a) (wE W z a)) := by
                  unfold hcl
                  rw [if_neg c1, if_neg nf, if_neg (not_not_intro c4), if_pos c5]
                have hok := hcl_ok (W := W) (c := c) ha ok (by rw [ec])
                obtain ⟨u5, u2, u3'⟩ := t2 c5
                rw [ec] at hok ep
                rw [if_neg (not_not_intro rfl)] at ep
                rw [ep, decide_eq_true c5]
                refine rt_f (show ¬ bI true = nI 0 by decide) ?_
                rw [nI_add]
                refine ih _ _ I4 _ (by omega) (by omega) ⟨BC_fr R3.1 t1 (by decide), (t1 1 6 rfl).trans R3.2.1, hz2, hok.1, u5⟩ g4 (HS_fr H3 t1 (by decide)) hok.2.2 ?_ ?_
                · rw [u2, s2, m2, f1 1 2 rfl, h2]
                · rw [u3', s3, m3, f1 1 3 rfl, h3]
              · have ec : hcl W z c a h = (1, sk W z (hm W z (hkN W z a) (wE W z a)).2.2, 0, h) := by
                  unfold hcl
                  rw [if_neg c1, if_neg nf, if_neg (not_not_intro c4), if_neg c5]
                obtain ⟨u2, u3'⟩ := t3 c5
                rw [decide_eq_false c5]
                exact rt_t bI_f (flt _ _ _ _ I4 ec (by decide) g4 u2 u3')
            · have ec : hcl W z c a h = ((hm W z (hkN W z a) (wE W z a)).1, (hm W z (hkN W z a) (wE W z a)).2.1, 0, h) := by
                unfold hcl
                rw [if_neg c1, if_neg nf, if_pos c4]
              obtain ⟨s2, s3⟩ := p3 c4
              rw [decide_eq_false c4]
              exact rt_t bI_f (flt _ _ _ _ I3 ec c4 g3 s2 s3)
/-- a house of which nothing is told -/
def h00 : Hs := fun i k => if i = 0 ∧ k = 3 then 60 else 0
theorem hOK_0 : hOK h00 := by
  refine ⟨⟨by decide, by decide, by decide, fun p hp => ?_, fun f hf => ?_⟩, fun e he => ?_, by decide⟩
  · exact absurd hp (Nat.not_lt_zero _)
  · exact absurd hf (Nat.not_lt_zero _)
  · exact absurd he (Nat.not_lt_zero _)
theorem kin_0 : ∀ t, t < 10 → bitsN (jn h00 0 t) 10 = 2 ^ t := by
  intro t ht
  have e : ∀ k, jn h00 0 t k = decide (t = k) := fun k => Bool.false_or _
  have e2 : bitsN (jn h00 0 t) 10 = bitsN (fun k => decide (t = k)) 10 := bitsN_congr fun k _ => e k
  rw [e2]
  have : ∀ t, t < 10 → bitsN (fun k => decide (t = k)) 10 = 2 ^ t := by decide
  exact this t ht
theorem lp_clearH : ∀ r t I', t + r = 10 → Fr [(13, 1), (13, 2), (13, 3), (13, 4), (22, 0)] I I' → (∀ i, i < t → I' 22 i = nI (2 ^ i)) → Rt L X (c_X1_clear_23 d L X I' J 13 (nI t)) none (fun I'' J' => (Fr [(13, 1), (13, 2), (13, 3), (13, 4), (22, 0)] I I'' ∧ (∀ k, I'' 13 k = I' 13 k) ∧ ∀ i, i < 10 → I'' 22 i = nI (2 ^ i)) ∧ J' = J)
  | 0, t, I', ht, hf, A => by
    have h0 : oc1 13 := .inr rfl
    (first | refine rt_eq (q_X1_clear_0 (by first | assumption | rfl | exact .inl rfl | exact .inr rfl)) ?_ | refine rt_eq (q_X1_clear_21 (by first | assumption | rfl | exact .inl rfl | exact .inr rfl)) ?_ | refine rt_eq (q_X1_clear_23 (by first | assumption | rfl | exact .inl rfl | exact .inr rfl)) ?_)
    exact rt_t (by (try simp (disch := omega) only [nI_leI, nI_ltI, nI_eq, nI_add, pk_mul, n_0add, Nat.zero_add, nI_clamp]) <;> omega) (rt_ret ⟨⟨hf, fun _ => rfl, fun i hi => A i (by omega)⟩, rfl⟩)
  | r + 1, t, I', ht, hf, A => by
    have h0 : oc1 13 := .inr rfl
    have ih := lp_clearH r (t + 1)
    (first | refine rt_eq (q_X1_clear_0 (by first | assumption | rfl | exact .inl rfl | exact .inr rfl)) ?_ | refine rt_eq (q_X1_clear_21 (by first | assumption | rfl | exact .inl rfl | exact .inr rfl)) ?_ | refine rt_eq (q_X1_clear_23 (by first | assumption | rfl | exact .inl rfl | exact .inr rfl)) ?_)
    refine rt_f (by (try simp (disch := omega) only [nI_leI, nI_ltI, nI_eq, nI_add, pk_mul, n_0add, Nat.zero_add, nI_clamp]) <;> omega) (rt_gd (inb_n (by omega) (by decide)) ?_)
    rw [nI_clamp (by omega), nI_add, n_pow (by omega)]
    simp only [Nat.reduceAdd]
    refine rt_mono (ih _ (by omega) (fr_up hf rfl) (fun i hi => ?_)) ?_
    · rw [up2_at]
      by_cases q : i = t
      · rw [if_pos q, q]
      · rw [if_neg q]
        exact A i (by omega)
    · rintro I2 J2 ⟨⟨g1, g2, g3⟩, rfl⟩
      exact ⟨⟨g1, fun k => by rw [g2 k, up2_n (by decide)], g3⟩, rfl⟩
theorem sp_clearH : Rt L X (runM (d + 1) nX1_clear [.ref 13] (mm L X I J)) none (fun I'' J' => (Fr [(13, 1), (13, 2), (13, 3), (13, 4), (22, 0)] I I'' ∧ HS I'' h00) ∧ J' = J) := by
  have h0 : oc1 13 := .inr rfl
  rw [e_X1_clear]
  (first | refine rt_eq (q_X1_clear_0 (by first | assumption | rfl | exact .inl rfl | exact .inr rfl)) ?_ | refine rt_eq (q_X1_clear_21 (by first | assumption | rfl | exact .inl rfl | exact .inr rfl)) ?_ | refine rt_eq (q_X1_clear_23 (by first | assumption | rfl | exact .inl rfl | exact .inr rfl)) ?_)
  (first | refine rt_eq (q_X1_clear_0 (by first | assumption | rfl | exact .inl rfl | exact .inr rfl)) ?_ | refine rt_eq (q_X1_clear_21 (by first | assumption | rfl | exact .inl rfl | exact .inr rfl)) ?_ | refine rt_eq (q_X1_clear_23 (by first | assumption | rfl | exact .inl rfl | exact .inr rfl)) ?_)
  refine rt_mono (lp_clearH (I := I) 10 0 _ rfl (fr_up (fr_up (fr_up (fr_up fr_rfl rfl) rfl) rfl) rfl) (fun i hi => absurd hi (Nat.not_lt_zero i))) ?_
  rintro I1 J1 ⟨⟨f1, f2, f3⟩, rfl⟩
  refine ⟨⟨f1, ?_, ?_, ?_, ?_, fun p hp => absurd hp (Nat.not_lt_zero _), fun p hp => absurd hp (Nat.not_lt_zero _), fun p hp => absurd hp (Nat.not_lt_zero _), fun t ht => ?_⟩, rfl⟩
  · rw [f2, up2_k (by decide), up2_k (by decide), up2_k (by decide), up2_s]
    rfl
  · rw [f2, up2_k (by decide), up2_k (by decide), up2_s]
    rfl
  · rw [f2, up2_k (by decide), up2_s]
    rfl
  · rw [f2, up2_s]
    rfl
  · rw [f3 t ht]
    exact congrArg nI (kin_0 t ht).symm
/-- what a house's text tells -/
def hW (W : Nat → Nat) (z : Nat) : Nat × Nat × Hs := hP W z 61 0 0 h00
theorem sp_readHouse (O : SO I) (R : RdC I W z 0) (h2 : I 1 2 = nI 0) (h3 : I 1 3 = -1) : Rt L X (runM (d + 7) nX1_readFrom [.ref 13, .ref 1] (mm L X I J)) (some (.int (bI (decide ((hW W z).1 = 0))))) (fun I'' J' => (Fr fHR I I'' ∧ ((hW W z).1 = 0 → HS I'' (hW W z).2.2 ∧ hOK (hW W z).2.2 ∧ I'' 1 3 = -1) ∧ (¬ (hW W z).1 = 0 → I'' 1 2 = nI (hW W z).1 ∧ I'' 1 3 = nI (hW W z).2.1)) ∧ J' = J) := by
  have ho : oc1 13 := .inr rfl
  rw [e_X1_readFrom]
  (first | refine rt_eq (q_X1_readFrom_0 (by first | assumption | rfl | exact .inl rfl | exact .inr rfl)) ?_ | refine rt_eq (q_X1_readFrom_4 (by first | assumption | rfl | exact .inl rfl | exact .inr rfl)) ?_ | refine rt_eq (q_X1_readFrom_6 (by first | assumption | rfl | exact .inl rfl | exact .inr rfl)) ?_ | refine rt_eq (q_X1_readFrom_16 (by first | assumption | rfl | exact .inl rfl | exact .inr rfl)) ?_ | refine rt_eq (q_X1_readFrom_28 (by first | assumption | rfl | exact .inl rfl | exact .inr rfl)) ?_ | refine rt_eq (q_X1_readFrom_49) ?_ | refine rt_eq (q_X1_readFrom_46 (by first | assumption | rfl | exact .inl rfl | exact .inr rfl)) ?_ | refine rt_eq (q_X1_readFrom_53) ?_ | refine rt_eq (q_X1_readFrom_60 (by first | assumption | rfl | exact .inl rfl | exact .inr rfl)) ?_ | refine rt_eq (q_X1_readFrom_69 (by first | assumption | rfl | exact .inl rfl | exact .inr rfl)) ?_)
  refine rt_bnd sp_clearH ?_
  rintro I1 J1 ⟨⟨f1, f2⟩, rfl⟩
  (first | refine rt_eq (q_X1_readFrom_0 (by first | assumption | rfl | exact .inl rfl | exact .inr rfl)) ?_ | refine rt_eq (q_X1_readFrom_4 (by first | assumption | rfl | exact .inl rfl | exact .inr rfl)) ?_ | refine rt_eq (q_X1_readFrom_6 (by first | assumption | rfl | exact .inl rfl | exact .inr rfl)) ?_ | refine rt_eq (q_X1_readFrom_16 (by first | assumption | rfl | exact .inl rfl | exact .inr rfl)) ?_ | refine rt_eq (q_X1_readFrom_28 (by first | assumption | rfl | exact .inl rfl | exact .inr rfl)) ?_ | refine rt_eq (q_X1_readFrom_49) ?_ | refine rt_eq (q_X1_readFrom_46 (by first | assumption | rfl | exact .inl rfl | exact .inr rfl)) ?_ | refine rt_eq (q_X1_readFrom_53) ?_ | refine rt_eq (q_X1_readFrom_60 (by first | assumption | rfl | exact .inl rfl | exact .inr rfl)) ?_ | refine rt_eq (q_X1_readFrom_69 (by first | assumption | rfl | exact .inl rfl | exact .inr rfl)) ?_)
  exact lp_readHouse (I := I) O 61 0 0 h00 I1 none rfl (by decide) (RdC_fr R f1 (by decide) ((f1 1 5 rfl).trans R.2.2.2.2) (Nat.zero_le _)) (fr_mono f1 (by decide)) f2 hOK_0 ((f1 1 2 rfl).trans h2) ((f1 1 3 rfl).trans h3)
end HC1
