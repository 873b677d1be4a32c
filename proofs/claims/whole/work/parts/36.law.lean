/-! THE LAW AS A ROW OF PARTS, RECKONED BY BOTH -/
/-- parts: (0, number), (1, name), (2 .. 8, _) an operation -/
abbrev Cd : Type := Nat → Nat × Nat
def op2 (o : Nat) (u v : Int32) : Int32 := if o = 2 then u + v else if o = 3 then u - v else if o = 4 then u * v else if o = 5 then (if v = nI 0 then nI 0 else u / v) else if o = 6 then (if v = nI 0 then nI 0 else u - u / v * v) else if o = 7 then mnI u v else mxI u v
def evS (kn : Nat → Int32) (cd : Cd) (k : Nat) (s : Nat × (Nat → Int32)) : Nat × (Nat → Int32) := if (cd k).1 = 0 then (s.1 + 1, upd s.2 s.1 (nI (cd k).2)) else if (cd k).1 = 1 then (s.1 + 1, upd s.2 s.1 (kn (cd k).2)) else (s.1 - 1, upd s.2 (s.1 - 2) (op2 (cd k).1 (s.2 (s.1 - 2)) (s.2 (s.1 - 1))))
/-- well made: by the height, a whole is left -/
def wfC (cd : Cd) : Nat → Nat → Nat → Prop
  | 0, _, n => n = 1
  | m + 1, j, n => if (cd j).1 < 2 then n < 30 ∧ ((cd j).1 = 0 → (cd j).2 ≤ 999) ∧ ((cd j).1 = 1 → (cd j).2 < 9) ∧ wfC cd m (j + 1) (n + 1) else (cd j).1 ≤ 8 ∧ 2 ≤ n ∧ n ≤ 30 ∧ wfC cd m (j + 1) (n - 1)
def clp (x : Int32) : Int32 := if nI 0 ≤ x then (if x ≤ nI 99 then x else nI 99) else nI 0
def lawV (cd : Cd) (nL : Nat) (kn : Nat → Int32) : Int32 := clp ((accF (evS kn cd) nL 0 (0, fun _ => nI 0)).2 0)
def encC (c : Nat × Nat) : Nat := if c.1 = 0 then c.2 else if c.1 = 1 then 1000 + c.2 else 1998 + c.1
def LawC (I : MI32) (nL : Nat) (cd : Cd) : Prop := I 23 1 = nI nL ∧ nL ≤ 150 ∧ ∀ k, k < nL → I 24 k = nI (encC (cd k))
def sLC : Fls := [(23, 2), (24, 0)]
theorem LawC_fr {I I' : MI32} {nL : Nat} {cd : Cd} (H : LawC I nL cd) (g : Ag sLC I I') : LawC I' nL cd := ⟨by rw [g 23 1 rfl, H.1], H.2.1, fun k hk => by rw [g 24 k rfl, H.2.2 k hk]⟩
def cd0 (k : Nat) : Nat × Nat := [(1, 0), (1, 1), (3, 0), (1, 3), (0, 2), (4, 0), (3, 0), (1, 4), (0, 5), (4, 0), (3, 0)].getD k (0, 0)
def LawM (I : MI32) (nL : Nat) (cd : Cd) : Prop := (I 72 19 = nI nL ∧ nL ≤ 150 ∧ 0 < nL ∧ ∀ k, k < nL → I (115 + k) 0 = nI (cd k).1 ∧ ((cd k).1 < 2 → I (115 + k) 1 = nI (cd k).2)) ∨ (I 72 19 = nI 0 ∧ nL = 11 ∧ ∀ k, k < 11 → cd k = cd0 k)
def sLM : Fls := [(72, 20)] ++ cells 115 160
theorem LawM_fr {I I' : MI32} {nL : Nat} {cd : Cd} (H : LawM I nL cd) (g : Ag sLM I I') : LawM I' nL cd := by
  have g1 : I' 72 19 = I 72 19 := g 72 19 rfl
  have g2 : ∀ p k, p < 160 → I' (115 + p) k = I (115 + p) k := fun p k hp => g _ _ (by simp only [sLM, inF_app, in_cells hp, Bool.or_true, Bool.true_or])
  rcases H with ⟨h1, h2, h3, h4⟩ | ⟨h1, h2, h3⟩
  · refine .inl ⟨by rw [g1, h1], h2, h3, fun k hk => ?_⟩
    rw [g2 k 0 (by omega), g2 k 1 (by omega)]
    exact h4 k hk
  · exact .inr ⟨by rw [g1, h1], h2, h3⟩
theorem div_m1 (u : Int32) : u / (-1) = -u := by
  apply Int32.toInt_inj.mp
  rw [Int32.toInt_div, show (-1 : Int32).toInt = -1 from by decide, Int.tdiv_neg, Int.tdiv_one, Int32.toInt_neg]
theorem rem_m1 (u : Int32) : u - u / (-1) * (-1) = nI 0 := by
  rw [div_m1, Int32.neg_mul_neg, Int32.mul_one, Int32.sub_self]
  rfl
theorem clp_M (x : Int32) : mnI (nI 99) (mxI (nI 0) x) = clp x := by
  unfold mnI mxI clp
  by_cases h1 : nI 0 ≤ x
  · rw [if_pos h1, if_pos h1]
  · rw [if_neg h1, if_neg h1]
    exact if_pos (by decide)
theorem clp_le (x : Int32) : ∃ v, v ≤ 99 ∧ clp x = nI v := by
  unfold clp
  by_cases h1 : nI 0 ≤ x
  · rw [if_pos h1]
    by_cases h2 : x ≤ nI 99
    · rw [if_pos h2]
      exact nI_of2 (M := nI 99) (by decide) (Int32.not_lt.mpr h1) h2
    · rw [if_neg h2]
      exact ⟨99, by omega, rfl⟩
  · rw [if_neg h1]
    exact ⟨0, by omega, rfl⟩
section LW
variable {d L X : Nat} {I : MI32} {J : MI64} {u v : Int32} {o nL : Nat} {cd : Cd}
theorem mnI_alt : (if v < u then v else u) = mnI u v := by
  unfold mnI
  by_cases h : v < u
  · rw [if_pos h, if_pos (Int32.le_of_lt h)]
  · rw [if_neg h]
    by_cases h2 : v ≤ u
    · rw [if_pos h2]
      exact Int32.le_antisymm (Int32.not_lt.mp h) h2
    · rw [if_neg h2]
theorem mxI_alt : (if u < v then v else u) = mxI u v := by
  unfold mxI
  by_cases h : u < v
  · rw [if_pos h, if_pos (Int32.le_of_lt h)]
  · rw [if_neg h]
    by_cases h2 : u ≤ v
    · rw [if_pos h2]
      exact Int32.le_antisymm h2 (Int32.not_lt.mp h)
    · rw [if_neg h2]
theorem sp_reckon (h2 : 2 ≤ o) (h8 : o ≤ 8) : runM (d + 1) nX2_reckon [.int (nI (1998 + o)), .int u, .int v] (mm L X I J) = rI (op2 o u v) (mm L X I J) := by
  rw [e_X2_reckon]
  (first | refine Eq.trans (q_X2_reckon_0) ?_ | refine Eq.trans (q_X2_reckon_1) ?_ | refine Eq.trans (q_X2_reckon_40) ?_ | refine Eq.trans (q_X2_reckon_44) ?_ | refine Eq.trans (q_X2_reckon_48) ?_ | refine Eq.trans (q_X2_reckon_52) ?_ | refine Eq.trans (q_X2_reckon_64) ?_ | refine Eq.trans (q_X2_reckon_76) ?_ | refine Eq.trans (q_X2_reckon_87) ?_)
  (first | refine Eq.trans (q_X2_reckon_0) ?_ | refine Eq.trans (q_X2_reckon_1) ?_ | refine Eq.trans (q_X2_reckon_40) ?_ | refine Eq.trans (q_X2_reckon_44) ?_ | refine Eq.trans (q_X2_reckon_48) ?_ | refine Eq.trans (q_X2_reckon_52) ?_ | refine Eq.trans (q_X2_reckon_64) ?_ | refine Eq.trans (q_X2_reckon_76) ?_ | refine Eq.trans (q_X2_reckon_87) ?_)
  have hc : ∀ k, k < 2 ^ 31 → (nI (1998 + o) = nI k ↔ 1998 + o = k) := fun k hk => nI_eq (by omega) hk
  unfold op2
  by_cases e2 : o = 2
  · rw [if_pos ((hc 2000 (by decide)).mpr (by omega)), if_pos e2]
    exact q_X2_reckon_40
  rw [if_neg (fun q => e2 (by have := (hc 2000 (by decide)).mp q; omega)), if_neg e2]
  by_cases e3 : o = 3
  · rw [if_pos ((hc 2001 (by decide)).mpr (by omega)), if_pos e3]
    exact q_X2_reckon_44
  rw [if_neg (fun q => e3 (by have := (hc 2001 (by decide)).mp q; omega)), if_neg e3]
  by_cases e4 : o = 4
  · rw [if_pos ((hc 2002 (by decide)).mpr (by omega)), if_pos e4]
    exact q_X2_reckon_48
  rw [if_neg (fun q => e4 (by have := (hc 2002 (by decide)).mp q; omega)), if_neg e4]
  by_cases e5 : o = 5
  · rw [if_pos ((hc 2003 (by decide)).mpr (by omega)), if_pos e5]
    (first | refine Eq.trans (q_X2_reckon_0) ?_ | refine Eq.trans (q_X2_reckon_1) ?_ | refine Eq.trans (q_X2_reckon_40) ?_ | refine Eq.trans (q_X2_reckon_44) ?_ | refine Eq.trans (q_X2_reckon_48) ?_ | refine Eq.trans (q_X2_reckon_52) ?_ | refine Eq.trans (q_X2_reckon_64) ?_ | refine Eq.trans (q_X2_reckon_76) ?_ | refine Eq.trans (q_X2_reckon_87) ?_)
    by_cases hv : v = nI 0
    · rw [if_pos hv, if_pos hv]
    · rw [if_neg hv, if_neg hv, gd_t (nz_iff.mpr hv)]
  rw [if_neg (fun q => e5 (by have := (hc 2003 (by decide)).mp q; omega)), if_neg e5]
  by_cases e6 : o = 6
  · rw [if_pos ((hc 2004 (by decide)).mpr (by omega)), if_pos e6]
    (first | refine Eq.trans (q_X2_reckon_0) ?_ | refine Eq.trans (q_X2_reckon_1) ?_ | refine Eq.trans (q_X2_reckon_40) ?_ | refine Eq.trans (q_X2_reckon_44) ?_ | refine Eq.trans (q_X2_reckon_48) ?_ | refine Eq.trans (q_X2_reckon_52) ?_ | refine Eq.trans (q_X2_reckon_64) ?_ | refine Eq.trans (q_X2_reckon_76) ?_ | refine Eq.trans (q_X2_reckon_87) ?_)
    by_cases hv : v = nI 0
    · rw [if_pos hv, if_pos hv]
    · rw [if_neg hv, if_neg hv, gd_t (nz_iff.mpr hv)]
  rw [if_neg (fun q => e6 (by have := (hc 2004 (by decide)).mp q; omega)), if_neg e6]
  by_cases e7 : o = 7
  · rw [if_pos ((hc 2005 (by decide)).mpr (by omega)), if_pos e7, ← mnI_alt]
    (first | refine Eq.trans (q_X2_reckon_0) ?_ | refine Eq.trans (q_X2_reckon_1) ?_ | refine Eq.trans (q_X2_reckon_40) ?_ | refine Eq.trans (q_X2_reckon_44) ?_ | refine Eq.trans (q_X2_reckon_48) ?_ | refine Eq.trans (q_X2_reckon_52) ?_ | refine Eq.trans (q_X2_reckon_64) ?_ | refine Eq.trans (q_X2_reckon_76) ?_ | refine Eq.trans (q_X2_reckon_87) ?_)
    by_cases hv : v < u
    · rw [if_pos hv, if_pos hv]
    · rw [if_neg hv, if_neg hv]
  rw [if_neg (fun q => e7 (by have := (hc 2005 (by decide)).mp q; omega)), if_neg e7, ← mxI_alt]
  (first | refine Eq.trans (q_X2_reckon_0) ?_ | refine Eq.trans (q_X2_reckon_1) ?_ | refine Eq.trans (q_X2_reckon_40) ?_ | refine Eq.trans (q_X2_reckon_44) ?_ | refine Eq.trans (q_X2_reckon_48) ?_ | refine Eq.trans (q_X2_reckon_52) ?_ | refine Eq.trans (q_X2_reckon_64) ?_ | refine Eq.trans (q_X2_reckon_76) ?_ | refine Eq.trans (q_X2_reckon_87) ?_)
  by_cases hv : u < v
  · rw [if_pos hv, if_pos hv]
  · rw [if_neg hv, if_neg hv]
theorem sp_by (h2 : 2 ≤ o) (h8 : o ≤ 8) : runM (d + 2) nX12_by [.int (nI o), .int u, .int v] (mm L X I J) = rI (op2 o u v) (mm L X I J) := by
  rw [e_X12_by]
  (first | refine Eq.trans (q_X12_by_0) ?_ | refine Eq.trans (q_X12_by_1) ?_ | refine Eq.trans (q_X12_by_40) ?_ | refine Eq.trans (q_X12_by_44) ?_ | refine Eq.trans (q_X12_by_48) ?_ | refine Eq.trans (q_X12_by_52) ?_ | refine Eq.trans (q_X12_by_74) ?_ | refine Eq.trans (q_X12_by_91) ?_ | refine Eq.trans (q_X12_by_97) ?_ | refine Eq.trans (q_X12_by_96) ?_ | refine Eq.trans (q_X12_by_102) ?_)
  (first | refine Eq.trans (q_X12_by_0) ?_ | refine Eq.trans (q_X12_by_1) ?_ | refine Eq.trans (q_X12_by_40) ?_ | refine Eq.trans (q_X12_by_44) ?_ | refine Eq.trans (q_X12_by_48) ?_ | refine Eq.trans (q_X12_by_52) ?_ | refine Eq.trans (q_X12_by_74) ?_ | refine Eq.trans (q_X12_by_91) ?_ | refine Eq.trans (q_X12_by_97) ?_ | refine Eq.trans (q_X12_by_96) ?_ | refine Eq.trans (q_X12_by_102) ?_)
  have hc : ∀ k, k < 2 ^ 31 → (nI o = nI k ↔ o = k) := fun k hk => nI_eq (by omega) hk
  unfold op2
  by_cases e2 : o = 2
  · rw [if_pos ((hc 2 (by decide)).mpr (by omega)), if_pos e2]
    exact q_X12_by_40
  rw [if_neg (fun q => e2 (by have := (hc 2 (by decide)).mp q; omega)), if_neg e2]
  by_cases e3 : o = 3
  · rw [if_pos ((hc 3 (by decide)).mpr (by omega)), if_pos e3]
    exact q_X12_by_44
  rw [if_neg (fun q => e3 (by have := (hc 3 (by decide)).mp q; omega)), if_neg e3]
  by_cases e4 : o = 4
  · rw [if_pos ((hc 4 (by decide)).mpr (by omega)), if_pos e4]
    exact q_X12_by_48
  rw [if_neg (fun q => e4 (by have := (hc 4 (by decide)).mp q; omega)), if_neg e4]
  by_cases e5 : o = 5
  · rw [if_pos ((hc 5 (by decide)).mpr (by omega)), if_pos e5]
    (first | refine Eq.trans (q_X12_by_0) ?_ | refine Eq.trans (q_X12_by_1) ?_ | refine Eq.trans (q_X12_by_40) ?_ | refine Eq.trans (q_X12_by_44) ?_ | refine Eq.trans (q_X12_by_48) ?_ | refine Eq.trans (q_X12_by_52) ?_ | refine Eq.trans (q_X12_by_74) ?_ | refine Eq.trans (q_X12_by_91) ?_ | refine Eq.trans (q_X12_by_97) ?_ | refine Eq.trans (q_X12_by_96) ?_ | refine Eq.trans (q_X12_by_102) ?_)
    by_cases hv : v = nI 0
    · rw [if_pos hv, if_pos hv]
    · by_cases hw : v = -1
      · rw [if_neg hv, if_neg hv, if_pos hw, hw, div_m1]
      · rw [if_neg hv, if_neg hv, if_neg hw, gd_t (nz_iff.mpr hv)]
  rw [if_neg (fun q => e5 (by have := (hc 5 (by decide)).mp q; omega)), if_neg e5]
  by_cases e6 : o = 6
  · rw [if_pos ((hc 6 (by decide)).mpr (by omega)), if_pos e6]
    (first | refine Eq.trans (q_X12_by_0) ?_ | refine Eq.trans (q_X12_by_1) ?_ | refine Eq.trans (q_X12_by_40) ?_ | refine Eq.trans (q_X12_by_44) ?_ | refine Eq.trans (q_X12_by_48) ?_ | refine Eq.trans (q_X12_by_52) ?_ | refine Eq.trans (q_X12_by_74) ?_ | refine Eq.trans (q_X12_by_91) ?_ | refine Eq.trans (q_X12_by_97) ?_ | refine Eq.trans (q_X12_by_96) ?_ | refine Eq.trans (q_X12_by_102) ?_)
    by_cases hv : v = nI 0
    · rw [if_pos hv, if_pos hv]
    · by_cases hw : v = -1
      · rw [if_neg hv, if_neg hv, if_pos hw, hw, rem_m1]
      · rw [if_neg hv, if_neg hv, if_neg hw, gd_t (nz_iff.mpr hv)]
  rw [if_neg (fun q => e6 (by have := (hc 6 (by decide)).mp q; omega)), if_neg e6]
  by_cases e7 : o = 7
  · rw [if_pos ((hc 7 (by decide)).mpr (by omega)), if_pos e7]
    (first | refine Eq.trans (q_X12_by_0) ?_ | refine Eq.trans (q_X12_by_1) ?_ | refine Eq.trans (q_X12_by_40) ?_ | refine Eq.trans (q_X12_by_44) ?_ | refine Eq.trans (q_X12_by_48) ?_ | refine Eq.trans (q_X12_by_52) ?_ | refine Eq.trans (q_X12_by_74) ?_ | refine Eq.trans (q_X12_by_91) ?_ | refine Eq.trans (q_X12_by_97) ?_ | refine Eq.trans (q_X12_by_96) ?_ | refine Eq.trans (q_X12_by_102) ?_)
    exact (bndN_e sp_less).trans q_X12_by_96
  rw [if_neg (fun q => e7 (by have := (hc 7 (by decide)).mp q; omega)), if_neg e7]
  (first | refine Eq.trans (q_X12_by_0) ?_ | refine Eq.trans (q_X12_by_1) ?_ | refine Eq.trans (q_X12_by_40) ?_ | refine Eq.trans (q_X12_by_44) ?_ | refine Eq.trans (q_X12_by_48) ?_ | refine Eq.trans (q_X12_by_52) ?_ | refine Eq.trans (q_X12_by_74) ?_ | refine Eq.trans (q_X12_by_91) ?_ | refine Eq.trans (q_X12_by_97) ?_ | refine Eq.trans (q_X12_by_96) ?_ | refine Eq.trans (q_X12_by_102) ?_)
  exact (bndN_e sp_more).trans q_X12_by_102
theorem lp_left (H : LawC I nL cd) : ∀ m j n S I' u3, j + m = nL → wfC cd m j n → Fr [(25, 0)] I I' → (∀ i, i < n → I' 25 i = S i) → Rt L X (c_X2_left_4 (d + 1) L X I' J 23 (nI n) (nI j) u3) (some (.int (clp ((accF (evS (I 26) cd) m j (n, S)).2 0)))) (fun I'' J' => Fr [(25, 0)] I I'' ∧ J' = J)
  | 0, j, n, S, I', u3, hj, hw, hf, hs => by
    obtain ⟨l1, l2, l3⟩ := H
    have hn : n = 1 := hw
    subst hn
    (first | refine rt_eq (q_X2_left_0 (by first | assumption | rfl | exact .inl rfl | exact .inr rfl)) ?_ | refine rt_eq (q_X2_left_4 (by first | assumption | rfl | exact .inl rfl | exact .inr rfl)) ?_ | refine rt_eq (q_X2_left_116 (by first | assumption | rfl | exact .inl rfl | exact .inr rfl) (by first | assumption | rfl | exact .inl rfl | exact .inr rfl)) ?_ | refine rt_eq (q_X2_left_110 (by first | assumption | rfl | exact .inl rfl | exact .inr rfl)) ?_ | refine rt_eq (q_X2_left_109 (by first | assumption | rfl | exact .inl rfl | exact .inr rfl)) ?_ | refine rt_eq (q_X2_left_61 (by first | assumption | rfl | exact .inl rfl | exact .inr rfl)) ?_ | refine rt_eq (q_X2_left_64 (by first | assumption | rfl | exact .inl rfl | exact .inr rfl)) ?_)
    refine rt_t (by rw [hf 23 1 rfl, l1]; ((try simp (disch := omega) only [nI_leI, nI_ltI, nI_eq, nI_add, pk_mul, n_0add, Nat.zero_add, nI_clamp]) <;> omega)) ?_
    (first | refine rt_eq (q_X2_left_0 (by first | assumption | rfl | exact .inl rfl | exact .inr rfl)) ?_ | refine rt_eq (q_X2_left_4 (by first | assumption | rfl | exact .inl rfl | exact .inr rfl)) ?_ | refine rt_eq (q_X2_left_116 (by first | assumption | rfl | exact .inl rfl | exact .inr rfl) (by first | assumption | rfl | exact .inl rfl | exact .inr rfl)) ?_ | refine rt_eq (q_X2_left_110 (by first | assumption | rfl | exact .inl rfl | exact .inr rfl)) ?_ | refine rt_eq (q_X2_left_109 (by first | assumption | rfl | exact .inl rfl | exact .inr rfl)) ?_ | refine rt_eq (q_X2_left_61 (by first | assumption | rfl | exact .inl rfl | exact .inr rfl)) ?_ | refine rt_eq (q_X2_left_64 (by first | assumption | rfl | exact .inl rfl | exact .inr rfl)) ?_)
    simp only [Nat.reduceAdd]
    rw [hs 0 (by omega)]
    show Rt L X _ (some (.int (clp (S 0)))) _
    unfold clp
    by_cases c1 : nI 0 ≤ S 0
    · by_cases c2 : S 0 ≤ nI 99
      · simp only [if_pos c1, if_pos c2]
        exact rt_ret ⟨hf, rfl⟩
      · simp only [if_pos c1, if_neg c2]
        exact rt_ret ⟨hf, rfl⟩
    · simp only [if_neg c1]
      exact rt_ret ⟨hf, rfl⟩
  | m + 1, j, n, S, I', u3, hj, hw, hf, hs => by
    have ih := lp_left H m (j + 1)
    obtain ⟨l1, l2, l3⟩ := H
    (first | refine rt_eq (q_X2_left_0 (by first | assumption | rfl | exact .inl rfl | exact .inr rfl)) ?_ | refine rt_eq (q_X2_left_4 (by first | assumption | rfl | exact .inl rfl | exact .inr rfl)) ?_ | refine rt_eq (q_X2_left_116 (by first | assumption | rfl | exact .inl rfl | exact .inr rfl) (by first | assumption | rfl | exact .inl rfl | exact .inr rfl)) ?_ | refine rt_eq (q_X2_left_110 (by first | assumption | rfl | exact .inl rfl | exact .inr rfl)) ?_ | refine rt_eq (q_X2_left_109 (by first | assumption | rfl | exact .inl rfl | exact .inr rfl)) ?_ | refine rt_eq (q_X2_left_61 (by first | assumption | rfl | exact .inl rfl | exact .inr rfl)) ?_ | refine rt_eq (q_X2_left_64 (by first | assumption | rfl | exact .inl rfl | exact .inr rfl)) ?_)
    simp only [Nat.reduceAdd]
    refine rt_f (by rw [hf 23 1 rfl, l1]; ((try simp (disch := omega) only [nI_leI, nI_ltI, nI_eq, nI_add, pk_mul, n_0add, Nat.zero_add, nI_clamp]) <;> omega)) ?_
    refine rt_f (by (try simp (disch := omega) only [nI_leI, nI_ltI, nI_eq, nI_add, pk_mul, n_0add, Nat.zero_add, nI_clamp]) <;> omega) ?_
    refine rt_gd (inb_n (by omega) (by decide)) ?_
    rw [nI_clamp (by omega), hf 24 j rfl, l3 j (by omega)]
    unfold wfC at hw
    show Rt L X _ (some (.int (clp ((accF (evS (I 26) cd) m (j + 1) (evS (I 26) cd j (n, S))).2 0)))) _
    have hev : evS (I 26) cd j (n, S) = if (cd j).1 = 0 then (n + 1, upd S n (nI (cd j).2)) else if (cd j).1 = 1 then (n + 1, upd S n (I 26 (cd j).2)) else (n - 1, upd S (n - 2) (op2 (cd j).1 (S (n - 2)) (S (n - 1)))) := rfl
    have push : ∀ w u3, n < 30 → wfC cd m (j + 1) (n + 1) → Rt L X (runI (runM (d + 1)) iX2_left (61, [some (.ref 23), some (.int (nI n)), some (.int (nI j)), u3], [.int w, .int (nI n), .ref 25], mm L X I' J)) (some (.int (clp ((accF (evS (I 26) cd) m (j + 1) (n + 1, upd S n w)).2 0)))) (fun I'' J' => Fr [(25, 0)] I I'' ∧ J' = J) := by
      intro w u3 hn30 hw2
      (first | refine rt_eq (q_X2_left_0 (by first | assumption | rfl | exact .inl rfl | exact .inr rfl)) ?_ | refine rt_eq (q_X2_left_4 (by first | assumption | rfl | exact .inl rfl | exact .inr rfl)) ?_ | refine rt_eq (q_X2_left_116 (by first | assumption | rfl | exact .inl rfl | exact .inr rfl) (by first | assumption | rfl | exact .inl rfl | exact .inr rfl)) ?_ | refine rt_eq (q_X2_left_110 (by first | assumption | rfl | exact .inl rfl | exact .inr rfl)) ?_ | refine rt_eq (q_X2_left_109 (by first | assumption | rfl | exact .inl rfl | exact .inr rfl)) ?_ | refine rt_eq (q_X2_left_61 (by first | assumption | rfl | exact .inl rfl | exact .inr rfl)) ?_ | refine rt_eq (q_X2_left_64 (by first | assumption | rfl | exact .inl rfl | exact .inr rfl)) ?_)
      refine rt_bne (sp_put ka_25 (by decide)) ?_
      rw [pt_n (by omega) (by decide)]
      (first | refine rt_eq (q_X2_left_0 (by first | assumption | rfl | exact .inl rfl | exact .inr rfl)) ?_ | refine rt_eq (q_X2_left_4 (by first | assumption | rfl | exact .inl rfl | exact .inr rfl)) ?_ | refine rt_eq (q_X2_left_116 (by first | assumption | rfl | exact .inl rfl | exact .inr rfl) (by first | assumption | rfl | exact .inl rfl | exact .inr rfl)) ?_ | refine rt_eq (q_X2_left_110 (by first | assumption | rfl | exact .inl rfl | exact .inr rfl)) ?_ | refine rt_eq (q_X2_left_109 (by first | assumption | rfl | exact .inl rfl | exact .inr rfl)) ?_ | refine rt_eq (q_X2_left_61 (by first | assumption | rfl | exact .inl rfl | exact .inr rfl)) ?_ | refine rt_eq (q_X2_left_64 (by first | assumption | rfl | exact .inl rfl | exact .inr rfl)) ?_)
      (first | refine rt_eq (q_X2_left_0 (by first | assumption | rfl | exact .inl rfl | exact .inr rfl)) ?_ | refine rt_eq (q_X2_left_4 (by first | assumption | rfl | exact .inl rfl | exact .inr rfl)) ?_ | refine rt_eq (q_X2_left_116 (by first | assumption | rfl | exact .inl rfl | exact .inr rfl) (by first | assumption | rfl | exact .inl rfl | exact .inr rfl)) ?_ | refine rt_eq (q_X2_left_110 (by first | assumption | rfl | exact .inl rfl | exact .inr rfl)) ?_ | refine rt_eq (q_X2_left_109 (by first | assumption | rfl | exact .inl rfl | exact .inr rfl)) ?_ | refine rt_eq (q_X2_left_61 (by first | assumption | rfl | exact .inl rfl | exact .inr rfl)) ?_ | refine rt_eq (q_X2_left_64 (by first | assumption | rfl | exact .inl rfl | exact .inr rfl)) ?_)
      rw [nI_add, nI_add]
      refine ih (n + 1) (upd S n w) _ _ (by omega) hw2 (fr_up hf rfl) ?_
      intro i hi
      rw [up2_at]
      unfold upd
      by_cases e : i = n
      · rw [if_pos e, if_pos e]
      · rw [if_neg e, if_neg e, hs i (by omega)]
    by_cases ho : (cd j).1 < 2
    · rw [if_pos ho] at hw
      obtain ⟨w1, w2, w3, w4⟩ := hw
      by_cases e0 : (cd j).1 = 0
      · have ee : encC (cd j) = (cd j).2 := if_pos e0
        have := w2 e0
        rw [hev, if_pos e0, ee]
        refine rt_f (by (try simp (disch := omega) only [nI_leI, nI_ltI, nI_eq, nI_add, pk_mul, n_0add, Nat.zero_add, nI_clamp]) <;> omega) (rt_f (by (try simp (disch := omega) only [nI_leI, nI_ltI, nI_eq, nI_add, pk_mul, n_0add, Nat.zero_add, nI_clamp]) <;> omega) ?_)
        exact push _ _ w1 w4
      · have e1 : (cd j).1 = 1 := by omega
        have ee : encC (cd j) = 1000 + (cd j).2 := by
          unfold encC
          rw [if_neg e0, if_pos e1]
        have := w3 e1
        rw [hev, if_neg e0, if_pos e1, ee]
        refine rt_f (by (try simp (disch := omega) only [nI_leI, nI_ltI, nI_eq, nI_add, pk_mul, n_0add, Nat.zero_add, nI_clamp]) <;> omega) (rt_t (by (try simp (disch := omega) only [nI_leI, nI_ltI, nI_eq, nI_add, pk_mul, n_0add, Nat.zero_add, nI_clamp]) <;> omega) ?_)
        rw [show nI (1000 + (cd j).2) - nI 1000 = nI (cd j).2 by rw [pk_sub (by omega), show 1000 + (cd j).2 - 1000 = (cd j).2 by omega]]
        refine rt_bne (sp_pick ka_26 (by decide)) ?_
        rw [pk_n this (by decide), hf 26 _ rfl]
        exact push _ _ w1 w4
    · rw [if_neg ho] at hw
      obtain ⟨w1, w2, w3, w4⟩ := hw
      have ee : encC (cd j) = 1998 + (cd j).1 := by
        unfold encC
        rw [if_neg (by omega), if_neg (by omega)]
      rw [hev, if_neg (show ¬ (cd j).1 = 0 by omega), if_neg (show ¬ (cd j).1 = 1 by omega), ee]
      refine rt_t (by (try simp (disch := omega) only [nI_leI, nI_ltI, nI_eq, nI_add, pk_mul, n_0add, Nat.zero_add, nI_clamp]) <;> omega) (rt_f (by (try simp (disch := omega) only [nI_leI, nI_ltI, nI_eq, nI_add, pk_mul, n_0add, Nat.zero_add, nI_clamp]) <;> omega) (rt_f (by (try simp (disch := omega) only [nI_leI, nI_ltI, nI_eq, nI_add, pk_mul, n_0add, Nat.zero_add, nI_clamp]) <;> omega) ?_))
      obtain ⟨n2, rfl⟩ : ∃ n2, n = n2 + 2 := ⟨n - 2, by omega⟩
      rw [n_addm1, n_sub1]
      refine rt_gd (inb_n (by omega) (by decide)) (rt_gd (inb_n (by omega) (by decide)) ?_)
      rw [nI_clamp (by omega), nI_clamp (by omega), hs n2 (by omega), hs (n2 + 1) (by omega)]
      refine rt_bne (sp_reckon (by omega) w1) ?_
      (first | refine rt_eq (q_X2_left_0 (by first | assumption | rfl | exact .inl rfl | exact .inr rfl)) ?_ | refine rt_eq (q_X2_left_4 (by first | assumption | rfl | exact .inl rfl | exact .inr rfl)) ?_ | refine rt_eq (q_X2_left_116 (by first | assumption | rfl | exact .inl rfl | exact .inr rfl) (by first | assumption | rfl | exact .inl rfl | exact .inr rfl)) ?_ | refine rt_eq (q_X2_left_110 (by first | assumption | rfl | exact .inl rfl | exact .inr rfl)) ?_ | refine rt_eq (q_X2_left_109 (by first | assumption | rfl | exact .inl rfl | exact .inr rfl)) ?_ | refine rt_eq (q_X2_left_61 (by first | assumption | rfl | exact .inl rfl | exact .inr rfl)) ?_ | refine rt_eq (q_X2_left_64 (by first | assumption | rfl | exact .inl rfl | exact .inr rfl)) ?_)
      refine rt_gd (inb_n (by omega) (by decide)) ?_
      rw [nI_clamp (by omega)]
      (first | refine rt_eq (q_X2_left_0 (by first | assumption | rfl | exact .inl rfl | exact .inr rfl)) ?_ | refine rt_eq (q_X2_left_4 (by first | assumption | rfl | exact .inl rfl | exact .inr rfl)) ?_ | refine rt_eq (q_X2_left_116 (by first | assumption | rfl | exact .inl rfl | exact .inr rfl) (by first | assumption | rfl | exact .inl rfl | exact .inr rfl)) ?_ | refine rt_eq (q_X2_left_110 (by first | assumption | rfl | exact .inl rfl | exact .inr rfl)) ?_ | refine rt_eq (q_X2_left_109 (by first | assumption | rfl | exact .inl rfl | exact .inr rfl)) ?_ | refine rt_eq (q_X2_left_61 (by first | assumption | rfl | exact .inl rfl | exact .inr rfl)) ?_ | refine rt_eq (q_X2_left_64 (by first | assumption | rfl | exact .inl rfl | exact .inr rfl)) ?_)
      rw [nI_add]
      refine ih (n2 + 1) _ _ _ (by omega) w4 (fr_up hf rfl) ?_
      intro i hi
      rw [up2_at]
      show _ = upd S n2 _ i
      unfold upd
      by_cases e : i = n2
      · rw [if_pos e, if_pos e]
        rfl
      · rw [if_neg e, if_neg e, hs i (by omega)]
theorem sp_left (H : LawC I nL cd) (W : wfC cd nL 0 0) : Rt L X (runM (d + 2) nX2_left [.ref 23] (mm L X I J)) (some (.int (lawV cd nL (I 26)))) (fun I' J' => Fr [(25, 0)] I I' ∧ J' = J) := by
  rw [e_X2_left]
  (first | refine rt_eq (q_X2_left_0 (by first | assumption | rfl | exact .inl rfl | exact .inr rfl)) ?_ | refine rt_eq (q_X2_left_4 (by first | assumption | rfl | exact .inl rfl | exact .inr rfl)) ?_ | refine rt_eq (q_X2_left_116 (by first | assumption | rfl | exact .inl rfl | exact .inr rfl) (by first | assumption | rfl | exact .inl rfl | exact .inr rfl)) ?_ | refine rt_eq (q_X2_left_110 (by first | assumption | rfl | exact .inl rfl | exact .inr rfl)) ?_ | refine rt_eq (q_X2_left_109 (by first | assumption | rfl | exact .inl rfl | exact .inr rfl)) ?_ | refine rt_eq (q_X2_left_61 (by first | assumption | rfl | exact .inl rfl | exact .inr rfl)) ?_ | refine rt_eq (q_X2_left_64 (by first | assumption | rfl | exact .inl rfl | exact .inr rfl)) ?_)
  exact lp_left H nL 0 0 (fun _ => nI 0) I _ (by omega) W fr_rfl (fun i hi => by omega)
/-! the model's -/
theorem lp_byLaw {d : Nat} (hL : I 72 19 = nI nL) (hb : nL ≤ 150) (hc : ∀ k, k < nL → I (115 + k) 0 = nI (cd k).1 ∧ ((cd k).1 < 2 → I (115 + k) 1 = nI (cd k).2)) : ∀ m j n S I', j + m = nL → wfC cd m j n → Fr [(450, 0)] I I' → (∀ i, i < n → I' 450 i = S i) → Rt L X (c_X12_byLaw_41 (d + 2) L X I' J (nI n) (nI j)) (some (.int (clp ((accF (evS (I 451) cd) m j (n, S)).2 0)))) (fun I'' J' => Fr [(450, 0)] I I'' ∧ J' = J)
  | 0, j, n, S, I', hj, hw, hf, hs => by
    have hn : n = 1 := hw
    subst hn
    (first | refine rt_eq (q_X12_byLaw_0) ?_ | refine rt_eq (q_X12_byLaw_41) ?_ | refine rt_eq (q_X12_byLaw_162) ?_ | refine rt_eq (q_X12_byLaw_143) ?_ | refine rt_eq (q_X12_byLaw_101) ?_ | refine rt_eq (q_X12_byLaw_165) ?_ | refine rt_eq (q_X12_byLaw_144) ?_)
    refine rt_t (by rw [hf 72 19 rfl, hL]; ((try simp (disch := omega) only [nI_leI, nI_ltI, nI_eq, nI_add, pk_mul, n_0add, Nat.zero_add, nI_clamp]) <;> omega)) ?_
    rw [hs 0 (by omega)]
    refine rt_bne sp_more ?_
    (first | refine rt_eq (q_X12_byLaw_0) ?_ | refine rt_eq (q_X12_byLaw_41) ?_ | refine rt_eq (q_X12_byLaw_162) ?_ | refine rt_eq (q_X12_byLaw_143) ?_ | refine rt_eq (q_X12_byLaw_101) ?_ | refine rt_eq (q_X12_byLaw_165) ?_ | refine rt_eq (q_X12_byLaw_144) ?_)
    refine rt_bne sp_less ?_
    (first | refine rt_eq (q_X12_byLaw_0) ?_ | refine rt_eq (q_X12_byLaw_41) ?_ | refine rt_eq (q_X12_byLaw_162) ?_ | refine rt_eq (q_X12_byLaw_143) ?_ | refine rt_eq (q_X12_byLaw_101) ?_ | refine rt_eq (q_X12_byLaw_165) ?_ | refine rt_eq (q_X12_byLaw_144) ?_)
    rw [clp_M]
    exact rt_ret ⟨hf, rfl⟩
  | m + 1, j, n, S, I', hj, hw, hf, hs => by
    have ih := lp_byLaw (d := d) hL hb hc m (j + 1)
    have hin : ∀ k, inF [(450, 0)] (115 + j) k = false := by
      intro k
      rw [Bool.eq_false_iff]
      intro q
      rw [inF_t] at q
      obtain ⟨e, e1, e2, -⟩ := q
      simp only [List.mem_singleton] at e1
      subst e1
      simp only at e2
      omega
    (first | refine rt_eq (q_X12_byLaw_0) ?_ | refine rt_eq (q_X12_byLaw_41) ?_ | refine rt_eq (q_X12_byLaw_162) ?_ | refine rt_eq (q_X12_byLaw_143) ?_ | refine rt_eq (q_X12_byLaw_101) ?_ | refine rt_eq (q_X12_byLaw_165) ?_ | refine rt_eq (q_X12_byLaw_144) ?_)
    refine rt_f (by rw [hf 72 19 rfl, hL]; ((try simp (disch := omega) only [nI_leI, nI_ltI, nI_eq, nI_add, pk_mul, n_0add, Nat.zero_add, nI_clamp]) <;> omega)) ?_
    refine rt_gd (inb_n (by omega) (by decide)) ?_
    rw [nI_clamp (by omega), hf (115 + j) 0 (hin 0), hf (115 + j) 1 (hin 1), (hc j (by omega)).1]
    unfold wfC at hw
    show Rt L X _ (some (.int (clp ((accF (evS (I 451) cd) m (j + 1) (evS (I 451) cd j (n, S))).2 0)))) _
    have hev : evS (I 451) cd j (n, S) = if (cd j).1 = 0 then (n + 1, upd S n (nI (cd j).2)) else if (cd j).1 = 1 then (n + 1, upd S n (I 451 (cd j).2)) else (n - 1, upd S (n - 2) (op2 (cd j).1 (S (n - 2)) (S (n - 1)))) := rfl
    have push : ∀ w, n < 30 → wfC cd m (j + 1) (n + 1) → Rt L X (runI (runM (d + 2)) iX12_byLaw (101, [some (.ref 72), some (.int (nI n)), some (.int (nI j))], [.int w, .int (nI n), .ref 450], mm L X I' J)) (some (.int (clp ((accF (evS (I 451) cd) m (j + 1) (n + 1, upd S n w)).2 0)))) (fun I'' J' => Fr [(450, 0)] I I'' ∧ J' = J) := by
      intro w hn30 hw2
      (first | refine rt_eq (q_X12_byLaw_0) ?_ | refine rt_eq (q_X12_byLaw_41) ?_ | refine rt_eq (q_X12_byLaw_162) ?_ | refine rt_eq (q_X12_byLaw_143) ?_ | refine rt_eq (q_X12_byLaw_101) ?_ | refine rt_eq (q_X12_byLaw_165) ?_ | refine rt_eq (q_X12_byLaw_144) ?_)
      refine rt_gd (inb_n (by omega) (by decide)) ?_
      rw [nI_clamp (by omega)]
      (first | refine rt_eq (q_X12_byLaw_0) ?_ | refine rt_eq (q_X12_byLaw_41) ?_ | refine rt_eq (q_X12_byLaw_162) ?_ | refine rt_eq (q_X12_byLaw_143) ?_ | refine rt_eq (q_X12_byLaw_101) ?_ | refine rt_eq (q_X12_byLaw_165) ?_ | refine rt_eq (q_X12_byLaw_144) ?_)
      rw [nI_add, nI_add]
      refine ih (n + 1) (upd S n w) _ (by omega) hw2 (fr_up hf rfl) ?_
      intro i hi
      rw [up2_at]
      unfold upd
      by_cases e : i = n
      · rw [if_pos e, if_pos e]
      · rw [if_neg e, if_neg e, hs i (by omega)]
    by_cases ho : (cd j).1 < 2
    · rw [if_pos ho] at hw
      obtain ⟨w1, w2, w3, w4⟩ := hw
      rw [(hc j (by omega)).2 ho]
      refine rt_f (by (try simp (disch := omega) only [nI_leI, nI_ltI, nI_eq, nI_add, pk_mul, n_0add, Nat.zero_add, nI_clamp]) <;> omega) ?_
      by_cases e0 : (cd j).1 = 0
      · rw [hev, if_pos e0]
        refine rt_t (by (try simp (disch := omega) only [nI_leI, nI_ltI, nI_eq, nI_add, pk_mul, n_0add, Nat.zero_add, nI_clamp]) <;> omega) ?_
        exact push _ w1 w4
      · have e1 : (cd j).1 = 1 := by omega
        have := w3 e1
        rw [hev, if_neg e0, if_pos e1]
        refine rt_f (by (try simp (disch := omega) only [nI_leI, nI_ltI, nI_eq, nI_add, pk_mul, n_0add, Nat.zero_add, nI_clamp]) <;> omega) ?_
        refine rt_gd (inb_n (by omega) (by decide)) ?_
        rw [nI_clamp (by omega), hf 451 _ rfl]
        exact push _ w1 w4
    · rw [if_neg ho] at hw
      obtain ⟨w1, w2, w3, w4⟩ := hw
      rw [hev, if_neg (show ¬ (cd j).1 = 0 by omega), if_neg (show ¬ (cd j).1 = 1 by omega)]
      refine rt_t (by (try simp (disch := omega) only [nI_leI, nI_ltI, nI_eq, nI_add, pk_mul, n_0add, Nat.zero_add, nI_clamp]) <;> omega) ?_
      obtain ⟨n2, rfl⟩ : ∃ n2, n = n2 + 2 := ⟨n - 2, by omega⟩
      rw [n_addm1, n_sub1]
      refine rt_gd (inb_n (by omega) (by decide)) (rt_gd (inb_n (by omega) (by decide)) ?_)
      rw [nI_clamp (by omega), nI_clamp (by omega), hs n2 (by omega), hs (n2 + 1) (by omega)]
      refine rt_bne (sp_by (by omega) w1) ?_
      (first | refine rt_eq (q_X12_byLaw_0) ?_ | refine rt_eq (q_X12_byLaw_41) ?_ | refine rt_eq (q_X12_byLaw_162) ?_ | refine rt_eq (q_X12_byLaw_143) ?_ | refine rt_eq (q_X12_byLaw_101) ?_ | refine rt_eq (q_X12_byLaw_165) ?_ | refine rt_eq (q_X12_byLaw_144) ?_)
      refine rt_gd (inb_n (by omega) (by decide)) ?_
      rw [nI_clamp (by omega)]
      (first | refine rt_eq (q_X12_byLaw_0) ?_ | refine rt_eq (q_X12_byLaw_41) ?_ | refine rt_eq (q_X12_byLaw_162) ?_ | refine rt_eq (q_X12_byLaw_143) ?_ | refine rt_eq (q_X12_byLaw_101) ?_ | refine rt_eq (q_X12_byLaw_165) ?_ | refine rt_eq (q_X12_byLaw_144) ?_)
      rw [nI_add]
      refine ih (n2 + 1) _ _ (by omega) w4 (fr_up hf rfl) ?_
      intro i hi
      rw [up2_at]
      show _ = upd S n2 _ i
      unfold upd
      by_cases e : i = n2
      · rw [if_pos e, if_pos e]
        rfl
      · rw [if_neg e, if_neg e, hs i (by omega)]
theorem lawV0 {kn : Nat → Int32} (h : ∀ k, k < 11 → cd k = cd0 k) : lawV cd 11 kn = clp (kn 0 - kn 1 - nI 2 * kn 3 - nI 5 * kn 4) := by
  unfold lawV
  rw [accF_congr (g := evS kn cd0) 11 0 _ (fun k h1 h2 x => by unfold evS; rw [h k (by omega)])]
  show clp (kn 0 - kn 1 - kn 3 * nI 2 - kn 4 * nI 5) = _
  rw [Int32.mul_comm (kn 3), Int32.mul_comm (kn 4)]
theorem sp_byLaw (H : LawM I nL cd) (W : wfC cd nL 0 0) : Rt L X (runM (d + 3) nX12_byLaw [.ref 72] (mm L X I J)) (some (.int (lawV cd nL (I 451)))) (fun I' J' => Fr [(450, 0)] I I' ∧ J' = J) := by
  rw [e_X12_byLaw]
  (first | refine rt_eq (q_X12_byLaw_0) ?_ | refine rt_eq (q_X12_byLaw_41) ?_ | refine rt_eq (q_X12_byLaw_162) ?_ | refine rt_eq (q_X12_byLaw_143) ?_ | refine rt_eq (q_X12_byLaw_101) ?_ | refine rt_eq (q_X12_byLaw_165) ?_ | refine rt_eq (q_X12_byLaw_144) ?_)
  rcases H with ⟨h1, h2, h3, h4⟩ | ⟨h1, h2, h3⟩
  · have := lp_byLaw (d := d) (L := L) (X := X) (J := J) h1 h2 h4 nL 0 0 (fun _ => nI 0) (up2 I 450 0 (I 451 0 - I 451 1 - nI 2 * I 451 3 - nI 5 * I 451 4)) (by omega) W (fr_up fr_rfl rfl) (fun i hi => by omega)
    exact this
  · (first | refine rt_eq (q_X12_byLaw_0) ?_ | refine rt_eq (q_X12_byLaw_41) ?_ | refine rt_eq (q_X12_byLaw_162) ?_ | refine rt_eq (q_X12_byLaw_143) ?_ | refine rt_eq (q_X12_byLaw_101) ?_ | refine rt_eq (q_X12_byLaw_165) ?_ | refine rt_eq (q_X12_byLaw_144) ?_)
    refine rt_t (by show I 72 19 ≤ _; rw [h1]; ((try simp (disch := omega) only [nI_leI, nI_ltI, nI_eq, nI_add, pk_mul, n_0add, Nat.zero_add, nI_clamp]) <;> omega)) ?_
    refine rt_bne sp_more ?_
    (first | refine rt_eq (q_X12_byLaw_0) ?_ | refine rt_eq (q_X12_byLaw_41) ?_ | refine rt_eq (q_X12_byLaw_162) ?_ | refine rt_eq (q_X12_byLaw_143) ?_ | refine rt_eq (q_X12_byLaw_101) ?_ | refine rt_eq (q_X12_byLaw_165) ?_ | refine rt_eq (q_X12_byLaw_144) ?_)
    refine rt_bne sp_less ?_
    (first | refine rt_eq (q_X12_byLaw_0) ?_ | refine rt_eq (q_X12_byLaw_41) ?_ | refine rt_eq (q_X12_byLaw_162) ?_ | refine rt_eq (q_X12_byLaw_143) ?_ | refine rt_eq (q_X12_byLaw_101) ?_ | refine rt_eq (q_X12_byLaw_165) ?_ | refine rt_eq (q_X12_byLaw_144) ?_)
    rw [clp_M, h2, lawV0 h3]
    exact rt_end rfl ⟨fr_up fr_rfl rfl, rfl⟩
end LW
