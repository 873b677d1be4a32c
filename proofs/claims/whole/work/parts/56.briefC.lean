/-! SHORT, BY THE CLASS -/
theorem pg_J7_fill_d0a16 : PG[nJ7_fill_d0a16]? = some pe_J7_fill_d0a16 := (pg_hi (j := 145) rfl rfl)
theorem e_J7_fill_d0a16 {d r0 : Nat} {m : AM} {y1 : Int64} : runM (d + 1) nJ7_fill_d0a16 [.ref r0, .long y1] m = runI (runM d) iJ7_fill_d0a16 (0, [some (.ref r0), some (.long y1), none, none, none], [], m) := runM_of pg_J7_fill_d0a16 (Nat.le_of_ble_eq_true rfl) rfl
theorem pg_J7_fill_53178 : PG[nJ7_fill_53178]? = some pe_J7_fill_53178 := (pg_hi (j := 144) rfl rfl)
theorem e_J7_fill_53178 {d r0 : Nat} {m : AM} {x1 : Int32} : runM (d + 1) nJ7_fill_53178 [.ref r0, .int x1] m = runI (runM d) iJ7_fill_53178 (0, [some (.ref r0), some (.int x1), none, none], [], m) := runM_of pg_J7_fill_53178 (Nat.le_of_ble_eq_true rfl) rfl
def vis (J : MI64) (c : Nat) : Bool := (J 62 (c / 64)).toBitVec.getLsbD (c % 64)
theorem mk64 : ∀ k, k < 64 → (lN 1 <<< ((nI k).toInt64 &&& 63)).toBitVec = BitVec.ofNat 64 (2 ^ k) := by decide +kernel
theorem mk_and {x : Int64} {k : Nat} (hk : k < 64) : x &&& (lN 1 <<< ((nI k).toInt64 &&& 63)) = lN 0 ↔ x.toBitVec.getLsbD k = false := by
  have e : (x &&& (lN 1 <<< ((nI k).toInt64 &&& 63))).toBitVec = x.toBitVec &&& BitVec.ofNat 64 (2 ^ k) := by rw [Int64.toBitVec_and, mk64 k hk]
  constructor
  · intro q
    have := congrArg (fun z : Int64 => z.toBitVec.getLsbD k) q
    rw [e, BitVec.getLsbD_and, BitVec.getLsbD_ofNat, Nat.testBit_two_pow_self, decide_eq_true hk] at this
    simpa [lN] using this
  · intro q
    apply Int64.toBitVec_inj.mp
    rw [e]
    apply BitVec.eq_of_getLsbD_eq
    intro i hi
    rw [BitVec.getLsbD_and, BitVec.getLsbD_ofNat, Nat.testBit_two_pow]
    by_cases z : k = i
    · subst z
      simp [q, lN]
    · simp [z, lN]
theorem mk_or {x : Int64} {k i : Nat} (hk : k < 64) (hi : i < 64) : (x ||| (lN 1 <<< ((nI k).toInt64 &&& 63))).toBitVec.getLsbD i = (x.toBitVec.getLsbD i || decide (k = i)) := by
  rw [Int64.toBitVec_or, mk64 k hk, BitVec.getLsbD_or, BitVec.getLsbD_ofNat, Nat.testBit_two_pow, decide_eq_true hi, Bool.true_and]
/-- nothing better behind a state that was met -/
def Done (h : Hs) (m nL : Nat) (cd : Cd) (N : Nt) (f : Nat) (B : Option (Nat × List Nat)) (c : Nat) : Prop := ∀ k s, shN h m nL cd N f (7 - pcN (c / 1200)) (c / 1200) (some (c / 100 % 12)) (c % 100) = some (k, s) → ∃ y, B = some y ∧ y.1 ≤ pcN (c / 1200) + k
def MetI (h : Hs) (m nL : Nat) (cd : Cd) (N : Nt) (f : Nat) (J : MI64) (B : Option (Nat × List Nat)) (j : Nat) : Prop := ∀ c, c < 76800 → vis J c = true → j < pcN (c / 1200) → Done h m nL cd N f B c
def shB (I : MI32) (B : Option (Nat × List Nat)) : Prop := match B with
  | none => I 56 13 = -1
  | some y => I 56 13 = nI y.1 ∧ y.1 ≤ 6 ∧ ∀ i, i < y.1 → I 60 i = nI (y.2.getD i 0)
def fSh : Fls := [(25, 0), (26, 0), (60, 0), (61, 0), (56, 14)]
def CX (I : MI32) (h : Hs) (m nL : Nat) (cd : Cd) (n : Nat) (N : Nt) (f : Nat) : Prop := HC I h m ∧ LawC I nL cd ∧ Calm I ∧ FW I h m ∧ NC I 43 n N ∧ I 56 11 = nI f
theorem btr_le {b o : Option (Nat × List Nat)} {y : Nat × List Nat} (e : b = some y) : ∃ z, btr b o = some z ∧ z.1 ≤ y.1 := by
  subst e
  rcases o with _ | x
  · exact ⟨y, rfl, Nat.le_refl _⟩
  · unfold btr
    simp only
    by_cases z : x.1 < y.1
    · rw [if_pos z]
      exact ⟨x, rfl, by omega⟩
    · rw [if_neg z]
      exact ⟨y, rfl, Nat.le_refl _⟩
theorem btr_le2 {b : Option (Nat × List Nat)} {y : Nat × List Nat} : ∃ z, btr b (some y) = some z ∧ z.1 ≤ y.1 := by
  rcases b with _ | x
  · exact ⟨y, rfl, Nat.le_refl _⟩
  · unfold btr
    simp only
    by_cases z : y.1 < x.1
    · rw [if_pos z]
      exact ⟨y, rfl, Nat.le_refl _⟩
    · rw [if_neg z]
      exact ⟨x, rfl, by omega⟩
theorem btr_no {b o : Option (Nat × List Nat)} (e : ∀ z, o = some z → ∃ y, b = some y ∧ y.1 ≤ z.1) : btr b o = b := by
  rcases o with _ | z
  · rfl
  · obtain ⟨y, rfl, hy⟩ := e z rfl
    unfold btr
    simp only
    rw [if_neg (by omega)]
section BC
variable {d L X : Nat} {I : MI32} {J : MI64} {h : Hs} {m nL n : Nat} {cd : Cd} {N : Nt} {f : Nat}
theorem Done_mono {B : Option (Nat × List Nat)} {o : Option (Nat × List Nat)} {c : Nat} (D : Done h m nL cd N f B c) : Done h m nL cd N f (btr B o) c := by
  intro k s e
  obtain ⟨y, h1, h2⟩ := D k s e
  obtain ⟨z, h3, h4⟩ := btr_le (o := o) h1
  exact ⟨z, h3, by omega⟩
theorem CX_fr {I' : MI32} (C : CX I h m nL cd n N f) (g : Fr fSh I I') : CX I' h m nL cd n N f := ⟨HC_fr C.1 (ag_of g (by decide)), LawC_fr C.2.1 (ag_of g (by decide)), Calm_fr C.2.2.1 (ag_of g (by decide)), fun w hw => by rw [g 57 w rfl]; exact C.2.2.2.1 w hw, NC_fr C.2.2.2.2.1 (ag_of g (by decide)), by rw [g 56 11 rfl]; exact C.2.2.2.2.2⟩
theorem sp_isNew {c : Nat} (hc : c < 76800) : Rt L X (runM (d + 1) nX5_isNew [.ref 56, .int (nI c)] (mm L X I J)) (some (.int (bI (!vis J c)))) (fun I' J' => I' = I ∧ ∀ c', vis J' c' = (vis J c' || decide (c' = c))) := by
  rw [e_X5_isNew]
  (first | refine rt_eq (q_X5_isNew_0) ?_ | refine rt_eq (q_X5_isNew_40) ?_)
  refine rt_f (nI_pos (by omega)) (rt_t (by (try simp (disch := omega) only [nI_leI, nI_ltI, nI_eq, nI_add, pk_mul, n_0add, Nat.zero_add, nI_clamp]) <;> omega) ?_)
  have e1 : nI c >>> (nI 6 &&& 31) = nI (c / 64) := by rw [n_shr (by omega) (by decide)]
  have e2 : nI c &&& nI 63 = nI (c % 64) := pk_andN (by omega) 6 (by decide)
  rw [e1, e2]
  refine rt_gd (inb_n (by omega) (by decide)) ?_
  rw [nI_clamp (by omega)]
  have hk : c % 64 < 64 := Nat.mod_lt _ (by decide)
  have post : ∀ c', vis (up2 J 62 (c / 64) (J 62 (c / 64) ||| (lN 1 <<< ((nI (c % 64)).toInt64 &&& 63)))) c' = (vis J c' || decide (c' = c)) := by
    intro c'
    unfold vis
    rw [up2_at]
    by_cases z : c' / 64 = c / 64
    · rw [if_pos z, mk_or hk (Nat.mod_lt _ (by decide)), z]
      congr 1
      apply decide_eq_decide.mpr
      omega
    · rw [if_neg z]
      have : ¬ c' = c := fun e => z (by rw [e])
      rw [decide_eq_false this, Bool.or_false]
  by_cases v : vis J c = true
  · refine rt_f (fun q => ?_) ?_
    · have := (mk_and hk).mp ((lg_cmp_eq _ _).mp q)
      unfold vis at v
      rw [this] at v
      cases v
    · (first | refine rt_eq (q_X5_isNew_0) ?_ | refine rt_eq (q_X5_isNew_40) ?_)
      rw [e1]
      refine rt_gd (inb_n (by omega) (by decide)) (rt_gd rfl ?_)
      rw [nI_clamp (by omega)]
      refine rt_v (rt_ret ⟨rfl, post⟩) ?_
      rw [v]
      rfl
  · rw [Bool.not_eq_true] at v
    refine rt_t ((lg_cmp_eq _ _).mpr ((mk_and hk).mpr v)) ?_
    (first | refine rt_eq (q_X5_isNew_0) ?_ | refine rt_eq (q_X5_isNew_40) ?_)
    rw [e1]
    refine rt_gd (inb_n (by omega) (by decide)) (rt_gd rfl ?_)
    rw [nI_clamp (by omega)]
    refine rt_v (rt_ret ⟨rfl, post⟩) ?_
    rw [v]
    rfl
theorem lp_fillJ : ∀ q j J', j + q = 1200 → (∀ i, i < j → J' 62 i = lN 0) → Rt L X (c_J7_fill_d0a16_6 d L X I J' 62 (lN 0) (nI j) (nI 1200)) none (fun I' J'' => I' = I ∧ ∀ i, i < 1200 → J'' 62 i = lN 0)
  | 0, j, J', hj, hl => by
    have k0 := ka_62
    (first | refine rt_eq (q_J7_fill_d0a16_0 (by first | assumption | rfl | exact .inl rfl | exact .inr rfl)) ?_ | refine rt_eq (q_J7_fill_d0a16_6 (by first | assumption | rfl | exact .inl rfl | exact .inr rfl)) ?_)
    refine rt_t (by (try simp (disch := omega) only [nI_leI, nI_ltI, nI_eq, nI_add, pk_mul, n_0add, Nat.zero_add, nI_clamp]) <;> omega) ?_
    exact rt_ret ⟨rfl, fun i hi => hl i (by omega)⟩
  | q + 1, j, J', hj, hl => by
    have ih := lp_fillJ q (j + 1)
    have k0 := ka_62
    (first | refine rt_eq (q_J7_fill_d0a16_0 (by first | assumption | rfl | exact .inl rfl | exact .inr rfl)) ?_ | refine rt_eq (q_J7_fill_d0a16_6 (by first | assumption | rfl | exact .inl rfl | exact .inr rfl)) ?_)
    refine rt_f (by (try simp (disch := omega) only [nI_leI, nI_ltI, nI_eq, nI_add, pk_mul, n_0add, Nat.zero_add, nI_clamp]) <;> omega) (rt_gd (inb_n (by omega) (by decide)) ?_)
    rw [nI_clamp (by omega), nI_add]
    refine ih _ (by omega) ?_
    intro i hi
    rw [up2_at]
    by_cases z : i = j
    · rw [if_pos z]
    · rw [if_neg z]
      exact hl i (by omega)
theorem sp_fillJ : Rt L X (runM (d + 1) nJ7_fill_d0a16 [.ref 62, .long (lN 0)] (mm L X I J)) none (fun I' J' => I' = I ∧ ∀ c, c < 76800 → vis J' c = false) := by
  have k0 := ka_62
  rw [e_J7_fill_d0a16]
  (first | refine rt_eq (q_J7_fill_d0a16_0 (by first | assumption | rfl | exact .inl rfl | exact .inr rfl)) ?_ | refine rt_eq (q_J7_fill_d0a16_6 (by first | assumption | rfl | exact .inl rfl | exact .inr rfl)) ?_)
  refine rt_mono (lp_fillJ 1200 0 J (by omega) (fun i hi => by omega)) ?_
  rintro I1 J1 ⟨rfl, h1⟩
  refine ⟨rfl, fun c hc => ?_⟩
  unfold vis
  rw [h1 _ (by omega)]
  simp [lN]
/-- trying all ways is looking for the shortest -/
theorem fold_eq {u fl K j : Nat} {l : Option Nat} {pre : List Nat} {B : Option (Nat × List Nat)} (hr : rcN h f u fl = false) : accF (flB h m nL cd N f u l fl K j pre) (2 * h 0 0) 0 B = btr B (shf j pre (shN h m nL cd N f (K + 1) u l fl)) := by
  have key : ∀ q w B0 b, w + q = 2 * h 0 0 → B0 = btr B (shf j pre b) → (∀ y, b = some y → ∃ i, i < w ∧ chl h m nL cd N f u l fl K i = some y ∧ (∀ v, v < i → ∀ z, chl h m nL cd N f u l fl K v = some z → y.1 < z.1)) → (∀ v, v < w → ∀ z, chl h m nL cd N f u l fl K v = some z → ∃ y, b = some y ∧ y.1 ≤ z.1) → ∃ b', accF (flB h m nL cd N f u l fl K j pre) q w B0 = btr B (shf j pre b') ∧ (∀ y, b' = some y → ∃ i, i < 2 * h 0 0 ∧ chl h m nL cd N f u l fl K i = some y ∧ (∀ v, v < i → ∀ z, chl h m nL cd N f u l fl K v = some z → y.1 < z.1)) ∧ (∀ v, v < 2 * h 0 0 → ∀ z, chl h m nL cd N f u l fl K v = some z → ∃ y, b' = some y ∧ y.1 ≤ z.1) := by
    intro q
    induction q with
    | zero =>
      intro w B0 b hw hB h1 h2
      have : w = 2 * h 0 0 := by omega
      subst this
      exact ⟨b, hB, h1, h2⟩
    | succ q ih =>
      intro w B0 b hw hB h1 h2
      show ∃ b', accF (flB h m nL cd N f u l fl K j pre) q (w + 1) (flB h m nL cd N f u l fl K j pre w B0) = _ ∧ _
      refine ih (w + 1) _ (btr b (chl h m nL cd N f u l fl K w)) (by omega) ?_ ?_ ?_
      · unfold flB
        rw [hB]
        rcases hc : chl h m nL cd N f u l fl K w with _ | y
        · rfl
        · rcases b with _ | x
          · rfl
          · rcases B with _ | t
            · unfold btr shf
              simp only [Option.map_some]
              by_cases z : y.1 < x.1
              · rw [if_pos (by omega), if_pos z]
                rfl
              · rw [if_neg (by omega), if_neg z]
                rfl
            · unfold btr shf
              simp only [Option.map_some]
              by_cases z : y.1 < x.1
              · rw [if_pos z]
                by_cases z2 : j + x.1 < t.1
                · rw [if_pos z2]
                  simp only [Option.map_some]
                  rw [if_pos (by omega), if_pos (by omega)]
                · rw [if_neg z2]
                  rfl
              · rw [if_neg z]
                by_cases z2 : j + x.1 < t.1
                · rw [if_pos z2]
                  simp only [Option.map_some]
                  rw [if_neg (by omega), if_pos z2]
                · rw [if_neg z2]
                  simp only [Option.map_some]
                  rw [if_neg (by omega), if_neg z2]
      · intro y hy
        rcases hc : chl h m nL cd N f u l fl K w with _ | x
        · rw [hc] at hy
          obtain ⟨i, i1, i2, i3⟩ := h1 y hy
          exact ⟨i, by omega, i2, i3⟩
        · rw [hc] at hy
          rcases b with _ | x0
          · cases hy
            refine ⟨w, by omega, hc, fun v hv z hz => ?_⟩
            obtain ⟨y0, e0, -⟩ := h2 v hv z hz
            cases e0
          · unfold btr at hy
            simp only at hy
            by_cases z : x.1 < x0.1
            · rw [if_pos z] at hy
              cases hy
              refine ⟨w, by omega, hc, fun v hv z2 hz => ?_⟩
              obtain ⟨y0, e0, e1⟩ := h2 v hv z2 hz
              cases e0
              omega
            · rw [if_neg z] at hy
              obtain ⟨i, i1, i2, i3⟩ := h1 y hy
              exact ⟨i, by omega, i2, i3⟩
      · intro v hv z hz
        rcases Nat.eq_or_lt_of_le (Nat.le_of_lt_succ hv) with e | e
        · subst e
          rw [hz]
          exact btr_le2
        · obtain ⟨y, e0, e1⟩ := h2 v e z hz
          obtain ⟨t, t1, t2⟩ := btr_le (o := chl h m nL cd N f u l fl K w) e0
          exact ⟨t, t1, by omega⟩
  obtain ⟨b', e1, e2, e3⟩ := key (2 * h 0 0) 0 B none (by omega) rfl (fun y e => by cases e) (fun v hv => by omega)
  rw [e1]
  congr 2
  rcases b' with _ | y
  · rcases hs : shN h m nL cd N f (K + 1) u l fl with _ | y
    · rfl
    · obtain ⟨w, w1, w2, -, -⟩ := (bs_step hr y).mp hs
      obtain ⟨t, t1, -⟩ := e3 w w1 y w2
      cases t1
  · obtain ⟨i, i1, i2, i3⟩ := e2 y rfl
    refine ((bs_step hr y).mpr ⟨i, i1, i2, i3, fun v hv z hz => ?_⟩).symm
    obtain ⟨t, t1, t2⟩ := e3 v hv z hz
    cases t1
    exact t2
theorem shf_shf {j w : Nat} {pre : List Nat} {o : Option (Nat × List Nat)} : shf j pre (shf 1 [w] o) = shf (j + 1) (pre ++ [w]) o := by
  rcases o with _ | ⟨k, s⟩
  · rfl
  · unfold shf
    simp only [Option.map_some, List.append_assoc, List.singleton_append, Option.some.injEq, Prod.mk.injEq, and_true]
    omega
end BC
