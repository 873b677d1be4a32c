/-! STREET: the model -/
/-- a choice as the model tells it, as the class does -/
def mI2 (n s g : Nat) : Prop := (s < n ∧ g = s) ∨ (s = 8 ∧ g = n)
def chX (n s : Nat) : Bool := decide (s < n) || decide (s = 8)
def m2c (n s : Nat) : Nat := if s = 8 then n else s
theorem sub_m1 {x : Int32} : x - nI 1 = x + (-1) := by rw [Int32.sub_eq_add_neg, show -(nI 1) = (-1 : Int32) by decide]
section SN
variable {d L X : Nat} {I : MI32} {J : MI64} {h : Hs} {nL n : Nat} {cd : Cd} {N : Nt} {w g t v k s u : Nat} {x1 x2 x3 : Int32}
theorem m2c_ok (n6 : n ≤ 6) (hc : chX n s = true) : mI2 n s (m2c n s) := by
  unfold chX at hc
  rw [Bool.or_eq_true, decide_eq_true_eq, decide_eq_true_eq] at hc
  unfold m2c mI2
  by_cases z : s = 8
  · rw [if_pos z]
    exact .inr ⟨z, rfl⟩
  · rw [if_neg z]
    exact .inl ⟨by omega, rfl⟩
/-- what the model's street needs -/
def NX2 (I : MI32) (h : Hs) (nL : Nat) (cd : Cd) (n : Nat) (N : Nt) : Prop := SM I h (h 0 1) nL cd ∧ I 533 = N ∧ NR (h 0 0) n N
theorem NX2_f {I' : MI32} (C : NX2 I h nL cd n N) (ok : HOK h) (g : Fr fSm I I') : NX2 I' h nL cd n N := ⟨SM_fr C.1 ok g fSm1 fSm2, (funext fun k => g 533 k rfl).trans C.2.1, C.2.2⟩
theorem sp_comes (ok : HOK h) (W : wfC cd nL 0 0) (C : NX2 I h nL cd n N) (hs : mI2 n s g) (hu : mI2 n u t) : Rt L X (runM (d + 8) nX12_comes [.ref 72, .int (nI s), .int (nI u)] (mm L X I J)) (some (.int (cmF h nL cd N g t n))) (fun I' J' => Fr fSm I I' ∧ J' = J) := by
  obtain ⟨S, e, R⟩ := C
  have R0 := R
  obtain ⟨⟨n6, np6⟩, r2, -, r4, -⟩ := R
  have hd : ∀ i j, i < n → j < n → i ≠ j → nv (N i) ≠ nv (N j) := by
    intro i j hi hj hij
    rcases Nat.lt_or_gt_of_ne hij with z | z
    · exact r4 i j z hj
    · exact (r4 j i z hi).symm
  have hs8 : s < 2 ^ 31 ∧ u < 2 ^ 31 := by unfold mI2 at hs hu; omega
  rw [e_X12_comes]
  (first | refine rt_eq (q_X12_comes_0) ?_ | refine rt_eq (q_X12_comes_11) ?_ | refine rt_eq (q_X12_comes_37) ?_ | refine rt_eq (q_X12_comes_63) ?_ | refine rt_eq (q_X12_comes_71) ?_)
  refine rt_bndN (sp_copies ka_533 ka_534 (by decide) (by decide) (by decide) (by decide) (by decide)) ?_
  rintro I1 J1 ⟨⟨f1, c1⟩, rfl⟩
  have e1 : I1 533 = N := by rw [← e]; exact funext fun i => f1 533 i rfl
  have hc : ∀ i, i < 31 → I1 534 i = N i := fun i hi => by rw [c1, ← e]; exact if_pos hi
  have tail2 : ∀ I3 u1, Fr [(534, 0)] I I3 → (∀ i, i < 12 → I3 534 i = N i) → (∀ i, 18 ≤ i → i < 31 → I3 534 i = N i) → (∀ k, k < n → I3 534 (12 + nv (N k)) = N (12 + nv (N k)) + bdl g t k) → Rt L X (runI (runM (d + 7)) iX12_comes (63, [some (.ref 72), u1, some (.int (nI u))], [], mm L X I3 J1)) (some (.int (cmF h nL cd N g t n))) (fun I' J' => Fr fSm I I' ∧ J' = J1) := by
    intro I3 u1 f3 a1 a2 a3
    have S3 := SM_fr S ok f3 (by decide +kernel) (by decide +kernel)
    have R3 : NR (h 0 0) n (I3 534) := NR_congr R0 (fun i hi => a1 i hi)
    (first | refine rt_eq (q_X12_comes_0) ?_ | refine rt_eq (q_X12_comes_11) ?_ | refine rt_eq (q_X12_comes_37) ?_ | refine rt_eq (q_X12_comes_63) ?_ | refine rt_eq (q_X12_comes_71) ?_)
    refine rt_bnd (sp_arrives (.inr rfl) S3.1 ok R3 S3.2 W) ?_
    rintro I4 J4 ⟨⟨f4, -⟩, rfl⟩
    (first | refine rt_eq (q_X12_comes_0) ?_ | refine rt_eq (q_X12_comes_11) ?_ | refine rt_eq (q_X12_comes_37) ?_ | refine rt_eq (q_X12_comes_63) ?_ | refine rt_eq (q_X12_comes_71) ?_)
    refine rt_v (rt_ret ⟨fr_tr (fr_mono f3 (by decide)) (fr_mono f4 (by decide)), rfl⟩) ?_
    unfold arN cmF
    rw [a2 29 (by decide) (by decide)]
    refine flN_congr n (fun k hk => ?_)
    obtain ⟨w1, w2⟩ := r2 k hk
    have ek : I3 534 k = N k := a1 k (by omega)
    unfold bdN bsN
    rw [ek]
    exact ⟨rfl, a1 _ (by omega), a3 k hk, a2 _ (by omega) (by omega), fun _ => rfl⟩
  have tail1 : ∀ I2 u1, Fr [(534, 0)] I I2 → I2 533 = N → (∀ i, i < 12 → I2 534 i = N i) → (∀ i, 18 ≤ i → i < 31 → I2 534 i = N i) → (∀ k, k < n → I2 534 (12 + nv (N k)) = N (12 + nv (N k)) + (if k = g then nI 1 else nI 0)) → Rt L X (runI (runM (d + 7)) iX12_comes (37, [some (.ref 72), u1, some (.int (nI u))], [], mm L X I2 J1)) (some (.int (cmF h nL cd N g t n))) (fun I' J' => Fr fSm I I' ∧ J' = J1) := by
    intro I2 u1 f2 e2 a1 a2 a3
    (first | refine rt_eq (q_X12_comes_0) ?_ | refine rt_eq (q_X12_comes_11) ?_ | refine rt_eq (q_X12_comes_37) ?_ | refine rt_eq (q_X12_comes_63) ?_ | refine rt_eq (q_X12_comes_71) ?_)
    rcases hu with ⟨u1', u2'⟩ | ⟨u1', u2'⟩
    · obtain ⟨w1, w2⟩ := r2 u u1'
      refine rt_f (fun q => by have := (nI_eq (by omega) (by decide)).mp q; omega) ?_
      rw [n_0add]
      refine rt_gd (inb_n (by omega) (by decide)) ?_
      rw [nI_clamp (by omega), e2]
      have hd2 := fun k hk hne => hd k u hk u1' hne
      generalize hp : nv (N u) = p at w1 w2 hd2
      rw [w1, nI_add]
      refine rt_gd (inb_n (by omega) (by decide)) ?_
      rw [nI_clamp (by omega)]
      refine tail2 _ _ (fr_up f2 rfl) (fun i hi => by rw [up2_k (by omega)]; exact a1 i hi) (fun i h1 h2 => by rw [up2_k (by omega)]; exact a2 i h1 h2) ?_
      intro k hk
      unfold bdl
      by_cases z : k = t
      · have ku : k = u := by omega
        rw [if_pos z, ku, hp, up2_s]
        have := a3 u u1'
        rw [hp] at this
        rw [this, ← Int32.add_assoc, sub_m1]
      · rw [if_neg z, add_n0, up2_k (by have := hd2 k hk (by omega); omega)]
        exact a3 k hk
    · refine rt_t (congrArg nI u1') ?_
      refine tail2 _ _ f2 a1 a2 ?_
      intro k hk
      unfold bdl
      rw [if_neg (show ¬ k = t by omega), add_n0]
      exact a3 k hk
  (first | refine rt_eq (q_X12_comes_0) ?_ | refine rt_eq (q_X12_comes_11) ?_ | refine rt_eq (q_X12_comes_37) ?_ | refine rt_eq (q_X12_comes_63) ?_ | refine rt_eq (q_X12_comes_71) ?_)
  rcases hs with ⟨s1, s2⟩ | ⟨s1, s2⟩
  · obtain ⟨w1, w2⟩ := r2 s s1
    refine rt_f (fun q => by have := (nI_eq (by omega) (by decide)).mp q; omega) ?_
    rw [n_0add]
    refine rt_gd (inb_n (by omega) (by decide)) ?_
    rw [nI_clamp (by omega), e1]
    have hd2 := fun k hk hne => hd k s hk s1 hne
    generalize hp : nv (N s) = p at w1 w2 hd2
    rw [w1, nI_add]
    refine rt_gd (inb_n (by omega) (by decide)) ?_
    rw [nI_clamp (by omega)]
    refine tail1 _ _ (fr_up f1 rfl) (by rw [up2_n (by decide)]; exact e1) (fun i hi => by rw [up2_k (by omega)]; exact hc i (by omega)) (fun i h1 h2 => by rw [up2_k (by omega)]; exact hc i h2) ?_
    intro k hk
    have wk := (r2 k hk).2
    by_cases z : k = g
    · have ks : k = s := by omega
      rw [if_pos z, ks, hp, up2_s, hc _ (by omega)]
    · rw [if_neg z, add_n0, up2_k (by have := hd2 k hk (by omega); omega), hc _ (by omega)]
  · refine rt_t (congrArg nI s1) ?_
    refine tail1 _ _ f1 e1 (fun i hi => hc i (by omega)) (fun i h1 h2 => hc i h2) ?_
    intro k hk
    have wk := (r2 k hk).2
    rw [if_neg (show ¬ k = g by omega), add_n0, hc _ (by omega)]
theorem sp_stHM (ok : HOK h) (W : wfC cd nL 0 0) (z29 : N 29 = nI (nv (N 29)) ∧ nv (N 29) ≤ 99) (C : NX2 I h nL cd n N) (hs : mI2 n s g) (hu : mI2 n u t) : Rt L X (runM (d + 9) nX12_streetHas [.ref 72, .int (nI s), .int (nI u), .int (nI v), .int (nI w)] (mm L X I J)) (some (.int (nI v - nI (cmN h nL cd n N g t + pdN n w g)))) (fun I' J' => Fr fSm I I' ∧ J' = J) := by
  have n6 := C.2.2.1.1
  rw [e_X12_streetHas]
  (first | refine rt_eq (q_X12_streetHas_0) ?_ | refine rt_eq (q_X12_streetHas_7) ?_ | refine rt_eq (q_X12_streetHas_20) ?_)
  refine rt_bnd (sp_comes ok W C hs hu) ?_
  rintro I1 J1 ⟨f1, rfl⟩
  rw [(cmF_le z29).1]
  (first | refine rt_eq (q_X12_streetHas_0) ?_ | refine rt_eq (q_X12_streetHas_7) ?_ | refine rt_eq (q_X12_streetHas_20) ?_)
  unfold pdN
  rcases hs with ⟨s1, s2⟩ | ⟨s1, s2⟩
  · refine rt_f (fun q => by have := (nI_eq (by omega) (by decide)).mp q; omega) ?_
    (first | refine rt_eq (q_X12_streetHas_0) ?_ | refine rt_eq (q_X12_streetHas_7) ?_ | refine rt_eq (q_X12_streetHas_20) ?_)
    exact rt_v (rt_ret ⟨f1, rfl⟩) (by rw [sub_sub2, if_neg (by omega)])
  · refine rt_t (congrArg nI s1) ?_
    (first | refine rt_eq (q_X12_streetHas_0) ?_ | refine rt_eq (q_X12_streetHas_7) ?_ | refine rt_eq (q_X12_streetHas_20) ?_)
    exact rt_v (rt_ret ⟨f1, rfl⟩) (by rw [sub_sub2, if_pos s2])
theorem sp_hoHM (ok : HOK h) (W : wfC cd nL 0 0) (z29 : N 29 = nI (nv (N 29)) ∧ nv (N 29) ≤ 99) (C : NX2 I h nL cd n N) (hs : mI2 n s g) (hu : mI2 n u t) : Rt L X (runM (d + 9) nX12_houseHas [.ref 72, .int (nI s), .int (nI u), .int (nI w)] (mm L X I J)) (some (.int (nI (cmN h nL cd n N g t) - nI (pdN n w t)))) (fun I' J' => Fr fSm I I' ∧ J' = J) := by
  have n6 := C.2.2.1.1
  rw [e_X12_houseHas]
  (first | refine rt_eq (q_X12_houseHas_0) ?_ | refine rt_eq (q_X12_houseHas_6) ?_ | refine rt_eq (q_X12_houseHas_17) ?_)
  refine rt_bnd (sp_comes ok W C hs hu) ?_
  rintro I1 J1 ⟨f1, rfl⟩
  rw [(cmF_le z29).1]
  (first | refine rt_eq (q_X12_houseHas_0) ?_ | refine rt_eq (q_X12_houseHas_6) ?_ | refine rt_eq (q_X12_houseHas_17) ?_)
  unfold pdN
  rcases hu with ⟨s1, s2⟩ | ⟨s1, s2⟩
  · refine rt_f (fun q => by have := (nI_eq (by omega) (by decide)).mp q; omega) ?_
    (first | refine rt_eq (q_X12_houseHas_0) ?_ | refine rt_eq (q_X12_houseHas_6) ?_ | refine rt_eq (q_X12_houseHas_17) ?_)
    exact rt_v (rt_ret ⟨f1, rfl⟩) (by rw [if_neg (by omega)])
  · refine rt_t (congrArg nI s1) ?_
    (first | refine rt_eq (q_X12_houseHas_0) ?_ | refine rt_eq (q_X12_houseHas_6) ?_ | refine rt_eq (q_X12_houseHas_17) ?_)
    exact rt_v (rt_ret ⟨f1, rfl⟩) (by rw [if_pos s2])
theorem sp_isChoice {b : Bool} (C : NX2 I h nL cd n N) (hk : k ≤ 8) : runM (d + 2) nX12_isChoice [.ref 72, .int (nI k), .int (bI b)] (mm L X I J) = rB (chX n k && (!b || ctk n N (m2c n k))) (mm L X I J) := by
  obtain ⟨-, e, R⟩ := C
  have R' := R
  rw [← e] at R'
  obtain ⟨⟨n6, np6⟩, r2, -, -, -⟩ := R
  rw [e_X12_isChoice]
  (first | refine Eq.trans (q_X12_isChoice_0) ?_ | refine Eq.trans (q_X12_isChoice_14) ?_)
  unfold chX m2c ctk
  by_cases z : k = 8
  · rw [if_pos (congrArg nI z), if_pos z, decide_eq_true z, decide_eq_true (rfl : n = n)]
    simp
    rfl
  · rw [if_neg (by rw [nI_eq (by omega) (by decide)]; exact z), if_neg z, decide_eq_false z]
    refine (bndN_e (sp_manyIn ka_533 R')).trans ?_
    (first | refine Eq.trans (q_X12_isChoice_0) ?_ | refine Eq.trans (q_X12_isChoice_14) ?_)
    by_cases y : k < n
    · rw [if_neg (by (try simp (disch := omega) only [nI_leI, nI_ltI, nI_eq, nI_add, pk_mul, n_0add, Nat.zero_add, nI_clamp]) <;> omega), decide_eq_true y]
      cases b
      · rw [if_pos bI_f]
        rfl
      · rw [if_neg (by decide), n_0add, gd_t (inb_n (by omega) (by decide)), nI_clamp (by omega), e]
        obtain ⟨w1, w2⟩ := r2 k y
        generalize hp : nv (N k) = p at w1 w2
        rw [w1, nI_add, gd_t (inb_n (by omega) (by decide)), nI_clamp (by omega), decide_eq_false (show ¬ k = n by omega)]
        by_cases q : nI 0 < N (12 + p)
        · rw [if_neg (Int32.not_le.mpr q), decide_eq_true q]
          rfl
        · rw [if_pos (Int32.not_lt.mp q), decide_eq_false q]
          rfl
    · rw [if_pos (by (try simp (disch := omega) only [nI_leI, nI_ltI, nI_eq, nI_add, pk_mul, n_0add, Nat.zero_add, nI_clamp]) <;> omega), decide_eq_false y]
      rfl
theorem rst_M (n6 : n ≤ 6) : rstN h nL cd n N w g t = !(fndF (fun k => chX n k && badR h nL cd n N w g t (m2c n k)) 9 0).isSome := by
  unfold rstN
  congr 1
  rw [Bool.eq_iff_iff, fnd_iff, fnd_iff]
  constructor
  · rintro ⟨o, o1, o2⟩
    by_cases z : o = n
    · refine ⟨8, by decide, ?_⟩
      rw [z] at o2
      rw [show m2c n 8 = n from if_pos rfl, o2, Bool.and_true]
      unfold chX
      rw [decide_eq_true (rfl : (8 : Nat) = 8), Bool.or_true]
    · refine ⟨o, by omega, ?_⟩
      rw [show m2c n o = o from if_neg (by omega), o2, Bool.and_true]
      unfold chX
      rw [decide_eq_true (show o < n by omega), Bool.true_or]
  · rintro ⟨k, k1, k2⟩
    rw [Bool.and_eq_true] at k2
    have := m2c_ok n6 k2.1
    exact ⟨m2c n k, by unfold mI2 at this; omega, k2.2⟩
theorem lp_restM (ok : HOK h) (W : wfC cd nL 0 0) (hw : w ≤ 9) (hv : v ≤ 99) (z29 : N 29 = nI (nv (N 29)) ∧ nv (N 29) ≤ 99) (C : NX2 I h nL cd n N) (hs : mI2 n s g) (hu : mI2 n u t) : ∀ q k I', k + q = 9 → Fr fSm I I' → Rt L X (c_X12_isRest_3 (d + 9) L X I' J (nI s) (nI u) (nI v) (nI w) (nI k)) (some (.int (bI (!(fndF (fun k => chX n k && badR h nL cd n N w g t (m2c n k)) q k).isSome)))) (fun I'' J' => Fr fSm I I'' ∧ J' = J)
  | 0, k, I', hk, hf => by
    (first | refine rt_eq (q_X12_isRest_0) ?_ | refine rt_eq (q_X12_isRest_3) ?_ | refine rt_eq (q_X12_isRest_17) ?_ | refine rt_eq (q_X12_isRest_44) ?_ | refine rt_eq (q_X12_isRest_30) ?_ | refine rt_eq (q_X12_isRest_51) ?_ | refine rt_eq (q_X12_isRest_39) ?_ | refine rt_eq (q_X12_isRest_76) ?_ | refine rt_eq (q_X12_isRest_63) ?_ | refine rt_eq (q_X12_isRest_71) ?_)
    refine rt_t (by (try simp (disch := omega) only [nI_leI, nI_ltI, nI_eq, nI_add, pk_mul, n_0add, Nat.zero_add, nI_clamp]) <;> omega) ?_
    exact rt_ret ⟨hf, rfl⟩
  | q + 1, k, I', hk, hf => by
    have ih := lp_restM ok W hw hv z29 C hs hu q (k + 1)
    have n6 := C.2.2.1.1
    have C' := NX2_f C ok hf
    have a1 := (cmF_le (h := h) (nL := nL) (cd := cd) (n := n) (g := g) (t := t) z29).2
    have p1 := pd_le (n := n) (g := g) hw
    have p3 := pd_le (n := n) (g := t) hw
    have next : (chX n k && badR h nL cd n N w g t (m2c n k)) = false → ∀ I2, Fr fSm I I2 → Rt L X (runI (runM (d + 9)) iX12_isRest (76, [some (.ref 72), some (.int (nI s)), some (.int (nI u)), some (.int (nI v)), some (.int (nI w)), some (.int (nI k))], [], mm L X I2 J)) (some (.int (bI (!(fndF (fun k => chX n k && badR h nL cd n N w g t (m2c n k)) (q + 1) k).isSome)))) (fun I'' J' => Fr fSm I I'' ∧ J' = J) := by
      intro hb I2 f2
      unfold fndF
      rw [if_neg (by rw [hb]; decide)]
      (first | refine rt_eq (q_X12_isRest_0) ?_ | refine rt_eq (q_X12_isRest_3) ?_ | refine rt_eq (q_X12_isRest_17) ?_ | refine rt_eq (q_X12_isRest_44) ?_ | refine rt_eq (q_X12_isRest_30) ?_ | refine rt_eq (q_X12_isRest_51) ?_ | refine rt_eq (q_X12_isRest_39) ?_ | refine rt_eq (q_X12_isRest_76) ?_ | refine rt_eq (q_X12_isRest_63) ?_ | refine rt_eq (q_X12_isRest_71) ?_)
      rw [nI_add]
      exact ih I2 (by omega) f2
    have fail : (chX n k && badR h nL cd n N w g t (m2c n k)) = true → ∀ I2, Fr fSm I I2 → Rt L X (some (.inl (some (.int (nI 0))), mm L X I2 J)) (some (.int (bI (!(fndF (fun k => chX n k && badR h nL cd n N w g t (m2c n k)) (q + 1) k).isSome)))) (fun I'' J' => Fr fSm I I'' ∧ J' = J) := by
      intro hb I2 f2
      unfold fndF
      rw [if_pos hb]
      exact rt_ret ⟨f2, rfl⟩
    have t44 : (chX n k = true → cmN h nL cd n N g t + pdN n w g ≤ cmN h nL cd n N (m2c n k) t + pdN n w (m2c n k)) → ∀ I2, Fr fSm I I2 → Rt L X (runI (runM (d + 9)) iX12_isRest (44, [some (.ref 72), some (.int (nI s)), some (.int (nI u)), some (.int (nI v)), some (.int (nI w)), some (.int (nI k))], [], mm L X I2 J)) (some (.int (bI (!(fndF (fun k => chX n k && badR h nL cd n N w g t (m2c n k)) (q + 1) k).isSome)))) (fun I'' J' => Fr fSm I I'' ∧ J' = J) := by
      intro hle I2 f2
      have C2 := NX2_f C ok f2
      (first | refine rt_eq (q_X12_isRest_0) ?_ | refine rt_eq (q_X12_isRest_3) ?_ | refine rt_eq (q_X12_isRest_17) ?_ | refine rt_eq (q_X12_isRest_44) ?_ | refine rt_eq (q_X12_isRest_30) ?_ | refine rt_eq (q_X12_isRest_51) ?_ | refine rt_eq (q_X12_isRest_39) ?_ | refine rt_eq (q_X12_isRest_76) ?_ | refine rt_eq (q_X12_isRest_63) ?_ | refine rt_eq (q_X12_isRest_71) ?_)
      refine rt_be (sp_isChoice (b := true) C2 (by omega)) ?_
      (first | refine rt_eq (q_X12_isRest_0) ?_ | refine rt_eq (q_X12_isRest_3) ?_ | refine rt_eq (q_X12_isRest_17) ?_ | refine rt_eq (q_X12_isRest_44) ?_ | refine rt_eq (q_X12_isRest_30) ?_ | refine rt_eq (q_X12_isRest_51) ?_ | refine rt_eq (q_X12_isRest_39) ?_ | refine rt_eq (q_X12_isRest_76) ?_ | refine rt_eq (q_X12_isRest_63) ?_ | refine rt_eq (q_X12_isRest_71) ?_)
      by_cases y : (chX n k && (!true || ctk n N (m2c n k))) = true
      · rw [y]
        refine rt_f (by decide) ?_
        rw [Bool.and_eq_true, Bool.not_true, Bool.false_or] at y
        obtain ⟨y1, y2⟩ := y
        have mk := m2c_ok n6 y1
        have a3 := (cmF_le (h := h) (nL := nL) (cd := cd) (n := n) (g := g) (t := m2c n k) z29).2
        have p2 := pd_le (n := n) (g := m2c n k) hw
        refine rt_bnd (sp_hoHM ok W z29 C2 hs mk) ?_
        rintro I3 J3 ⟨f3, rfl⟩
        have C3 := NX2_f C ok (fr_tr f2 f3)
        (first | refine rt_eq (q_X12_isRest_0) ?_ | refine rt_eq (q_X12_isRest_3) ?_ | refine rt_eq (q_X12_isRest_17) ?_ | refine rt_eq (q_X12_isRest_44) ?_ | refine rt_eq (q_X12_isRest_30) ?_ | refine rt_eq (q_X12_isRest_51) ?_ | refine rt_eq (q_X12_isRest_39) ?_ | refine rt_eq (q_X12_isRest_76) ?_ | refine rt_eq (q_X12_isRest_63) ?_ | refine rt_eq (q_X12_isRest_71) ?_)
        refine rt_bnd (sp_hoHM ok W z29 C3 hs hu) ?_
        rintro I4 J4 ⟨f4, rfl⟩
        have fr4 := fr_tr f2 (fr_tr f3 f4)
        (first | refine rt_eq (q_X12_isRest_0) ?_ | refine rt_eq (q_X12_isRest_3) ?_ | refine rt_eq (q_X12_isRest_17) ?_ | refine rt_eq (q_X12_isRest_44) ?_ | refine rt_eq (q_X12_isRest_30) ?_ | refine rt_eq (q_X12_isRest_51) ?_ | refine rt_eq (q_X12_isRest_39) ?_ | refine rt_eq (q_X12_isRest_76) ?_ | refine rt_eq (q_X12_isRest_63) ?_ | refine rt_eq (q_X12_isRest_71) ?_)
        by_cases y3 : cmN h nL cd n N g (m2c n k) + pdN n w t ≤ cmN h nL cd n N g t + pdN n w (m2c n k)
        · refine rt_t ((cs_sub2 (by omega) (by omega) (by omega) (by omega)).mpr y3) ?_
          refine next ?_ I4 fr4
          unfold badR
          rw [decide_eq_true (hle y1), decide_eq_true y3]
          simp
        · refine rt_f (fun q => y3 ((cs_sub2 (by omega) (by omega) (by omega) (by omega)).mp q)) ?_
          refine fail ?_ I4 fr4
          unfold badR
          rw [decide_eq_false y3, y1, y2]
          simp
      · have y' : (chX n k && (!true || ctk n N (m2c n k))) = false := by simpa using y
        rw [y']
        refine rt_t bI_f ?_
        refine next ?_ I2 f2
        by_cases y1 : chX n k = true
        · rw [y1, Bool.true_and, Bool.not_true, Bool.false_or] at y'
          unfold badR
          rw [decide_eq_true (hle y1), y']
          simp
        · rw [Bool.not_eq_true] at y1
          rw [y1, Bool.false_and]
    (first | refine rt_eq (q_X12_isRest_0) ?_ | refine rt_eq (q_X12_isRest_3) ?_ | refine rt_eq (q_X12_isRest_17) ?_ | refine rt_eq (q_X12_isRest_44) ?_ | refine rt_eq (q_X12_isRest_30) ?_ | refine rt_eq (q_X12_isRest_51) ?_ | refine rt_eq (q_X12_isRest_39) ?_ | refine rt_eq (q_X12_isRest_76) ?_ | refine rt_eq (q_X12_isRest_63) ?_ | refine rt_eq (q_X12_isRest_71) ?_)
    refine rt_f (by (try simp (disch := omega) only [nI_leI, nI_ltI, nI_eq, nI_add, pk_mul, n_0add, Nat.zero_add, nI_clamp]) <;> omega) ?_
    have ec := sp_isChoice (d := d + 7) (L := L) (X := X) (J := J) (b := false) C' (show k ≤ 8 by omega)
    rw [Bool.not_false, Bool.true_or, Bool.and_true] at ec
    refine rt_be ec ?_
    (first | refine rt_eq (q_X12_isRest_0) ?_ | refine rt_eq (q_X12_isRest_3) ?_ | refine rt_eq (q_X12_isRest_17) ?_ | refine rt_eq (q_X12_isRest_44) ?_ | refine rt_eq (q_X12_isRest_30) ?_ | refine rt_eq (q_X12_isRest_51) ?_ | refine rt_eq (q_X12_isRest_39) ?_ | refine rt_eq (q_X12_isRest_76) ?_ | refine rt_eq (q_X12_isRest_63) ?_ | refine rt_eq (q_X12_isRest_71) ?_)
    by_cases y1 : chX n k = true
    · rw [y1]
      refine rt_f (by decide) ?_
      have mk := m2c_ok n6 y1
      have a2 := (cmF_le (h := h) (nL := nL) (cd := cd) (n := n) (g := m2c n k) (t := t) z29).2
      have p2 := pd_le (n := n) (g := m2c n k) hw
      refine rt_bnd (sp_stHM ok W z29 C' mk hu) ?_
      rintro I3 J3 ⟨f3, rfl⟩
      have C3 := NX2_f C ok (fr_tr hf f3)
      (first | refine rt_eq (q_X12_isRest_0) ?_ | refine rt_eq (q_X12_isRest_3) ?_ | refine rt_eq (q_X12_isRest_17) ?_ | refine rt_eq (q_X12_isRest_44) ?_ | refine rt_eq (q_X12_isRest_30) ?_ | refine rt_eq (q_X12_isRest_51) ?_ | refine rt_eq (q_X12_isRest_39) ?_ | refine rt_eq (q_X12_isRest_76) ?_ | refine rt_eq (q_X12_isRest_63) ?_ | refine rt_eq (q_X12_isRest_71) ?_)
      refine rt_bnd (sp_stHM ok W z29 C3 hs hu) ?_
      rintro I4 J4 ⟨f4, rfl⟩
      have fr4 := fr_tr hf (fr_tr f3 f4)
      (first | refine rt_eq (q_X12_isRest_0) ?_ | refine rt_eq (q_X12_isRest_3) ?_ | refine rt_eq (q_X12_isRest_17) ?_ | refine rt_eq (q_X12_isRest_44) ?_ | refine rt_eq (q_X12_isRest_30) ?_ | refine rt_eq (q_X12_isRest_51) ?_ | refine rt_eq (q_X12_isRest_39) ?_ | refine rt_eq (q_X12_isRest_76) ?_ | refine rt_eq (q_X12_isRest_63) ?_ | refine rt_eq (q_X12_isRest_71) ?_)
      by_cases y3 : cmN h nL cd n N g t + pdN n w g ≤ cmN h nL cd n N (m2c n k) t + pdN n w (m2c n k)
      · refine rt_t ((cs_sub (by omega) (by omega) (by omega)).mpr y3) ?_
        exact t44 (fun _ => y3) I4 fr4
      · refine rt_f (fun q => y3 ((cs_sub (by omega) (by omega) (by omega)).mp q)) ?_
        refine fail ?_ I4 fr4
        unfold badR
        rw [decide_eq_false y3, y1]
        rfl
    · have y1' : chX n k = false := by simpa using y1
      rw [y1']
      refine rt_t bI_f ?_
      exact t44 (fun q => absurd q y1) I' hf
theorem sp_isRestM (ok : HOK h) (W : wfC cd nL 0 0) (hw : w ≤ 9) (hv : v ≤ 99) (z29 : N 29 = nI (nv (N 29)) ∧ nv (N 29) ≤ 99) (C : NX2 I h nL cd n N) (hs : mI2 n s g) (hu : mI2 n u t) : Rt L X (runM (d + 10) nX12_isRest [.ref 72, .int (nI s), .int (nI u), .int (nI v), .int (nI w)] (mm L X I J)) (some (.int (bI (rstN h nL cd n N w g t)))) (fun I'' J' => Fr fSm I I'' ∧ J' = J) := by
  rw [rst_M C.2.2.1.1, e_X12_isRest]
  (first | refine rt_eq (q_X12_isRest_0) ?_ | refine rt_eq (q_X12_isRest_3) ?_ | refine rt_eq (q_X12_isRest_17) ?_ | refine rt_eq (q_X12_isRest_44) ?_ | refine rt_eq (q_X12_isRest_30) ?_ | refine rt_eq (q_X12_isRest_51) ?_ | refine rt_eq (q_X12_isRest_39) ?_ | refine rt_eq (q_X12_isRest_76) ?_ | refine rt_eq (q_X12_isRest_63) ?_ | refine rt_eq (q_X12_isRest_71) ?_)
  exact lp_restM ok W hw hv z29 C hs hu 9 0 I (by omega) fr_rfl
/-! counting the rests -/
theorem acc_m2c {α : Type} {φ : Nat → α → α} {z : α} (n6 : n ≤ 6) : accF (fun s z => if chX n s = true then φ (m2c n s) z else z) 9 0 z = accF φ (n + 1) 0 z := by
  have e9 : 9 = n + ((8 - n) + 1) := by omega
  have c1 : ∀ s, s < n → chX n s = true ∧ m2c n s = s := by
    intro s hs
    unfold chX m2c
    rw [decide_eq_true hs, if_neg (by omega)]
    exact ⟨rfl, rfl⟩
  have c2 : ∀ s, n ≤ s → s < 8 → chX n s = false := by
    intro s h1 h2
    unfold chX
    rw [decide_eq_false (by omega), decide_eq_false (by omega)]
    rfl
  have c3 : chX n 8 = true ∧ m2c n 8 = n := by
    unfold chX m2c
    rw [decide_eq_true (rfl : (8 : Nat) = 8), Bool.or_true, if_pos rfl]
    exact ⟨rfl, rfl⟩
  rw [e9, accF_app, accF_last, accF_last]
  have a1 : accF (fun s z => if chX n s = true then φ (m2c n s) z else z) n 0 z = accF φ n 0 z := by
    refine accF_congr n 0 z (fun k _ hk x => ?_)
    rw [if_pos (c1 k (by omega)).1, (c1 k (by omega)).2]
  rw [a1]
  have a2 : ∀ y, accF (fun s z => if chX n s = true then φ (m2c n s) z else z) (8 - n) (0 + n) y = y := by
    intro y
    refine accF_id _ _ (fun k h1 h2 => ?_)
    rw [if_neg (by rw [c2 k (by omega) (by omega)]; decide)]
  rw [a2, show 0 + n + (8 - n) = 8 by omega, if_pos c3.1, c3.2, Nat.zero_add]
def stX (v : Nat) (z : Sts) : Int32 := if z.1 = 0 then nI 0 else nI v - nI z.2.2
theorem at_m2c (n6 : n ≤ 6) (hc : chX n s = true) : atN n (m2c n s) = s := by
  unfold chX at hc
  rw [Bool.or_eq_true, decide_eq_true_eq, decide_eq_true_eq] at hc
  unfold atN m2c
  by_cases z : s = 8
  · rw [if_pos z, if_pos rfl, z]
  · rw [if_neg z, if_neg (by omega)]
theorem lp_st72 {r : Option Value} {Q : MI32 → MI64 → Prop} {zf : Sts} {x3 : Int32} (ok : HOK h) (W : wfC cd nL 0 0) (hw : w ≤ 9) (hv : v ≤ 99) (z29 : N 29 = nI (nv (N 29)) ∧ nv (N 29) ≤ 99) (C : NX2 I h nL cd n N) (hs : s ≤ 8) (go : ∀ I' u8, Fr fSm I I' → Rt L X (c_X12_street_62 (d + 10) L X I' J (nI v) (nI w) x3 (nI zf.1) zf.2.1 (stX v zf) (nI (s + 1)) u8) r Q) : ∀ q u I' z, u + q = 9 → Fr fSm I I' → z.1 ≤ 9 * s + u → accF (fun u z => if (chX n s && chX n u) = true then stS h nL cd n N w (m2c n s) (m2c n u) z else z) q u z = zf → Rt L X (c_X12_street_72 (d + 10) L X I' J (nI v) (nI w) x3 (nI z.1) z.2.1 (stX v z) (nI s) (nI u)) r Q
  | 0, u, I', z, hu, hf, hb, he => by
    have e : z = zf := he
    subst e
    (first | refine rt_eq (q_X12_street_0) ?_ | refine rt_eq (q_X12_street_13) ?_ | refine rt_eq (q_X12_street_35) ?_ | refine rt_eq (q_X12_street_23) ?_ | refine rt_eq (q_X12_street_40) ?_ | refine rt_eq (q_X12_street_32) ?_ | refine rt_eq (q_X12_street_45) ?_ | refine rt_eq (q_X12_street_62) ?_ | refine rt_eq (q_X12_street_72) ?_ | refine rt_eq (q_X12_street_86) ?_ | refine rt_eq (q_X12_street_170) ?_ | refine rt_eq (q_X12_street_96) ?_ | refine rt_eq (q_X12_street_109) ?_ | refine rt_eq (q_X12_street_145) ?_ | refine rt_eq (q_X12_street_130) ?_ | refine rt_eq (q_X12_street_165) ?_ | refine rt_eq (q_X12_street_139) ?_)
    refine rt_t (by (try simp (disch := omega) only [nI_leI, nI_ltI, nI_eq, nI_add, pk_mul, n_0add, Nat.zero_add, nI_clamp]) <;> omega) ?_
    rw [nI_add]
    exact go I' _ hf
  | q + 1, u, I', z, hu, hf, hb, he => by
    have ih := lp_st72 ok W hw hv z29 C hs go q (u + 1)
    have n6 := C.2.2.1.1
    have C' := NX2_f C ok hf
    have he' : accF (fun u z => if (chX n s && chX n u) = true then stS h nL cd n N w (m2c n s) (m2c n u) z else z) q (u + 1) (if (chX n s && chX n u) = true then stS h nL cd n N w (m2c n s) (m2c n u) z else z) = zf := he
    have skip : (if (chX n s && chX n u) = true then stS h nL cd n N w (m2c n s) (m2c n u) z else z) = z → ∀ I2, Fr fSm I I2 → Rt L X (runI (runM (d + 10)) iX12_street (170, [some (.ref 72), some (.int (nI v)), some (.int (nI w)), some (.int x3), some (.int (nI z.1)), some (.int z.2.1), some (.int (stX v z)), some (.int (nI s)), some (.int (nI u))], [], mm L X I2 J)) r Q := by
      intro hn I2 f2
      rw [hn] at he'
      (first | refine rt_eq (q_X12_street_0) ?_ | refine rt_eq (q_X12_street_13) ?_ | refine rt_eq (q_X12_street_35) ?_ | refine rt_eq (q_X12_street_23) ?_ | refine rt_eq (q_X12_street_40) ?_ | refine rt_eq (q_X12_street_32) ?_ | refine rt_eq (q_X12_street_45) ?_ | refine rt_eq (q_X12_street_62) ?_ | refine rt_eq (q_X12_street_72) ?_ | refine rt_eq (q_X12_street_86) ?_ | refine rt_eq (q_X12_street_170) ?_ | refine rt_eq (q_X12_street_96) ?_ | refine rt_eq (q_X12_street_109) ?_ | refine rt_eq (q_X12_street_145) ?_ | refine rt_eq (q_X12_street_130) ?_ | refine rt_eq (q_X12_street_165) ?_ | refine rt_eq (q_X12_street_139) ?_)
      rw [nI_add]
      exact ih I2 z (by omega) f2 (by omega) he'
    have ec := sp_isChoice (d := d + 8) (L := L) (X := X) (J := J) (b := false) C' hs
    rw [Bool.not_false, Bool.true_or, Bool.and_true] at ec
    (first | refine rt_eq (q_X12_street_0) ?_ | refine rt_eq (q_X12_street_13) ?_ | refine rt_eq (q_X12_street_35) ?_ | refine rt_eq (q_X12_street_23) ?_ | refine rt_eq (q_X12_street_40) ?_ | refine rt_eq (q_X12_street_32) ?_ | refine rt_eq (q_X12_street_45) ?_ | refine rt_eq (q_X12_street_62) ?_ | refine rt_eq (q_X12_street_72) ?_ | refine rt_eq (q_X12_street_86) ?_ | refine rt_eq (q_X12_street_170) ?_ | refine rt_eq (q_X12_street_96) ?_ | refine rt_eq (q_X12_street_109) ?_ | refine rt_eq (q_X12_street_145) ?_ | refine rt_eq (q_X12_street_130) ?_ | refine rt_eq (q_X12_street_165) ?_ | refine rt_eq (q_X12_street_139) ?_)
    refine rt_f (by (try simp (disch := omega) only [nI_leI, nI_ltI, nI_eq, nI_add, pk_mul, n_0add, Nat.zero_add, nI_clamp]) <;> omega) ?_
    refine rt_be ec ?_
    (first | refine rt_eq (q_X12_street_0) ?_ | refine rt_eq (q_X12_street_13) ?_ | refine rt_eq (q_X12_street_35) ?_ | refine rt_eq (q_X12_street_23) ?_ | refine rt_eq (q_X12_street_40) ?_ | refine rt_eq (q_X12_street_32) ?_ | refine rt_eq (q_X12_street_45) ?_ | refine rt_eq (q_X12_street_62) ?_ | refine rt_eq (q_X12_street_72) ?_ | refine rt_eq (q_X12_street_86) ?_ | refine rt_eq (q_X12_street_170) ?_ | refine rt_eq (q_X12_street_96) ?_ | refine rt_eq (q_X12_street_109) ?_ | refine rt_eq (q_X12_street_145) ?_ | refine rt_eq (q_X12_street_130) ?_ | refine rt_eq (q_X12_street_165) ?_ | refine rt_eq (q_X12_street_139) ?_)
    by_cases y1 : chX n s = true
    · rw [y1]
      refine rt_f (by decide) ?_
      refine rt_be (sp_isChoice (b := true) C' (by omega)) ?_
      (first | refine rt_eq (q_X12_street_0) ?_ | refine rt_eq (q_X12_street_13) ?_ | refine rt_eq (q_X12_street_35) ?_ | refine rt_eq (q_X12_street_23) ?_ | refine rt_eq (q_X12_street_40) ?_ | refine rt_eq (q_X12_street_32) ?_ | refine rt_eq (q_X12_street_45) ?_ | refine rt_eq (q_X12_street_62) ?_ | refine rt_eq (q_X12_street_72) ?_ | refine rt_eq (q_X12_street_86) ?_ | refine rt_eq (q_X12_street_170) ?_ | refine rt_eq (q_X12_street_96) ?_ | refine rt_eq (q_X12_street_109) ?_ | refine rt_eq (q_X12_street_145) ?_ | refine rt_eq (q_X12_street_130) ?_ | refine rt_eq (q_X12_street_165) ?_ | refine rt_eq (q_X12_street_139) ?_)
      by_cases y2 : (chX n u && (!true || ctk n N (m2c n u))) = true
      · rw [y2]
        refine rt_f (by decide) ?_
        rw [Bool.and_eq_true, Bool.not_true, Bool.false_or] at y2
        obtain ⟨y3, y4⟩ := y2
        have m1 := m2c_ok n6 y1
        have m2 := m2c_ok n6 y3
        refine rt_bnd (sp_isRestM ok W hw hv z29 C' m1 m2) ?_
        rintro I2 J2 ⟨f2, rfl⟩
        have fr2 := fr_tr hf f2
        have C2 := NX2_f C ok fr2
        (first | refine rt_eq (q_X12_street_0) ?_ | refine rt_eq (q_X12_street_13) ?_ | refine rt_eq (q_X12_street_35) ?_ | refine rt_eq (q_X12_street_23) ?_ | refine rt_eq (q_X12_street_40) ?_ | refine rt_eq (q_X12_street_32) ?_ | refine rt_eq (q_X12_street_45) ?_ | refine rt_eq (q_X12_street_62) ?_ | refine rt_eq (q_X12_street_72) ?_ | refine rt_eq (q_X12_street_86) ?_ | refine rt_eq (q_X12_street_170) ?_ | refine rt_eq (q_X12_street_96) ?_ | refine rt_eq (q_X12_street_109) ?_ | refine rt_eq (q_X12_street_145) ?_ | refine rt_eq (q_X12_street_130) ?_ | refine rt_eq (q_X12_street_165) ?_ | refine rt_eq (q_X12_street_139) ?_)
        by_cases y5 : rstN h nL cd n N w (m2c n s) (m2c n u) = true
        · rw [y5]
          refine rt_f (by decide) ?_
          have es : (if (chX n s && chX n u) = true then stS h nL cd n N w (m2c n s) (m2c n u) z else z) = (z.1 + 1, if z.1 = 0 then nI (10 * s + u) else z.2.1, if z.1 = 0 then pdN n w (m2c n s) + pdN n w (m2c n u) else z.2.2) := by
            rw [if_pos (by rw [y1, y3]; rfl)]
            unfold stS
            rw [if_pos (by rw [y4, y5]; rfl), at_m2c n6 y1, at_m2c n6 y3]
          rw [es] at he'
          have done : ∀ I3 u6, Fr fSm I I3 → Rt L X (runI (runM (d + 10)) iX12_street (145, [some (.ref 72), some (.int (nI v)), some (.int (nI w)), some (.int x3), some (.int (nI z.1)), some (.int z.2.1), u6, some (.int (nI s)), some (.int (nI u))], [.int (nI v - nI (if z.1 = 0 then pdN n w (m2c n s) + pdN n w (m2c n u) else z.2.2))], mm L X I3 J2)) r Q := by
            intro I3 u6 f3
            (first | refine rt_eq (q_X12_street_0) ?_ | refine rt_eq (q_X12_street_13) ?_ | refine rt_eq (q_X12_street_35) ?_ | refine rt_eq (q_X12_street_23) ?_ | refine rt_eq (q_X12_street_40) ?_ | refine rt_eq (q_X12_street_32) ?_ | refine rt_eq (q_X12_street_45) ?_ | refine rt_eq (q_X12_street_62) ?_ | refine rt_eq (q_X12_street_72) ?_ | refine rt_eq (q_X12_street_86) ?_ | refine rt_eq (q_X12_street_170) ?_ | refine rt_eq (q_X12_street_96) ?_ | refine rt_eq (q_X12_street_109) ?_ | refine rt_eq (q_X12_street_145) ?_ | refine rt_eq (q_X12_street_130) ?_ | refine rt_eq (q_X12_street_165) ?_ | refine rt_eq (q_X12_street_139) ?_)
            have fin : ∀ y, y = (if z.1 = 0 then nI (10 * s + u) else z.2.1) → ∀ u5, Rt L X (runI (runM (d + 10)) iX12_street (165, [some (.ref 72), some (.int (nI v)), some (.int (nI w)), some (.int x3), some (.int (nI z.1)), u5, some (.int (nI v - nI (if z.1 = 0 then pdN n w (m2c n s) + pdN n w (m2c n u) else z.2.2))), some (.int (nI s)), some (.int (nI u))], [.int y], mm L X I3 J2)) r Q := by
              intro y hy u5
              (first | refine rt_eq (q_X12_street_0) ?_ | refine rt_eq (q_X12_street_13) ?_ | refine rt_eq (q_X12_street_35) ?_ | refine rt_eq (q_X12_street_23) ?_ | refine rt_eq (q_X12_street_40) ?_ | refine rt_eq (q_X12_street_32) ?_ | refine rt_eq (q_X12_street_45) ?_ | refine rt_eq (q_X12_street_62) ?_ | refine rt_eq (q_X12_street_72) ?_ | refine rt_eq (q_X12_street_86) ?_ | refine rt_eq (q_X12_street_170) ?_ | refine rt_eq (q_X12_street_96) ?_ | refine rt_eq (q_X12_street_109) ?_ | refine rt_eq (q_X12_street_145) ?_ | refine rt_eq (q_X12_street_130) ?_ | refine rt_eq (q_X12_street_165) ?_ | refine rt_eq (q_X12_street_139) ?_)
              rw [nI_add]
              (first | refine rt_eq (q_X12_street_0) ?_ | refine rt_eq (q_X12_street_13) ?_ | refine rt_eq (q_X12_street_35) ?_ | refine rt_eq (q_X12_street_23) ?_ | refine rt_eq (q_X12_street_40) ?_ | refine rt_eq (q_X12_street_32) ?_ | refine rt_eq (q_X12_street_45) ?_ | refine rt_eq (q_X12_street_62) ?_ | refine rt_eq (q_X12_street_72) ?_ | refine rt_eq (q_X12_street_86) ?_ | refine rt_eq (q_X12_street_170) ?_ | refine rt_eq (q_X12_street_96) ?_ | refine rt_eq (q_X12_street_109) ?_ | refine rt_eq (q_X12_street_145) ?_ | refine rt_eq (q_X12_street_130) ?_ | refine rt_eq (q_X12_street_165) ?_ | refine rt_eq (q_X12_street_139) ?_)
              rw [nI_add]
              have q := ih I3 (z.1 + 1, if z.1 = 0 then nI (10 * s + u) else z.2.1, if z.1 = 0 then pdN n w (m2c n s) + pdN n w (m2c n u) else z.2.2) (by omega) f3 (by show z.1 + 1 ≤ _; omega) he'
              rw [show stX v (z.1 + 1, if z.1 = 0 then nI (10 * s + u) else z.2.1, if z.1 = 0 then pdN n w (m2c n s) + pdN n w (m2c n u) else z.2.2) = nI v - nI (if z.1 = 0 then pdN n w (m2c n s) + pdN n w (m2c n u) else z.2.2) from if_neg (by show ¬ z.1 + 1 = 0; omega)] at q
              rw [hy]
              exact q
            by_cases y6 : z.1 = 0
            · refine rt_t (congrArg nI y6) ?_
              rw [pk_mul, nI_add]
              exact fin _ (by rw [if_pos y6]) _
            · refine rt_f (by rw [nI_eq (by omega) (by decide)]; exact y6) ?_
              exact fin _ (by rw [if_neg y6]) _
          by_cases y6 : z.1 = 0
          · refine rt_t (congrArg nI y6) ?_
            refine rt_bnd (sp_stHM ok W z29 C2 m1 m2) ?_
            rintro I3 J3 ⟨f3, rfl⟩
            have C3 := NX2_f C ok (fr_tr fr2 f3)
            (first | refine rt_eq (q_X12_street_0) ?_ | refine rt_eq (q_X12_street_13) ?_ | refine rt_eq (q_X12_street_35) ?_ | refine rt_eq (q_X12_street_23) ?_ | refine rt_eq (q_X12_street_40) ?_ | refine rt_eq (q_X12_street_32) ?_ | refine rt_eq (q_X12_street_45) ?_ | refine rt_eq (q_X12_street_62) ?_ | refine rt_eq (q_X12_street_72) ?_ | refine rt_eq (q_X12_street_86) ?_ | refine rt_eq (q_X12_street_170) ?_ | refine rt_eq (q_X12_street_96) ?_ | refine rt_eq (q_X12_street_109) ?_ | refine rt_eq (q_X12_street_145) ?_ | refine rt_eq (q_X12_street_130) ?_ | refine rt_eq (q_X12_street_165) ?_ | refine rt_eq (q_X12_street_139) ?_)
            refine rt_bnd (sp_hoHM ok W z29 C3 m1 m2) ?_
            rintro I4 J4 ⟨f4, rfl⟩
            (first | refine rt_eq (q_X12_street_0) ?_ | refine rt_eq (q_X12_street_13) ?_ | refine rt_eq (q_X12_street_35) ?_ | refine rt_eq (q_X12_street_23) ?_ | refine rt_eq (q_X12_street_40) ?_ | refine rt_eq (q_X12_street_32) ?_ | refine rt_eq (q_X12_street_45) ?_ | refine rt_eq (q_X12_street_62) ?_ | refine rt_eq (q_X12_street_72) ?_ | refine rt_eq (q_X12_street_86) ?_ | refine rt_eq (q_X12_street_170) ?_ | refine rt_eq (q_X12_street_96) ?_ | refine rt_eq (q_X12_street_109) ?_ | refine rt_eq (q_X12_street_145) ?_ | refine rt_eq (q_X12_street_130) ?_ | refine rt_eq (q_X12_street_165) ?_ | refine rt_eq (q_X12_street_139) ?_)
            have q := done I4 (some (.int (stX v z))) (fr_tr fr2 (fr_tr f3 f4))
            rw [if_pos y6] at q
            have es2 : nI v - nI (cmN h nL cd n N (m2c n s) (m2c n u) + pdN n w (m2c n s)) + (nI (cmN h nL cd n N (m2c n s) (m2c n u)) - nI (pdN n w (m2c n u))) = nI v - nI (pdN n w (m2c n s) + pdN n w (m2c n u)) := by
              generalize cmN h nL cd n N (m2c n s) (m2c n u) = a
              generalize pdN n w (m2c n s) = b
              generalize pdN n w (m2c n u) = c
              rw [← nI_add, ← nI_add]
              generalize nI a = A
              generalize nI b = B
              generalize nI c = D
              generalize nI v = V
              apply Int32.toBitVec_inj.mp
              simp only [Int32.toBitVec_add, Int32.toBitVec_sub]
              generalize A.toBitVec = A
              generalize B.toBitVec = B
              generalize D.toBitVec = D
              generalize V.toBitVec = V
              simp only [BitVec.sub_eq_add_neg, BitVec.neg_add]
              rw [show V + (-A + -B) + (A + -D) = V + (-B + -D) + (-A + A) by ac_rfl, BitVec.add_comm (-A) A, show A + -A = 0#32 from by rw [← BitVec.sub_eq_add_neg, BitVec.sub_self], BitVec.add_zero]
            rw [es2]
            exact q
          · refine rt_f (by rw [nI_eq (by omega) (by decide)]; exact y6) ?_
            have q := done I2 (some (.int (stX v z))) fr2
            have ex : stX v z = nI v - nI (if z.1 = 0 then pdN n w (m2c n s) + pdN n w (m2c n u) else z.2.2) := by
              unfold stX
              rw [if_neg y6, if_neg y6]
            rw [← ex] at q
            exact q
        · have y5' : rstN h nL cd n N w (m2c n s) (m2c n u) = false := by simpa using y5
          rw [y5']
          refine rt_t bI_f ?_
          refine skip ?_ I2 fr2
          rw [if_pos (by rw [y1, y3]; rfl)]
          unfold stS
          rw [if_neg (by rw [y5', Bool.and_false]; decide)]
      · have y2' : (chX n u && (!true || ctk n N (m2c n u))) = false := by simpa using y2
        rw [y2']
        refine rt_t bI_f ?_
        refine skip ?_ I' hf
        by_cases y3 : chX n u = true
        · rw [y3, Bool.true_and, Bool.not_true, Bool.false_or] at y2'
          rw [if_pos (by rw [y1, y3]; rfl)]
          unfold stS
          rw [if_neg (by rw [y2', Bool.false_and]; decide)]
        · rw [if_neg (by rw [y1, Bool.true_and]; exact y3)]
    · have y1' : chX n s = false := by simpa using y1
      rw [y1']
      refine rt_t bI_f ?_
      refine skip ?_ I' hf
      rw [if_neg (by rw [y1', Bool.false_and]; decide)]
theorem stM_in {z : Sts} (n6 : n ≤ 6) : accF (fun u z => if (chX n s && chX n u) = true then stS h nL cd n N w (m2c n s) (m2c n u) z else z) 9 0 z = if chX n s = true then accF (stS h nL cd n N w (m2c n s)) (n + 1) 0 z else z := by
  by_cases y : chX n s = true
  · rw [if_pos y, ← acc_m2c n6]
    refine accF_congr 9 0 z (fun k _ _ x => ?_)
    rw [y, Bool.true_and]
  · rw [if_neg y]
    refine accF_id 9 0 (fun k _ _ => ?_)
    rw [if_neg]
    rw [Bool.and_eq_true]
    exact fun q => y q.1
theorem stM_bnd (n6 : n ≤ 6) {z : Sts} : (if chX n s = true then accF (stS h nL cd n N w (m2c n s)) (n + 1) 0 z else z).1 ≤ z.1 + 7 := by
  by_cases y : chX n s = true
  · rw [if_pos y]
    have := st_bnd (h := h) (nL := nL) (cd := cd) (n := n) (N := N) (w := w) (g := m2c n s) (n + 1) 0 z
    omega
  · rw [if_neg y]
    omega
theorem lp_st62 (ok : HOK h) (W : wfC cd nL 0 0) (hw : w ≤ 9) (hv : v ≤ 99) (hk : k ≤ 2) (z29 : N 29 = nI (nv (N 29)) ∧ nv (N 29) ≤ 99) (C : NX2 I h nL cd n N) : ∀ q s I' z u8, s + q = 9 → Fr fSm I I' → z.1 ≤ 9 * s → accF (fun s z => if chX n s = true then accF (stS h nL cd n N w (m2c n s)) (n + 1) 0 z else z) q s z = stR h nL cd n N w → Rt L X (c_X12_street_62 (d + 10) L X I' J (nI v) (nI w) (nI k) (nI z.1) z.2.1 (stX v z) (nI s) u8) (some (.int (stV v (stR h nL cd n N w) k))) (fun I'' J' => Fr fSm I I'' ∧ J' = J)
  | 0, s, I', z, u8, hs, hf, hb, he => by
    have e : z = stR h nL cd n N w := he
    (first | refine rt_eq (q_X12_street_0) ?_ | refine rt_eq (q_X12_street_13) ?_ | refine rt_eq (q_X12_street_35) ?_ | refine rt_eq (q_X12_street_23) ?_ | refine rt_eq (q_X12_street_40) ?_ | refine rt_eq (q_X12_street_32) ?_ | refine rt_eq (q_X12_street_45) ?_ | refine rt_eq (q_X12_street_62) ?_ | refine rt_eq (q_X12_street_72) ?_ | refine rt_eq (q_X12_street_86) ?_ | refine rt_eq (q_X12_street_170) ?_ | refine rt_eq (q_X12_street_96) ?_ | refine rt_eq (q_X12_street_109) ?_ | refine rt_eq (q_X12_street_145) ?_ | refine rt_eq (q_X12_street_130) ?_ | refine rt_eq (q_X12_street_165) ?_ | refine rt_eq (q_X12_street_139) ?_)
    refine rt_t (by (try simp (disch := omega) only [nI_leI, nI_ltI, nI_eq, nI_add, pk_mul, n_0add, Nat.zero_add, nI_clamp]) <;> omega) ?_
    unfold stV
    rw [← e]
    have : k = 0 ∨ k = 1 ∨ k = 2 := by omega
    rcases this with rfl | rfl | rfl
    all_goals repeat (first | refine rt_t (by decide) ?_ | refine rt_f (by decide) ?_)
    · exact rt_v (rt_ret ⟨hf, rfl⟩) (by rw [if_pos rfl])
    · exact rt_v (rt_ret ⟨hf, rfl⟩) (by rw [if_neg (by decide), if_pos rfl])
    · exact rt_v (rt_ret ⟨hf, rfl⟩) (by rw [if_neg (by decide), if_neg (by decide)]; rfl)
  | q + 1, s, I', z, u8, hs, hf, hb, he => by
    have ih := lp_st62 ok W hw hv hk z29 C q (s + 1)
    have n6 := C.2.2.1.1
    have C' := NX2_f C ok hf
    have he' : accF (fun s z => if chX n s = true then accF (stS h nL cd n N w (m2c n s)) (n + 1) 0 z else z) q (s + 1) (if chX n s = true then accF (stS h nL cd n N w (m2c n s)) (n + 1) 0 z else z) = stR h nL cd n N w := he
    have hsb := stM_bnd (h := h) (nL := nL) (cd := cd) (N := N) (w := w) (s := s) (z := z) n6
    (first | refine rt_eq (q_X12_street_0) ?_ | refine rt_eq (q_X12_street_13) ?_ | refine rt_eq (q_X12_street_35) ?_ | refine rt_eq (q_X12_street_23) ?_ | refine rt_eq (q_X12_street_40) ?_ | refine rt_eq (q_X12_street_32) ?_ | refine rt_eq (q_X12_street_45) ?_ | refine rt_eq (q_X12_street_62) ?_ | refine rt_eq (q_X12_street_72) ?_ | refine rt_eq (q_X12_street_86) ?_ | refine rt_eq (q_X12_street_170) ?_ | refine rt_eq (q_X12_street_96) ?_ | refine rt_eq (q_X12_street_109) ?_ | refine rt_eq (q_X12_street_145) ?_ | refine rt_eq (q_X12_street_130) ?_ | refine rt_eq (q_X12_street_165) ?_ | refine rt_eq (q_X12_street_139) ?_)
    refine rt_f (by (try simp (disch := omega) only [nI_leI, nI_ltI, nI_eq, nI_add, pk_mul, n_0add, Nat.zero_add, nI_clamp]) <;> omega) ?_
    refine lp_st72 (zf := if chX n s = true then accF (stS h nL cd n N w (m2c n s)) (n + 1) 0 z else z) ok W hw hv z29 C' (by omega) (fun I2 u8 f2 => ?_) 9 0 I' z (by omega) fr_rfl (by omega) (stM_in n6)
    exact ih I2 _ u8 (by omega) (fr_tr hf f2) (by omega) he'
theorem m_street (V : MS I h nL cd n N) (hv : v ≤ 99) (hw : w ≤ 9) (hk : k ≤ 2) : Rt L X (runM (d + 11) nX12_street [.ref 72, .int (nI v), .int (nI w), .int (nI k)] (mm L X I J)) (some (.int (stV v (stR h nL cd n N w) k))) (fun I' J' => (Fr fQM I I' ∧ I' 72 0 = nI 0) ∧ J' = J) := by
  rw [e_X12_street]
  (first | refine rt_eq (q_X12_street_0) ?_ | refine rt_eq (q_X12_street_13) ?_ | refine rt_eq (q_X12_street_35) ?_ | refine rt_eq (q_X12_street_23) ?_ | refine rt_eq (q_X12_street_40) ?_ | refine rt_eq (q_X12_street_32) ?_ | refine rt_eq (q_X12_street_45) ?_ | refine rt_eq (q_X12_street_62) ?_ | refine rt_eq (q_X12_street_72) ?_ | refine rt_eq (q_X12_street_86) ?_ | refine rt_eq (q_X12_street_170) ?_ | refine rt_eq (q_X12_street_96) ?_ | refine rt_eq (q_X12_street_109) ?_ | refine rt_eq (q_X12_street_145) ?_ | refine rt_eq (q_X12_street_130) ?_ | refine rt_eq (q_X12_street_165) ?_ | refine rt_eq (q_X12_street_139) ?_)
  have V0 := MS0 V; generalize hI0 : up2 I 72 0 (nI 0) = I0 at V0 ⊢; have f0 : Fr fQM I I0 := by rw [← hI0]; exact fr_up fr_rfl rfl
  have t0 : I0 72 0 = nI 0 := by rw [← hI0, up2_s]
  clear hI0
  obtain ⟨ok, W, S, e, R, Z⟩ := V0
  have n6 := R.1.1
  refine rt_bne (in_t (by (try simp (disch := omega) only [nI_leI, nI_ltI, nI_eq, nI_add, pk_mul, n_0add, Nat.zero_add, nI_clamp]) <;> omega) (by (try simp (disch := omega) only [nI_leI, nI_ltI, nI_eq, nI_add, pk_mul, n_0add, Nat.zero_add, nI_clamp]) <;> omega)) ?_
  (first | refine rt_eq (q_X12_street_0) ?_ | refine rt_eq (q_X12_street_13) ?_ | refine rt_eq (q_X12_street_35) ?_ | refine rt_eq (q_X12_street_23) ?_ | refine rt_eq (q_X12_street_40) ?_ | refine rt_eq (q_X12_street_32) ?_ | refine rt_eq (q_X12_street_45) ?_ | refine rt_eq (q_X12_street_62) ?_ | refine rt_eq (q_X12_street_72) ?_ | refine rt_eq (q_X12_street_86) ?_ | refine rt_eq (q_X12_street_170) ?_ | refine rt_eq (q_X12_street_96) ?_ | refine rt_eq (q_X12_street_109) ?_ | refine rt_eq (q_X12_street_145) ?_ | refine rt_eq (q_X12_street_130) ?_ | refine rt_eq (q_X12_street_165) ?_ | refine rt_eq (q_X12_street_139) ?_)
  repeat (first | refine rt_t (by decide) ?_ | refine rt_f (by decide) ?_)
  refine rt_bne (in_t (by (try simp (disch := omega) only [nI_leI, nI_ltI, nI_eq, nI_add, pk_mul, n_0add, Nat.zero_add, nI_clamp]) <;> omega) (by (try simp (disch := omega) only [nI_leI, nI_ltI, nI_eq, nI_add, pk_mul, n_0add, Nat.zero_add, nI_clamp]) <;> omega)) ?_
  (first | refine rt_eq (q_X12_street_0) ?_ | refine rt_eq (q_X12_street_13) ?_ | refine rt_eq (q_X12_street_35) ?_ | refine rt_eq (q_X12_street_23) ?_ | refine rt_eq (q_X12_street_40) ?_ | refine rt_eq (q_X12_street_32) ?_ | refine rt_eq (q_X12_street_45) ?_ | refine rt_eq (q_X12_street_62) ?_ | refine rt_eq (q_X12_street_72) ?_ | refine rt_eq (q_X12_street_86) ?_ | refine rt_eq (q_X12_street_170) ?_ | refine rt_eq (q_X12_street_96) ?_ | refine rt_eq (q_X12_street_109) ?_ | refine rt_eq (q_X12_street_145) ?_ | refine rt_eq (q_X12_street_130) ?_ | refine rt_eq (q_X12_street_165) ?_ | refine rt_eq (q_X12_street_139) ?_)
  repeat (first | refine rt_t (by decide) ?_ | refine rt_f (by decide) ?_)
  refine rt_bne (in_t (by (try simp (disch := omega) only [nI_leI, nI_ltI, nI_eq, nI_add, pk_mul, n_0add, Nat.zero_add, nI_clamp]) <;> omega) (by (try simp (disch := omega) only [nI_leI, nI_ltI, nI_eq, nI_add, pk_mul, n_0add, Nat.zero_add, nI_clamp]) <;> omega)) ?_
  (first | refine rt_eq (q_X12_street_0) ?_ | refine rt_eq (q_X12_street_13) ?_ | refine rt_eq (q_X12_street_35) ?_ | refine rt_eq (q_X12_street_23) ?_ | refine rt_eq (q_X12_street_40) ?_ | refine rt_eq (q_X12_street_32) ?_ | refine rt_eq (q_X12_street_45) ?_ | refine rt_eq (q_X12_street_62) ?_ | refine rt_eq (q_X12_street_72) ?_ | refine rt_eq (q_X12_street_86) ?_ | refine rt_eq (q_X12_street_170) ?_ | refine rt_eq (q_X12_street_96) ?_ | refine rt_eq (q_X12_street_109) ?_ | refine rt_eq (q_X12_street_145) ?_ | refine rt_eq (q_X12_street_130) ?_ | refine rt_eq (q_X12_street_165) ?_ | refine rt_eq (q_X12_street_139) ?_)
  repeat (first | refine rt_t (by decide) ?_ | refine rt_f (by decide) ?_)
  (first | refine rt_eq (q_X12_street_0) ?_ | refine rt_eq (q_X12_street_13) ?_ | refine rt_eq (q_X12_street_35) ?_ | refine rt_eq (q_X12_street_23) ?_ | refine rt_eq (q_X12_street_40) ?_ | refine rt_eq (q_X12_street_32) ?_ | refine rt_eq (q_X12_street_45) ?_ | refine rt_eq (q_X12_street_62) ?_ | refine rt_eq (q_X12_street_72) ?_ | refine rt_eq (q_X12_street_86) ?_ | refine rt_eq (q_X12_street_170) ?_ | refine rt_eq (q_X12_street_96) ?_ | refine rt_eq (q_X12_street_109) ?_ | refine rt_eq (q_X12_street_145) ?_ | refine rt_eq (q_X12_street_130) ?_ | refine rt_eq (q_X12_street_165) ?_ | refine rt_eq (q_X12_street_139) ?_)
  refine rt_be (bad_f t0) ?_
  (first | refine rt_eq (q_X12_street_0) ?_ | refine rt_eq (q_X12_street_13) ?_ | refine rt_eq (q_X12_street_35) ?_ | refine rt_eq (q_X12_street_23) ?_ | refine rt_eq (q_X12_street_40) ?_ | refine rt_eq (q_X12_street_32) ?_ | refine rt_eq (q_X12_street_45) ?_ | refine rt_eq (q_X12_street_62) ?_ | refine rt_eq (q_X12_street_72) ?_ | refine rt_eq (q_X12_street_86) ?_ | refine rt_eq (q_X12_street_170) ?_ | refine rt_eq (q_X12_street_96) ?_ | refine rt_eq (q_X12_street_109) ?_ | refine rt_eq (q_X12_street_145) ?_ | refine rt_eq (q_X12_street_130) ?_ | refine rt_eq (q_X12_street_165) ?_ | refine rt_eq (q_X12_street_139) ?_)
  repeat (first | refine rt_t (by decide) ?_ | refine rt_f (by decide) ?_)
  refine rt_mono (lp_st62 ok W hw hv hk Z.2.2.2.2 ⟨S, e, R⟩ 9 0 I0 (0, -1, 0) _ (by omega) fr_rfl (Nat.zero_le _) (acc_m2c (φ := fun g z => accF (stS h nL cd n N w g) (n + 1) 0 z) n6)) ?_
  rintro I1 J1 ⟨f1, rfl⟩
  exact ⟨⟨fr_tr f0 (fr_mono f1 (by decide +kernel)), (f1 72 0 rfl).trans t0⟩, rfl⟩
end SN
