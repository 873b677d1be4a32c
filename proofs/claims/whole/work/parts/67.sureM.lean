/-! SURE: the model; refusals -/
section SV
variable {d L X : Nat} {I : MI32} {J : MI64} {h : Hs} {nL n : Nat} {cd : Cd} {N : Nt} {f q w T : Nat} {x1 x2 x3 : Int32}
theorem lp_part {up low : Nat} (hw : w ≤ 1) (hu : up < 2 ^ 62) (hl : low < 2 ^ 62) : ∀ k b a u9 u10, b ≤ k → 0 < a → a < 2 ^ 62 → b < 2 ^ 62 → c_X12_partOf_6 d L X I J (lN up) (lN low) (nI w) (lN a) (lN b) u9 u10 = rL (lN (if w = 0 then up / Nat.gcd a b else low / Nat.gcd a b)) (mm L X I J)
  | k, 0, a, u9, u10, hk, ha, ha2, hb2 => by
    (first | refine Eq.trans (q_X12_partOf_0) ?_ | refine Eq.trans (q_X12_partOf_6) ?_ | refine Eq.trans (q_X12_partOf_6b) ?_)
    rw [if_pos ((cq (lN 0) (lN 0)).mpr rfl), Nat.gcd_zero_right]
    have hz : nzl (lN a) = true := nzl_iff.mpr (fun q => by have := (pk_lEQ (a := a) (b := 0) (by omega) (by decide)).mp q; omega)
    have : w = 0 ∨ w = 1 := by omega
    rcases this with rfl | rfl
    · rw [if_pos rfl, if_pos rfl, gd_t hz, pk_lDiv (by omega) ha (by omega)]
    · rw [if_neg (by decide), if_neg (by decide), gd_t hz, pk_lDiv (by omega) ha (by omega)]
  | 0, b + 1, a, u9, u10, hk, ha, ha2, hb2 => by omega
  | k + 1, b + 1, a, u9, u10, hk, ha, ha2, hb2 => by
    have hm : a % (b + 1) < b + 1 := Nat.mod_lt _ (by omega)
    have ih := lp_part (up := up) (low := low) hw hu hl k (a % (b + 1)) (b + 1) (some (.long (lN (a % (b + 1))))) none (by omega) (by omega) hb2 (by omega)
    (first | refine Eq.trans (q_X12_partOf_0) ?_ | refine Eq.trans (q_X12_partOf_6) ?_ | refine Eq.trans (q_X12_partOf_6b) ?_)
    rw [if_neg (fun q => by have := (pk_lEQ (a := b + 1) (b := 0) (by omega) (by decide)).mp ((cq _ _).mp q); omega), gd_t (nzl_iff.mpr (fun q => by have := (pk_lEQ (a := b + 1) (b := 0) (by omega) (by decide)).mp q; omega)), pk_lRem (by omega) (by omega) (by omega)]
    have eg : Nat.gcd a (b + 1) = Nat.gcd (b + 1) (a % (b + 1)) := by rw [Nat.gcd_comm a, Nat.gcd_rec, Nat.gcd_comm]
    rw [eg]
    exact ih
theorem sp_partOf {up low : Nat} (hw : w ≤ 1) (hu : up < 2 ^ 62) (hl : low < 2 ^ 62) (h0 : 0 < low) : runM (d + 1) nX12_partOf [.long (lN up), .long (lN low), .int (nI w)] (mm L X I J) = rL (lN (if w = 0 then up / Nat.gcd low up else low / Nat.gcd low up)) (mm L X I J) := by
  rw [e_X12_partOf]
  (first | refine Eq.trans (q_X12_partOf_0) ?_ | refine Eq.trans (q_X12_partOf_6) ?_ | refine Eq.trans (q_X12_partOf_6b) ?_)
  exact lp_part hw hu hl up up low _ _ (Nat.le_refl _) h0 hl hu
def fSm : Fls := [(450, 0), (451, 0), (535, 0), (534, 0)]
/-- the night tried: some have burst once more -/
def tryT (N : Nt) (n T j : Nat) (M : Nt) : Prop := (∀ i, i < 18 → M i = N i) ∧ (∀ i, 24 ≤ i → i < 31 → M i = N i) ∧ ∀ k, k < n → M (18 + nv (N k)) = N (18 + nv (N k)) + (if k < j then nI (tb T k) else nI 0)
theorem fSm1 : dj fSm sHM = true := by decide +kernel
theorem fSm2 : dj fSm sLM = true := by decide +kernel
theorem lp_su103 {r : Option Value} {Q : MI32 → MI64 → Prop} {y5 : Int64} {x3 : Int32} (hq : q ≤ 16) (hT : T < 64) (e : I 533 = N) (R : NR (h 0 0) n N) (go : ∀ I' u10, Fr [(534, 0)] I I' → tryT N n T n (I' 534) → Rt L X (bnd (runM (d + 1) nX12_isReached [.ref 72, .ref 534, .int (nI f)] (mm L X I' J)) (fun v m' => runI (runM (d + 1)) iX12_sure (187, [some (.ref 72), some (.int (nI f)), some (.int (nI q)), some (.int x3), some (.int (nI n)), some (.long y5), none, some (.int (nI T)), some (.long (lN (prN q T n))), none, u10], v.toList ++ [.long y5], m'))) r Q) : ∀ s j I' a, j + s = n → Fr [(534, 0)] I I' → tryT N n T j (I' 534) → accF (prA q T) s j a = prN q T n → Rt L X (c_X12_sure_103 (d + 1) L X I' J (nI f) (nI q) x3 (nI n) y5 (nI T) (lN a) (nI j)) r Q
  | 0, j, I', a, hj, hf, hM, he => by
    have hn := R.1.1
    have ea : a = prN q T n := he
    have ej : j = n := by omega
    subst ej
    (first | refine rt_eq (q_X12_sure_0) ?_ | refine rt_eq (q_X12_sure_11) ?_ | refine rt_eq (q_X12_sure_19) ?_ | refine rt_eq (q_X12_sure_24) ?_ | refine rt_eq (q_X12_sure_60) ?_ | refine rt_eq (q_X12_sure_35) ?_ | refine rt_eq (q_X12_sure_47) ?_ | refine rt_eq (q_X12_sure_44) ?_ | refine rt_eq (q_X12_sure_52) ?_ | refine rt_eq (q_X12_sure_57) ?_ | refine rt_eq (q_X12_sure_69) ?_ | refine rt_eq (q_X12_sure_77) ?_ | refine rt_eq (q_X12_sure_217) ?_ | refine rt_eq (q_X12_sure_100) ?_ | refine rt_eq (q_X12_sure_103) ?_ | refine rt_eq (q_X12_sure_187) ?_ | refine rt_eq (q_X12_sure_119) ?_ | refine rt_eq (q_X12_sure_196) ?_ | refine rt_eq (q_X12_sure_132) ?_ | refine rt_eq (q_X12_sure_77b) ?_ | refine rt_eq (q_X12_sure_160) ?_ | refine rt_eq (q_X12_sure_217b) ?_ | refine rt_eq (q_X12_sure_168) ?_)
    refine rt_t (by (try simp (disch := omega) only [nI_leI, nI_ltI, nI_eq, nI_add, pk_mul, n_0add, Nat.zero_add, nI_clamp]) <;> omega) ?_
    rw [ea]
    exact go I' _ hf hM
  | s + 1, j, I', a, hj, hf, hM, he => by
    have ih := lp_su103 hq hT e R go s (j + 1)
    obtain ⟨⟨n6, np6⟩, r2, -, r4, -⟩ := R
    have he' : accF (prA q T) s (j + 1) (prA q T j a) = prN q T n := he
    obtain ⟨w1, w2⟩ := r2 j (by omega)
    have e533 : I' 533 j = N j := by rw [hf 533 j rfl, e]
    have ht := tb_lt (b := T) (k := j)
    have bump : ∀ p, p = nv (N j) → tryT N n T (j + 1) ((up2 I' 534 (18 + p) (I' 534 (18 + p) + nI (tb T j))) 534) := by
      intro p hp
      subst hp
      refine ⟨fun i hi => ?_, fun i h1 h2 => ?_, fun k hk => ?_⟩
      · rw [up2_k (by omega)]
        exact hM.1 i hi
      · rw [up2_k (by omega)]
        exact hM.2.1 i h1 h2
      · by_cases z : k = j
        · subst z
          rw [up2_s, hM.2.2 k hk, if_neg (by omega), if_pos (by omega), add_n0]
        · have hd : nv (N k) ≠ nv (N j) := by
            rcases Nat.lt_or_gt_of_ne z with y | y
            · exact r4 k j y (by omega)
            · exact (r4 j k y hk).symm
          rw [up2_k (by omega), hM.2.2 k hk]
          by_cases y : k < j
          · rw [if_pos y, if_pos (by omega)]
          · rw [if_neg y, if_neg (by omega)]
    have tail : ∀ m, m = (if T.testBit j = true then q else 16 - q) → Rt L X (runI (runM (d + 1)) iX12_sure (132, [some (.ref 72), some (.int (nI f)), some (.int (nI q)), some (.int x3), some (.int (nI n)), some (.long y5), none, some (.int (nI T)), some (.long (lN a)), none, some (.int (nI j))], [.long (lN m), .long (lN a)], mm L X I' J)) r Q := by
      intro m hm
      (first | refine rt_eq (q_X12_sure_0) ?_ | refine rt_eq (q_X12_sure_11) ?_ | refine rt_eq (q_X12_sure_19) ?_ | refine rt_eq (q_X12_sure_24) ?_ | refine rt_eq (q_X12_sure_60) ?_ | refine rt_eq (q_X12_sure_35) ?_ | refine rt_eq (q_X12_sure_47) ?_ | refine rt_eq (q_X12_sure_44) ?_ | refine rt_eq (q_X12_sure_52) ?_ | refine rt_eq (q_X12_sure_57) ?_ | refine rt_eq (q_X12_sure_69) ?_ | refine rt_eq (q_X12_sure_77) ?_ | refine rt_eq (q_X12_sure_217) ?_ | refine rt_eq (q_X12_sure_100) ?_ | refine rt_eq (q_X12_sure_103) ?_ | refine rt_eq (q_X12_sure_187) ?_ | refine rt_eq (q_X12_sure_119) ?_ | refine rt_eq (q_X12_sure_196) ?_ | refine rt_eq (q_X12_sure_132) ?_ | refine rt_eq (q_X12_sure_77b) ?_ | refine rt_eq (q_X12_sure_160) ?_ | refine rt_eq (q_X12_sure_217b) ?_ | refine rt_eq (q_X12_sure_168) ?_)
      rw [n_0add]
      refine rt_gd (inb_n (by omega) (by decide)) ?_
      rw [nI_clamp (by omega), e533]
      generalize hp : nv (N j) = p at w1 w2 bump
      have bp := bump p rfl
      rw [w1, nI_add]
      refine rt_gd (inb_n (by omega) (by decide)) ?_
      refine rt_bne (has_n (by omega) (by omega)) ?_
      rw [nI_clamp (show 18 + p < 2 ^ 31 by omega), lN_mul]
      have ep : prA q T j a = a * m := by unfold prA; rw [← hm]
      rw [← ep]
      (first | refine rt_eq (q_X12_sure_0) ?_ | refine rt_eq (q_X12_sure_11) ?_ | refine rt_eq (q_X12_sure_19) ?_ | refine rt_eq (q_X12_sure_24) ?_ | refine rt_eq (q_X12_sure_60) ?_ | refine rt_eq (q_X12_sure_35) ?_ | refine rt_eq (q_X12_sure_47) ?_ | refine rt_eq (q_X12_sure_44) ?_ | refine rt_eq (q_X12_sure_52) ?_ | refine rt_eq (q_X12_sure_57) ?_ | refine rt_eq (q_X12_sure_69) ?_ | refine rt_eq (q_X12_sure_77) ?_ | refine rt_eq (q_X12_sure_217) ?_ | refine rt_eq (q_X12_sure_100) ?_ | refine rt_eq (q_X12_sure_103) ?_ | refine rt_eq (q_X12_sure_187) ?_ | refine rt_eq (q_X12_sure_119) ?_ | refine rt_eq (q_X12_sure_196) ?_ | refine rt_eq (q_X12_sure_132) ?_ | refine rt_eq (q_X12_sure_77b) ?_ | refine rt_eq (q_X12_sure_160) ?_ | refine rt_eq (q_X12_sure_217b) ?_ | refine rt_eq (q_X12_sure_168) ?_)
      by_cases z : T.testBit j = true
      · rw [z]
        refine rt_f (by decide) ?_
        rw [tb_test.mpr z] at bp
        (first | refine rt_eq (q_X12_sure_0) ?_ | refine rt_eq (q_X12_sure_11) ?_ | refine rt_eq (q_X12_sure_19) ?_ | refine rt_eq (q_X12_sure_24) ?_ | refine rt_eq (q_X12_sure_60) ?_ | refine rt_eq (q_X12_sure_35) ?_ | refine rt_eq (q_X12_sure_47) ?_ | refine rt_eq (q_X12_sure_44) ?_ | refine rt_eq (q_X12_sure_52) ?_ | refine rt_eq (q_X12_sure_57) ?_ | refine rt_eq (q_X12_sure_69) ?_ | refine rt_eq (q_X12_sure_77) ?_ | refine rt_eq (q_X12_sure_217) ?_ | refine rt_eq (q_X12_sure_100) ?_ | refine rt_eq (q_X12_sure_103) ?_ | refine rt_eq (q_X12_sure_187) ?_ | refine rt_eq (q_X12_sure_119) ?_ | refine rt_eq (q_X12_sure_196) ?_ | refine rt_eq (q_X12_sure_132) ?_ | refine rt_eq (q_X12_sure_77b) ?_ | refine rt_eq (q_X12_sure_160) ?_ | refine rt_eq (q_X12_sure_217b) ?_ | refine rt_eq (q_X12_sure_168) ?_)
        refine rt_gd (inb_n (by omega) (by decide)) ?_
        rw [nI_clamp (show 18 + p < 2 ^ 31 by omega), nI_add]
        exact ih _ _ (by omega) (fr_up hf rfl) bp he'
      · have z' : T.testBit j = false := by simpa using z
        rw [z']
        refine rt_t bI_f ?_
        rw [tb_test0.mpr z'] at bp
        (first | refine rt_eq (q_X12_sure_0) ?_ | refine rt_eq (q_X12_sure_11) ?_ | refine rt_eq (q_X12_sure_19) ?_ | refine rt_eq (q_X12_sure_24) ?_ | refine rt_eq (q_X12_sure_60) ?_ | refine rt_eq (q_X12_sure_35) ?_ | refine rt_eq (q_X12_sure_47) ?_ | refine rt_eq (q_X12_sure_44) ?_ | refine rt_eq (q_X12_sure_52) ?_ | refine rt_eq (q_X12_sure_57) ?_ | refine rt_eq (q_X12_sure_69) ?_ | refine rt_eq (q_X12_sure_77) ?_ | refine rt_eq (q_X12_sure_217) ?_ | refine rt_eq (q_X12_sure_100) ?_ | refine rt_eq (q_X12_sure_103) ?_ | refine rt_eq (q_X12_sure_187) ?_ | refine rt_eq (q_X12_sure_119) ?_ | refine rt_eq (q_X12_sure_196) ?_ | refine rt_eq (q_X12_sure_132) ?_ | refine rt_eq (q_X12_sure_77b) ?_ | refine rt_eq (q_X12_sure_160) ?_ | refine rt_eq (q_X12_sure_217b) ?_ | refine rt_eq (q_X12_sure_168) ?_)
        refine rt_gd (inb_n (by omega) (by decide)) ?_
        rw [nI_clamp (show 18 + p < 2 ^ 31 by omega), nI_add]
        exact ih _ _ (by omega) (fr_up hf rfl) bp he'
    (first | refine rt_eq (q_X12_sure_0) ?_ | refine rt_eq (q_X12_sure_11) ?_ | refine rt_eq (q_X12_sure_19) ?_ | refine rt_eq (q_X12_sure_24) ?_ | refine rt_eq (q_X12_sure_60) ?_ | refine rt_eq (q_X12_sure_35) ?_ | refine rt_eq (q_X12_sure_47) ?_ | refine rt_eq (q_X12_sure_44) ?_ | refine rt_eq (q_X12_sure_52) ?_ | refine rt_eq (q_X12_sure_57) ?_ | refine rt_eq (q_X12_sure_69) ?_ | refine rt_eq (q_X12_sure_77) ?_ | refine rt_eq (q_X12_sure_217) ?_ | refine rt_eq (q_X12_sure_100) ?_ | refine rt_eq (q_X12_sure_103) ?_ | refine rt_eq (q_X12_sure_187) ?_ | refine rt_eq (q_X12_sure_119) ?_ | refine rt_eq (q_X12_sure_196) ?_ | refine rt_eq (q_X12_sure_132) ?_ | refine rt_eq (q_X12_sure_77b) ?_ | refine rt_eq (q_X12_sure_160) ?_ | refine rt_eq (q_X12_sure_217b) ?_ | refine rt_eq (q_X12_sure_168) ?_)
    refine rt_f (by (try simp (disch := omega) only [nI_leI, nI_ltI, nI_eq, nI_add, pk_mul, n_0add, Nat.zero_add, nI_clamp]) <;> omega) ?_
    refine rt_bne (has_n (by omega) (by omega)) ?_
    (first | refine rt_eq (q_X12_sure_0) ?_ | refine rt_eq (q_X12_sure_11) ?_ | refine rt_eq (q_X12_sure_19) ?_ | refine rt_eq (q_X12_sure_24) ?_ | refine rt_eq (q_X12_sure_60) ?_ | refine rt_eq (q_X12_sure_35) ?_ | refine rt_eq (q_X12_sure_47) ?_ | refine rt_eq (q_X12_sure_44) ?_ | refine rt_eq (q_X12_sure_52) ?_ | refine rt_eq (q_X12_sure_57) ?_ | refine rt_eq (q_X12_sure_69) ?_ | refine rt_eq (q_X12_sure_77) ?_ | refine rt_eq (q_X12_sure_217) ?_ | refine rt_eq (q_X12_sure_100) ?_ | refine rt_eq (q_X12_sure_103) ?_ | refine rt_eq (q_X12_sure_187) ?_ | refine rt_eq (q_X12_sure_119) ?_ | refine rt_eq (q_X12_sure_196) ?_ | refine rt_eq (q_X12_sure_132) ?_ | refine rt_eq (q_X12_sure_77b) ?_ | refine rt_eq (q_X12_sure_160) ?_ | refine rt_eq (q_X12_sure_217b) ?_ | refine rt_eq (q_X12_sure_168) ?_)
    by_cases z : T.testBit j = true
    · rw [z]
      refine rt_f (by decide) ?_
      rw [nI_l (by omega)]
      exact tail q (by rw [if_pos z])
    · have z' : T.testBit j = false := by simpa using z
      rw [z']
      refine rt_t bI_f ?_
      rw [pk_sub hq, nI_l (by omega)]
      exact tail (16 - q) (by rw [if_neg z])
theorem try_ar {M : Nt} (R : NR (h 0 0) n N) (hM : tryT N n T n M) : arN h nL cd M n = flS h nL cd N T n := by
  unfold arN flS
  obtain ⟨⟨n6, np6⟩, r2, -, -, -⟩ := R
  rw [hM.2.1 29 (by decide) (by decide)]
  refine flN_congr n (fun k hk => ?_)
  obtain ⟨w1, w2⟩ := r2 k hk
  have ek : M k = N k := hM.1 k (by omega)
  unfold bdN bsN
  rw [ek]
  refine ⟨rfl, hM.1 _ (by omega), hM.1 _ (by omega), ?_, fun _ => rfl⟩
  rw [hM.2.2 k hk, if_pos hk]
theorem lp_su77 (ok : HOK h) (W : wfC cd nL 0 0) (hf5 : f < h 0 2) (hq : q ≤ 16) (hw : w ≤ 1) (S : SM I h (h 0 1) nL cd) (e : I 533 = N) (R : NR (h 0 0) n N) : ∀ s T I' a u8 u9 u10, T + s = 2 ^ n → Fr fSm I I' → accF (upA h nL cd n N f q) s T a = upN h nL cd n N f q → Rt L X (c_X12_sure_77 (d + 8) L X I' J (nI f) (nI q) (nI w) (nI n) (lN a) (nI T) u8 u9 u10) (some (.long (lN (surA h nL cd n N f q w)))) (fun I'' J' => Fr fSm I I'' ∧ J' = J)
  | 0, T, I', a, u8, u9, u10, hs, hf, he => by
    have hn := R.1.1
    have ea : a = upN h nL cd n N f q := he
    have p6 : 2 ^ n ≤ 2 ^ 6 := Nat.pow_le_pow_right (by decide) hn
    have hub := up_b (h := h) (nL := nL) (cd := cd) (N := N) (f := f) hq hn
    have hp : 2 ^ (4 * n) ≤ 2 ^ 24 := Nat.pow_le_pow_right (by decide) (by omega)
    (first | refine rt_eq (q_X12_sure_0) ?_ | refine rt_eq (q_X12_sure_11) ?_ | refine rt_eq (q_X12_sure_19) ?_ | refine rt_eq (q_X12_sure_24) ?_ | refine rt_eq (q_X12_sure_60) ?_ | refine rt_eq (q_X12_sure_35) ?_ | refine rt_eq (q_X12_sure_47) ?_ | refine rt_eq (q_X12_sure_44) ?_ | refine rt_eq (q_X12_sure_52) ?_ | refine rt_eq (q_X12_sure_57) ?_ | refine rt_eq (q_X12_sure_69) ?_ | refine rt_eq (q_X12_sure_77) ?_ | refine rt_eq (q_X12_sure_217) ?_ | refine rt_eq (q_X12_sure_100) ?_ | refine rt_eq (q_X12_sure_103) ?_ | refine rt_eq (q_X12_sure_187) ?_ | refine rt_eq (q_X12_sure_119) ?_ | refine rt_eq (q_X12_sure_196) ?_ | refine rt_eq (q_X12_sure_132) ?_ | refine rt_eq (q_X12_sure_77b) ?_ | refine rt_eq (q_X12_sure_160) ?_ | refine rt_eq (q_X12_sure_217b) ?_ | refine rt_eq (q_X12_sure_168) ?_)
    rw [n_pow (by omega), ea, sh4 n hn]
    refine rt_t (by (try simp (disch := omega) only [nI_leI, nI_ltI, nI_eq, nI_add, pk_mul, n_0add, Nat.zero_add, nI_clamp]) <;> omega) ?_
    refine rt_bne (sp_partOf hw (by omega) (by omega) (Nat.two_pow_pos _)) ?_
    (first | refine rt_eq (q_X12_sure_0) ?_ | refine rt_eq (q_X12_sure_11) ?_ | refine rt_eq (q_X12_sure_19) ?_ | refine rt_eq (q_X12_sure_24) ?_ | refine rt_eq (q_X12_sure_60) ?_ | refine rt_eq (q_X12_sure_35) ?_ | refine rt_eq (q_X12_sure_47) ?_ | refine rt_eq (q_X12_sure_44) ?_ | refine rt_eq (q_X12_sure_52) ?_ | refine rt_eq (q_X12_sure_57) ?_ | refine rt_eq (q_X12_sure_69) ?_ | refine rt_eq (q_X12_sure_77) ?_ | refine rt_eq (q_X12_sure_217) ?_ | refine rt_eq (q_X12_sure_100) ?_ | refine rt_eq (q_X12_sure_103) ?_ | refine rt_eq (q_X12_sure_187) ?_ | refine rt_eq (q_X12_sure_119) ?_ | refine rt_eq (q_X12_sure_196) ?_ | refine rt_eq (q_X12_sure_132) ?_ | refine rt_eq (q_X12_sure_77b) ?_ | refine rt_eq (q_X12_sure_160) ?_ | refine rt_eq (q_X12_sure_217b) ?_ | refine rt_eq (q_X12_sure_168) ?_)
    exact rt_lv (rt_ret ⟨hf, rfl⟩) rfl
  | s + 1, T, I', a, u8, u9, u10, hs, hf, he => by
    have ih := lp_su77 ok W hf5 hq hw S e R s (T + 1)
    have hn := R.1.1
    have p6 : 2 ^ n ≤ 2 ^ 6 := Nat.pow_le_pow_right (by decide) hn
    have he' : accF (upA h nL cd n N f q) s (T + 1) (upA h nL cd n N f q T a) = upN h nL cd n N f q := he
    (first | refine rt_eq (q_X12_sure_0) ?_ | refine rt_eq (q_X12_sure_11) ?_ | refine rt_eq (q_X12_sure_19) ?_ | refine rt_eq (q_X12_sure_24) ?_ | refine rt_eq (q_X12_sure_60) ?_ | refine rt_eq (q_X12_sure_35) ?_ | refine rt_eq (q_X12_sure_47) ?_ | refine rt_eq (q_X12_sure_44) ?_ | refine rt_eq (q_X12_sure_52) ?_ | refine rt_eq (q_X12_sure_57) ?_ | refine rt_eq (q_X12_sure_69) ?_ | refine rt_eq (q_X12_sure_77) ?_ | refine rt_eq (q_X12_sure_217) ?_ | refine rt_eq (q_X12_sure_100) ?_ | refine rt_eq (q_X12_sure_103) ?_ | refine rt_eq (q_X12_sure_187) ?_ | refine rt_eq (q_X12_sure_119) ?_ | refine rt_eq (q_X12_sure_196) ?_ | refine rt_eq (q_X12_sure_132) ?_ | refine rt_eq (q_X12_sure_77b) ?_ | refine rt_eq (q_X12_sure_160) ?_ | refine rt_eq (q_X12_sure_217b) ?_ | refine rt_eq (q_X12_sure_168) ?_)
    rw [n_pow (by omega)]
    refine rt_f (by (try simp (disch := omega) only [nI_leI, nI_ltI, nI_eq, nI_add, pk_mul, n_0add, Nat.zero_add, nI_clamp]) <;> omega) ?_
    refine rt_bndN (sp_copies ka_533 ka_534 (by decide) (by decide) (by decide) (by decide) (by decide)) ?_
    rintro I1 J1 ⟨⟨f1, c1⟩, rfl⟩
    have e' : I' 533 = N := by rw [← e]; exact funext fun i => hf 533 i rfl
    have e1 : I1 533 = N := by rw [← e']; exact funext fun i => f1 533 i rfl
    have hc : ∀ i, i < 31 → I1 534 i = N i := fun i hi => by rw [c1, ← e']; exact if_pos hi
    have T1 : tryT N n T 0 (I1 534) := by
      refine ⟨fun i hi => hc i (by omega), fun i _ hi => hc i hi, fun k hk => ?_⟩
      have := (R.2.1 k hk).2
      have := R.1.2
      rw [hc _ (by omega), if_neg (Nat.not_lt_zero k), add_n0]
    have fr1 := fr_tr hf (fr_mono f1 (show sbF [(534, 0)] fSm = true by decide))
    (first | refine rt_eq (q_X12_sure_0) ?_ | refine rt_eq (q_X12_sure_11) ?_ | refine rt_eq (q_X12_sure_19) ?_ | refine rt_eq (q_X12_sure_24) ?_ | refine rt_eq (q_X12_sure_60) ?_ | refine rt_eq (q_X12_sure_35) ?_ | refine rt_eq (q_X12_sure_47) ?_ | refine rt_eq (q_X12_sure_44) ?_ | refine rt_eq (q_X12_sure_52) ?_ | refine rt_eq (q_X12_sure_57) ?_ | refine rt_eq (q_X12_sure_69) ?_ | refine rt_eq (q_X12_sure_77) ?_ | refine rt_eq (q_X12_sure_217) ?_ | refine rt_eq (q_X12_sure_100) ?_ | refine rt_eq (q_X12_sure_103) ?_ | refine rt_eq (q_X12_sure_187) ?_ | refine rt_eq (q_X12_sure_119) ?_ | refine rt_eq (q_X12_sure_196) ?_ | refine rt_eq (q_X12_sure_132) ?_ | refine rt_eq (q_X12_sure_77b) ?_ | refine rt_eq (q_X12_sure_160) ?_ | refine rt_eq (q_X12_sure_217b) ?_ | refine rt_eq (q_X12_sure_168) ?_)
    refine lp_su103 (d := d + 7) (N := N) hq (by omega) e1 R (fun I2 u10 f2 M2 => ?_) n 0 I1 1 (by omega) fr_rfl T1 rfl
    have fr2 := fr_tr fr1 (fr_mono f2 (show sbF [(534, 0)] fSm = true by decide))
    have S2 := SM_fr S ok fr2 fSm1 fSm2
    have R2 : NR (h 0 0) n (I2 534) := NR_congr R (fun i hi => M2.1 i (by omega))
    refine rt_bnd (sp_isReached (.inr rfl) S2.1 ok R2 S2.2 W hf5) ?_
    rintro I3 J3 ⟨f3, rfl⟩
    have fr3 := fr_tr fr2 (fr_mono f3 (show sbF [(450, 0), (451, 0), (535, 0)] fSm = true by decide))
    have er : rchd h nL cd (I2 534) n f = rcS h nL cd n N f T := by
      unfold rchd rcS
      rw [lenN_congr (N := N) (fun i hi => M2.1 i (by omega)), try_ar R M2]
    rw [er]
    (first | refine rt_eq (q_X12_sure_0) ?_ | refine rt_eq (q_X12_sure_11) ?_ | refine rt_eq (q_X12_sure_19) ?_ | refine rt_eq (q_X12_sure_24) ?_ | refine rt_eq (q_X12_sure_60) ?_ | refine rt_eq (q_X12_sure_35) ?_ | refine rt_eq (q_X12_sure_47) ?_ | refine rt_eq (q_X12_sure_44) ?_ | refine rt_eq (q_X12_sure_52) ?_ | refine rt_eq (q_X12_sure_57) ?_ | refine rt_eq (q_X12_sure_69) ?_ | refine rt_eq (q_X12_sure_77) ?_ | refine rt_eq (q_X12_sure_217) ?_ | refine rt_eq (q_X12_sure_100) ?_ | refine rt_eq (q_X12_sure_103) ?_ | refine rt_eq (q_X12_sure_187) ?_ | refine rt_eq (q_X12_sure_119) ?_ | refine rt_eq (q_X12_sure_196) ?_ | refine rt_eq (q_X12_sure_132) ?_ | refine rt_eq (q_X12_sure_77b) ?_ | refine rt_eq (q_X12_sure_160) ?_ | refine rt_eq (q_X12_sure_217b) ?_ | refine rt_eq (q_X12_sure_168) ?_)
    by_cases y : rcS h nL cd n N f T = true
    · rw [y]
      refine rt_f (by decide) ?_
      (first | refine rt_eq (q_X12_sure_0) ?_ | refine rt_eq (q_X12_sure_11) ?_ | refine rt_eq (q_X12_sure_19) ?_ | refine rt_eq (q_X12_sure_24) ?_ | refine rt_eq (q_X12_sure_60) ?_ | refine rt_eq (q_X12_sure_35) ?_ | refine rt_eq (q_X12_sure_47) ?_ | refine rt_eq (q_X12_sure_44) ?_ | refine rt_eq (q_X12_sure_52) ?_ | refine rt_eq (q_X12_sure_57) ?_ | refine rt_eq (q_X12_sure_69) ?_ | refine rt_eq (q_X12_sure_77) ?_ | refine rt_eq (q_X12_sure_217) ?_ | refine rt_eq (q_X12_sure_100) ?_ | refine rt_eq (q_X12_sure_103) ?_ | refine rt_eq (q_X12_sure_187) ?_ | refine rt_eq (q_X12_sure_119) ?_ | refine rt_eq (q_X12_sure_196) ?_ | refine rt_eq (q_X12_sure_132) ?_ | refine rt_eq (q_X12_sure_77b) ?_ | refine rt_eq (q_X12_sure_160) ?_ | refine rt_eq (q_X12_sure_217b) ?_ | refine rt_eq (q_X12_sure_168) ?_)
      have eu : upA h nL cd n N f q T a = a + prN q T n := if_pos y
      rw [lN_add, nI_add, ← eu]
      exact ih I3 _ _ _ _ (by omega) fr3 he'
    · have eu : upA h nL cd n N f q T a = a := if_neg y
      rw [Bool.not_eq_true] at y
      rw [y]
      refine rt_t bI_f ?_
      (first | refine rt_eq (q_X12_sure_0) ?_ | refine rt_eq (q_X12_sure_11) ?_ | refine rt_eq (q_X12_sure_19) ?_ | refine rt_eq (q_X12_sure_24) ?_ | refine rt_eq (q_X12_sure_60) ?_ | refine rt_eq (q_X12_sure_35) ?_ | refine rt_eq (q_X12_sure_47) ?_ | refine rt_eq (q_X12_sure_44) ?_ | refine rt_eq (q_X12_sure_52) ?_ | refine rt_eq (q_X12_sure_57) ?_ | refine rt_eq (q_X12_sure_69) ?_ | refine rt_eq (q_X12_sure_77) ?_ | refine rt_eq (q_X12_sure_217) ?_ | refine rt_eq (q_X12_sure_100) ?_ | refine rt_eq (q_X12_sure_103) ?_ | refine rt_eq (q_X12_sure_187) ?_ | refine rt_eq (q_X12_sure_119) ?_ | refine rt_eq (q_X12_sure_196) ?_ | refine rt_eq (q_X12_sure_132) ?_ | refine rt_eq (q_X12_sure_77b) ?_ | refine rt_eq (q_X12_sure_160) ?_ | refine rt_eq (q_X12_sure_217b) ?_ | refine rt_eq (q_X12_sure_168) ?_)
      rw [lN_add, Nat.add_zero, nI_add]
      rw [eu] at he'
      exact ih I3 _ _ _ _ (by omega) fr3 he'
theorem m_sure (V : MS I h nL cd n N) (hf : f < h 0 2) (hq : q ≤ 16) (hw : w ≤ 1) : Rt L X (runM (d + 9) nX12_sure [.ref 72, .int (nI f), .int (nI q), .int (nI w)] (mm L X I J)) (some (.long (lN (surA h nL cd n N f q w)))) (fun I' J' => (Fr fQM I I' ∧ I' 72 0 = nI 0) ∧ J' = J) := by
  rw [e_X12_sure]
  (first | refine rt_eq (q_X12_sure_0) ?_ | refine rt_eq (q_X12_sure_11) ?_ | refine rt_eq (q_X12_sure_19) ?_ | refine rt_eq (q_X12_sure_24) ?_ | refine rt_eq (q_X12_sure_60) ?_ | refine rt_eq (q_X12_sure_35) ?_ | refine rt_eq (q_X12_sure_47) ?_ | refine rt_eq (q_X12_sure_44) ?_ | refine rt_eq (q_X12_sure_52) ?_ | refine rt_eq (q_X12_sure_57) ?_ | refine rt_eq (q_X12_sure_69) ?_ | refine rt_eq (q_X12_sure_77) ?_ | refine rt_eq (q_X12_sure_217) ?_ | refine rt_eq (q_X12_sure_100) ?_ | refine rt_eq (q_X12_sure_103) ?_ | refine rt_eq (q_X12_sure_187) ?_ | refine rt_eq (q_X12_sure_119) ?_ | refine rt_eq (q_X12_sure_196) ?_ | refine rt_eq (q_X12_sure_132) ?_ | refine rt_eq (q_X12_sure_77b) ?_ | refine rt_eq (q_X12_sure_160) ?_ | refine rt_eq (q_X12_sure_217b) ?_ | refine rt_eq (q_X12_sure_168) ?_)
  have V0 := MS0 V; generalize hI0 : up2 I 72 0 (nI 0) = I0 at V0 ⊢; have f0 : Fr fQM I I0 := by rw [← hI0]; exact fr_up fr_rfl rfl
  have t0 : I0 72 0 = nI 0 := by rw [← hI0, up2_s]
  clear hI0
  obtain ⟨ok, W, S, e, R, Z⟩ := V0
  have h5 := ok.2.2.1
  refine rt_be (if_t S.1.2.2.1 (by omega) hf) ?_
  (first | refine rt_eq (q_X12_sure_0) ?_ | refine rt_eq (q_X12_sure_11) ?_ | refine rt_eq (q_X12_sure_19) ?_ | refine rt_eq (q_X12_sure_24) ?_ | refine rt_eq (q_X12_sure_60) ?_ | refine rt_eq (q_X12_sure_35) ?_ | refine rt_eq (q_X12_sure_47) ?_ | refine rt_eq (q_X12_sure_44) ?_ | refine rt_eq (q_X12_sure_52) ?_ | refine rt_eq (q_X12_sure_57) ?_ | refine rt_eq (q_X12_sure_69) ?_ | refine rt_eq (q_X12_sure_77) ?_ | refine rt_eq (q_X12_sure_217) ?_ | refine rt_eq (q_X12_sure_100) ?_ | refine rt_eq (q_X12_sure_103) ?_ | refine rt_eq (q_X12_sure_187) ?_ | refine rt_eq (q_X12_sure_119) ?_ | refine rt_eq (q_X12_sure_196) ?_ | refine rt_eq (q_X12_sure_132) ?_ | refine rt_eq (q_X12_sure_77b) ?_ | refine rt_eq (q_X12_sure_160) ?_ | refine rt_eq (q_X12_sure_217b) ?_ | refine rt_eq (q_X12_sure_168) ?_)
  repeat (first | refine rt_t (by decide) ?_ | refine rt_f (by decide) ?_)
  (first | refine rt_eq (q_X12_sure_0) ?_ | refine rt_eq (q_X12_sure_11) ?_ | refine rt_eq (q_X12_sure_19) ?_ | refine rt_eq (q_X12_sure_24) ?_ | refine rt_eq (q_X12_sure_60) ?_ | refine rt_eq (q_X12_sure_35) ?_ | refine rt_eq (q_X12_sure_47) ?_ | refine rt_eq (q_X12_sure_44) ?_ | refine rt_eq (q_X12_sure_52) ?_ | refine rt_eq (q_X12_sure_57) ?_ | refine rt_eq (q_X12_sure_69) ?_ | refine rt_eq (q_X12_sure_77) ?_ | refine rt_eq (q_X12_sure_217) ?_ | refine rt_eq (q_X12_sure_100) ?_ | refine rt_eq (q_X12_sure_103) ?_ | refine rt_eq (q_X12_sure_187) ?_ | refine rt_eq (q_X12_sure_119) ?_ | refine rt_eq (q_X12_sure_196) ?_ | refine rt_eq (q_X12_sure_132) ?_ | refine rt_eq (q_X12_sure_77b) ?_ | refine rt_eq (q_X12_sure_160) ?_ | refine rt_eq (q_X12_sure_217b) ?_ | refine rt_eq (q_X12_sure_168) ?_)
  refine rt_be (bad_f t0) ?_
  (first | refine rt_eq (q_X12_sure_0) ?_ | refine rt_eq (q_X12_sure_11) ?_ | refine rt_eq (q_X12_sure_19) ?_ | refine rt_eq (q_X12_sure_24) ?_ | refine rt_eq (q_X12_sure_60) ?_ | refine rt_eq (q_X12_sure_35) ?_ | refine rt_eq (q_X12_sure_47) ?_ | refine rt_eq (q_X12_sure_44) ?_ | refine rt_eq (q_X12_sure_52) ?_ | refine rt_eq (q_X12_sure_57) ?_ | refine rt_eq (q_X12_sure_69) ?_ | refine rt_eq (q_X12_sure_77) ?_ | refine rt_eq (q_X12_sure_217) ?_ | refine rt_eq (q_X12_sure_100) ?_ | refine rt_eq (q_X12_sure_103) ?_ | refine rt_eq (q_X12_sure_187) ?_ | refine rt_eq (q_X12_sure_119) ?_ | refine rt_eq (q_X12_sure_196) ?_ | refine rt_eq (q_X12_sure_132) ?_ | refine rt_eq (q_X12_sure_77b) ?_ | refine rt_eq (q_X12_sure_160) ?_ | refine rt_eq (q_X12_sure_217b) ?_ | refine rt_eq (q_X12_sure_168) ?_)
  repeat (first | refine rt_t (by decide) ?_ | refine rt_f (by decide) ?_)
  refine rt_bne (in_t (by (try simp (disch := omega) only [nI_leI, nI_ltI, nI_eq, nI_add, pk_mul, n_0add, Nat.zero_add, nI_clamp]) <;> omega) (by (try simp (disch := omega) only [nI_leI, nI_ltI, nI_eq, nI_add, pk_mul, n_0add, Nat.zero_add, nI_clamp]) <;> omega)) ?_
  (first | refine rt_eq (q_X12_sure_0) ?_ | refine rt_eq (q_X12_sure_11) ?_ | refine rt_eq (q_X12_sure_19) ?_ | refine rt_eq (q_X12_sure_24) ?_ | refine rt_eq (q_X12_sure_60) ?_ | refine rt_eq (q_X12_sure_35) ?_ | refine rt_eq (q_X12_sure_47) ?_ | refine rt_eq (q_X12_sure_44) ?_ | refine rt_eq (q_X12_sure_52) ?_ | refine rt_eq (q_X12_sure_57) ?_ | refine rt_eq (q_X12_sure_69) ?_ | refine rt_eq (q_X12_sure_77) ?_ | refine rt_eq (q_X12_sure_217) ?_ | refine rt_eq (q_X12_sure_100) ?_ | refine rt_eq (q_X12_sure_103) ?_ | refine rt_eq (q_X12_sure_187) ?_ | refine rt_eq (q_X12_sure_119) ?_ | refine rt_eq (q_X12_sure_196) ?_ | refine rt_eq (q_X12_sure_132) ?_ | refine rt_eq (q_X12_sure_77b) ?_ | refine rt_eq (q_X12_sure_160) ?_ | refine rt_eq (q_X12_sure_217b) ?_ | refine rt_eq (q_X12_sure_168) ?_)
  repeat (first | refine rt_t (by decide) ?_ | refine rt_f (by decide) ?_)
  refine rt_bne (in_t (by (try simp (disch := omega) only [nI_leI, nI_ltI, nI_eq, nI_add, pk_mul, n_0add, Nat.zero_add, nI_clamp]) <;> omega) (by (try simp (disch := omega) only [nI_leI, nI_ltI, nI_eq, nI_add, pk_mul, n_0add, Nat.zero_add, nI_clamp]) <;> omega)) ?_
  (first | refine rt_eq (q_X12_sure_0) ?_ | refine rt_eq (q_X12_sure_11) ?_ | refine rt_eq (q_X12_sure_19) ?_ | refine rt_eq (q_X12_sure_24) ?_ | refine rt_eq (q_X12_sure_60) ?_ | refine rt_eq (q_X12_sure_35) ?_ | refine rt_eq (q_X12_sure_47) ?_ | refine rt_eq (q_X12_sure_44) ?_ | refine rt_eq (q_X12_sure_52) ?_ | refine rt_eq (q_X12_sure_57) ?_ | refine rt_eq (q_X12_sure_69) ?_ | refine rt_eq (q_X12_sure_77) ?_ | refine rt_eq (q_X12_sure_217) ?_ | refine rt_eq (q_X12_sure_100) ?_ | refine rt_eq (q_X12_sure_103) ?_ | refine rt_eq (q_X12_sure_187) ?_ | refine rt_eq (q_X12_sure_119) ?_ | refine rt_eq (q_X12_sure_196) ?_ | refine rt_eq (q_X12_sure_132) ?_ | refine rt_eq (q_X12_sure_77b) ?_ | refine rt_eq (q_X12_sure_160) ?_ | refine rt_eq (q_X12_sure_217b) ?_ | refine rt_eq (q_X12_sure_168) ?_)
  repeat (first | refine rt_t (by decide) ?_ | refine rt_f (by decide) ?_)
  (first | refine rt_eq (q_X12_sure_0) ?_ | refine rt_eq (q_X12_sure_11) ?_ | refine rt_eq (q_X12_sure_19) ?_ | refine rt_eq (q_X12_sure_24) ?_ | refine rt_eq (q_X12_sure_60) ?_ | refine rt_eq (q_X12_sure_35) ?_ | refine rt_eq (q_X12_sure_47) ?_ | refine rt_eq (q_X12_sure_44) ?_ | refine rt_eq (q_X12_sure_52) ?_ | refine rt_eq (q_X12_sure_57) ?_ | refine rt_eq (q_X12_sure_69) ?_ | refine rt_eq (q_X12_sure_77) ?_ | refine rt_eq (q_X12_sure_217) ?_ | refine rt_eq (q_X12_sure_100) ?_ | refine rt_eq (q_X12_sure_103) ?_ | refine rt_eq (q_X12_sure_187) ?_ | refine rt_eq (q_X12_sure_119) ?_ | refine rt_eq (q_X12_sure_196) ?_ | refine rt_eq (q_X12_sure_132) ?_ | refine rt_eq (q_X12_sure_77b) ?_ | refine rt_eq (q_X12_sure_160) ?_ | refine rt_eq (q_X12_sure_217b) ?_ | refine rt_eq (q_X12_sure_168) ?_)
  refine rt_be (bad_f t0) ?_
  (first | refine rt_eq (q_X12_sure_0) ?_ | refine rt_eq (q_X12_sure_11) ?_ | refine rt_eq (q_X12_sure_19) ?_ | refine rt_eq (q_X12_sure_24) ?_ | refine rt_eq (q_X12_sure_60) ?_ | refine rt_eq (q_X12_sure_35) ?_ | refine rt_eq (q_X12_sure_47) ?_ | refine rt_eq (q_X12_sure_44) ?_ | refine rt_eq (q_X12_sure_52) ?_ | refine rt_eq (q_X12_sure_57) ?_ | refine rt_eq (q_X12_sure_69) ?_ | refine rt_eq (q_X12_sure_77) ?_ | refine rt_eq (q_X12_sure_217) ?_ | refine rt_eq (q_X12_sure_100) ?_ | refine rt_eq (q_X12_sure_103) ?_ | refine rt_eq (q_X12_sure_187) ?_ | refine rt_eq (q_X12_sure_119) ?_ | refine rt_eq (q_X12_sure_196) ?_ | refine rt_eq (q_X12_sure_132) ?_ | refine rt_eq (q_X12_sure_77b) ?_ | refine rt_eq (q_X12_sure_160) ?_ | refine rt_eq (q_X12_sure_217b) ?_ | refine rt_eq (q_X12_sure_168) ?_)
  repeat (first | refine rt_t (by decide) ?_ | refine rt_f (by decide) ?_)
  have R' := R
  rw [← e] at R'
  refine rt_bne (sp_manyIn ka_533 R') ?_
  (first | refine rt_eq (q_X12_sure_0) ?_ | refine rt_eq (q_X12_sure_11) ?_ | refine rt_eq (q_X12_sure_19) ?_ | refine rt_eq (q_X12_sure_24) ?_ | refine rt_eq (q_X12_sure_60) ?_ | refine rt_eq (q_X12_sure_35) ?_ | refine rt_eq (q_X12_sure_47) ?_ | refine rt_eq (q_X12_sure_44) ?_ | refine rt_eq (q_X12_sure_52) ?_ | refine rt_eq (q_X12_sure_57) ?_ | refine rt_eq (q_X12_sure_69) ?_ | refine rt_eq (q_X12_sure_77) ?_ | refine rt_eq (q_X12_sure_217) ?_ | refine rt_eq (q_X12_sure_100) ?_ | refine rt_eq (q_X12_sure_103) ?_ | refine rt_eq (q_X12_sure_187) ?_ | refine rt_eq (q_X12_sure_119) ?_ | refine rt_eq (q_X12_sure_196) ?_ | refine rt_eq (q_X12_sure_132) ?_ | refine rt_eq (q_X12_sure_77b) ?_ | refine rt_eq (q_X12_sure_160) ?_ | refine rt_eq (q_X12_sure_217b) ?_ | refine rt_eq (q_X12_sure_168) ?_)
  refine rt_mono (lp_su77 ok W hf hq hw S e R (2 ^ n) 0 I0 0 _ _ _ (by omega) fr_rfl rfl) ?_
  rintro I1 J1 ⟨f1, rfl⟩
  exact ⟨⟨fr_tr f0 (fr_mono f1 (by decide +kernel)), (f1 72 0 rfl).trans t0⟩, rfl⟩
theorem x_sure0 (K : I 3 2 = nI (h 0 2)) (ok : HOK h) (hx : ¬ ∃ p, p < h 0 2 ∧ x1 = nI p) : runM (d + 3) nX11_sure [.ref 0, .int x1, .int x2, .int x3] (mm L X I J) = some (.inr 0, mm L (X + 1) (ex0 I) J) := by
  have h4 := ok.2.2.1
  rw [e_X11_sure]
  (first | refine Eq.trans (q_X11_sure_0) ?_ | refine Eq.trans (q_X11_sure_5) ?_ | refine Eq.trans (q_X11_sure_13) ?_ | refine Eq.trans (q_X11_sure_29) ?_ | refine Eq.trans (q_X11_sure_22) ?_ | refine Eq.trans (q_X11_sure_30) ?_ | refine Eq.trans (q_X11_sure_33) ?_ | refine Eq.trans (q_X11_sure_46) ?_ | refine Eq.trans (q_X11_sure_64) ?_ | refine Eq.trans (q_X11_sure_105) ?_)
  exact bnd_x (xf_f K (by omega) hx)
theorem b_sure0 (K : I 76 2 = nI (h 0 2)) (ok : HOK h) (hx : ¬ ∃ p, p < h 0 2 ∧ x1 = nI p) : runM (d + 3) nX12_sure [.ref 72, .int x1, .int x2, .int x3] (mm L X I J) = rL (lN 0) (mm L X (bdM I 1 0) J) := by
  have h4 := ok.2.2.1
  rw [e_X12_sure]
  (first | refine Eq.trans (q_X12_sure_0) ?_ | refine Eq.trans (q_X12_sure_11) ?_ | refine Eq.trans (q_X12_sure_19) ?_ | refine Eq.trans (q_X12_sure_24) ?_ | refine Eq.trans (q_X12_sure_60) ?_ | refine Eq.trans (q_X12_sure_35) ?_ | refine Eq.trans (q_X12_sure_47) ?_ | refine Eq.trans (q_X12_sure_44) ?_ | refine Eq.trans (q_X12_sure_52) ?_ | refine Eq.trans (q_X12_sure_57) ?_ | refine Eq.trans (q_X12_sure_69) ?_ | refine Eq.trans (q_X12_sure_77) ?_ | refine Eq.trans (q_X12_sure_217) ?_ | refine Eq.trans (q_X12_sure_100) ?_ | refine Eq.trans (q_X12_sure_103) ?_ | refine Eq.trans (q_X12_sure_187) ?_ | refine Eq.trans (q_X12_sure_119) ?_ | refine Eq.trans (q_X12_sure_196) ?_ | refine Eq.trans (q_X12_sure_132) ?_ | refine Eq.trans (q_X12_sure_77b) ?_ | refine Eq.trans (q_X12_sure_160) ?_ | refine Eq.trans (q_X12_sure_217b) ?_ | refine Eq.trans (q_X12_sure_168) ?_)
  refine (bnd_e (if_f (by rw [up2_n (by decide)]; exact K) (by omega) hx)).trans ?_
  (first | refine Eq.trans (q_X12_sure_0) ?_ | refine Eq.trans (q_X12_sure_11) ?_ | refine Eq.trans (q_X12_sure_19) ?_ | refine Eq.trans (q_X12_sure_24) ?_ | refine Eq.trans (q_X12_sure_60) ?_ | refine Eq.trans (q_X12_sure_35) ?_ | refine Eq.trans (q_X12_sure_47) ?_ | refine Eq.trans (q_X12_sure_44) ?_ | refine Eq.trans (q_X12_sure_52) ?_ | refine Eq.trans (q_X12_sure_57) ?_ | refine Eq.trans (q_X12_sure_69) ?_ | refine Eq.trans (q_X12_sure_77) ?_ | refine Eq.trans (q_X12_sure_217) ?_ | refine Eq.trans (q_X12_sure_100) ?_ | refine Eq.trans (q_X12_sure_103) ?_ | refine Eq.trans (q_X12_sure_187) ?_ | refine Eq.trans (q_X12_sure_119) ?_ | refine Eq.trans (q_X12_sure_196) ?_ | refine Eq.trans (q_X12_sure_132) ?_ | refine Eq.trans (q_X12_sure_77b) ?_ | refine Eq.trans (q_X12_sure_160) ?_ | refine Eq.trans (q_X12_sure_217b) ?_ | refine Eq.trans (q_X12_sure_168) ?_)
  rw [if_pos rfl]
  (first | refine Eq.trans (q_X12_sure_0) ?_ | refine Eq.trans (q_X12_sure_11) ?_ | refine Eq.trans (q_X12_sure_19) ?_ | refine Eq.trans (q_X12_sure_24) ?_ | refine Eq.trans (q_X12_sure_60) ?_ | refine Eq.trans (q_X12_sure_35) ?_ | refine Eq.trans (q_X12_sure_47) ?_ | refine Eq.trans (q_X12_sure_44) ?_ | refine Eq.trans (q_X12_sure_52) ?_ | refine Eq.trans (q_X12_sure_57) ?_ | refine Eq.trans (q_X12_sure_69) ?_ | refine Eq.trans (q_X12_sure_77) ?_ | refine Eq.trans (q_X12_sure_217) ?_ | refine Eq.trans (q_X12_sure_100) ?_ | refine Eq.trans (q_X12_sure_103) ?_ | refine Eq.trans (q_X12_sure_187) ?_ | refine Eq.trans (q_X12_sure_119) ?_ | refine Eq.trans (q_X12_sure_196) ?_ | refine Eq.trans (q_X12_sure_132) ?_ | refine Eq.trans (q_X12_sure_77b) ?_ | refine Eq.trans (q_X12_sure_160) ?_ | refine Eq.trans (q_X12_sure_217b) ?_ | refine Eq.trans (q_X12_sure_168) ?_)
  refine (bnd_e (bad_t (by decide) (by decide) (by decide))).trans ?_
  (first | refine Eq.trans (q_X12_sure_0) ?_ | refine Eq.trans (q_X12_sure_11) ?_ | refine Eq.trans (q_X12_sure_19) ?_ | refine Eq.trans (q_X12_sure_24) ?_ | refine Eq.trans (q_X12_sure_60) ?_ | refine Eq.trans (q_X12_sure_35) ?_ | refine Eq.trans (q_X12_sure_47) ?_ | refine Eq.trans (q_X12_sure_44) ?_ | refine Eq.trans (q_X12_sure_52) ?_ | refine Eq.trans (q_X12_sure_57) ?_ | refine Eq.trans (q_X12_sure_69) ?_ | refine Eq.trans (q_X12_sure_77) ?_ | refine Eq.trans (q_X12_sure_217) ?_ | refine Eq.trans (q_X12_sure_100) ?_ | refine Eq.trans (q_X12_sure_103) ?_ | refine Eq.trans (q_X12_sure_187) ?_ | refine Eq.trans (q_X12_sure_119) ?_ | refine Eq.trans (q_X12_sure_196) ?_ | refine Eq.trans (q_X12_sure_132) ?_ | refine Eq.trans (q_X12_sure_77b) ?_ | refine Eq.trans (q_X12_sure_160) ?_ | refine Eq.trans (q_X12_sure_217b) ?_ | refine Eq.trans (q_X12_sure_168) ?_)
  rw [if_neg (by decide)]
  exact q_X12_sure_60
theorem x_sure1 {p : Nat} (K : I 3 2 = nI (h 0 2)) (ok : HOK h) (hp : p < h 0 2) (hx : ¬ ((∃ T, T ≤ 16 ∧ x2 = nI T) ∧ ∃ c, c ≤ 1 ∧ x3 = nI c)) : runM (d + 3) nX11_sure [.ref 0, .int (nI p), .int x2, .int x3] (mm L X I J) = some (.inr 1, mm L (X + 1) (ex1 I) J) := by
  have h5 := ok.2.2.1
  have tail : ∀ u4 u5 u6 u7 u8, runI (runM (d + 2)) iX11_sure (29, [some (.ref 0), some (.int (nI p)), some (.int x2), some (.int x3), u4, u5, u6, u7, u8], [.ref 0], mm L X I J) = some (.inr 1, mm L (X + 1) (ex1 I) J) := by
    intro u4 u5 u6 u7 u8
    (first | refine Eq.trans (q_X11_sure_0) ?_ | refine Eq.trans (q_X11_sure_5) ?_ | refine Eq.trans (q_X11_sure_13) ?_ | refine Eq.trans (q_X11_sure_29) ?_ | refine Eq.trans (q_X11_sure_22) ?_ | refine Eq.trans (q_X11_sure_30) ?_ | refine Eq.trans (q_X11_sure_33) ?_ | refine Eq.trans (q_X11_sure_46) ?_ | refine Eq.trans (q_X11_sure_64) ?_ | refine Eq.trans (q_X11_sure_105) ?_)
    (first | refine Eq.trans (q_X11_sure_0) ?_ | refine Eq.trans (q_X11_sure_5) ?_ | refine Eq.trans (q_X11_sure_13) ?_ | refine Eq.trans (q_X11_sure_29) ?_ | refine Eq.trans (q_X11_sure_22) ?_ | refine Eq.trans (q_X11_sure_30) ?_ | refine Eq.trans (q_X11_sure_33) ?_ | refine Eq.trans (q_X11_sure_46) ?_ | refine Eq.trans (q_X11_sure_64) ?_ | refine Eq.trans (q_X11_sure_105) ?_)
    exact bnd_x ex_f
  rw [e_X11_sure]
  (first | refine Eq.trans (q_X11_sure_0) ?_ | refine Eq.trans (q_X11_sure_5) ?_ | refine Eq.trans (q_X11_sure_13) ?_ | refine Eq.trans (q_X11_sure_29) ?_ | refine Eq.trans (q_X11_sure_22) ?_ | refine Eq.trans (q_X11_sure_30) ?_ | refine Eq.trans (q_X11_sure_33) ?_ | refine Eq.trans (q_X11_sure_46) ?_ | refine Eq.trans (q_X11_sure_64) ?_ | refine Eq.trans (q_X11_sure_105) ?_)
  refine (bnd_e (xf_t K (by omega) hp)).trans ?_
  (first | refine Eq.trans (q_X11_sure_0) ?_ | refine Eq.trans (q_X11_sure_5) ?_ | refine Eq.trans (q_X11_sure_13) ?_ | refine Eq.trans (q_X11_sure_29) ?_ | refine Eq.trans (q_X11_sure_22) ?_ | refine Eq.trans (q_X11_sure_30) ?_ | refine Eq.trans (q_X11_sure_33) ?_ | refine Eq.trans (q_X11_sure_46) ?_ | refine Eq.trans (q_X11_sure_64) ?_ | refine Eq.trans (q_X11_sure_105) ?_)
  by_cases c1 : nI 0 ≤ x2 ∧ x2 ≤ nI 16
  · refine (bndN_e (wi_t c1.1 c1.2)).trans ?_
    (first | refine Eq.trans (q_X11_sure_0) ?_ | refine Eq.trans (q_X11_sure_5) ?_ | refine Eq.trans (q_X11_sure_13) ?_ | refine Eq.trans (q_X11_sure_29) ?_ | refine Eq.trans (q_X11_sure_22) ?_ | refine Eq.trans (q_X11_sure_30) ?_ | refine Eq.trans (q_X11_sure_33) ?_ | refine Eq.trans (q_X11_sure_46) ?_ | refine Eq.trans (q_X11_sure_64) ?_ | refine Eq.trans (q_X11_sure_105) ?_)
    rw [if_neg (by decide)]
    refine (bndN_e (wi_f (fun q => hx ⟨(in_M (by decide)).mp c1, (in_M (by decide)).mp q⟩))).trans ?_
    (first | refine Eq.trans (q_X11_sure_0) ?_ | refine Eq.trans (q_X11_sure_5) ?_ | refine Eq.trans (q_X11_sure_13) ?_ | refine Eq.trans (q_X11_sure_29) ?_ | refine Eq.trans (q_X11_sure_22) ?_ | refine Eq.trans (q_X11_sure_30) ?_ | refine Eq.trans (q_X11_sure_33) ?_ | refine Eq.trans (q_X11_sure_46) ?_ | refine Eq.trans (q_X11_sure_64) ?_ | refine Eq.trans (q_X11_sure_105) ?_)
    rw [if_pos rfl]
    exact tail _ _ _ _ _
  · refine (bndN_e (wi_f c1)).trans ?_
    (first | refine Eq.trans (q_X11_sure_0) ?_ | refine Eq.trans (q_X11_sure_5) ?_ | refine Eq.trans (q_X11_sure_13) ?_ | refine Eq.trans (q_X11_sure_29) ?_ | refine Eq.trans (q_X11_sure_22) ?_ | refine Eq.trans (q_X11_sure_30) ?_ | refine Eq.trans (q_X11_sure_33) ?_ | refine Eq.trans (q_X11_sure_46) ?_ | refine Eq.trans (q_X11_sure_64) ?_ | refine Eq.trans (q_X11_sure_105) ?_)
    rw [if_pos rfl]
    exact tail _ _ _ _ _
theorem b_sure1 {p : Nat} (K : I 76 2 = nI (h 0 2)) (ok : HOK h) (hp : p < h 0 2) (hx : ¬ ((∃ T, T ≤ 16 ∧ x2 = nI T) ∧ ∃ c, c ≤ 1 ∧ x3 = nI c)) : runM (d + 3) nX12_sure [.ref 72, .int (nI p), .int x2, .int x3] (mm L X I J) = rL (lN 0) (mm L X (bdM I 2 1) J) := by
  have h5 := ok.2.2.1
  have tail : ∀ u4 u5 u6 u7 u8 u9 u10, runI (runM (d + 2)) iX12_sure (47, [some (.ref 72), some (.int (nI p)), some (.int x2), some (.int x3), u4, u5, u6, u7, u8, u9, u10], [.ref 72], mm L X (up2 I 72 0 (nI 0)) J) = rL (lN 0) (mm L X (bdM I 2 1) J) := by
    intro u4 u5 u6 u7 u8 u9 u10
    (first | refine Eq.trans (q_X12_sure_0) ?_ | refine Eq.trans (q_X12_sure_11) ?_ | refine Eq.trans (q_X12_sure_19) ?_ | refine Eq.trans (q_X12_sure_24) ?_ | refine Eq.trans (q_X12_sure_60) ?_ | refine Eq.trans (q_X12_sure_35) ?_ | refine Eq.trans (q_X12_sure_47) ?_ | refine Eq.trans (q_X12_sure_44) ?_ | refine Eq.trans (q_X12_sure_52) ?_ | refine Eq.trans (q_X12_sure_57) ?_ | refine Eq.trans (q_X12_sure_69) ?_ | refine Eq.trans (q_X12_sure_77) ?_ | refine Eq.trans (q_X12_sure_217) ?_ | refine Eq.trans (q_X12_sure_100) ?_ | refine Eq.trans (q_X12_sure_103) ?_ | refine Eq.trans (q_X12_sure_187) ?_ | refine Eq.trans (q_X12_sure_119) ?_ | refine Eq.trans (q_X12_sure_196) ?_ | refine Eq.trans (q_X12_sure_132) ?_ | refine Eq.trans (q_X12_sure_77b) ?_ | refine Eq.trans (q_X12_sure_160) ?_ | refine Eq.trans (q_X12_sure_217b) ?_ | refine Eq.trans (q_X12_sure_168) ?_)
    (first | refine Eq.trans (q_X12_sure_0) ?_ | refine Eq.trans (q_X12_sure_11) ?_ | refine Eq.trans (q_X12_sure_19) ?_ | refine Eq.trans (q_X12_sure_24) ?_ | refine Eq.trans (q_X12_sure_60) ?_ | refine Eq.trans (q_X12_sure_35) ?_ | refine Eq.trans (q_X12_sure_47) ?_ | refine Eq.trans (q_X12_sure_44) ?_ | refine Eq.trans (q_X12_sure_52) ?_ | refine Eq.trans (q_X12_sure_57) ?_ | refine Eq.trans (q_X12_sure_69) ?_ | refine Eq.trans (q_X12_sure_77) ?_ | refine Eq.trans (q_X12_sure_217) ?_ | refine Eq.trans (q_X12_sure_100) ?_ | refine Eq.trans (q_X12_sure_103) ?_ | refine Eq.trans (q_X12_sure_187) ?_ | refine Eq.trans (q_X12_sure_119) ?_ | refine Eq.trans (q_X12_sure_196) ?_ | refine Eq.trans (q_X12_sure_132) ?_ | refine Eq.trans (q_X12_sure_77b) ?_ | refine Eq.trans (q_X12_sure_160) ?_ | refine Eq.trans (q_X12_sure_217b) ?_ | refine Eq.trans (q_X12_sure_168) ?_)
    refine (bnd_e (bad_t (by decide) (by decide) (by decide))).trans ?_
    (first | refine Eq.trans (q_X12_sure_0) ?_ | refine Eq.trans (q_X12_sure_11) ?_ | refine Eq.trans (q_X12_sure_19) ?_ | refine Eq.trans (q_X12_sure_24) ?_ | refine Eq.trans (q_X12_sure_60) ?_ | refine Eq.trans (q_X12_sure_35) ?_ | refine Eq.trans (q_X12_sure_47) ?_ | refine Eq.trans (q_X12_sure_44) ?_ | refine Eq.trans (q_X12_sure_52) ?_ | refine Eq.trans (q_X12_sure_57) ?_ | refine Eq.trans (q_X12_sure_69) ?_ | refine Eq.trans (q_X12_sure_77) ?_ | refine Eq.trans (q_X12_sure_217) ?_ | refine Eq.trans (q_X12_sure_100) ?_ | refine Eq.trans (q_X12_sure_103) ?_ | refine Eq.trans (q_X12_sure_187) ?_ | refine Eq.trans (q_X12_sure_119) ?_ | refine Eq.trans (q_X12_sure_196) ?_ | refine Eq.trans (q_X12_sure_132) ?_ | refine Eq.trans (q_X12_sure_77b) ?_ | refine Eq.trans (q_X12_sure_160) ?_ | refine Eq.trans (q_X12_sure_217b) ?_ | refine Eq.trans (q_X12_sure_168) ?_)
    rw [if_neg (by decide)]
    exact q_X12_sure_60
  rw [e_X12_sure]
  (first | refine Eq.trans (q_X12_sure_0) ?_ | refine Eq.trans (q_X12_sure_11) ?_ | refine Eq.trans (q_X12_sure_19) ?_ | refine Eq.trans (q_X12_sure_24) ?_ | refine Eq.trans (q_X12_sure_60) ?_ | refine Eq.trans (q_X12_sure_35) ?_ | refine Eq.trans (q_X12_sure_47) ?_ | refine Eq.trans (q_X12_sure_44) ?_ | refine Eq.trans (q_X12_sure_52) ?_ | refine Eq.trans (q_X12_sure_57) ?_ | refine Eq.trans (q_X12_sure_69) ?_ | refine Eq.trans (q_X12_sure_77) ?_ | refine Eq.trans (q_X12_sure_217) ?_ | refine Eq.trans (q_X12_sure_100) ?_ | refine Eq.trans (q_X12_sure_103) ?_ | refine Eq.trans (q_X12_sure_187) ?_ | refine Eq.trans (q_X12_sure_119) ?_ | refine Eq.trans (q_X12_sure_196) ?_ | refine Eq.trans (q_X12_sure_132) ?_ | refine Eq.trans (q_X12_sure_77b) ?_ | refine Eq.trans (q_X12_sure_160) ?_ | refine Eq.trans (q_X12_sure_217b) ?_ | refine Eq.trans (q_X12_sure_168) ?_)
  refine (bnd_e (if_t (by rw [up2_n (by decide)]; exact K) (by omega) hp)).trans ?_
  (first | refine Eq.trans (q_X12_sure_0) ?_ | refine Eq.trans (q_X12_sure_11) ?_ | refine Eq.trans (q_X12_sure_19) ?_ | refine Eq.trans (q_X12_sure_24) ?_ | refine Eq.trans (q_X12_sure_60) ?_ | refine Eq.trans (q_X12_sure_35) ?_ | refine Eq.trans (q_X12_sure_47) ?_ | refine Eq.trans (q_X12_sure_44) ?_ | refine Eq.trans (q_X12_sure_52) ?_ | refine Eq.trans (q_X12_sure_57) ?_ | refine Eq.trans (q_X12_sure_69) ?_ | refine Eq.trans (q_X12_sure_77) ?_ | refine Eq.trans (q_X12_sure_217) ?_ | refine Eq.trans (q_X12_sure_100) ?_ | refine Eq.trans (q_X12_sure_103) ?_ | refine Eq.trans (q_X12_sure_187) ?_ | refine Eq.trans (q_X12_sure_119) ?_ | refine Eq.trans (q_X12_sure_196) ?_ | refine Eq.trans (q_X12_sure_132) ?_ | refine Eq.trans (q_X12_sure_77b) ?_ | refine Eq.trans (q_X12_sure_160) ?_ | refine Eq.trans (q_X12_sure_217b) ?_ | refine Eq.trans (q_X12_sure_168) ?_)
  rw [if_neg (by decide)]
  (first | refine Eq.trans (q_X12_sure_0) ?_ | refine Eq.trans (q_X12_sure_11) ?_ | refine Eq.trans (q_X12_sure_19) ?_ | refine Eq.trans (q_X12_sure_24) ?_ | refine Eq.trans (q_X12_sure_60) ?_ | refine Eq.trans (q_X12_sure_35) ?_ | refine Eq.trans (q_X12_sure_47) ?_ | refine Eq.trans (q_X12_sure_44) ?_ | refine Eq.trans (q_X12_sure_52) ?_ | refine Eq.trans (q_X12_sure_57) ?_ | refine Eq.trans (q_X12_sure_69) ?_ | refine Eq.trans (q_X12_sure_77) ?_ | refine Eq.trans (q_X12_sure_217) ?_ | refine Eq.trans (q_X12_sure_100) ?_ | refine Eq.trans (q_X12_sure_103) ?_ | refine Eq.trans (q_X12_sure_187) ?_ | refine Eq.trans (q_X12_sure_119) ?_ | refine Eq.trans (q_X12_sure_196) ?_ | refine Eq.trans (q_X12_sure_132) ?_ | refine Eq.trans (q_X12_sure_77b) ?_ | refine Eq.trans (q_X12_sure_160) ?_ | refine Eq.trans (q_X12_sure_217b) ?_ | refine Eq.trans (q_X12_sure_168) ?_)
  refine (bnd_e (bad_f up2_s)).trans ?_
  (first | refine Eq.trans (q_X12_sure_0) ?_ | refine Eq.trans (q_X12_sure_11) ?_ | refine Eq.trans (q_X12_sure_19) ?_ | refine Eq.trans (q_X12_sure_24) ?_ | refine Eq.trans (q_X12_sure_60) ?_ | refine Eq.trans (q_X12_sure_35) ?_ | refine Eq.trans (q_X12_sure_47) ?_ | refine Eq.trans (q_X12_sure_44) ?_ | refine Eq.trans (q_X12_sure_52) ?_ | refine Eq.trans (q_X12_sure_57) ?_ | refine Eq.trans (q_X12_sure_69) ?_ | refine Eq.trans (q_X12_sure_77) ?_ | refine Eq.trans (q_X12_sure_217) ?_ | refine Eq.trans (q_X12_sure_100) ?_ | refine Eq.trans (q_X12_sure_103) ?_ | refine Eq.trans (q_X12_sure_187) ?_ | refine Eq.trans (q_X12_sure_119) ?_ | refine Eq.trans (q_X12_sure_196) ?_ | refine Eq.trans (q_X12_sure_132) ?_ | refine Eq.trans (q_X12_sure_77b) ?_ | refine Eq.trans (q_X12_sure_160) ?_ | refine Eq.trans (q_X12_sure_217b) ?_ | refine Eq.trans (q_X12_sure_168) ?_)
  rw [if_pos rfl]
  by_cases c1 : nI 0 ≤ x2 ∧ x2 ≤ nI 16
  · refine (bndN_e (in_t c1.1 c1.2)).trans ?_
    (first | refine Eq.trans (q_X12_sure_0) ?_ | refine Eq.trans (q_X12_sure_11) ?_ | refine Eq.trans (q_X12_sure_19) ?_ | refine Eq.trans (q_X12_sure_24) ?_ | refine Eq.trans (q_X12_sure_60) ?_ | refine Eq.trans (q_X12_sure_35) ?_ | refine Eq.trans (q_X12_sure_47) ?_ | refine Eq.trans (q_X12_sure_44) ?_ | refine Eq.trans (q_X12_sure_52) ?_ | refine Eq.trans (q_X12_sure_57) ?_ | refine Eq.trans (q_X12_sure_69) ?_ | refine Eq.trans (q_X12_sure_77) ?_ | refine Eq.trans (q_X12_sure_217) ?_ | refine Eq.trans (q_X12_sure_100) ?_ | refine Eq.trans (q_X12_sure_103) ?_ | refine Eq.trans (q_X12_sure_187) ?_ | refine Eq.trans (q_X12_sure_119) ?_ | refine Eq.trans (q_X12_sure_196) ?_ | refine Eq.trans (q_X12_sure_132) ?_ | refine Eq.trans (q_X12_sure_77b) ?_ | refine Eq.trans (q_X12_sure_160) ?_ | refine Eq.trans (q_X12_sure_217b) ?_ | refine Eq.trans (q_X12_sure_168) ?_)
    rw [if_neg (by decide)]
    refine (bndN_e (in_f (fun q => hx ⟨(in_M (by decide)).mp c1, (in_M (by decide)).mp q⟩))).trans ?_
    (first | refine Eq.trans (q_X12_sure_0) ?_ | refine Eq.trans (q_X12_sure_11) ?_ | refine Eq.trans (q_X12_sure_19) ?_ | refine Eq.trans (q_X12_sure_24) ?_ | refine Eq.trans (q_X12_sure_60) ?_ | refine Eq.trans (q_X12_sure_35) ?_ | refine Eq.trans (q_X12_sure_47) ?_ | refine Eq.trans (q_X12_sure_44) ?_ | refine Eq.trans (q_X12_sure_52) ?_ | refine Eq.trans (q_X12_sure_57) ?_ | refine Eq.trans (q_X12_sure_69) ?_ | refine Eq.trans (q_X12_sure_77) ?_ | refine Eq.trans (q_X12_sure_217) ?_ | refine Eq.trans (q_X12_sure_100) ?_ | refine Eq.trans (q_X12_sure_103) ?_ | refine Eq.trans (q_X12_sure_187) ?_ | refine Eq.trans (q_X12_sure_119) ?_ | refine Eq.trans (q_X12_sure_196) ?_ | refine Eq.trans (q_X12_sure_132) ?_ | refine Eq.trans (q_X12_sure_77b) ?_ | refine Eq.trans (q_X12_sure_160) ?_ | refine Eq.trans (q_X12_sure_217b) ?_ | refine Eq.trans (q_X12_sure_168) ?_)
    rw [if_pos rfl]
    exact tail _ _ _ _ _ _ _
  · refine (bndN_e (in_f c1)).trans ?_
    (first | refine Eq.trans (q_X12_sure_0) ?_ | refine Eq.trans (q_X12_sure_11) ?_ | refine Eq.trans (q_X12_sure_19) ?_ | refine Eq.trans (q_X12_sure_24) ?_ | refine Eq.trans (q_X12_sure_60) ?_ | refine Eq.trans (q_X12_sure_35) ?_ | refine Eq.trans (q_X12_sure_47) ?_ | refine Eq.trans (q_X12_sure_44) ?_ | refine Eq.trans (q_X12_sure_52) ?_ | refine Eq.trans (q_X12_sure_57) ?_ | refine Eq.trans (q_X12_sure_69) ?_ | refine Eq.trans (q_X12_sure_77) ?_ | refine Eq.trans (q_X12_sure_217) ?_ | refine Eq.trans (q_X12_sure_100) ?_ | refine Eq.trans (q_X12_sure_103) ?_ | refine Eq.trans (q_X12_sure_187) ?_ | refine Eq.trans (q_X12_sure_119) ?_ | refine Eq.trans (q_X12_sure_196) ?_ | refine Eq.trans (q_X12_sure_132) ?_ | refine Eq.trans (q_X12_sure_77b) ?_ | refine Eq.trans (q_X12_sure_160) ?_ | refine Eq.trans (q_X12_sure_217b) ?_ | refine Eq.trans (q_X12_sure_168) ?_)
    rw [if_pos rfl]
    exact tail _ _ _ _ _ _ _
end SV
