/-! LOOK BY THE MODEL -/
def tlM (I : MI32) (t : Tl) : Prop := ∀ i v, i < 6 → v < 100 → I (626 + i) v = nI (t i v)
def fLy : Fls := cells 626 6 ++ [(450, 0), (451, 0), (535, 0)]
section LM
variable {d L X : Nat} {I : MI32} {J : MI64} {h : Hs} {nL n : Nat} {cd : Cd} {N : Nt} {bk : Bk} {p b w : Nat} {t : Tl} {x1 x2 x3 x4 : Int32}
theorem fLy1 : dj fLy sHM = true := by decide +kernel
theorem fLy2 : dj fLy sLM = true := by decide +kernel
theorem fLy3 : dj fLy [(533, 0)] = true := by decide +kernel
theorem fLy4 : dj fLy sbk = true := by decide +kernel
theorem fLy5 : sbF [(450, 0), (451, 0), (535, 0)] fLy = true := by decide +kernel
theorem fLy_up {I' : MI32} {k v : Nat} {y : Int32} (hf : Fr fLy I I') (hk : k < 6) : Fr fLy I (up2 I' (626 + k) v y) := fr_up hf (by unfold fLy; rw [inF_app, in_cells hk, Bool.true_or])
theorem LY_f {I' : MI32} {nl : Nat} {ln : Ln} (C : LY I h nL cd n N nl ln) (ok : HOK h) (g : Fr fLy I I') : LY I' h nL cd n N nl ln := LY_fr C ok g fLy1 fLy2 fLy3 fLy4
theorem tlM_f {I' : MI32} (T : tlM I t) (g : Fr [(450, 0), (451, 0), (535, 0)] I I') : tlM I' t := by
  intro i v hi hv
  have hin : inF [(450, 0), (451, 0), (535, 0)] (626 + i) v = false := by
    rw [Bool.eq_false_iff]
    intro z
    rw [inF_t] at z
    obtain ⟨e, z1, z2, -⟩ := z
    simp only [List.mem_cons, List.not_mem_nil, or_false] at z1
    rcases z1 with rfl | rfl | rfl <;> simp only at z2 <;> omega
  rw [g (626 + i) v hin]
  exact T i v hi hv
/-! all is 0 -/
theorem lp_z56 {r : Option Value} {Q : MI32 → MI64 → Prop} {u7 : Option Value} {k : Nat} (hk : k < 6) (go : ∀ I' u6, Fr fLy I I' → (∀ v, v < 100 → I' (626 + k) v = nI 0) → (∀ i, i < k → ∀ v, I' (626 + i) v = I (626 + i) v) → Rt L X (c_X12_look_46 d L X I' J x1 x2 x3 x4 (nI (k + 1)) u6 u7) r Q) : ∀ q j I', j + q = 100 → Fr fLy I I' → (∀ v, v < j → I' (626 + k) v = nI 0) → (∀ i, i < k → ∀ v, I' (626 + i) v = I (626 + i) v) → Rt L X (c_X12_look_56 d L X I' J x1 x2 x3 x4 (nI k) (nI j) u7) r Q
  | 0, j, I', hj, hf, hl, ho => by
    have e : j = 100 := by omega
    subst e
    (first | refine rt_eq (q_X12_look_0) ?_ | refine rt_eq (q_X12_look_12) ?_ | refine rt_eq (q_X12_look_20) ?_ | refine rt_eq (q_X12_look_25) ?_ | refine rt_eq (q_X12_look_37) ?_ | refine rt_eq (q_X12_look_46) ?_ | refine rt_eq (q_X12_look_89) ?_ | refine rt_eq (q_X12_look_56) ?_ | refine rt_eq (q_X12_look_165) ?_ | refine rt_eq (q_X12_look_98) ?_ | refine rt_eq (q_X12_look_177) ?_ | refine rt_eq (q_X12_look_113) ?_ | refine rt_eq (q_X12_look_189) ?_ | refine rt_eq (q_X12_look_241) ?_ | refine rt_eq (q_X12_look_150) ?_ | refine rt_eq (q_X12_look_119) ?_ | refine rt_eq (q_X12_look_234) ?_ | refine rt_eq (q_X12_look_211) ?_)
    refine rt_t (by decide) ?_
    rw [nI_add]
    exact go I' _ hf hl ho
  | q + 1, j, I', hj, hf, hl, ho => by
    have ih := lp_z56 hk go q (j + 1)
    (first | refine rt_eq (q_X12_look_0) ?_ | refine rt_eq (q_X12_look_12) ?_ | refine rt_eq (q_X12_look_20) ?_ | refine rt_eq (q_X12_look_25) ?_ | refine rt_eq (q_X12_look_37) ?_ | refine rt_eq (q_X12_look_46) ?_ | refine rt_eq (q_X12_look_89) ?_ | refine rt_eq (q_X12_look_56) ?_ | refine rt_eq (q_X12_look_165) ?_ | refine rt_eq (q_X12_look_98) ?_ | refine rt_eq (q_X12_look_177) ?_ | refine rt_eq (q_X12_look_113) ?_ | refine rt_eq (q_X12_look_189) ?_ | refine rt_eq (q_X12_look_241) ?_ | refine rt_eq (q_X12_look_150) ?_ | refine rt_eq (q_X12_look_119) ?_ | refine rt_eq (q_X12_look_234) ?_ | refine rt_eq (q_X12_look_211) ?_)
    refine rt_f (by (try simp (disch := omega) only [nI_leI, nI_ltI, nI_eq, nI_add, pk_mul, n_0add, Nat.zero_add, nI_clamp]) <;> omega) (rt_gd (inb_n (by omega) (by decide)) (rt_gd (inb_n (by omega) (by decide)) ?_))
    rw [nI_clamp (show k < 2 ^ 31 by omega), nI_clamp (show j < 2 ^ 31 by omega), nI_add]
    refine ih _ (by omega) (fLy_up hf hk) ?_ ?_
    · intro v hv
      rw [up2_at]
      by_cases z : v = j
      · rw [if_pos z]
      · rw [if_neg z]
        exact hl v (by omega)
    · intro i hi v
      rw [up2_n (by omega)]
      exact ho i hi v
theorem lp_z46 {r : Option Value} {Q : MI32 → MI64 → Prop} {u7 : Option Value} (go : ∀ I' u6 u7, Fr fLy I I' → tlM I' (fun _ _ => 0) → Rt L X (c_X12_look_89 d L X I' J x1 x2 x3 x4 (nI 0) u6 u7) r Q) : ∀ q k I' u6, k + q = 6 → Fr fLy I I' → (∀ i, i < k → ∀ v, v < 100 → I' (626 + i) v = nI 0) → Rt L X (c_X12_look_46 d L X I' J x1 x2 x3 x4 (nI k) u6 u7) r Q
  | 0, k, I', u6, hk, hf, hl => by
    have e : k = 6 := by omega
    subst e
    (first | refine rt_eq (q_X12_look_0) ?_ | refine rt_eq (q_X12_look_12) ?_ | refine rt_eq (q_X12_look_20) ?_ | refine rt_eq (q_X12_look_25) ?_ | refine rt_eq (q_X12_look_37) ?_ | refine rt_eq (q_X12_look_46) ?_ | refine rt_eq (q_X12_look_89) ?_ | refine rt_eq (q_X12_look_56) ?_ | refine rt_eq (q_X12_look_165) ?_ | refine rt_eq (q_X12_look_98) ?_ | refine rt_eq (q_X12_look_177) ?_ | refine rt_eq (q_X12_look_113) ?_ | refine rt_eq (q_X12_look_189) ?_ | refine rt_eq (q_X12_look_241) ?_ | refine rt_eq (q_X12_look_150) ?_ | refine rt_eq (q_X12_look_119) ?_ | refine rt_eq (q_X12_look_234) ?_ | refine rt_eq (q_X12_look_211) ?_)
    refine rt_t (by decide) ?_
    exact go I' _ _ hf (fun i v hi hv => hl i hi v hv)
  | q + 1, k, I', u6, hk, hf, hl => by
    have ih := lp_z46 (u7 := u7) go q (k + 1)
    (first | refine rt_eq (q_X12_look_0) ?_ | refine rt_eq (q_X12_look_12) ?_ | refine rt_eq (q_X12_look_20) ?_ | refine rt_eq (q_X12_look_25) ?_ | refine rt_eq (q_X12_look_37) ?_ | refine rt_eq (q_X12_look_46) ?_ | refine rt_eq (q_X12_look_89) ?_ | refine rt_eq (q_X12_look_56) ?_ | refine rt_eq (q_X12_look_165) ?_ | refine rt_eq (q_X12_look_98) ?_ | refine rt_eq (q_X12_look_177) ?_ | refine rt_eq (q_X12_look_113) ?_ | refine rt_eq (q_X12_look_189) ?_ | refine rt_eq (q_X12_look_241) ?_ | refine rt_eq (q_X12_look_150) ?_ | refine rt_eq (q_X12_look_119) ?_ | refine rt_eq (q_X12_look_234) ?_ | refine rt_eq (q_X12_look_211) ?_)
    refine rt_f (by (try simp (disch := omega) only [nI_leI, nI_ltI, nI_eq, nI_add, pk_mul, n_0add, Nat.zero_add, nI_clamp]) <;> omega) ?_
    refine lp_z56 (I := I') (by omega) (fun I2 u6 f2 z2 o2 => ?_) 100 0 I' (by omega) fr_rfl (fun v hv => absurd hv (Nat.not_lt_zero v)) (fun i _ v => rfl)
    refine ih I2 u6 (by omega) (fr_tr hf f2) ?_
    intro i hi v hv
    rcases Nat.eq_or_lt_of_le (Nat.le_of_lt_succ hi) with e | e
    · rw [e]
      exact z2 v hv
    · rw [o2 i e v]
      exact hl i e v hv
/-! counted -/
theorem lp_t119 {r : Option Value} {Q : MI32 → MI64 → Prop} {F : Nat → Int32} {x5 x6 : Int32} (hn : n ≤ 6) (hF : ∀ k, k < n → I 535 k = F (k + 1)) (hv : ∀ k, F k = nI (nv (F k)) ∧ nv (F k) ≤ 99) (go : ∀ I' u7, Fr (cells 626 6 ++ []) I I' → tlM I' (tlA n F t) → Rt L X (runI (runM d) iX12_look (150, [some (.ref 72), some (.int x1), some (.int (nI n)), some (.int x3), some (.int x4), some (.int x5), some (.int x6), u7], [], mm L X I' J)) r Q) : ∀ q j I', j + q = n → Fr (cells 626 6 ++ []) I I' → tlM I' (tlA j F t) → Rt L X (c_X12_look_119 d L X I' J x1 (nI n) x3 x4 x5 x6 (nI j)) r Q
  | 0, j, I', hj, hf, hT => by
    have e : j = n := by omega
    subst e
    (first | refine rt_eq (q_X12_look_0) ?_ | refine rt_eq (q_X12_look_12) ?_ | refine rt_eq (q_X12_look_20) ?_ | refine rt_eq (q_X12_look_25) ?_ | refine rt_eq (q_X12_look_37) ?_ | refine rt_eq (q_X12_look_46) ?_ | refine rt_eq (q_X12_look_89) ?_ | refine rt_eq (q_X12_look_56) ?_ | refine rt_eq (q_X12_look_165) ?_ | refine rt_eq (q_X12_look_98) ?_ | refine rt_eq (q_X12_look_177) ?_ | refine rt_eq (q_X12_look_113) ?_ | refine rt_eq (q_X12_look_189) ?_ | refine rt_eq (q_X12_look_241) ?_ | refine rt_eq (q_X12_look_150) ?_ | refine rt_eq (q_X12_look_119) ?_ | refine rt_eq (q_X12_look_234) ?_ | refine rt_eq (q_X12_look_211) ?_)
    refine rt_t (by (try simp (disch := omega) only [nI_leI, nI_ltI, nI_eq, nI_add, pk_mul, n_0add, Nat.zero_add, nI_clamp]) <;> omega) ?_
    exact go I' _ hf hT
  | q + 1, j, I', hj, hf, hT => by
    have ih := lp_t119 hn hF hv go q (j + 1)
    obtain ⟨v1, v2⟩ := hv (j + 1)
    have e535 : I' 535 j = F (j + 1) := by
      rw [hf 535 j rfl]
      exact hF j (by omega)
    (first | refine rt_eq (q_X12_look_0) ?_ | refine rt_eq (q_X12_look_12) ?_ | refine rt_eq (q_X12_look_20) ?_ | refine rt_eq (q_X12_look_25) ?_ | refine rt_eq (q_X12_look_37) ?_ | refine rt_eq (q_X12_look_46) ?_ | refine rt_eq (q_X12_look_89) ?_ | refine rt_eq (q_X12_look_56) ?_ | refine rt_eq (q_X12_look_165) ?_ | refine rt_eq (q_X12_look_98) ?_ | refine rt_eq (q_X12_look_177) ?_ | refine rt_eq (q_X12_look_113) ?_ | refine rt_eq (q_X12_look_189) ?_ | refine rt_eq (q_X12_look_241) ?_ | refine rt_eq (q_X12_look_150) ?_ | refine rt_eq (q_X12_look_119) ?_ | refine rt_eq (q_X12_look_234) ?_ | refine rt_eq (q_X12_look_211) ?_)
    refine rt_f (by (try simp (disch := omega) only [nI_leI, nI_ltI, nI_eq, nI_add, pk_mul, n_0add, Nat.zero_add, nI_clamp]) <;> omega) (rt_gd (inb_n (by omega) (by decide)) ?_)
    rw [nI_clamp (show j < 2 ^ 31 by omega), e535]
    generalize hw : nv (F (j + 1)) = v at v1 v2
    rw [v1]
    refine rt_gd (inb_n (by omega) (by decide)) ?_
    rw [nI_clamp (show v < 2 ^ 31 by omega), hT j v (by omega) (by omega), nI_add, nI_add]
    refine ih _ (by omega) (fr_up hf (by rw [inF_app, in_cells (by omega), Bool.true_or])) ?_
    intro i v' hi hv'
    by_cases z : i = j
    · subst z
      rw [up2_at]
      by_cases y : v' = v
      · rw [if_pos y, y]
        unfold tlA
        rw [if_neg (fun q => by omega), if_pos ⟨by omega, hw.symm⟩]
      · rw [if_neg y, hT i v' hi hv']
        unfold tlA
        rw [if_neg (fun q => by omega), if_neg (fun q => y (q.2.trans hw))]
    · rw [up2_n (by omega), hT i v' hi hv']
      unfold tlA
      by_cases y : i < j ∧ v' = nv (F (i + 1))
      · rw [if_pos y, if_pos ⟨by omega, y.2⟩]
      · rw [if_neg y, if_neg (fun q => y ⟨by omega, q.2⟩)]
theorem lp_t98 {nl : Nat} {ln : Ln} {r : Option Value} {Q : MI32 → MI64 → Prop} {tf : Tl} (ok : HOK h) (W : wfC cd nL 0 0) (z29 : N 29 = nI (nv (N 29)) ∧ nv (N 29) ≤ 99) (C : LY I h nL cd n N nl ln) (BR : bkR nl ln bk) (go : ∀ I' u6 u7, Fr fLy I I' → tlM I' tf → Rt L X (c_X12_look_89 (d + 7) L X I' J x1 (nI n) x3 x4 (nI (p + 1)) u6 u7) r Q) : ∀ q b I' t u7, b + q = 31 → Fr fLy I I' → tlM I' t → accF (tlS h nL cd n N bk p) q b t = tf → Rt L X (c_X12_look_98 (d + 7) L X I' J x1 (nI n) x3 x4 (nI p) (nI b) u7) r Q
  | 0, b, I', t, u7, hb, hf, hT, he => by
    have a1 : t = tf := he
    subst a1
    (first | refine rt_eq (q_X12_look_0) ?_ | refine rt_eq (q_X12_look_12) ?_ | refine rt_eq (q_X12_look_20) ?_ | refine rt_eq (q_X12_look_25) ?_ | refine rt_eq (q_X12_look_37) ?_ | refine rt_eq (q_X12_look_46) ?_ | refine rt_eq (q_X12_look_89) ?_ | refine rt_eq (q_X12_look_56) ?_ | refine rt_eq (q_X12_look_165) ?_ | refine rt_eq (q_X12_look_98) ?_ | refine rt_eq (q_X12_look_177) ?_ | refine rt_eq (q_X12_look_113) ?_ | refine rt_eq (q_X12_look_189) ?_ | refine rt_eq (q_X12_look_241) ?_ | refine rt_eq (q_X12_look_150) ?_ | refine rt_eq (q_X12_look_119) ?_ | refine rt_eq (q_X12_look_234) ?_ | refine rt_eq (q_X12_look_211) ?_)
    refine rt_t (by (try simp (disch := omega) only [nI_leI, nI_ltI, nI_eq, nI_add, pk_mul, n_0add, Nat.zero_add, nI_clamp]) <;> omega) ?_
    rw [nI_add]
    exact go I' _ _ hf hT
  | q + 1, b, I', t, u7, hb, hf, hT, he => by
    have ih := lp_t98 ok W z29 C BR go q (b + 1)
    have he' : accF (tlS h nL cd n N bk p) q (b + 1) (tlS h nL cd n N bk p b t) = tf := he
    have C' := LY_f C ok hf
    obtain ⟨S, e, R, B⟩ := C'
    subst e
    have hn := R.1.1
    have hv := flK_le (h := h) (nL := nL) (cd := cd) (p := p) (b := b) (by omega) z29
    (first | refine rt_eq (q_X12_look_0) ?_ | refine rt_eq (q_X12_look_12) ?_ | refine rt_eq (q_X12_look_20) ?_ | refine rt_eq (q_X12_look_25) ?_ | refine rt_eq (q_X12_look_37) ?_ | refine rt_eq (q_X12_look_46) ?_ | refine rt_eq (q_X12_look_89) ?_ | refine rt_eq (q_X12_look_56) ?_ | refine rt_eq (q_X12_look_165) ?_ | refine rt_eq (q_X12_look_98) ?_ | refine rt_eq (q_X12_look_177) ?_ | refine rt_eq (q_X12_look_113) ?_ | refine rt_eq (q_X12_look_189) ?_ | refine rt_eq (q_X12_look_241) ?_ | refine rt_eq (q_X12_look_150) ?_ | refine rt_eq (q_X12_look_119) ?_ | refine rt_eq (q_X12_look_234) ?_ | refine rt_eq (q_X12_look_211) ?_)
    refine rt_f (by (try simp (disch := omega) only [nI_leI, nI_ltI, nI_eq, nI_add, pk_mul, n_0add, Nat.zero_add, nI_clamp]) <;> omega) ?_
    refine rt_bnd (sp_isLeak ok W S R B BR) ?_
    rintro I2 J2 ⟨⟨f2, l2⟩, rfl⟩
    have f2' := fr_tr hf (fr_mono f2 fLy5)
    have T2 := tlM_f hT f2
    (first | refine rt_eq (q_X12_look_0) ?_ | refine rt_eq (q_X12_look_12) ?_ | refine rt_eq (q_X12_look_20) ?_ | refine rt_eq (q_X12_look_25) ?_ | refine rt_eq (q_X12_look_37) ?_ | refine rt_eq (q_X12_look_46) ?_ | refine rt_eq (q_X12_look_89) ?_ | refine rt_eq (q_X12_look_56) ?_ | refine rt_eq (q_X12_look_165) ?_ | refine rt_eq (q_X12_look_98) ?_ | refine rt_eq (q_X12_look_177) ?_ | refine rt_eq (q_X12_look_113) ?_ | refine rt_eq (q_X12_look_189) ?_ | refine rt_eq (q_X12_look_241) ?_ | refine rt_eq (q_X12_look_150) ?_ | refine rt_eq (q_X12_look_119) ?_ | refine rt_eq (q_X12_look_234) ?_ | refine rt_eq (q_X12_look_211) ?_)
    by_cases z : rgt bk n (flK h nL cd (I' 533) p b) = true
    · rw [z]
      refine rt_f (by decide) ?_
      have es : tlS h nL cd n (I' 533) bk p b t = tlA n (flK h nL cd (I' 533) p b) t := if_pos z
      rw [es] at he'
      refine lp_t119 (t := t) hn l2 hv (fun I3 u7 f3 T3 => ?_) n 0 I2 (by omega) fr_rfl ?_
      · (first | refine rt_eq (q_X12_look_0) ?_ | refine rt_eq (q_X12_look_12) ?_ | refine rt_eq (q_X12_look_20) ?_ | refine rt_eq (q_X12_look_25) ?_ | refine rt_eq (q_X12_look_37) ?_ | refine rt_eq (q_X12_look_46) ?_ | refine rt_eq (q_X12_look_89) ?_ | refine rt_eq (q_X12_look_56) ?_ | refine rt_eq (q_X12_look_165) ?_ | refine rt_eq (q_X12_look_98) ?_ | refine rt_eq (q_X12_look_177) ?_ | refine rt_eq (q_X12_look_113) ?_ | refine rt_eq (q_X12_look_189) ?_ | refine rt_eq (q_X12_look_241) ?_ | refine rt_eq (q_X12_look_150) ?_ | refine rt_eq (q_X12_look_119) ?_ | refine rt_eq (q_X12_look_234) ?_ | refine rt_eq (q_X12_look_211) ?_)
        rw [nI_add]
        exact ih I3 _ _ (by omega) (fr_tr f2' (fr_mono f3 (by decide +kernel))) T3 he'
      · intro i v hi hvv
        rw [T2 i v hi hvv]
        unfold tlA
        rw [if_neg (fun q => absurd q.1 (Nat.not_lt_zero i))]
    · have es : tlS h nL cd n (I' 533) bk p b t = t := if_neg z
      rw [es] at he'
      rw [Bool.not_eq_true] at z
      rw [z]
      refine rt_t bI_f ?_
      (first | refine rt_eq (q_X12_look_0) ?_ | refine rt_eq (q_X12_look_12) ?_ | refine rt_eq (q_X12_look_20) ?_ | refine rt_eq (q_X12_look_25) ?_ | refine rt_eq (q_X12_look_37) ?_ | refine rt_eq (q_X12_look_46) ?_ | refine rt_eq (q_X12_look_89) ?_ | refine rt_eq (q_X12_look_56) ?_ | refine rt_eq (q_X12_look_165) ?_ | refine rt_eq (q_X12_look_98) ?_ | refine rt_eq (q_X12_look_177) ?_ | refine rt_eq (q_X12_look_113) ?_ | refine rt_eq (q_X12_look_189) ?_ | refine rt_eq (q_X12_look_241) ?_ | refine rt_eq (q_X12_look_150) ?_ | refine rt_eq (q_X12_look_119) ?_ | refine rt_eq (q_X12_look_234) ?_ | refine rt_eq (q_X12_look_211) ?_)
      rw [nI_add]
      exact ih I2 t _ (by omega) f2' T2 he'
theorem lp_t89 {nl : Nat} {ln : Ln} {r : Option Value} {Q : MI32 → MI64 → Prop} (ok : HOK h) (W : wfC cd nL 0 0) (z29 : N 29 = nI (nv (N 29)) ∧ nv (N 29) ≤ 99) (C : LY I h nL cd n N nl ln) (BR : bkR nl ln bk) (go : ∀ I' u6 u7, Fr fLy I I' → tlM I' (tlR h nL cd n N bk) → Rt L X (c_X12_look_165 (d + 7) L X I' J x1 (nI n) x3 x4 (nI 0) u6 u7) r Q) : ∀ q p I' t u6 u7, p + q = n → Fr fLy I I' → tlM I' t → accF (fun p s => accF (tlS h nL cd n N bk p) 30 1 s) q p t = tlR h nL cd n N bk → Rt L X (c_X12_look_89 (d + 7) L X I' J x1 (nI n) x3 x4 (nI p) u6 u7) r Q
  | 0, p, I', t, u6, u7, hp, hf, hT, he => by
    have a1 : t = tlR h nL cd n N bk := he
    subst a1
    have hn := C.2.2.1.1.1
    (first | refine rt_eq (q_X12_look_0) ?_ | refine rt_eq (q_X12_look_12) ?_ | refine rt_eq (q_X12_look_20) ?_ | refine rt_eq (q_X12_look_25) ?_ | refine rt_eq (q_X12_look_37) ?_ | refine rt_eq (q_X12_look_46) ?_ | refine rt_eq (q_X12_look_89) ?_ | refine rt_eq (q_X12_look_56) ?_ | refine rt_eq (q_X12_look_165) ?_ | refine rt_eq (q_X12_look_98) ?_ | refine rt_eq (q_X12_look_177) ?_ | refine rt_eq (q_X12_look_113) ?_ | refine rt_eq (q_X12_look_189) ?_ | refine rt_eq (q_X12_look_241) ?_ | refine rt_eq (q_X12_look_150) ?_ | refine rt_eq (q_X12_look_119) ?_ | refine rt_eq (q_X12_look_234) ?_ | refine rt_eq (q_X12_look_211) ?_)
    refine rt_t (by (try simp (disch := omega) only [nI_leI, nI_ltI, nI_eq, nI_add, pk_mul, n_0add, Nat.zero_add, nI_clamp]) <;> omega) ?_
    exact go I' _ _ hf hT
  | q + 1, p, I', t, u6, u7, hp, hf, hT, he => by
    have ih := lp_t89 ok W z29 C BR go q (p + 1)
    have hn := C.2.2.1.1.1
    have C' := LY_f C ok hf
    (first | refine rt_eq (q_X12_look_0) ?_ | refine rt_eq (q_X12_look_12) ?_ | refine rt_eq (q_X12_look_20) ?_ | refine rt_eq (q_X12_look_25) ?_ | refine rt_eq (q_X12_look_37) ?_ | refine rt_eq (q_X12_look_46) ?_ | refine rt_eq (q_X12_look_89) ?_ | refine rt_eq (q_X12_look_56) ?_ | refine rt_eq (q_X12_look_165) ?_ | refine rt_eq (q_X12_look_98) ?_ | refine rt_eq (q_X12_look_177) ?_ | refine rt_eq (q_X12_look_113) ?_ | refine rt_eq (q_X12_look_189) ?_ | refine rt_eq (q_X12_look_241) ?_ | refine rt_eq (q_X12_look_150) ?_ | refine rt_eq (q_X12_look_119) ?_ | refine rt_eq (q_X12_look_234) ?_ | refine rt_eq (q_X12_look_211) ?_)
    refine rt_f (by (try simp (disch := omega) only [nI_leI, nI_ltI, nI_eq, nI_add, pk_mul, n_0add, Nat.zero_add, nI_clamp]) <;> omega) ?_
    refine lp_t98 (tf := accF (tlS h nL cd n N bk p) 30 1 t) ok W z29 C' BR (fun I2 u6 u7 f2 T2 => ?_) 30 1 I' t _ (by omega) fr_rfl hT rfl
    exact ih I2 _ u6 u7 (by omega) (fr_tr hf f2) T2 he
/-! which -/
theorem lp_isTold {nl : Nat} {ln : Ln} {k : Nat} (B : bkM I nl ln) (BR : bkR nl ln bk) (hk : k < 6) : ∀ q j, j + q = nl → c_X12_isTold_2 d L X I J (nI k) (nI j) = rB (fndF (fun i => decide ((ln i).1 = k)) q j).isSome (mm L X I J)
  | 0, j, hj => by
    have n6 := B.2.1
    (first | refine Eq.trans (q_X12_isTold_0) ?_ | refine Eq.trans (q_X12_isTold_2) ?_)
    rw [B.1, if_pos (by (try simp (disch := omega) only [nI_leI, nI_ltI, nI_eq, nI_add, pk_mul, n_0add, Nat.zero_add, nI_clamp]) <;> omega)]
    rfl
  | q + 1, j, hj => by
    have ih := lp_isTold (k := k) B BR hk q (j + 1) (by omega)
    have n6 := B.2.1
    obtain ⟨a1, a2⟩ := B.2.2 j (by omega)
    obtain ⟨b1, b2, b3⟩ := BR.1 j (by omega)
    (first | refine Eq.trans (q_X12_isTold_0) ?_ | refine Eq.trans (q_X12_isTold_2) ?_)
    rw [B.1, if_neg (by (try simp (disch := omega) only [nI_leI, nI_ltI, nI_eq, nI_add, pk_mul, n_0add, Nat.zero_add, nI_clamp]) <;> omega), gd_t (inb_n (by omega) (by decide)), nI_clamp (by omega), a1]
    unfold fndF
    by_cases z : (ln j).1 = k
    · rw [if_pos (congrArg nI z), if_pos (decide_eq_true z)]
      rfl
    · rw [if_neg (by rw [nI_eq (by omega) (by omega)]; exact z), if_neg (by simpa using z), nI_add]
      exact ih
theorem sp_isTold {nl : Nat} {ln : Ln} {k : Nat} (B : bkM I nl ln) (BR : bkR nl ln bk) (hk : k < 6) : runM (d + 1) nX12_isTold [.ref 72, .int (nI k)] (mm L X I J) = rB (bk k).isSome (mm L X I J) := by
  have e : (bk k).isSome = (fndF (fun i => decide ((ln i).1 = k)) nl 0).isSome := by
    rw [Bool.eq_iff_iff, fnd_iff]
    constructor
    · intro q
      rcases hb : bk k with _ | v
      · rw [hb] at q
        cases q
      · obtain ⟨i, i1, i2⟩ := BR.2 k v hk hb
        exact ⟨i, i1, by rw [i2]; exact decide_eq_true rfl⟩
    · rintro ⟨i, i1, i2⟩
      obtain ⟨b1, b2, b3⟩ := BR.1 i i1
      rw [decide_eq_true_eq] at i2
      rw [← i2, b3]
      rfl
  rw [e, e_X12_isTold]
  (first | refine Eq.trans (q_X12_isTold_0) ?_ | refine Eq.trans (q_X12_isTold_2) ?_)
  exact lp_isTold B BR hk nl 0 (by omega)
theorem lp_w189 {k : Nat} (hk : k < 6) (hT : tlM I t) (ht : ∀ i v, t i v ≤ 180) : ∀ q j a, j + q = 100 → a ≤ 180 → c_X12_look_189 (d + 1) L X I J x1 x2 x3 x4 (nI k) (nI a) (nI j) = if x3 = -1 then runI (runM (d + 1)) iX12_look (234, [some (.ref 72), some (.int x1), some (.int x2), some (.int x3), some (.int x4), some (.int (nI k)), some (.int (nI (accF (mxA (fun _ => true) (t k)) q j a))), some (.int (nI 100))], [], mm L X I J) else if nI (accF (mxA (fun _ => true) (t k)) q j a) < x4 then runI (runM (d + 1)) iX12_look (234, [some (.ref 72), some (.int x1), some (.int x2), some (.int x3), some (.int x4), some (.int (nI k)), some (.int (nI (accF (mxA (fun _ => true) (t k)) q j a))), some (.int (nI 100))], [], mm L X I J) else runI (runM (d + 1)) iX12_look (241, [some (.ref 72), some (.int x1), some (.int x2), some (.int x3), some (.int x4), some (.int (nI k)), some (.int (nI (accF (mxA (fun _ => true) (t k)) q j a))), some (.int (nI 100))], [], mm L X I J)
  | 0, j, a, hj, ha => by
    have e : j = 100 := by omega
    subst e
    (first | refine Eq.trans (q_X12_look_0) ?_ | refine Eq.trans (q_X12_look_12) ?_ | refine Eq.trans (q_X12_look_20) ?_ | refine Eq.trans (q_X12_look_25) ?_ | refine Eq.trans (q_X12_look_37) ?_ | refine Eq.trans (q_X12_look_46) ?_ | refine Eq.trans (q_X12_look_89) ?_ | refine Eq.trans (q_X12_look_56) ?_ | refine Eq.trans (q_X12_look_165) ?_ | refine Eq.trans (q_X12_look_98) ?_ | refine Eq.trans (q_X12_look_177) ?_ | refine Eq.trans (q_X12_look_113) ?_ | refine Eq.trans (q_X12_look_189) ?_ | refine Eq.trans (q_X12_look_241) ?_ | refine Eq.trans (q_X12_look_150) ?_ | refine Eq.trans (q_X12_look_119) ?_ | refine Eq.trans (q_X12_look_234) ?_ | refine Eq.trans (q_X12_look_211) ?_)
    rw [if_pos (by decide)]
    rfl
  | q + 1, j, a, hj, ha => by
    have ih := lp_w189 hk hT ht q (j + 1) (Nat.max a (t k j)) (by omega) (Nat.max_le.mpr ⟨ha, ht k j⟩)
    have b := ht k j
    (first | refine Eq.trans (q_X12_look_0) ?_ | refine Eq.trans (q_X12_look_12) ?_ | refine Eq.trans (q_X12_look_20) ?_ | refine Eq.trans (q_X12_look_25) ?_ | refine Eq.trans (q_X12_look_37) ?_ | refine Eq.trans (q_X12_look_46) ?_ | refine Eq.trans (q_X12_look_89) ?_ | refine Eq.trans (q_X12_look_56) ?_ | refine Eq.trans (q_X12_look_165) ?_ | refine Eq.trans (q_X12_look_98) ?_ | refine Eq.trans (q_X12_look_177) ?_ | refine Eq.trans (q_X12_look_113) ?_ | refine Eq.trans (q_X12_look_189) ?_ | refine Eq.trans (q_X12_look_241) ?_ | refine Eq.trans (q_X12_look_150) ?_ | refine Eq.trans (q_X12_look_119) ?_ | refine Eq.trans (q_X12_look_234) ?_ | refine Eq.trans (q_X12_look_211) ?_)
    rw [if_neg (by (try simp (disch := omega) only [nI_leI, nI_ltI, nI_eq, nI_add, pk_mul, n_0add, Nat.zero_add, nI_clamp]) <;> omega), gd_t (inb_n (by omega) (by decide)), gd_t (inb_n (by omega) (by decide)), nI_clamp (show k < 2 ^ 31 by omega), nI_clamp (show j < 2 ^ 31 by omega), hT k j hk (by omega)]
    refine (bndN_e sp_more).trans ?_
    rw [← mxI_alt, mx_n (by omega) (by omega)]
    (first | refine Eq.trans (q_X12_look_0) ?_ | refine Eq.trans (q_X12_look_12) ?_ | refine Eq.trans (q_X12_look_20) ?_ | refine Eq.trans (q_X12_look_25) ?_ | refine Eq.trans (q_X12_look_37) ?_ | refine Eq.trans (q_X12_look_46) ?_ | refine Eq.trans (q_X12_look_89) ?_ | refine Eq.trans (q_X12_look_56) ?_ | refine Eq.trans (q_X12_look_165) ?_ | refine Eq.trans (q_X12_look_98) ?_ | refine Eq.trans (q_X12_look_177) ?_ | refine Eq.trans (q_X12_look_113) ?_ | refine Eq.trans (q_X12_look_189) ?_ | refine Eq.trans (q_X12_look_241) ?_ | refine Eq.trans (q_X12_look_150) ?_ | refine Eq.trans (q_X12_look_119) ?_ | refine Eq.trans (q_X12_look_234) ?_ | refine Eq.trans (q_X12_look_211) ?_)
    rw [nI_add]
    exact ih
theorem lp_o165 {nl : Nat} {ln : Ln} (hw : w ≤ 1) (hn : n ≤ 6) (B : bkM I nl ln) (BR : bkR nl ln bk) (hT : tlM I t) (ht : ∀ i v, t i v ≤ 180) : ∀ q j s u6 u7, j + q = n → (∀ y, s = some y → y.1 < 6 ∧ y.2 ≤ 180) → c_X12_look_165 (d + 2) L X I J (nI w) (nI n) (loV s 0) (loV s 1) (nI j) u6 u7 = rI (loV (accF (looA bk t) q j s) w) (mm L X I J)
  | 0, j, s, u6, u7, hj, hs => by
    (first | refine Eq.trans (q_X12_look_0) ?_ | refine Eq.trans (q_X12_look_12) ?_ | refine Eq.trans (q_X12_look_20) ?_ | refine Eq.trans (q_X12_look_25) ?_ | refine Eq.trans (q_X12_look_37) ?_ | refine Eq.trans (q_X12_look_46) ?_ | refine Eq.trans (q_X12_look_89) ?_ | refine Eq.trans (q_X12_look_56) ?_ | refine Eq.trans (q_X12_look_165) ?_ | refine Eq.trans (q_X12_look_98) ?_ | refine Eq.trans (q_X12_look_177) ?_ | refine Eq.trans (q_X12_look_113) ?_ | refine Eq.trans (q_X12_look_189) ?_ | refine Eq.trans (q_X12_look_241) ?_ | refine Eq.trans (q_X12_look_150) ?_ | refine Eq.trans (q_X12_look_119) ?_ | refine Eq.trans (q_X12_look_234) ?_ | refine Eq.trans (q_X12_look_211) ?_)
    rw [if_pos (by (try simp (disch := omega) only [nI_leI, nI_ltI, nI_eq, nI_add, pk_mul, n_0add, Nat.zero_add, nI_clamp]) <;> omega)]
    have : w = 0 ∨ w = 1 := by omega
    rcases this with rfl | rfl
    · rw [if_pos rfl]
      rfl
    · rw [if_neg (by decide)]
      rfl
  | q + 1, j, s, u6, u7, hj, hs => by
    have ih := lp_o165 hw hn B BR hT ht q (j + 1)
    have hws := ws_le (k := j) ht
    show _ = rI (loV (accF (looA bk t) q (j + 1) (looA bk t j s)) w) _
    (first | refine Eq.trans (q_X12_look_0) ?_ | refine Eq.trans (q_X12_look_12) ?_ | refine Eq.trans (q_X12_look_20) ?_ | refine Eq.trans (q_X12_look_25) ?_ | refine Eq.trans (q_X12_look_37) ?_ | refine Eq.trans (q_X12_look_46) ?_ | refine Eq.trans (q_X12_look_89) ?_ | refine Eq.trans (q_X12_look_56) ?_ | refine Eq.trans (q_X12_look_165) ?_ | refine Eq.trans (q_X12_look_98) ?_ | refine Eq.trans (q_X12_look_177) ?_ | refine Eq.trans (q_X12_look_113) ?_ | refine Eq.trans (q_X12_look_189) ?_ | refine Eq.trans (q_X12_look_241) ?_ | refine Eq.trans (q_X12_look_150) ?_ | refine Eq.trans (q_X12_look_119) ?_ | refine Eq.trans (q_X12_look_234) ?_ | refine Eq.trans (q_X12_look_211) ?_)
    rw [if_neg (by (try simp (disch := omega) only [nI_leI, nI_ltI, nI_eq, nI_add, pk_mul, n_0add, Nat.zero_add, nI_clamp]) <;> omega)]
    refine (bnd_e (sp_isTold B BR (by omega))).trans ?_
    (first | refine Eq.trans (q_X12_look_0) ?_ | refine Eq.trans (q_X12_look_12) ?_ | refine Eq.trans (q_X12_look_20) ?_ | refine Eq.trans (q_X12_look_25) ?_ | refine Eq.trans (q_X12_look_37) ?_ | refine Eq.trans (q_X12_look_46) ?_ | refine Eq.trans (q_X12_look_89) ?_ | refine Eq.trans (q_X12_look_56) ?_ | refine Eq.trans (q_X12_look_165) ?_ | refine Eq.trans (q_X12_look_98) ?_ | refine Eq.trans (q_X12_look_177) ?_ | refine Eq.trans (q_X12_look_113) ?_ | refine Eq.trans (q_X12_look_189) ?_ | refine Eq.trans (q_X12_look_241) ?_ | refine Eq.trans (q_X12_look_150) ?_ | refine Eq.trans (q_X12_look_119) ?_ | refine Eq.trans (q_X12_look_234) ?_ | refine Eq.trans (q_X12_look_211) ?_)
    rcases hb : bk j with _ | v
    · rw [if_pos (show bI (none : Option Nat).isSome = nI 0 from rfl)]
      refine Eq.trans (lp_w189 (d := d + 1) (by omega) hT ht 100 0 0 (by omega) (by omega)) ?_
      show (if _ then runI (runM (d + 2)) iX12_look (234, [_, _, _, _, _, _, some (.int (nI (wsT t j))), _], [], _) else if nI (wsT t j) < _ then runI (runM (d + 2)) iX12_look (234, [_, _, _, _, _, _, some (.int (nI (wsT t j))), _], [], _) else runI (runM (d + 2)) iX12_look (241, [_, _, _, _, _, _, some (.int (nI (wsT t j))), _], [], _)) = _
      have t234 : looA bk t j s = some (j, wsT t j) → ∀ u3 u4 u7, runI (runM (d + 2)) iX12_look (234, [some (.ref 72), some (.int (nI w)), some (.int (nI n)), u3, u4, some (.int (nI j)), some (.int (nI (wsT t j))), u7], [], mm L X I J) = rI (loV (accF (looA bk t) q (j + 1) (looA bk t j s)) w) (mm L X I J) := by
        intro he u3 u4 u7
        rw [he]
        (first | refine Eq.trans (q_X12_look_0) ?_ | refine Eq.trans (q_X12_look_12) ?_ | refine Eq.trans (q_X12_look_20) ?_ | refine Eq.trans (q_X12_look_25) ?_ | refine Eq.trans (q_X12_look_37) ?_ | refine Eq.trans (q_X12_look_46) ?_ | refine Eq.trans (q_X12_look_89) ?_ | refine Eq.trans (q_X12_look_56) ?_ | refine Eq.trans (q_X12_look_165) ?_ | refine Eq.trans (q_X12_look_98) ?_ | refine Eq.trans (q_X12_look_177) ?_ | refine Eq.trans (q_X12_look_113) ?_ | refine Eq.trans (q_X12_look_189) ?_ | refine Eq.trans (q_X12_look_241) ?_ | refine Eq.trans (q_X12_look_150) ?_ | refine Eq.trans (q_X12_look_119) ?_ | refine Eq.trans (q_X12_look_234) ?_ | refine Eq.trans (q_X12_look_211) ?_)
        (first | refine Eq.trans (q_X12_look_0) ?_ | refine Eq.trans (q_X12_look_12) ?_ | refine Eq.trans (q_X12_look_20) ?_ | refine Eq.trans (q_X12_look_25) ?_ | refine Eq.trans (q_X12_look_37) ?_ | refine Eq.trans (q_X12_look_46) ?_ | refine Eq.trans (q_X12_look_89) ?_ | refine Eq.trans (q_X12_look_56) ?_ | refine Eq.trans (q_X12_look_165) ?_ | refine Eq.trans (q_X12_look_98) ?_ | refine Eq.trans (q_X12_look_177) ?_ | refine Eq.trans (q_X12_look_113) ?_ | refine Eq.trans (q_X12_look_189) ?_ | refine Eq.trans (q_X12_look_241) ?_ | refine Eq.trans (q_X12_look_150) ?_ | refine Eq.trans (q_X12_look_119) ?_ | refine Eq.trans (q_X12_look_234) ?_ | refine Eq.trans (q_X12_look_211) ?_)
        rw [nI_add]
        generalize wsT t j = v at hws ⊢
        exact ih (some (j, v)) _ _ (by omega) (fun y e => by cases e; exact ⟨by omega, hws⟩)
      rcases s with _ | y
      · rw [if_pos (show loV none 0 = -1 from rfl)]
        refine t234 ?_ _ _ _
        unfold looA
        rw [hb]
      · obtain ⟨y1, y2⟩ := hs y rfl
        have el : looA bk t j (some y) = if y.2 ≤ wsT t j then some y else some (j, wsT t j) := by
          unfold looA
          rw [hb]
        rw [if_neg (show ¬ loV (some y) 0 = -1 from nI_m1 _ (by omega))]
        by_cases z : y.2 ≤ wsT t j
        · rw [if_neg (show ¬ nI (wsT t j) < loV (some y) 1 from nI_nlt z (by omega)), el, if_pos z]
          (first | refine Eq.trans (q_X12_look_0) ?_ | refine Eq.trans (q_X12_look_12) ?_ | refine Eq.trans (q_X12_look_20) ?_ | refine Eq.trans (q_X12_look_25) ?_ | refine Eq.trans (q_X12_look_37) ?_ | refine Eq.trans (q_X12_look_46) ?_ | refine Eq.trans (q_X12_look_89) ?_ | refine Eq.trans (q_X12_look_56) ?_ | refine Eq.trans (q_X12_look_165) ?_ | refine Eq.trans (q_X12_look_98) ?_ | refine Eq.trans (q_X12_look_177) ?_ | refine Eq.trans (q_X12_look_113) ?_ | refine Eq.trans (q_X12_look_189) ?_ | refine Eq.trans (q_X12_look_241) ?_ | refine Eq.trans (q_X12_look_150) ?_ | refine Eq.trans (q_X12_look_119) ?_ | refine Eq.trans (q_X12_look_234) ?_ | refine Eq.trans (q_X12_look_211) ?_)
          rw [nI_add]
          exact ih (some y) _ _ (by omega) hs
        · rw [if_pos (show nI (wsT t j) < loV (some y) 1 from nI_lt (by omega) (by omega))]
          refine t234 ?_ _ _ _
          rw [el, if_neg z]
    · rw [if_neg (show ¬ bI (some v).isSome = nI 0 from (show ¬ bI true = nI 0 by decide))]
      have el : looA bk t j s = s := by
        unfold looA
        rw [hb]
      rw [el]
      (first | refine Eq.trans (q_X12_look_0) ?_ | refine Eq.trans (q_X12_look_12) ?_ | refine Eq.trans (q_X12_look_20) ?_ | refine Eq.trans (q_X12_look_25) ?_ | refine Eq.trans (q_X12_look_37) ?_ | refine Eq.trans (q_X12_look_46) ?_ | refine Eq.trans (q_X12_look_89) ?_ | refine Eq.trans (q_X12_look_56) ?_ | refine Eq.trans (q_X12_look_165) ?_ | refine Eq.trans (q_X12_look_98) ?_ | refine Eq.trans (q_X12_look_177) ?_ | refine Eq.trans (q_X12_look_113) ?_ | refine Eq.trans (q_X12_look_189) ?_ | refine Eq.trans (q_X12_look_241) ?_ | refine Eq.trans (q_X12_look_150) ?_ | refine Eq.trans (q_X12_look_119) ?_ | refine Eq.trans (q_X12_look_234) ?_ | refine Eq.trans (q_X12_look_211) ?_)
      rw [nI_add]
      exact ih s _ _ (by omega) hs
theorem m_look {nl : Nat} {ln : Ln} (V : MS I h nL cd n N) (B : bkM I nl ln) (BR : bkR nl ln bk) (hw : w ≤ 1) : Rt L X (runM (d + 8) nX12_look [.ref 72, .int (nI w)] (mm L X I J)) (some (.int (loV (loR h nL cd n N bk) w))) (fun I' J' => (Fr fQM I I' ∧ I' 72 0 = nI 0) ∧ J' = J) := by
  rw [e_X12_look]
  (first | refine rt_eq (q_X12_look_0) ?_ | refine rt_eq (q_X12_look_12) ?_ | refine rt_eq (q_X12_look_20) ?_ | refine rt_eq (q_X12_look_25) ?_ | refine rt_eq (q_X12_look_37) ?_ | refine rt_eq (q_X12_look_46) ?_ | refine rt_eq (q_X12_look_89) ?_ | refine rt_eq (q_X12_look_56) ?_ | refine rt_eq (q_X12_look_165) ?_ | refine rt_eq (q_X12_look_98) ?_ | refine rt_eq (q_X12_look_177) ?_ | refine rt_eq (q_X12_look_113) ?_ | refine rt_eq (q_X12_look_189) ?_ | refine rt_eq (q_X12_look_241) ?_ | refine rt_eq (q_X12_look_150) ?_ | refine rt_eq (q_X12_look_119) ?_ | refine rt_eq (q_X12_look_234) ?_ | refine rt_eq (q_X12_look_211) ?_)
  have V0 := MS0 V; generalize hI0 : up2 I 72 0 (nI 0) = I0 at V0 ⊢; have f0 : Fr fQM I I0 := by rw [← hI0]; exact fr_up fr_rfl rfl
  have t0 : I0 72 0 = nI 0 := by rw [← hI0, up2_s]
  clear hI0
  obtain ⟨ok, W, S, e, R, Z⟩ := V0
  have hn := R.1.1
  refine rt_bne (in_t (by (try simp (disch := omega) only [nI_leI, nI_ltI, nI_eq, nI_add, pk_mul, n_0add, Nat.zero_add, nI_clamp]) <;> omega) (by (try simp (disch := omega) only [nI_leI, nI_ltI, nI_eq, nI_add, pk_mul, n_0add, Nat.zero_add, nI_clamp]) <;> omega)) ?_
  (first | refine rt_eq (q_X12_look_0) ?_ | refine rt_eq (q_X12_look_12) ?_ | refine rt_eq (q_X12_look_20) ?_ | refine rt_eq (q_X12_look_25) ?_ | refine rt_eq (q_X12_look_37) ?_ | refine rt_eq (q_X12_look_46) ?_ | refine rt_eq (q_X12_look_89) ?_ | refine rt_eq (q_X12_look_56) ?_ | refine rt_eq (q_X12_look_165) ?_ | refine rt_eq (q_X12_look_98) ?_ | refine rt_eq (q_X12_look_177) ?_ | refine rt_eq (q_X12_look_113) ?_ | refine rt_eq (q_X12_look_189) ?_ | refine rt_eq (q_X12_look_241) ?_ | refine rt_eq (q_X12_look_150) ?_ | refine rt_eq (q_X12_look_119) ?_ | refine rt_eq (q_X12_look_234) ?_ | refine rt_eq (q_X12_look_211) ?_)
  repeat (first | refine rt_t (by decide) ?_ | refine rt_f (by decide) ?_)
  (first | refine rt_eq (q_X12_look_0) ?_ | refine rt_eq (q_X12_look_12) ?_ | refine rt_eq (q_X12_look_20) ?_ | refine rt_eq (q_X12_look_25) ?_ | refine rt_eq (q_X12_look_37) ?_ | refine rt_eq (q_X12_look_46) ?_ | refine rt_eq (q_X12_look_89) ?_ | refine rt_eq (q_X12_look_56) ?_ | refine rt_eq (q_X12_look_165) ?_ | refine rt_eq (q_X12_look_98) ?_ | refine rt_eq (q_X12_look_177) ?_ | refine rt_eq (q_X12_look_113) ?_ | refine rt_eq (q_X12_look_189) ?_ | refine rt_eq (q_X12_look_241) ?_ | refine rt_eq (q_X12_look_150) ?_ | refine rt_eq (q_X12_look_119) ?_ | refine rt_eq (q_X12_look_234) ?_ | refine rt_eq (q_X12_look_211) ?_)
  refine rt_be (bad_f t0) ?_
  (first | refine rt_eq (q_X12_look_0) ?_ | refine rt_eq (q_X12_look_12) ?_ | refine rt_eq (q_X12_look_20) ?_ | refine rt_eq (q_X12_look_25) ?_ | refine rt_eq (q_X12_look_37) ?_ | refine rt_eq (q_X12_look_46) ?_ | refine rt_eq (q_X12_look_89) ?_ | refine rt_eq (q_X12_look_56) ?_ | refine rt_eq (q_X12_look_165) ?_ | refine rt_eq (q_X12_look_98) ?_ | refine rt_eq (q_X12_look_177) ?_ | refine rt_eq (q_X12_look_113) ?_ | refine rt_eq (q_X12_look_189) ?_ | refine rt_eq (q_X12_look_241) ?_ | refine rt_eq (q_X12_look_150) ?_ | refine rt_eq (q_X12_look_119) ?_ | refine rt_eq (q_X12_look_234) ?_ | refine rt_eq (q_X12_look_211) ?_)
  repeat (first | refine rt_t (by decide) ?_ | refine rt_f (by decide) ?_)
  have R' := R
  rw [← e] at R'
  refine rt_bne (sp_manyIn ka_533 R') ?_
  (first | refine rt_eq (q_X12_look_0) ?_ | refine rt_eq (q_X12_look_12) ?_ | refine rt_eq (q_X12_look_20) ?_ | refine rt_eq (q_X12_look_25) ?_ | refine rt_eq (q_X12_look_37) ?_ | refine rt_eq (q_X12_look_46) ?_ | refine rt_eq (q_X12_look_89) ?_ | refine rt_eq (q_X12_look_56) ?_ | refine rt_eq (q_X12_look_165) ?_ | refine rt_eq (q_X12_look_98) ?_ | refine rt_eq (q_X12_look_177) ?_ | refine rt_eq (q_X12_look_113) ?_ | refine rt_eq (q_X12_look_189) ?_ | refine rt_eq (q_X12_look_241) ?_ | refine rt_eq (q_X12_look_150) ?_ | refine rt_eq (q_X12_look_119) ?_ | refine rt_eq (q_X12_look_234) ?_ | refine rt_eq (q_X12_look_211) ?_)
  have C0 : LY I0 h nL cd n N nl ln := ⟨S, e, R, bkM_fr B (ag_of f0 dqb)⟩
  refine lp_z46 (fun I1 u6 u7 f1 T1 => ?_) 6 0 I0 _ (by omega) fr_rfl (fun i hi => absurd hi (Nat.not_lt_zero i))
  have C1 := LY_f C0 ok f1
  refine lp_t89 ok W Z.2.2.2.2 C1 BR (fun I2 u6 u7 f2 T2 => ?_) n 0 I1 (fun _ _ => 0) _ _ (by omega) fr_rfl T1 rfl
  have C2 := LY_f C1 ok f2
  have f3 : Fr fLy I0 I2 := fr_tr f1 f2
  exact rt_end (lp_o165 (d := d + 5) (t := tlR h nL cd n N bk) hw hn C2.2.2.2 BR T2 (tlR_b hn) n 0 none u6 u7 (by omega) (fun y e => by cases e)) ⟨⟨fr_tr f0 (fr_mono f3 (by decide +kernel)), (f3 72 0 (by decide +kernel)).trans t0⟩, rfl⟩
end LM
