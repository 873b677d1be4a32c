/-! WORKS AND IMAGES, BY THE MODEL -/
section PD
variable {d L X : Nat} {I : MI32} {J : MI64} {r n1 : Nat}
theorem up2_id {f : MI32} {a k : Nat} {v : Int32} (h : f a k = v) : up2 f a k v = f := by
  funext b j
  rw [up2_ap]
  by_cases q : b = a ∧ j = k
  · rw [if_pos q, q.1, q.2, h]
  · rw [if_neg q]
theorem sp_puts0 {x : Int32} {s : Nat} (k1 : ka r 1 n1) (hr : ¬ r = 72) (hs : s < n1) (hn1 : n1 < 2 ^ 30) (h : I 72 38 = nI s) : runM (d + 1) nX12_puts [.ref 72, .ref r, .int x, .int (nI 0)] (mm L X I J) = rI x (mm L X (up2 (up2 I r s x) 72 38 (nI (s + 1))) J) := by
  rw [e_X12_puts]
  (first | refine Eq.trans (q_X12_puts_0 (by first | assumption | rfl | exact .inl rfl | exact .inr rfl)) ?_ | refine Eq.trans (q_X12_puts_11 (by first | assumption | rfl | exact .inl rfl | exact .inr rfl)) ?_)
  rw [if_pos rfl, h, gd_t (inb_n hs (by omega)), nI_clamp (by omega)]
  (first | refine Eq.trans (q_X12_puts_0 (by first | assumption | rfl | exact .inl rfl | exact .inr rfl)) ?_ | refine Eq.trans (q_X12_puts_11 (by first | assumption | rfl | exact .inl rfl | exact .inr rfl)) ?_)
  rw [up2_n (show ¬ 72 = r from fun q => hr q.symm), h, nI_add, up2_s, n_sub1, gd_t (inb_n hs (by omega)), nI_clamp (by omega), up2_n hr, up2_s]
theorem sp_puts1 {x : Int32} {s : Nat} (k1 : ka r 1 n1) (hr : ¬ r = 72) (hs : s < n1) (hn1 : n1 < 2 ^ 30) (h : I 72 38 = nI s) : runM (d + 1) nX12_puts [.ref 72, .ref r, .int x, .int (nI 1)] (mm L X I J) = rI (I r s) (mm L X (up2 I 72 38 (nI (s + 1))) J) := by
  rw [e_X12_puts]
  (first | refine Eq.trans (q_X12_puts_0 (by first | assumption | rfl | exact .inl rfl | exact .inr rfl)) ?_ | refine Eq.trans (q_X12_puts_11 (by first | assumption | rfl | exact .inl rfl | exact .inr rfl)) ?_)
  rw [if_neg (by decide)]
  (first | refine Eq.trans (q_X12_puts_0 (by first | assumption | rfl | exact .inl rfl | exact .inr rfl)) ?_ | refine Eq.trans (q_X12_puts_11 (by first | assumption | rfl | exact .inl rfl | exact .inr rfl)) ?_)
  rw [h, nI_add, up2_s, n_sub1, gd_t (inb_n hs (by omega)), nI_clamp (by omega), up2_n hr]
/-- what lies in an image, one after another -/
def vvI (I : MI32) (p : Nat) : Int32 := if p = 0 then I 72 35 else if p < 32 then I 533 (p - 1) else I (537 + (p - 32) / 31) ((p - 32) % 31)
/-- m of it are put -/
def StA (I : MI32) (r m : Nat) (I' : MI32) : Prop := Fr [(r, 0), (72, 39)] I I' ∧ I' 72 38 = nI m ∧ ∀ p, p < m → I' r p = vvI I p
theorem stA_s {m : Nat} {I' : MI32} (hr : ¬ r = 72) (S : StA I r m I') : StA I r (m + 1) (up2 (up2 I' r m (vvI I m)) 72 38 (nI (m + 1))) := by
  obtain ⟨s1, s2, s3⟩ := S
  refine ⟨fr_up (fr_up s1 (by simp [inF])) (by simp [inF]), up2_s, fun p hp => ?_⟩
  rw [up2_n hr, up2_at]
  by_cases q : p = m
  · rw [if_pos q, q]
  · rw [if_neg q, s3 p (by omega)]
theorem stA_g {m b k : Nat} {I' : MI32} (S : StA I r m I') (hb : ¬ b = r) (hk : ¬ (b = 72 ∧ k = 38)) : I' b k = I b k := S.1 b k (by
  simp [inF]
  omega)
theorem lp_put62 {rr : Option Value} {Q : MI32 → MI64 → Prop} (k1 : ka r 1 528) (hr : r = 554 ∨ r = 555 ∨ r = 556) {w : Nat} (hw : w < 16) (k : ∀ I', StA I r (32 + 31 * (w + 1)) I' → Rt L X (c_X12_putsAll_53 (d + 1) L X I' J r (nI 0) (nI (w + 1)) (some (.int (nI 31)))) rr Q) : ∀ q i I', i + q = 31 → StA I r (32 + 31 * w + i) I' → Rt L X (c_X12_putsAll_62 (d + 1) L X I' J r (nI 0) (nI w) (nI i)) rr Q
  | 0, i, I', hi, S => by
    have ei : i = 31 := by omega
    subst ei
    (first | refine rt_eq (q_X12_putsAll_0 (by first | assumption | rfl | exact .inl rfl | exact .inr rfl)) ?_ | refine rt_eq (q_X12_putsAll_16 (by first | assumption | rfl | exact .inl rfl | exact .inr rfl)) ?_ | refine rt_eq (q_X12_putsAll_21 (by first | assumption | rfl | exact .inl rfl | exact .inr rfl)) ?_ | refine rt_eq (q_X12_putsAll_53 (by first | assumption | rfl | exact .inl rfl | exact .inr rfl)) ?_ | refine rt_eq (q_X12_putsAll_44 (by first | assumption | rfl | exact .inl rfl | exact .inr rfl)) ?_ | refine rt_eq (q_X12_putsAll_62 (by first | assumption | rfl | exact .inl rfl | exact .inr rfl)) ?_ | refine rt_eq (q_X12_putsAll_92 (by first | assumption | rfl | exact .inl rfl | exact .inr rfl) (by first | assumption | rfl | exact .inl rfl | exact .inr rfl)) ?_)
    refine rt_t (by decide) ?_
    rw [nI_add]
    exact k I' (by rw [show 32 + 31 * (w + 1) = 32 + 31 * w + 31 by omega]; exact S)
  | q + 1, i, I', hi, S => by
    have ih := lp_put62 k1 hr hw k q (i + 1)
    have hv : vvI I (32 + 31 * w + i) = I (537 + w) i := by
      unfold vvI
      rw [if_neg (by omega), if_neg (by omega), show (32 + 31 * w + i - 32) / 31 = w by omega, show (32 + 31 * w + i - 32) % 31 = i by omega]
    have kq : ka (537 + w) 1 31 := by
      have q : ∀ s, s < 16 → (Nat.blt (537 + s) 1000000 && (K0[537 + s]? == some (1, 31))) = true := by decide +kernel
      exact ka_of (q w hw)
    (first | refine rt_eq (q_X12_putsAll_0 (by first | assumption | rfl | exact .inl rfl | exact .inr rfl)) ?_ | refine rt_eq (q_X12_putsAll_16 (by first | assumption | rfl | exact .inl rfl | exact .inr rfl)) ?_ | refine rt_eq (q_X12_putsAll_21 (by first | assumption | rfl | exact .inl rfl | exact .inr rfl)) ?_ | refine rt_eq (q_X12_putsAll_53 (by first | assumption | rfl | exact .inl rfl | exact .inr rfl)) ?_ | refine rt_eq (q_X12_putsAll_44 (by first | assumption | rfl | exact .inl rfl | exact .inr rfl)) ?_ | refine rt_eq (q_X12_putsAll_62 (by first | assumption | rfl | exact .inl rfl | exact .inr rfl)) ?_ | refine rt_eq (q_X12_putsAll_92 (by first | assumption | rfl | exact .inl rfl | exact .inr rfl) (by first | assumption | rfl | exact .inl rfl | exact .inr rfl)) ?_)
    refine rt_f (by (try simp (disch := omega) only [nI_leI, nI_ltI, nI_eq, nI_add, pk_mul, n_0add, Nat.zero_add, nI_clamp]) <;> omega) (rt_gd (inb_n hw (by decide)) (rt_gd (inb_n (by omega) (by decide)) ?_))
    rw [nI_clamp (by omega), nI_clamp (by omega), stA_g S (by omega) (by omega)]
    refine rt_be (sp_puts0 k1 (by omega) (by omega) (by decide) S.2.1) ?_
    (first | refine rt_eq (q_X12_putsAll_0 (by first | assumption | rfl | exact .inl rfl | exact .inr rfl)) ?_ | refine rt_eq (q_X12_putsAll_16 (by first | assumption | rfl | exact .inl rfl | exact .inr rfl)) ?_ | refine rt_eq (q_X12_putsAll_21 (by first | assumption | rfl | exact .inl rfl | exact .inr rfl)) ?_ | refine rt_eq (q_X12_putsAll_53 (by first | assumption | rfl | exact .inl rfl | exact .inr rfl)) ?_ | refine rt_eq (q_X12_putsAll_44 (by first | assumption | rfl | exact .inl rfl | exact .inr rfl)) ?_ | refine rt_eq (q_X12_putsAll_62 (by first | assumption | rfl | exact .inl rfl | exact .inr rfl)) ?_ | refine rt_eq (q_X12_putsAll_92 (by first | assumption | rfl | exact .inl rfl | exact .inr rfl) (by first | assumption | rfl | exact .inl rfl | exact .inr rfl)) ?_)
    refine rt_gd (inb_n (by omega) (by decide)) ?_
    rw [nI_clamp (by omega), nI_add, ← hv]
    have S2 := stA_s (by omega) S
    rw [up2_id (by rw [stA_g S2 (by omega) (by omega), hv])]
    exact ih _ (by omega) S2
theorem lp_put53 (k1 : ka r 1 528) (hr : r = 554 ∨ r = 555 ∨ r = 556) : ∀ q w I' u4, w + q = 16 → StA I r (32 + 31 * w) I' → Rt L X (c_X12_putsAll_53 (d + 1) L X I' J r (nI 0) (nI w) u4) none (fun I'' J' => StA I r 528 I'' ∧ J' = J)
  | 0, w, I', u4, hw, S => by
    have ew : w = 16 := by omega
    subst ew
    (first | refine rt_eq (q_X12_putsAll_0 (by first | assumption | rfl | exact .inl rfl | exact .inr rfl)) ?_ | refine rt_eq (q_X12_putsAll_16 (by first | assumption | rfl | exact .inl rfl | exact .inr rfl)) ?_ | refine rt_eq (q_X12_putsAll_21 (by first | assumption | rfl | exact .inl rfl | exact .inr rfl)) ?_ | refine rt_eq (q_X12_putsAll_53 (by first | assumption | rfl | exact .inl rfl | exact .inr rfl)) ?_ | refine rt_eq (q_X12_putsAll_44 (by first | assumption | rfl | exact .inl rfl | exact .inr rfl)) ?_ | refine rt_eq (q_X12_putsAll_62 (by first | assumption | rfl | exact .inl rfl | exact .inr rfl)) ?_ | refine rt_eq (q_X12_putsAll_92 (by first | assumption | rfl | exact .inl rfl | exact .inr rfl) (by first | assumption | rfl | exact .inl rfl | exact .inr rfl)) ?_)
    exact rt_t (by decide) (rt_ret ⟨S, rfl⟩)
  | q + 1, w, I', u4, hw, S => by
    have ih := lp_put53 k1 hr q (w + 1)
    (first | refine rt_eq (q_X12_putsAll_0 (by first | assumption | rfl | exact .inl rfl | exact .inr rfl)) ?_ | refine rt_eq (q_X12_putsAll_16 (by first | assumption | rfl | exact .inl rfl | exact .inr rfl)) ?_ | refine rt_eq (q_X12_putsAll_21 (by first | assumption | rfl | exact .inl rfl | exact .inr rfl)) ?_ | refine rt_eq (q_X12_putsAll_53 (by first | assumption | rfl | exact .inl rfl | exact .inr rfl)) ?_ | refine rt_eq (q_X12_putsAll_44 (by first | assumption | rfl | exact .inl rfl | exact .inr rfl)) ?_ | refine rt_eq (q_X12_putsAll_62 (by first | assumption | rfl | exact .inl rfl | exact .inr rfl)) ?_ | refine rt_eq (q_X12_putsAll_92 (by first | assumption | rfl | exact .inl rfl | exact .inr rfl) (by first | assumption | rfl | exact .inl rfl | exact .inr rfl)) ?_)
    refine rt_f (by (try simp (disch := omega) only [nI_leI, nI_ltI, nI_eq, nI_add, pk_mul, n_0add, Nat.zero_add, nI_clamp]) <;> omega) ?_
    exact lp_put62 (I := I) k1 hr (by omega) (fun I2 S2 => ih I2 _ (by omega) S2) 31 0 I' (by omega) S
theorem lp_put21 (k1 : ka r 1 528) (hr : r = 554 ∨ r = 555 ∨ r = 556) : ∀ q i I' u4, i + q = 31 → StA I r (1 + i) I' → Rt L X (c_X12_putsAll_21 (d + 1) L X I' J r (nI 0) (nI i) u4) none (fun I'' J' => StA I r 528 I'' ∧ J' = J)
  | 0, i, I', u4, hi, S => by
    have ei : i = 31 := by omega
    subst ei
    (first | refine rt_eq (q_X12_putsAll_0 (by first | assumption | rfl | exact .inl rfl | exact .inr rfl)) ?_ | refine rt_eq (q_X12_putsAll_16 (by first | assumption | rfl | exact .inl rfl | exact .inr rfl)) ?_ | refine rt_eq (q_X12_putsAll_21 (by first | assumption | rfl | exact .inl rfl | exact .inr rfl)) ?_ | refine rt_eq (q_X12_putsAll_53 (by first | assumption | rfl | exact .inl rfl | exact .inr rfl)) ?_ | refine rt_eq (q_X12_putsAll_44 (by first | assumption | rfl | exact .inl rfl | exact .inr rfl)) ?_ | refine rt_eq (q_X12_putsAll_62 (by first | assumption | rfl | exact .inl rfl | exact .inr rfl)) ?_ | refine rt_eq (q_X12_putsAll_92 (by first | assumption | rfl | exact .inl rfl | exact .inr rfl) (by first | assumption | rfl | exact .inl rfl | exact .inr rfl)) ?_)
    refine rt_t (by decide) ?_
    exact lp_put53 k1 hr 16 0 I' _ (by omega) S
  | q + 1, i, I', u4, hi, S => by
    have ih := lp_put21 k1 hr q (i + 1)
    have hv : vvI I (1 + i) = I 533 i := by
      unfold vvI
      rw [if_neg (by omega), if_pos (by omega), show 1 + i - 1 = i by omega]
    (first | refine rt_eq (q_X12_putsAll_0 (by first | assumption | rfl | exact .inl rfl | exact .inr rfl)) ?_ | refine rt_eq (q_X12_putsAll_16 (by first | assumption | rfl | exact .inl rfl | exact .inr rfl)) ?_ | refine rt_eq (q_X12_putsAll_21 (by first | assumption | rfl | exact .inl rfl | exact .inr rfl)) ?_ | refine rt_eq (q_X12_putsAll_53 (by first | assumption | rfl | exact .inl rfl | exact .inr rfl)) ?_ | refine rt_eq (q_X12_putsAll_44 (by first | assumption | rfl | exact .inl rfl | exact .inr rfl)) ?_ | refine rt_eq (q_X12_putsAll_62 (by first | assumption | rfl | exact .inl rfl | exact .inr rfl)) ?_ | refine rt_eq (q_X12_putsAll_92 (by first | assumption | rfl | exact .inl rfl | exact .inr rfl) (by first | assumption | rfl | exact .inl rfl | exact .inr rfl)) ?_)
    refine rt_f (by (try simp (disch := omega) only [nI_leI, nI_ltI, nI_eq, nI_add, pk_mul, n_0add, Nat.zero_add, nI_clamp]) <;> omega) (rt_gd (inb_n (by omega) (by decide)) ?_)
    rw [nI_clamp (by omega), stA_g S (by omega) (by omega)]
    refine rt_be (sp_puts0 k1 (by omega) (by omega) (by decide) S.2.1) ?_
    (first | refine rt_eq (q_X12_putsAll_0 (by first | assumption | rfl | exact .inl rfl | exact .inr rfl)) ?_ | refine rt_eq (q_X12_putsAll_16 (by first | assumption | rfl | exact .inl rfl | exact .inr rfl)) ?_ | refine rt_eq (q_X12_putsAll_21 (by first | assumption | rfl | exact .inl rfl | exact .inr rfl)) ?_ | refine rt_eq (q_X12_putsAll_53 (by first | assumption | rfl | exact .inl rfl | exact .inr rfl)) ?_ | refine rt_eq (q_X12_putsAll_44 (by first | assumption | rfl | exact .inl rfl | exact .inr rfl)) ?_ | refine rt_eq (q_X12_putsAll_62 (by first | assumption | rfl | exact .inl rfl | exact .inr rfl)) ?_ | refine rt_eq (q_X12_putsAll_92 (by first | assumption | rfl | exact .inl rfl | exact .inr rfl) (by first | assumption | rfl | exact .inl rfl | exact .inr rfl)) ?_)
    refine rt_gd (inb_n (by omega) (by decide)) ?_
    rw [nI_clamp (by omega), nI_add, ← hv]
    have S2 := stA_s (by omega) S
    rw [up2_id (by rw [stA_g S2 (by omega) (by omega), hv])]
    exact ih _ _ (by omega) S2
theorem sp_putsAll0 (k1 : ka r 1 528) (hr : r = 554 ∨ r = 555 ∨ r = 556) : Rt L X (runM (d + 2) nX12_putsAll [.ref 72, .ref r, .int (nI 0)] (mm L X I J)) none (fun I'' J' => StA I r 528 I'' ∧ J' = J) := by
  have S0 : StA I r 0 (up2 I 72 38 (nI 0)) := ⟨fr_up fr_rfl (by simp [inF]), up2_s, fun p hp => absurd hp (Nat.not_lt_zero p)⟩
  have hv : vvI I 0 = I 72 35 := rfl
  rw [e_X12_putsAll]
  (first | refine rt_eq (q_X12_putsAll_0 (by first | assumption | rfl | exact .inl rfl | exact .inr rfl)) ?_ | refine rt_eq (q_X12_putsAll_16 (by first | assumption | rfl | exact .inl rfl | exact .inr rfl)) ?_ | refine rt_eq (q_X12_putsAll_21 (by first | assumption | rfl | exact .inl rfl | exact .inr rfl)) ?_ | refine rt_eq (q_X12_putsAll_53 (by first | assumption | rfl | exact .inl rfl | exact .inr rfl)) ?_ | refine rt_eq (q_X12_putsAll_44 (by first | assumption | rfl | exact .inl rfl | exact .inr rfl)) ?_ | refine rt_eq (q_X12_putsAll_62 (by first | assumption | rfl | exact .inl rfl | exact .inr rfl)) ?_ | refine rt_eq (q_X12_putsAll_92 (by first | assumption | rfl | exact .inl rfl | exact .inr rfl) (by first | assumption | rfl | exact .inl rfl | exact .inr rfl)) ?_)
  rw [up2_k (by decide), ← hv]
  refine rt_be (sp_puts0 k1 (by omega) (by decide) (by decide) up2_s) ?_
  (first | refine rt_eq (q_X12_putsAll_0 (by first | assumption | rfl | exact .inl rfl | exact .inr rfl)) ?_ | refine rt_eq (q_X12_putsAll_16 (by first | assumption | rfl | exact .inl rfl | exact .inr rfl)) ?_ | refine rt_eq (q_X12_putsAll_21 (by first | assumption | rfl | exact .inl rfl | exact .inr rfl)) ?_ | refine rt_eq (q_X12_putsAll_53 (by first | assumption | rfl | exact .inl rfl | exact .inr rfl)) ?_ | refine rt_eq (q_X12_putsAll_44 (by first | assumption | rfl | exact .inl rfl | exact .inr rfl)) ?_ | refine rt_eq (q_X12_putsAll_62 (by first | assumption | rfl | exact .inl rfl | exact .inr rfl)) ?_ | refine rt_eq (q_X12_putsAll_92 (by first | assumption | rfl | exact .inl rfl | exact .inr rfl) (by first | assumption | rfl | exact .inl rfl | exact .inr rfl)) ?_)
  have S2 := stA_s (by omega) S0
  rw [up2_id (by rw [stA_g S2 (by omega) (by omega), hv])]
  exact lp_put21 k1 hr 31 0 _ _ (by omega) S2
end PD
