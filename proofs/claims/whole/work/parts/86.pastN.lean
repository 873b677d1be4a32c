/-! AN IMAGE IS BROUGHT BACK, BY THE MODEL -/
section PE
variable {d L X : Nat} {I : MI32} {J : MI64} {r n1 : Nat}
def fPB : Fls := [(72, 36), (72, 39), (533, 0)] ++ cells 537 16
def StB (I : MI32) (r m : Nat) (I' : MI32) : Prop := Fr fPB I I' ∧ I' 72 38 = nI m ∧ (0 < m → I' 72 35 = I r 0) ∧ (∀ k, k < 31 → 1 + k < m → I' 533 k = I r (1 + k)) ∧ ∀ w k, w < 16 → k < 31 → 32 + 31 * w + k < m → I' (537 + w) k = I r (32 + 31 * w + k)
theorem stB_r {m k : Nat} {I' : MI32} (hr : r = 554 ∨ r = 555 ∨ r = 556) (S : StB I r m I') : I' r k = I r k := by
  rcases hr with rfl | rfl | rfl
  · exact ag_of (s := [(554, 0)]) S.1 (by decide +kernel) _ k rfl
  · exact ag_of (s := [(555, 0)]) S.1 (by decide +kernel) _ k rfl
  · exact ag_of (s := [(556, 0)]) S.1 (by decide +kernel) _ k rfl
theorem ka_bef {w : Nat} (hw : w < 16) : ka (537 + w) 1 31 := by
  have q : ∀ s, s < 16 → (Nat.blt (537 + s) 1000000 && (K0[537 + s]? == some (1, 31))) = true := by decide +kernel
  exact ka_of (q w hw)
theorem lp_get62 {rr : Option Value} {Q : MI32 → MI64 → Prop} (k1 : ka r 1 528) (hr : r = 554 ∨ r = 555 ∨ r = 556) {w : Nat} (hw : w < 16) (k : ∀ I', StB I r (32 + 31 * (w + 1)) I' → Rt L X (c_X12_putsAll_53 (d + 1) L X I' J r (nI 1) (nI (w + 1)) (some (.int (nI 31)))) rr Q) : ∀ q i I', i + q = 31 → StB I r (32 + 31 * w + i) I' → Rt L X (c_X12_putsAll_62 (d + 1) L X I' J r (nI 1) (nI w) (nI i)) rr Q
  | 0, i, I', hi, S => by
    have ei : i = 31 := by omega
    subst ei
    (first | refine rt_eq (q_X12_putsAll_0 (by first | assumption | rfl | exact .inl rfl | exact .inr rfl)) ?_ | refine rt_eq (q_X12_putsAll_16 (by first | assumption | rfl | exact .inl rfl | exact .inr rfl)) ?_ | refine rt_eq (q_X12_putsAll_21 (by first | assumption | rfl | exact .inl rfl | exact .inr rfl)) ?_ | refine rt_eq (q_X12_putsAll_53 (by first | assumption | rfl | exact .inl rfl | exact .inr rfl)) ?_ | refine rt_eq (q_X12_putsAll_44 (by first | assumption | rfl | exact .inl rfl | exact .inr rfl)) ?_ | refine rt_eq (q_X12_putsAll_62 (by first | assumption | rfl | exact .inl rfl | exact .inr rfl)) ?_ | refine rt_eq (q_X12_putsAll_92 (by first | assumption | rfl | exact .inl rfl | exact .inr rfl) (by first | assumption | rfl | exact .inl rfl | exact .inr rfl)) ?_)
    refine rt_t (by decide) ?_
    rw [nI_add]
    exact k I' (by rw [show 32 + 31 * (w + 1) = 32 + 31 * w + 31 by omega]; exact S)
  | q + 1, i, I', hi, S => by
    have ih := lp_get62 k1 hr hw k q (i + 1)
    have kq := ka_bef hw
    (first | refine rt_eq (q_X12_putsAll_0 (by first | assumption | rfl | exact .inl rfl | exact .inr rfl)) ?_ | refine rt_eq (q_X12_putsAll_16 (by first | assumption | rfl | exact .inl rfl | exact .inr rfl)) ?_ | refine rt_eq (q_X12_putsAll_21 (by first | assumption | rfl | exact .inl rfl | exact .inr rfl)) ?_ | refine rt_eq (q_X12_putsAll_53 (by first | assumption | rfl | exact .inl rfl | exact .inr rfl)) ?_ | refine rt_eq (q_X12_putsAll_44 (by first | assumption | rfl | exact .inl rfl | exact .inr rfl)) ?_ | refine rt_eq (q_X12_putsAll_62 (by first | assumption | rfl | exact .inl rfl | exact .inr rfl)) ?_ | refine rt_eq (q_X12_putsAll_92 (by first | assumption | rfl | exact .inl rfl | exact .inr rfl) (by first | assumption | rfl | exact .inl rfl | exact .inr rfl)) ?_)
    refine rt_f (by (try simp (disch := omega) only [nI_leI, nI_ltI, nI_eq, nI_add, pk_mul, n_0add, Nat.zero_add, nI_clamp]) <;> omega) (rt_gd (inb_n hw (by decide)) (rt_gd (inb_n (by omega) (by decide)) ?_))
    rw [nI_clamp (by omega), nI_clamp (by omega)]
    refine rt_be (sp_puts1 k1 (by omega) (by omega) (by decide) S.2.1) ?_
    (first | refine rt_eq (q_X12_putsAll_0 (by first | assumption | rfl | exact .inl rfl | exact .inr rfl)) ?_ | refine rt_eq (q_X12_putsAll_16 (by first | assumption | rfl | exact .inl rfl | exact .inr rfl)) ?_ | refine rt_eq (q_X12_putsAll_21 (by first | assumption | rfl | exact .inl rfl | exact .inr rfl)) ?_ | refine rt_eq (q_X12_putsAll_53 (by first | assumption | rfl | exact .inl rfl | exact .inr rfl)) ?_ | refine rt_eq (q_X12_putsAll_44 (by first | assumption | rfl | exact .inl rfl | exact .inr rfl)) ?_ | refine rt_eq (q_X12_putsAll_62 (by first | assumption | rfl | exact .inl rfl | exact .inr rfl)) ?_ | refine rt_eq (q_X12_putsAll_92 (by first | assumption | rfl | exact .inl rfl | exact .inr rfl) (by first | assumption | rfl | exact .inl rfl | exact .inr rfl)) ?_)
    refine rt_gd (inb_n (by omega) (by decide)) ?_
    rw [nI_clamp (by omega), nI_add, stB_r hr S]
    refine ih _ (by omega) ?_
    obtain ⟨s1, s2, s3, s4, s5⟩ := S
    refine ⟨fr_up (fr_up s1 rfl) (by unfold fPB; rw [inF_app, in_cells hw, Bool.or_true]), ?_, fun _ => ?_, fun k hk hm => ?_, fun w' k hw' hk hm => ?_⟩
    · rw [up2_n (by omega), up2_s]
      rfl
    · rw [up2_n (by omega), up2_k (by decide)]
      exact s3 (by omega)
    · rw [up2_n (by omega), up2_n (by omega)]
      exact s4 k hk (by omega)
    · by_cases e : w' = w ∧ k = i
      · rw [e.1, e.2, up2_s]
      · rw [show (up2 (up2 I' 72 38 (nI (32 + 31 * w + i + 1))) (537 + w) i (I r (32 + 31 * w + i))) (537 + w') k = (up2 I' 72 38 (nI (32 + 31 * w + i + 1))) (537 + w') k from if_neg (fun q => e ⟨by omega, q.2⟩), up2_n (by omega)]
        exact s5 w' k hw' hk (by omega)
theorem lp_get53 (k1 : ka r 1 528) (hr : r = 554 ∨ r = 555 ∨ r = 556) : ∀ q w I' u4, w + q = 16 → StB I r (32 + 31 * w) I' → Rt L X (c_X12_putsAll_53 (d + 1) L X I' J r (nI 1) (nI w) u4) none (fun I'' J' => StB I r 528 I'' ∧ J' = J)
  | 0, w, I', u4, hw, S => by
    have ew : w = 16 := by omega
    subst ew
    (first | refine rt_eq (q_X12_putsAll_0 (by first | assumption | rfl | exact .inl rfl | exact .inr rfl)) ?_ | refine rt_eq (q_X12_putsAll_16 (by first | assumption | rfl | exact .inl rfl | exact .inr rfl)) ?_ | refine rt_eq (q_X12_putsAll_21 (by first | assumption | rfl | exact .inl rfl | exact .inr rfl)) ?_ | refine rt_eq (q_X12_putsAll_53 (by first | assumption | rfl | exact .inl rfl | exact .inr rfl)) ?_ | refine rt_eq (q_X12_putsAll_44 (by first | assumption | rfl | exact .inl rfl | exact .inr rfl)) ?_ | refine rt_eq (q_X12_putsAll_62 (by first | assumption | rfl | exact .inl rfl | exact .inr rfl)) ?_ | refine rt_eq (q_X12_putsAll_92 (by first | assumption | rfl | exact .inl rfl | exact .inr rfl) (by first | assumption | rfl | exact .inl rfl | exact .inr rfl)) ?_)
    exact rt_t (by decide) (rt_ret ⟨S, rfl⟩)
  | q + 1, w, I', u4, hw, S => by
    have ih := lp_get53 k1 hr q (w + 1)
    (first | refine rt_eq (q_X12_putsAll_0 (by first | assumption | rfl | exact .inl rfl | exact .inr rfl)) ?_ | refine rt_eq (q_X12_putsAll_16 (by first | assumption | rfl | exact .inl rfl | exact .inr rfl)) ?_ | refine rt_eq (q_X12_putsAll_21 (by first | assumption | rfl | exact .inl rfl | exact .inr rfl)) ?_ | refine rt_eq (q_X12_putsAll_53 (by first | assumption | rfl | exact .inl rfl | exact .inr rfl)) ?_ | refine rt_eq (q_X12_putsAll_44 (by first | assumption | rfl | exact .inl rfl | exact .inr rfl)) ?_ | refine rt_eq (q_X12_putsAll_62 (by first | assumption | rfl | exact .inl rfl | exact .inr rfl)) ?_ | refine rt_eq (q_X12_putsAll_92 (by first | assumption | rfl | exact .inl rfl | exact .inr rfl) (by first | assumption | rfl | exact .inl rfl | exact .inr rfl)) ?_)
    refine rt_f (by (try simp (disch := omega) only [nI_leI, nI_ltI, nI_eq, nI_add, pk_mul, n_0add, Nat.zero_add, nI_clamp]) <;> omega) ?_
    exact lp_get62 (I := I) k1 hr (by omega) (fun I2 S2 => ih I2 _ (by omega) S2) 31 0 I' (by omega) S
theorem lp_get21 (k1 : ka r 1 528) (hr : r = 554 ∨ r = 555 ∨ r = 556) : ∀ q i I' u4, i + q = 31 → StB I r (1 + i) I' → Rt L X (c_X12_putsAll_21 (d + 1) L X I' J r (nI 1) (nI i) u4) none (fun I'' J' => StB I r 528 I'' ∧ J' = J)
  | 0, i, I', u4, hi, S => by
    have ei : i = 31 := by omega
    subst ei
    (first | refine rt_eq (q_X12_putsAll_0 (by first | assumption | rfl | exact .inl rfl | exact .inr rfl)) ?_ | refine rt_eq (q_X12_putsAll_16 (by first | assumption | rfl | exact .inl rfl | exact .inr rfl)) ?_ | refine rt_eq (q_X12_putsAll_21 (by first | assumption | rfl | exact .inl rfl | exact .inr rfl)) ?_ | refine rt_eq (q_X12_putsAll_53 (by first | assumption | rfl | exact .inl rfl | exact .inr rfl)) ?_ | refine rt_eq (q_X12_putsAll_44 (by first | assumption | rfl | exact .inl rfl | exact .inr rfl)) ?_ | refine rt_eq (q_X12_putsAll_62 (by first | assumption | rfl | exact .inl rfl | exact .inr rfl)) ?_ | refine rt_eq (q_X12_putsAll_92 (by first | assumption | rfl | exact .inl rfl | exact .inr rfl) (by first | assumption | rfl | exact .inl rfl | exact .inr rfl)) ?_)
    refine rt_t (by decide) ?_
    exact lp_get53 k1 hr 16 0 I' _ (by omega) S
  | q + 1, i, I', u4, hi, S => by
    have ih := lp_get21 k1 hr q (i + 1)
    (first | refine rt_eq (q_X12_putsAll_0 (by first | assumption | rfl | exact .inl rfl | exact .inr rfl)) ?_ | refine rt_eq (q_X12_putsAll_16 (by first | assumption | rfl | exact .inl rfl | exact .inr rfl)) ?_ | refine rt_eq (q_X12_putsAll_21 (by first | assumption | rfl | exact .inl rfl | exact .inr rfl)) ?_ | refine rt_eq (q_X12_putsAll_53 (by first | assumption | rfl | exact .inl rfl | exact .inr rfl)) ?_ | refine rt_eq (q_X12_putsAll_44 (by first | assumption | rfl | exact .inl rfl | exact .inr rfl)) ?_ | refine rt_eq (q_X12_putsAll_62 (by first | assumption | rfl | exact .inl rfl | exact .inr rfl)) ?_ | refine rt_eq (q_X12_putsAll_92 (by first | assumption | rfl | exact .inl rfl | exact .inr rfl) (by first | assumption | rfl | exact .inl rfl | exact .inr rfl)) ?_)
    refine rt_f (by (try simp (disch := omega) only [nI_leI, nI_ltI, nI_eq, nI_add, pk_mul, n_0add, Nat.zero_add, nI_clamp]) <;> omega) (rt_gd (inb_n (by omega) (by decide)) ?_)
    rw [nI_clamp (by omega)]
    refine rt_be (sp_puts1 k1 (by omega) (by omega) (by decide) S.2.1) ?_
    (first | refine rt_eq (q_X12_putsAll_0 (by first | assumption | rfl | exact .inl rfl | exact .inr rfl)) ?_ | refine rt_eq (q_X12_putsAll_16 (by first | assumption | rfl | exact .inl rfl | exact .inr rfl)) ?_ | refine rt_eq (q_X12_putsAll_21 (by first | assumption | rfl | exact .inl rfl | exact .inr rfl)) ?_ | refine rt_eq (q_X12_putsAll_53 (by first | assumption | rfl | exact .inl rfl | exact .inr rfl)) ?_ | refine rt_eq (q_X12_putsAll_44 (by first | assumption | rfl | exact .inl rfl | exact .inr rfl)) ?_ | refine rt_eq (q_X12_putsAll_62 (by first | assumption | rfl | exact .inl rfl | exact .inr rfl)) ?_ | refine rt_eq (q_X12_putsAll_92 (by first | assumption | rfl | exact .inl rfl | exact .inr rfl) (by first | assumption | rfl | exact .inl rfl | exact .inr rfl)) ?_)
    refine rt_gd (inb_n (by omega) (by decide)) ?_
    rw [nI_clamp (by omega), nI_add, stB_r hr S]
    refine ih _ _ (by omega) ?_
    obtain ⟨s1, s2, s3, s4, s5⟩ := S
    refine ⟨fr_up (fr_up s1 rfl) rfl, ?_, fun _ => ?_, fun k hk hm => ?_, fun w' k hw' hk hm => by omega⟩
    · rw [up2_n (by decide), up2_s, show 1 + i + 1 = 1 + (i + 1) by omega]
    · rw [up2_n (by decide), up2_k (by decide)]
      exact s3 (by omega)
    · rw [up2_at]
      by_cases e : k = i
      · rw [if_pos e, e]
      · rw [if_neg e, up2_n (by decide)]
        exact s4 k hk (by omega)
theorem sp_putsAll1 (k1 : ka r 1 528) (hr : r = 554 ∨ r = 555 ∨ r = 556) : Rt L X (runM (d + 2) nX12_putsAll [.ref 72, .ref r, .int (nI 1)] (mm L X I J)) none (fun I'' J' => StB I r 528 I'' ∧ J' = J) := by
  rw [e_X12_putsAll]
  (first | refine rt_eq (q_X12_putsAll_0 (by first | assumption | rfl | exact .inl rfl | exact .inr rfl)) ?_ | refine rt_eq (q_X12_putsAll_16 (by first | assumption | rfl | exact .inl rfl | exact .inr rfl)) ?_ | refine rt_eq (q_X12_putsAll_21 (by first | assumption | rfl | exact .inl rfl | exact .inr rfl)) ?_ | refine rt_eq (q_X12_putsAll_53 (by first | assumption | rfl | exact .inl rfl | exact .inr rfl)) ?_ | refine rt_eq (q_X12_putsAll_44 (by first | assumption | rfl | exact .inl rfl | exact .inr rfl)) ?_ | refine rt_eq (q_X12_putsAll_62 (by first | assumption | rfl | exact .inl rfl | exact .inr rfl)) ?_ | refine rt_eq (q_X12_putsAll_92 (by first | assumption | rfl | exact .inl rfl | exact .inr rfl) (by first | assumption | rfl | exact .inl rfl | exact .inr rfl)) ?_)
  refine rt_be (sp_puts1 k1 (by omega) (by decide) (by decide) up2_s) ?_
  (first | refine rt_eq (q_X12_putsAll_0 (by first | assumption | rfl | exact .inl rfl | exact .inr rfl)) ?_ | refine rt_eq (q_X12_putsAll_16 (by first | assumption | rfl | exact .inl rfl | exact .inr rfl)) ?_ | refine rt_eq (q_X12_putsAll_21 (by first | assumption | rfl | exact .inl rfl | exact .inr rfl)) ?_ | refine rt_eq (q_X12_putsAll_53 (by first | assumption | rfl | exact .inl rfl | exact .inr rfl)) ?_ | refine rt_eq (q_X12_putsAll_44 (by first | assumption | rfl | exact .inl rfl | exact .inr rfl)) ?_ | refine rt_eq (q_X12_putsAll_62 (by first | assumption | rfl | exact .inl rfl | exact .inr rfl)) ?_ | refine rt_eq (q_X12_putsAll_92 (by first | assumption | rfl | exact .inl rfl | exact .inr rfl) (by first | assumption | rfl | exact .inl rfl | exact .inr rfl)) ?_)
  rw [up2_n (show ¬ r = 72 by omega)]
  refine lp_get21 k1 hr 31 0 _ _ (by omega) ⟨fr_up (fr_up (fr_up fr_rfl rfl) rfl) rfl, ?_, fun _ => up2_s, fun k hk hm => by omega, fun w k hw hk hm => by omega⟩
  rw [up2_k (by decide), up2_s]
end PE
