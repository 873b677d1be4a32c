/-! THE TAPE IS FED -/
section FD
variable {d L X : Nat} {I : MI32} {J : MI64} {W : Nat → Nat} {tp : Nat}
theorem and255 {y : Int32} : ∃ c, c < 256 ∧ y &&& nI 255 = nI c := by
  refine ⟨y.toBitVec.toNat % 256, Nat.mod_lt _ (by decide), ?_⟩
  refine Int32.toBitVec_inj.mp ?_
  have e : (nI 255).toBitVec = 255#32 := by decide
  have e2 : (nI (y.toBitVec.toNat % 256)).toBitVec = BitVec.ofNat 32 (y.toBitVec.toNat % 256) := rfl
  rw [Int32.toBitVec_and, e, e2]
  refine BitVec.eq_of_toNat_eq ?_
  rw [BitVec.toNat_and, BitVec.toNat_ofNat, BitVec.toNat_ofNat, Nat.and_two_pow_sub_one_eq_mod _ 8]
  omega
theorem byte255 {y : Int32} : y.toInt8.toInt32 &&& nI 255 = y &&& nI 255 := by
  refine Int32.toBitVec_inj.mp ?_
  have e : (nI 255).toBitVec = 255#32 := by decide
  rw [Int32.toBitVec_and, Int32.toBitVec_and, e, Int8.toBitVec_toInt32, Int32.toBitVec_toInt8]
  refine BitVec.eq_of_getLsbD_eq (fun i hi => ?_)
  rw [BitVec.getLsbD_and, BitVec.getLsbD_and]
  by_cases q : i < 8
  · rw [BitVec.getLsbD_signExtend, if_pos q, BitVec.getLsbD_signExtend, if_pos hi, decide_eq_true hi, decide_eq_true q, Bool.true_and, Bool.true_and]
  · have : (255#32).getLsbD i = false := by
      rw [BitVec.getLsbD_ofNat]
      have : (255 : Nat).testBit i = false := Nat.testBit_lt_two_pow (Nat.lt_of_lt_of_le (by decide : 255 < 2 ^ 8) (Nat.pow_le_pow_right (by decide) (by omega)))
      rw [this, Bool.and_false]
    rw [this, Bool.and_false, Bool.and_false]
theorem nar_b {y : Int32} : vp_nar .byte y = y.toInt8.toInt32 := rfl
/-- byte j of a word -/
def byb (x : Int32) (j : Nat) : Nat := nv ((x >>> (nI (24 - 8 * j) &&& 31)) &&& nI 255)
theorem byb_n {x : Int32} {j : Nat} : (x >>> (nI (24 - 8 * j) &&& 31)) &&& nI 255 = nI (byb x j) ∧ byb x j < 256 := by
  obtain ⟨c, hc, e⟩ := and255 (y := x >>> (nI (24 - 8 * j) &&& 31))
  have e2 : byb x j = c := by
    unfold byb nv
    rw [e, nI_clamp (by omega)]
  rw [e, e2]
  exact ⟨rfl, hc⟩
/-- m bytes f behind tp -/
def fdW (W : Nat → Nat) (tp : Nat) (f : Nat → Nat) (m : Nat) : Nat → Nat := fun k => if tp ≤ k ∧ k < tp + m then f (k - tp) else W k
theorem BC_put {p : Nat} {f : Nat → Nat} {m : Nat} {x : Int32} (B : BC I (fdW W tp f m)) (hp : p = tp + m) (hx : x &&& nI 255 = nI (f m)) (hc : f m < 256) : BC (up2 I 2 p x) (fdW W tp f (m + 1)) := by
  intro k hk
  rw [up2_at]
  unfold fdW
  by_cases q : k = p
  · rw [if_pos q, if_pos (by omega), q, hp, Nat.add_sub_cancel_left]
    exact ⟨hx, hc⟩
  · rw [if_neg q]
    have := B k hk
    unfold fdW at this
    by_cases q2 : tp ≤ k ∧ k < tp + m
    · rw [if_pos q2] at this
      rw [if_pos (by omega)]
      exact this
    · rw [if_neg q2] at this
      rw [if_neg (by omega)]
      exact this
theorem BM_put {p : Nat} {f : Nat → Nat} {m : Nat} {x : Int32} (B : BM I (fdW W tp f m)) (hp : p = tp + m) (hx : x = nI (f m)) : BM (up2 I 73 p x) (fdW W tp f (m + 1)) := by
  intro k hk
  rw [up2_at]
  unfold fdW
  by_cases q : k = p
  · rw [if_pos q, if_pos (by omega), q, hp, Nat.add_sub_cancel_left]
    exact hx
  · rw [if_neg q]
    have := B k hk
    unfold fdW at this
    by_cases q2 : tp ≤ k ∧ k < tp + m
    · rw [if_pos q2] at this
      rw [if_pos (by omega)]
      exact this
    · rw [if_neg q2] at this
      rw [if_neg (by omega)]
      exact this
end FD
