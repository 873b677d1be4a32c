/-! NUMBERS: bits of Int32, nI under the machine's operations (the first family began as kit/laws/BITS.to-paste) -/
def bt (x : Int32) (i : Nat) : Bool := x.toBitVec.getLsbD i
theorem b_ext {x y : Int32} (h : ∀ i, i < 32 → bt x i = bt y i) : x = y := Int32.toBitVec_inj.mp (BitVec.eq_of_getLsbD_eq (fun i hi => h i hi))
theorem b_and (x y : Int32) (i : Nat) : bt (x &&& y) i = (bt x i && bt y i) := by unfold bt; rw [Int32.toBitVec_and, BitVec.getLsbD_and]
theorem s_l : ∀ n, n < 32 → ((nI n &&& 31).toBitVec.smod 32).toNat = n := by decide +kernel
theorem s_u : ∀ n, n < 32 → (((nI n).toUInt32 &&& Int32.toUInt32 31).toBitVec % 32).toNat = n := by decide +kernel
theorem b_ushr (n : Nat) (hn : n < 32) (x : Int32) (i : Nat) : bt ((x.toUInt32 >>> ((nI n).toUInt32 &&& Int32.toUInt32 31)).toInt32) i = bt x (n + i) := by
  show (x.toUInt32 >>> ((nI n).toUInt32 &&& Int32.toUInt32 31)).toBitVec.getLsbD i = x.toUInt32.toBitVec.getLsbD (n + i)
  rw [UInt32.toBitVec_shiftRight]
  show (x.toUInt32.toBitVec >>> (((nI n).toUInt32 &&& Int32.toUInt32 31).toBitVec % 32).toNat).getLsbD i = _
  rw [s_u n hn, BitVec.getLsbD_ushiftRight]
theorem b_sshr (n : Nat) (hn : n < 32) (x : Int32) {i : Nat} (hi : i < 32) : bt (x >>> (nI n &&& 31)) i = if n + i < 32 then bt x (n + i) else bt x 31 := by
  unfold bt
  rw [Int32.toBitVec_shiftRight]
  show (x.toBitVec.sshiftRight ((nI n &&& 31).toBitVec.smod 32).toNat).getLsbD i = _
  rw [s_l n hn, BitVec.getLsbD_sshiftRight, BitVec.msb_eq_getLsbD_last]
  simp [hi]
theorem n_and (a b : Nat) : nI a &&& nI b = nI (a &&& b) := by
  apply Int32.toBitVec_inj.1
  show BitVec.ofNat 32 a &&& BitVec.ofNat 32 b = BitVec.ofNat 32 (a &&& b)
  apply BitVec.eq_of_getLsbD_eq
  intro i hi
  simp [hi]
theorem n_or (a b : Nat) : nI a ||| nI b = nI (a ||| b) := by
  apply Int32.toBitVec_inj.1
  show BitVec.ofNat 32 a ||| BitVec.ofNat 32 b = BitVec.ofNat 32 (a ||| b)
  apply BitVec.eq_of_getLsbD_eq
  intro i hi
  simp [hi]
theorem n_xor (a b : Nat) : nI a ^^^ nI b = nI (a ^^^ b) := by
  apply Int32.toBitVec_inj.1
  show BitVec.ofNat 32 a ^^^ BitVec.ofNat 32 b = BitVec.ofNat 32 (a ^^^ b)
  apply BitVec.eq_of_getLsbD_eq
  intro i hi
  simp [hi]
theorem bp_b (x : Int32) : x.toInt8.toInt32 &&& 255 = x &&& 255 := by
  apply Int32.toBitVec_inj.mp
  rw [Int32.toBitVec_and, Int32.toBitVec_and, Int8.toBitVec_toInt32, Int32.toBitVec_toInt8]
  apply BitVec.eq_of_getLsbD_eq
  intro i hi
  rw [BitVec.getLsbD_and, BitVec.getLsbD_and]
  have hm : ∀ i < 32, 8 ≤ i → (255 : Int32).toBitVec.getLsbD i = false := by decide
  rcases Nat.lt_or_ge i 8 with z | z
  · rw [BitVec.getLsbD_signExtend, BitVec.getLsbD_signExtend, if_pos z, if_pos hi]
    simp only [z, hi, decide_true, Bool.true_and]
  · rw [hm i hi z]; simp
/-! nI -/
section NN
variable {a b k n : Nat}
theorem n_shr (hn : n < 2 ^ 31) (hk : k < 32) : nI n >>> (nI k &&& 31) = nI (n / 2 ^ k) := pk_shrN hn _ k (s_l k hk)
theorem n_shl (hk : k < 32) (h : n * 2 ^ k < 2 ^ 32) : nI n <<< (nI k &&& 31) = nI (n * 2 ^ k) := pk_shlN _ k (s_l k hk) h
theorem n_pow (hk : k < 32) : nI 1 <<< (nI k &&& 31) = nI (2 ^ k) := by
  have h1 : 2 ^ k < 2 ^ 32 := Nat.pow_lt_pow_right (by decide) hk
  rw [n_shl hk (by omega), Nat.one_mul]
theorem n_and1 : nI n &&& nI 1 = nI (n % 2) := by rw [n_and, Nat.and_one_is_mod]
/-- the bit k of b -/
def tb (b k : Nat) : Nat := b / 2 ^ k % 2
theorem n_bit (hb : b < 2 ^ 31) (hk : k < 32) : (nI b >>> (nI k &&& 31)) &&& nI 1 = nI (tb b k) := by
  rw [n_shr hb hk, n_and1]
  rfl
theorem tb_lt : tb b k < 2 := Nat.mod_lt _ (by decide)
theorem tb_test : tb b k = 1 ↔ b.testBit k = true := by
  rw [Nat.testBit_eq_decide_div_mod_eq]
  simp [tb]
theorem tb_test0 : tb b k = 0 ↔ b.testBit k = false := by
  have := @tb_test b k
  have h2 : tb b k < 2 := tb_lt
  rcases Nat.lt_or_ge (tb b k) 1 with h | h
  · have : tb b k = 0 := by omega
    constructor
    · intro _
      by_cases hc : b.testBit k = true
      · have := tb_test.mpr hc
        omega
      · simpa using hc
    · intro _
      exact this
  · have h1 : tb b k = 1 := by omega
    rw [h1, tb_test.mp h1]
    decide
theorem tb_eq : tb b k = if b.testBit k = true then 1 else 0 := by
  by_cases h : b.testBit k = true
  · rw [if_pos h, tb_test.mpr h]
  · rw [if_neg h, tb_test0.mpr (by simpa using h)]
theorem n_eq0 (h : n < 2 ^ 31) : nI n = nI 0 ↔ n = 0 := nI_eq h (by decide)
theorem n_eq1 (h : n < 2 ^ 31) : nI n = nI 1 ↔ n = 1 := nI_eq h (by decide)
theorem n_sub1 : nI (n + 1) - nI 1 = nI n := nI_pred n
theorem n_addm1 : nI (n + 1) + (-1) = nI n := pk_m1 n
theorem n_0add {x : Int32} : nI 0 + x = x := by rw [nI_0, Int32.zero_add]
theorem n_toI (h : n < 2 ^ 31) : (nI n).toInt = (n : Int) := nI_toInt h
/-- bits 16 to 30, by either shift -/
theorem ush16 (x : Int32) : (x.toUInt32 >>> ((nI 16).toUInt32 &&& Int32.toUInt32 31)).toInt32 &&& nI 32767 = (x >>> (nI 16 &&& 31)) &&& nI 32767 := by
  apply b_ext
  intro i hi
  rw [b_and, b_and, b_ushr 16 (by decide) x i, b_sshr 16 (by decide) x hi]
  have hm : ∀ i, i < 32 → 15 ≤ i → bt (nI 32767) i = false := by decide +kernel
  rcases Nat.lt_or_ge i 15 with z | z
  · rw [if_pos (by omega)]
  · rw [hm i hi z]
    simp
end NN
