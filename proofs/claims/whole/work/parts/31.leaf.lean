/-! SPECS OF SMALL METHODS -/
/-- a truth as the machine answers it -/
def bI (b : Bool) : Int32 := if b = true then 1 else 0
theorem bI_b01 {b : Bool} : b01 (bI b) = true := by cases b <;> rfl
theorem b01_0 : b01 0 = true := rfl
theorem b01_1 : b01 1 = true := rfl
section LF
variable {d L X : Nat} {I : Nat → Nat → Int32} {J : Nat → Nat → Int64}
theorem sp_X12_footOf {x1 x2 : Int32} (h1 : inb x1 6 = true) (h2 : inb (2 - x2) 4 = true) : runM (d + 1) nX12_footOf [.ref 72, .int x1, .int x2] (mm L X I J) = some (.inl (some (.int (I (84 + 1 + x1.toNatClampNeg) (2 - x2).toNatClampNeg))), mm L X I J) := by
  rw [e_X12_footOf, q_X12_footOf_0, gd_t h1, gd_t h2]
theorem sp_X12_headOf {x1 x2 : Int32} (h1 : inb x1 6 = true) (h2 : inb (1 + x2) 4 = true) : runM (d + 1) nX12_headOf [.ref 72, .int x1, .int x2] (mm L X I J) = some (.inl (some (.int (I (84 + 1 + x1.toNatClampNeg) (1 + x2).toNatClampNeg))), mm L X I J) := by
  rw [e_X12_headOf, q_X12_headOf_0, gd_t h1, gd_t h2]
theorem sp_X12_in {x0 x1 x2 : Int32} : runM (d + 1) nX12_in [.int x0, .int x1, .int x2] (mm L X I J) = some (.inl (some (.int (bI (decide (x1 ≤ x0 ∧ x0 ≤ x2))))), mm L X I J) := by
  rw [e_X12_in, q_X12_in_0]
  by_cases h1 : x0 < x1
  · rw [if_pos h1, decide_eq_false (fun h => absurd h1 (Int32.not_lt.mpr h.1))]
    rfl
  · by_cases h2 : x2 < x0
    · rw [if_neg h1, if_pos h2, decide_eq_false (fun h => absurd h2 (Int32.not_lt.mpr h.2))]
      rfl
    · rw [if_neg h1, if_neg h2, decide_eq_true ⟨Int32.not_lt.mp h1, Int32.not_lt.mp h2⟩]
      rfl
theorem sp_X12_thrown : runM (d + 1) nX12_thrown [.ref 72] (mm L X I J) = some (.inl (some (.int (I 72 0))), mm L X I J) := by
  rw [e_X12_thrown, q_X12_thrown_0]
theorem sp_X12_has {x0 x1 : Int32} : runM (d + 1) nX12_has [.int x0, .int x1] (mm L X I J) = some (.inl (some (.int (bI (decide ((x0 >>> (x1 &&& 31)) &&& 1 = 1))))), mm L X I J) := by
  rw [e_X12_has, q_X12_has_0]
  by_cases h1 : (x0 >>> (x1 &&& 31)) &&& 1 = 1
  · rw [if_pos h1, decide_eq_true h1]
    rfl
  · rw [if_neg h1, decide_eq_false h1]
    rfl
end LF
