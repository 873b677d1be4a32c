/-! SPECS OF SMALL METHODS -/
section LF
variable {d L X : Nat} {I : Nat → Nat → Int32} {J : Nat → Nat → Int64}
theorem sp_X12_footOf {x1 x2 : Int32} (h1 : inb x1 6 = true) (h2 : inb (2 - x2) 4 = true) : runM (d + 1) nX12_footOf [.ref 72, .int x1, .int x2] (mm L X I J) = some (.inl (some (.int (I (84 + 1 + x1.toNatClampNeg) (2 - x2).toNatClampNeg))), mm L X I J) := by
  rw [e_X12_footOf, q_X12_footOf_0, gd_t h1, gd_t h2]
theorem sp_X12_headOf {x1 x2 : Int32} (h1 : inb x1 6 = true) (h2 : inb (1 + x2) 4 = true) : runM (d + 1) nX12_headOf [.ref 72, .int x1, .int x2] (mm L X I J) = some (.inl (some (.int (I (84 + 1 + x1.toNatClampNeg) (1 + x2).toNatClampNeg))), mm L X I J) := by
  rw [e_X12_headOf, q_X12_headOf_0, gd_t h1, gd_t h2]
end LF
