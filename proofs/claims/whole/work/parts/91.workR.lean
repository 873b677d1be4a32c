/-! WORK IS READ -/
section WR
variable {d L X : Nat} {I : MI32} {J : MI64}
theorem sp_add {e : Nat} {x1 x2 x3 : Int32} (h : I 37 3 = nI e) (he : e < 75) : runM (d + 2) nX9_add [.ref 37, .int x1, .int x2, .int x3] (mm L X I J) = rV (mm L X (up2 (up2 (up2 (up2 I 38 e x1) 39 e x2) 40 e x3) 37 3 (nI (e + 1))) J) := by
  rw [e_X9_add]
  (first | refine Eq.trans (q_X9_add_0) ?_ | refine Eq.trans (q_X9_add_12) ?_ | refine Eq.trans (q_X9_add_24) ?_ | refine Eq.trans (q_X9_add_36) ?_)
  rw [h, sp_put ka_38 (by decide), pt_n he (by decide)]
  refine Eq.trans (bndN_e rfl) ?_
  (first | refine Eq.trans (q_X9_add_0) ?_ | refine Eq.trans (q_X9_add_12) ?_ | refine Eq.trans (q_X9_add_24) ?_ | refine Eq.trans (q_X9_add_36) ?_)
  rw [up2_n (by decide), h, sp_put ka_39 (by decide), pt_n he (by decide)]
  refine Eq.trans (bndN_e rfl) ?_
  (first | refine Eq.trans (q_X9_add_0) ?_ | refine Eq.trans (q_X9_add_12) ?_ | refine Eq.trans (q_X9_add_24) ?_ | refine Eq.trans (q_X9_add_36) ?_)
  rw [up2_n (by decide), up2_n (by decide), h, sp_put ka_40 (by decide), pt_n he (by decide)]
  refine Eq.trans (bndN_e rfl) ?_
  (first | refine Eq.trans (q_X9_add_0) ?_ | refine Eq.trans (q_X9_add_12) ?_ | refine Eq.trans (q_X9_add_24) ?_ | refine Eq.trans (q_X9_add_36) ?_)
  rw [up2_n (by decide), up2_n (by decide), up2_n (by decide), h, nI_add]
  by_cases q : e + 1 < 75
  · rw [if_pos (by ((try simp (disch := omega) only [nI_leI, nI_ltI, nI_eq, nI_add, pk_mul, n_0add, Nat.zero_add, nI_clamp]) <;> omega))]
  · rw [if_neg (by ((try simp (disch := omega) only [nI_leI, nI_ltI, nI_eq, nI_add, pk_mul, n_0add, Nat.zero_add, nI_clamp]) <;> omega)), show e + 1 = 75 by omega]
end WR
