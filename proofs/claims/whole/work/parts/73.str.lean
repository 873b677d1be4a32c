/-! WORDS THAT STAND IN THE CLASS: length and charAt of a String constant -/
section ST
variable {d L X : Nat} {I : MI32} {J : MI64} {a : Nat}
theorem pg_J0_length : PG[nJ0_length_8abf5]? = some pe_J0_length_8abf5 := (pg_hi (j := 138) rfl rfl)
theorem pg_J0_coder : PG[nJ0_coder_7d493]? = some pe_J0_coder_7d493 := (pg_hi (j := 139) rfl rfl)
theorem pg_J0_charAt : PG[nJ0_charAt_5068e]? = some pe_J0_charAt_5068e := (pg_hi (j := 140) rfl rfl)
theorem pg_J0_isLatin1 : PG[nJ0_isLatin1_aae02]? = some pe_J0_isLatin1_aae02 := (pg_hi (j := 141) rfl rfl)
theorem pg_J0_checkIndex : PG[nJ0_checkIndex_df160]? = some pe_J0_checkIndex_df160 := (pg_hi (j := 142) rfl rfl)
theorem pg_J1_charAt : PG[nJ1_charAt_3b067]? = some pe_J1_charAt_3b067 := (pg_hi (j := 143) rfl rfl)
theorem pg_J3_checkIndex : PG[nJ3_checkIndex_8e157]? = some pe_J3_checkIndex_8e157 := (pg_hi (j := 146) rfl rfl)
/-- how long the bytes of a word list are -/
def lsS (a : Nat) : Nat := if a = 1000002 then 23 else if a = 1000004 then 64 else 47
theorem kd_os1 (h : os a) : kd (mm L X I J) (a + 1) = some (7, lsS a) := by
  rcases h with rfl | rfl | rfl <;> exact (if_neg (by decide)).trans ((if_neg (by decide)).trans rfl)
theorem os_le1 (h : os a) : XB ≤ a + 1 := by
  rcases h with rfl | rfl | rfl <;> decide
theorem xgs19 {call : CALL} {mi : MI} {pc idx x y z : Nat} {V : List (Option Value)} {st : List Value} {m : AM} (hd : decode mi.2.1 pc = .ok (.getstatic idx, 3)) (hc : cp mi.1 idx = some (19, x, y, z)) : runI call mi (pc, V, st, m) = runI call mi (pc + 3, V, .int 1 :: st, m) := by
  refine st1 hd rfl ?_
  show xgs mi.1 pc V st m idx = _
  unfold xgs
  simp only [hc]
  rfl
theorem xgs21 {call : CALL} {mi : MI} {pc idx x y z : Nat} {V : List (Option Value)} {st : List Value} {m : AM} (hd : decode mi.2.1 pc = .ok (.getstatic idx, 3)) (hc : cp mi.1 idx = some (21, x, y, z)) : runI call mi (pc, V, st, m) = runI call mi (pc + 3, V, .retAddr 0 :: st, m) := by
  refine st1 hd rfl ?_
  show xgs mi.1 pc V st m idx = _
  unfold xgs
  simp only [hc]
  rfl
theorem xg20v {call : CALL} {mi : MI} {pc idx y z : Nat} {V : List (Option Value)} {st : List Value} (h : os a) (hd : decode mi.2.1 pc = .ok (.getfield idx, 3)) (hc : cp mi.1 idx = some (20, 1, y, z)) : runI call mi (pc, V, .ref a :: st, mm L X I J) = runI call mi (pc + 3, V, .ref (a + 1) :: st, mm L X I J) := by
  refine st1 hd rfl ?_
  show xget mi.1 pc V (.ref a :: st) (mm L X I J) idx = _
  have h1 : ¬ a < XB := Nat.not_lt.mpr (os_le h)
  unfold xget
  simp only [hc, kd_os h, if_neg h1]
  rfl
theorem xg20c {call : CALL} {mi : MI} {pc idx y z : Nat} {V : List (Option Value)} {st : List Value} (h : os a) (hd : decode mi.2.1 pc = .ok (.getfield idx, 3)) (hc : cp mi.1 idx = some (20, 0, y, z)) : runI call mi (pc, V, .ref a :: st, mm L X I J) = runI call mi (pc + 3, V, .int 0 :: st, mm L X I J) := by
  refine st1 hd rfl ?_
  show xget mi.1 pc V (.ref a :: st) (mm L X I J) idx = _
  have h1 : ¬ a < XB := Nat.not_lt.mpr (os_le h)
  unfold xget
  simp only [hc, kd_os h, if_neg h1]
  rfl
theorem ret4 {call : CALL} {mi : MI} {pc : Nat} {V : List (Option Value)} {m : AM} {x : Int32} (hd : decode mi.2.1 pc = .ok (.ireturn, 1)) (ht : mi.2.2.1 = 4) (hx : narrow .char (.int x) = .int x) : runI call mi (pc, V, [.int x], m) = some (.inl (some (.int x)), m) := by
  refine st0 hd rfl ?_
  show xret mi.2.2.1 [.int x] m = _
  unfold xret
  exact if_pos (.inr (.inr (.inl ⟨ht, hx⟩)))
theorem ret5 {call : CALL} {mi : MI} {pc : Nat} {V : List (Option Value)} {m : AM} {x : Int32} (hd : decode mi.2.1 pc = .ok (.ireturn, 1)) (ht : mi.2.2.1 = 5) (hx : narrow .byte (.int x) = .int x) : runI call mi (pc, V, [.int x], m) = some (.inl (some (.int x)), m) := by
  refine st0 hd rfl ?_
  show xret mi.2.2.1 [.int x] m = _
  unfold xret
  exact if_pos (.inr (.inr (.inr ⟨ht, hx⟩)))
theorem sp_coder (h : os a) : runM (d + 1) nJ0_coder_7d493 [.ref a] (mm L X I J) = some (.inl (some (.int 0)), mm L X I J) := by
  refine Eq.trans (runM_of pg_J0_coder (Nat.le_of_ble_eq_true rfl) rfl) ?_
  refine Eq.trans (xgs19 dJ0_coder_7d493_0 cp_14_38) ?_
  refine Eq.trans (if_eq (tgt := 13) dJ0_coder_7d493_3 (by decide +kernel)) ?_
  rw [if_neg (by decide)]
  refine Eq.trans (st1 dJ0_coder_7d493_6 rfl rfl) ?_
  refine Eq.trans (xg20c h dJ0_coder_7d493_7 cp_14_15) ?_
  refine Eq.trans (go_to (tgt := 14) dJ0_coder_7d493_10 (by decide +kernel)) ?_
  exact ret5 dJ0_coder_7d493_14 rfl (by decide +kernel)
theorem sp_isLatin1 (h : os a) : runM (d + 1) nJ0_isLatin1_aae02 [.ref a] (mm L X I J) = some (.inl (some (.int 1)), mm L X I J) := by
  refine Eq.trans (runM_of pg_J0_isLatin1 (Nat.le_of_ble_eq_true rfl) rfl) ?_
  refine Eq.trans (xgs19 dJ0_isLatin1_aae02_0 cp_14_38) ?_
  refine Eq.trans (if_eq (tgt := 17) dJ0_isLatin1_aae02_3 (by decide +kernel)) ?_
  rw [if_neg (by decide)]
  refine Eq.trans (st1 dJ0_isLatin1_aae02_6 rfl rfl) ?_
  refine Eq.trans (xg20c h dJ0_isLatin1_aae02_7 cp_14_15) ?_
  refine Eq.trans (if_ne (tgt := 17) dJ0_isLatin1_aae02_10 (by decide +kernel)) ?_
  rw [if_pos rfl]
  refine Eq.trans (xiconst dJ0_isLatin1_aae02_13 ci_1) ?_
  refine Eq.trans (go_to (tgt := 18) dJ0_isLatin1_aae02_14 (by decide +kernel)) ?_
  exact ret1 dJ0_isLatin1_aae02_18 rfl (.inr (by decide))
theorem sp_length (h : os a) : runM (d + 2) nJ0_length_8abf5 [.ref a] (mm L X I J) = rI (nI (lsS a)) (mm L X I J) := by
  refine Eq.trans (runM_of pg_J0_length (Nat.le_of_ble_eq_true rfl) rfl) ?_
  refine Eq.trans (st1 dJ0_length_8abf5_0 rfl rfl) ?_
  refine Eq.trans (xg20v h dJ0_length_8abf5_1 cp_14_9) ?_
  refine Eq.trans (alen dJ0_length_8abf5_4 (kd_os1 h) (.inr ⟨os_le1 h, .inr rfl⟩)) ?_
  refine Eq.trans (st1 dJ0_length_8abf5_5 rfl rfl) ?_
  refine Eq.trans (ivS dJ0_length_8abf5_6 cp_14_335 rfl rfl (kd_os h) (os_le h) (Nat.le_of_ble_eq_true rfl)) ?_
  refine Eq.trans (bndN_e (sp_coder h)) ?_
  refine Eq.trans (st1 dJ0_length_8abf5_9 rfl rfl) ?_
  refine Eq.trans (ret0 dJ0_length_8abf5_10 rfl) ?_
  have e : Int32.ofNat (lsS a) >>> ((0 : Int32) &&& 31) = nI (lsS a) := by
    rcases h with rfl | rfl | rfl <;> decide +kernel
  exact congrArg (fun x => rI x (mm L X I J)) e
theorem sp_chk3 {k n : Nat} (hk : k < n) (hn : n < 2 ^ 31) : runM (d + 1) nJ3_checkIndex_8e157 [.int (nI k), .int (nI n), .retAddr 0] (mm L X I J) = rI (nI k) (mm L X I J) := by
  refine Eq.trans (runM_of pg_J3_checkIndex (Nat.le_of_ble_eq_true rfl) rfl) ?_
  refine Eq.trans (st1 dJ3_checkIndex_8e157_0 rfl rfl) ?_
  refine Eq.trans (if_lt (tgt := 9) dJ3_checkIndex_8e157_1 (by decide +kernel)) ?_
  rw [← nI_0, if_neg (by ((try simp (disch := omega) only [nI_leI, nI_ltI, nI_eq, nI_add, pk_mul, n_0add, Nat.zero_add, nI_clamp]) <;> omega))]
  refine Eq.trans (st1 dJ3_checkIndex_8e157_4 rfl rfl) ?_
  refine Eq.trans (st1 dJ3_checkIndex_8e157_5 rfl rfl) ?_
  refine Eq.trans (ic_lt (tgt := 16) dJ3_checkIndex_8e157_6 (by decide +kernel)) ?_
  rw [if_pos (by ((try simp (disch := omega) only [nI_leI, nI_ltI, nI_eq, nI_add, pk_mul, n_0add, Nat.zero_add, nI_clamp]) <;> omega))]
  refine Eq.trans (st1 dJ3_checkIndex_8e157_16 rfl rfl) ?_
  exact ret0 dJ3_checkIndex_8e157_17 rfl
theorem sp_chk0 {k n : Nat} (hk : k < n) (hn : n < 2 ^ 31) : runM (d + 2) nJ0_checkIndex_df160 [.int (nI k), .int (nI n)] (mm L X I J) = rV (mm L X I J) := by
  refine Eq.trans (runM_of pg_J0_checkIndex (Nat.le_of_ble_eq_true rfl) rfl) ?_
  refine Eq.trans (st1 dJ0_checkIndex_df160_0 rfl rfl) ?_
  refine Eq.trans (st1 dJ0_checkIndex_df160_1 rfl rfl) ?_
  refine Eq.trans (xgs21 dJ0_checkIndex_df160_2 cp_14_1053) ?_
  refine Eq.trans (is2 dJ0_checkIndex_df160_5 cp_14_1059 (Nat.le_of_ble_eq_true rfl) rfl rfl (Nat.le_of_ble_eq_true rfl)) ?_
  refine Eq.trans (bndN_e (sp_chk3 hk hn)) ?_
  refine Eq.trans (st1 dJ0_checkIndex_df160_8 rfl rfl) ?_
  exact ret3 dJ0_checkIndex_df160_9 (.inl rfl)
theorem sp_charAt1 {k c : Nat} (h : os a) (hk : k < lsS a) (hc : c < 128) (e : I (a + 1) k = nI c) : runM (d + 3) nJ1_charAt_3b067 [.ref (a + 1), .int (nI k)] (mm L X I J) = rI (nI c) (mm L X I J) := by
  have hl : lsS a < 2 ^ 31 := by
    rcases h with rfl | rfl | rfl <;> decide
  have hn : ∀ c, c < 128 → narrow .char (.int (nI c)) = .int (nI c) := by decide +kernel
  have hn2 : ∀ c, c < 128 → ((nI c &&& (Int16.ofInt 255).toInt32).toUInt32 % 65536).toInt32 = nI c := by decide +kernel
  refine Eq.trans (runM_of pg_J1_charAt (Nat.le_of_ble_eq_true rfl) rfl) ?_
  refine Eq.trans (st1 dJ1_charAt_3b067_0 rfl rfl) ?_
  refine Eq.trans (st1 dJ1_charAt_3b067_1 rfl rfl) ?_
  refine Eq.trans (alen dJ1_charAt_3b067_2 (kd_os1 h) (.inr ⟨os_le1 h, .inr rfl⟩)) ?_
  refine Eq.trans (is2 dJ1_charAt_3b067_3 cp_15_9 (Nat.le_of_ble_eq_true rfl) rfl rfl (Nat.le_of_ble_eq_true rfl)) ?_
  refine Eq.trans (bndN_e (sp_chk0 hk hl)) ?_
  refine Eq.trans (st1 dJ1_charAt_3b067_6 rfl rfl) ?_
  refine Eq.trans (st1 dJ1_charAt_3b067_7 rfl rfl) ?_
  refine Eq.trans (al7 dJ1_charAt_3b067_8 (kd_os1 h) (os_le1 h)) ?_
  rw [gd_t (inb_n hk hl), nI_clamp (by omega)]
  have ei : mI (mm L X I J) (a + 1) k = nI c := e
  rw [ei]
  refine Eq.trans (xsipush dJ1_charAt_3b067_9 rfl) ?_
  refine Eq.trans (st1 dJ1_charAt_3b067_12 rfl rfl) ?_
  refine Eq.trans (st1 dJ1_charAt_3b067_13 rfl rfl) ?_
  refine Eq.trans (ret4 (x := ((nI c &&& (Int16.ofInt 255).toInt32).toUInt32 % 65536).toInt32) dJ1_charAt_3b067_14 rfl (by rw [hn2 c hc]; exact hn c hc)) ?_
  rw [hn2 c hc]
theorem sp_charAt {k c : Nat} (h : os a) (hk : k < lsS a) (hc : c < 128) (e : I (a + 1) k = nI c) : runM (d + 4) nJ0_charAt_5068e [.ref a, .int (nI k)] (mm L X I J) = rI (nI c) (mm L X I J) := by
  have hn : ∀ c, c < 128 → narrow .char (.int (nI c)) = .int (nI c) := by decide +kernel
  refine Eq.trans (runM_of pg_J0_charAt (Nat.le_of_ble_eq_true rfl) rfl) ?_
  refine Eq.trans (st1 dJ0_charAt_5068e_0 rfl rfl) ?_
  refine Eq.trans (ivS dJ0_charAt_5068e_1 cp_14_492 rfl rfl (kd_os h) (os_le h) (Nat.le_of_ble_eq_true rfl)) ?_
  refine Eq.trans (bndN_e (sp_isLatin1 h)) ?_
  refine Eq.trans (if_eq (tgt := 16) dJ0_charAt_5068e_4 (by decide +kernel)) ?_
  rw [if_neg (by decide)]
  refine Eq.trans (st1 dJ0_charAt_5068e_7 rfl rfl) ?_
  refine Eq.trans (xg20v h dJ0_charAt_5068e_8 cp_14_9) ?_
  refine Eq.trans (st1 dJ0_charAt_5068e_11 rfl rfl) ?_
  refine Eq.trans (is2 dJ0_charAt_5068e_12 cp_14_495 (Nat.le_of_ble_eq_true rfl) rfl rfl (Nat.le_of_ble_eq_true rfl)) ?_
  refine Eq.trans (bndN_e (sp_charAt1 h hk hc e)) ?_
  exact ret4 dJ0_charAt_5068e_15 rfl (hn c hc)
end ST
