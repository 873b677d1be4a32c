/-! EQUATIONS OF THE METHODS (written by gen_eq.py) -/
theorem q_X12_takes_0 {call : CALL} {L X : Nat} {I : Nat → Nat → Int32} {J : Nat → Nat → Int64} {x1 : Int32} {x2 : Int32} {x3 : Int32} {x4 : Int32} {x5 : Int32} {x6 : Int32} : runI call iX12_takes (0, [some (.ref 72), some (.int x1), some (.int x2), some (.int x3), some (.int x4), some (.int x5), some (.int x6), none], [], (mm L X I J)) = bnd (call nX12_isWord [.ref 72, .int x1, .int x2, .int x3, .int x4, .int x5, .int x6] (mm L X I J)) (fun v m' => runI call iX12_takes (13, [some (.ref 72), some (.int x1), some (.int x2), some (.int x3), some (.int x4), some (.int x5), some (.int x6), none], v.toList ++ [], m')) := by
  refine Eq.trans (st1 dX12_takes_0 rfl rfl) ?_
  refine Eq.trans (st1 dX12_takes_1 rfl rfl) ?_
  refine Eq.trans (st1 dX12_takes_2 rfl rfl) ?_
  refine Eq.trans (st1 dX12_takes_3 rfl rfl) ?_
  refine Eq.trans (st1 dX12_takes_4 rfl rfl) ?_
  refine Eq.trans (st1 dX12_takes_6 rfl rfl) ?_
  refine Eq.trans (st1 dX12_takes_8 rfl rfl) ?_
  exact iv0 dX12_takes_10 rfl cp_12_152 rfl rfl (kd_ka ka_72) ka_72.1 (Nat.le_of_ble_eq_true rfl)
theorem q_X12_takes_13 {call : CALL} {L X : Nat} {I : Nat → Nat → Int32} {J : Nat → Nat → Int64} {u1 : Option Value} {u2 : Option Value} {u3 : Option Value} {u4 : Option Value} {u5 : Option Value} {u6 : Option Value} {u7 : Option Value} {s0 : Int32} (hu6 : okv u6 = true) : runI call iX12_takes (13, [some (.ref 72), u1, u2, u3, u4, u5, u6, u7], [.int s0], (mm L X I J)) = if s0 = (nI 0) then gd (b01 s0) (some (.inl (some (.int s0)), (mm L X I J))) else bnd (call nX12_skipWord [.ref 72] (mm L X I J)) (fun v m' => runI call iX12_takes (24, [some (.ref 72), u1, u2, u3, u4, u5, u6, some (.int s0)], v.toList ++ [], m')) := by
  refine Eq.trans (xst2 (k := 7) dX12_takes_13 hu6 rfl) ?_
  refine Eq.trans (st1 dX12_takes_15 rfl rfl) ?_
  refine Eq.trans (if_eq (tgt := 24) dX12_takes_17 (by decide +kernel)) (ite_cong (fun _ => ?_) (fun _ => ?_))
  · refine Eq.trans (st1 dX12_takes_24 rfl rfl) ?_
    exact ret1g dX12_takes_26 rfl
  · refine Eq.trans (st1 dX12_takes_20 rfl rfl) ?_
    exact iv0 dX12_takes_21 rfl cp_12_156 rfl rfl (kd_ka ka_72) ka_72.1 (Nat.le_of_ble_eq_true rfl)
theorem q_X12_takes_24 {call : CALL} {L X : Nat} {I : Nat → Nat → Int32} {J : Nat → Nat → Int64} {u0 : Option Value} {u1 : Option Value} {u2 : Option Value} {u3 : Option Value} {u4 : Option Value} {u5 : Option Value} {u6 : Option Value} {x7 : Int32} : runI call iX12_takes (24, [u0, u1, u2, u3, u4, u5, u6, some (.int x7)], [], (mm L X I J)) = gd (b01 x7) (some (.inl (some (.int x7)), (mm L X I J))) := by
  refine Eq.trans (st1 dX12_takes_24 rfl rfl) ?_
  exact ret1g dX12_takes_26 rfl
theorem q_X12_takesSign_0 {call : CALL} {L X : Nat} {I : Nat → Nat → Int32} {J : Nat → Nat → Int64} {x1 : Int32} : runI call iX12_takesSign (0, [some (.ref 72), some (.int x1), none], [], (mm L X I J)) = if (I 72 5) = (nI 0) then bnd (call nX12_blanks [.ref 72] (mm L X I J)) (fun v m' => runI call iX12_takesSign (13, [some (.ref 72), some (.int x1), none], v.toList ++ [], m')) else some (.inl (some (.int (nI 0))), (mm L X I J)) := by
  refine Eq.trans (st1 dX12_takesSign_0 rfl rfl) ?_
  refine Eq.trans (getIm dX12_takesSign_1 cp_12_119 ka_72 (.inl rfl)) ?_
  refine Eq.trans (if_eq (tgt := 9) dX12_takesSign_4 (by decide +kernel)) (ite_cong (fun _ => ?_) (fun _ => ?_))
  · refine Eq.trans (st1 dX12_takesSign_9 rfl rfl) ?_
    exact iv0 dX12_takesSign_10 rfl cp_12_125 rfl rfl (kd_ka ka_72) ka_72.1 (Nat.le_of_ble_eq_true rfl)
  · refine Eq.trans (xiconst dX12_takesSign_7 ci_0) ?_
    exact ret1 dX12_takesSign_8 rfl (.inl rfl)
theorem q_X12_takesSign_13 {call : CALL} {L X : Nat} {I : Nat → Nat → Int32} {J : Nat → Nat → Int64} {x1 : Int32} {u2 : Option Value} : runI call iX12_takesSign (13, [some (.ref 72), some (.int x1), u2], [], (mm L X I J)) = bnd (call nX12_byteAt [.ref 72, .int (I 72 4)] (mm L X I J)) (fun v m' => runI call iX12_takesSign (21, [some (.ref 72), some (.int x1), u2], v.toList ++ [], m')) := by
  refine Eq.trans (st1 dX12_takesSign_13 rfl rfl) ?_
  refine Eq.trans (st1 dX12_takesSign_14 rfl rfl) ?_
  refine Eq.trans (getIm dX12_takesSign_15 cp_12_112 ka_72 (.inl rfl)) ?_
  exact iv0 dX12_takesSign_18 rfl cp_12_115 rfl rfl (kd_ka ka_72) ka_72.1 (Nat.le_of_ble_eq_true rfl)
theorem q_X12_takesSign_21 {call : CALL} {L X : Nat} {I : Nat → Nat → Int32} {J : Nat → Nat → Int64} {x1 : Int32} {u2 : Option Value} {s0 : Int32} : runI call iX12_takesSign (21, [some (.ref 72), some (.int x1), u2], [.int s0], (mm L X I J)) = if s0 = x1 then runI call iX12_takesSign (30, [some (.ref 72), some (.int x1), u2], [.int (nI 1)], (mm L X I J)) else runI call iX12_takesSign (30, [some (.ref 72), some (.int x1), u2], [.int (nI 0)], (mm L X I J)) := by
  refine Eq.trans (st1 dX12_takesSign_21 rfl rfl) ?_
  refine Eq.trans (ic_ne (tgt := 29) dX12_takesSign_22 (by decide +kernel)) (ite_cong (fun _ => ?_) (fun _ => ?_))
  · refine Eq.trans (xiconst dX12_takesSign_25 ci_1) ?_
    refine Eq.trans (go_to (tgt := 30) dX12_takesSign_26 (by decide +kernel)) ?_
    rfl
  · refine Eq.trans (xiconst dX12_takesSign_29 ci_0) ?_
    rfl
theorem q_X12_takesSign_30 {call : CALL} {L X : Nat} {I : Nat → Nat → Int32} {J : Nat → Nat → Int64} {u1 : Option Value} {u2 : Option Value} {s0 : Int32} (hu1 : okv u1 = true) : runI call iX12_takesSign (30, [some (.ref 72), u1, u2], [.int s0], (mm L X I J)) = if s0 = (nI 0) then gd (b01 s0) (some (.inl (some (.int s0)), (mm L X I J))) else gd (b01 s0) (some (.inl (some (.int s0)), (mm L X (up2 I 72 4 ((I 72 4) + (nI 1))) J))) := by
  refine Eq.trans (xst1 (k := 2) dX12_takesSign_30 hu1 rfl) ?_
  refine Eq.trans (st1 dX12_takesSign_31 rfl rfl) ?_
  refine Eq.trans (if_eq (tgt := 45) dX12_takesSign_32 (by decide +kernel)) (ite_cong (fun _ => ?_) (fun _ => ?_))
  · refine Eq.trans (st1 dX12_takesSign_45 rfl rfl) ?_
    exact ret1g dX12_takesSign_46 rfl
  · refine Eq.trans (st1 dX12_takesSign_35 rfl rfl) ?_
    refine Eq.trans (st1 dX12_takesSign_36 rfl rfl) ?_
    refine Eq.trans (getIm dX12_takesSign_37 cp_12_112 ka_72 (.inl rfl)) ?_
    refine Eq.trans (xiconst dX12_takesSign_40 ci_1) ?_
    refine Eq.trans (st1 dX12_takesSign_41 rfl rfl) ?_
    refine Eq.trans (putIm dX12_takesSign_42 cp_12_112 ka_72 rfl) ?_
    refine Eq.trans (st1 dX12_takesSign_45 rfl rfl) ?_
    exact ret1g dX12_takesSign_46 rfl
theorem q_X12_book_0 {call : CALL} {L X : Nat} {I : Nat → Nat → Int32} {J : Nat → Nat → Int64} {x1 : Int32} : runI call iX12_book (0, [some (.ref 72), some (.int x1), none, none, none, none], [], (mm L X I J)) = bndN (call nX12_in [.int x1, .int (nI 0), .int ((up2 I 72 0 (nI 0)) 72 1)] (mm L X (up2 I 72 0 (nI 0)) J)) (fun v m' => runI call iX12_book (15, [some (.ref 72), some (.int x1), none, none, none, none], v.toList ++ [.ref 72], m')) := by
  refine Eq.trans (st1 dX12_book_0 rfl rfl) ?_
  refine Eq.trans (xiconst dX12_book_1 ci_0) ?_
  refine Eq.trans (putIm dX12_book_2 cp_12_103 ka_72 rfl) ?_
  refine Eq.trans (st1 dX12_book_5 rfl rfl) ?_
  refine Eq.trans (st1 dX12_book_6 rfl rfl) ?_
  refine Eq.trans (xiconst dX12_book_7 ci_0) ?_
  refine Eq.trans (st1 dX12_book_8 rfl rfl) ?_
  refine Eq.trans (getIm dX12_book_9 cp_12_106 ka_72 (.inl rfl)) ?_
  exact is2 dX12_book_12 cp_12_137 (Nat.le_of_ble_eq_true rfl) rfl rfl (Nat.le_of_ble_eq_true rfl)
theorem q_X12_book_15 {call : CALL} {L X : Nat} {I : Nat → Nat → Int32} {J : Nat → Nat → Int64} {x1 : Int32} {u2 : Option Value} {u3 : Option Value} {u4 : Option Value} {u5 : Option Value} {s1 : Int32} : runI call iX12_book (15, [some (.ref 72), some (.int x1), u2, u3, u4, u5], [.int s1, .ref 72], (mm L X I J)) = if s1 = (nI 0) then runI call iX12_book (24, [some (.ref 72), some (.int x1), u2, u3, u4, u5], [.ref 72], (mm L X I J)) else if x1 ≤ (nI 60) then runI call iX12_book (29, [some (.ref 72), some (.int x1), u2, u3, u4, u5], [.int (nI 0), .ref 72], (mm L X I J)) else runI call iX12_book (24, [some (.ref 72), some (.int x1), u2, u3, u4, u5], [.ref 72], (mm L X I J)) := by
  refine Eq.trans (if_eq (tgt := 24) dX12_book_15 (by decide +kernel)) (ite_cong (fun _ => ?_) (fun _ => ?_))
  · rfl
  · refine Eq.trans (st1 dX12_book_18 rfl rfl) ?_
    refine Eq.trans (xbipush dX12_book_19 cb_60) ?_
    refine Eq.trans (ic_le (tgt := 28) dX12_book_21 (by decide +kernel)) (ite_cong (fun _ => ?_) (fun _ => ?_))
    · refine Eq.trans (xiconst dX12_book_28 ci_0) ?_
      rfl
    · rfl
theorem q_X12_book_24 {call : CALL} {L X : Nat} {I : Nat → Nat → Int32} {J : Nat → Nat → Int64} {x1 : Int32} {u2 : Option Value} {u3 : Option Value} {u4 : Option Value} {u5 : Option Value} : runI call iX12_book (24, [some (.ref 72), some (.int x1), u2, u3, u4, u5], [.ref 72], (mm L X I J)) = runI call iX12_book (29, [some (.ref 72), some (.int x1), u2, u3, u4, u5], [.int (nI 1), .ref 72], (mm L X I J)) := by
  refine Eq.trans (xiconst dX12_book_24 ci_1) ?_
  refine Eq.trans (go_to (tgt := 29) dX12_book_25 (by decide +kernel)) ?_
  rfl
theorem q_X12_book_29 {call : CALL} {L X : Nat} {I : Nat → Nat → Int32} {J : Nat → Nat → Int64} {x1 : Int32} {u2 : Option Value} {u3 : Option Value} {u4 : Option Value} {u5 : Option Value} {s1 : Int32} : runI call iX12_book (29, [some (.ref 72), some (.int x1), u2, u3, u4, u5], [.int s1, .ref 72], (mm L X I J)) = bnd (call nX12_bad [.ref 72, .int s1, .int (nI 1), .int (nI 1)] (mm L X I J)) (fun v m' => runI call iX12_book (34, [some (.ref 72), some (.int x1), u2, u3, u4, u5], v.toList ++ [], m')) := by
  refine Eq.trans (xiconst dX12_book_29 ci_1) ?_
  refine Eq.trans (xiconst dX12_book_30 ci_1) ?_
  exact iv0 dX12_book_31 rfl cp_12_182 rfl rfl (kd_ka ka_72) ka_72.1 (Nat.le_of_ble_eq_true rfl)
theorem q_X12_book_34 {call : CALL} {L X : Nat} {I : Nat → Nat → Int32} {J : Nat → Nat → Int64} {x1 : Int32} {u2 : Option Value} {u3 : Option Value} {u4 : Option Value} {u5 : Option Value} {s0 : Int32} : runI call iX12_book (34, [some (.ref 72), some (.int x1), u2, u3, u4, u5], [.int s0], (mm L X I J)) = if s0 = (nI 0) then bnd (call nX12_starts [.ref 72, .int x1] (mm L X I J)) (fun v m' => runI call iX12_book (44, [some (.ref 72), some (.int x1), u2, u3, u4, u5], v.toList ++ [], m')) else some (.inl (some (.int (nI 0))), (mm L X I J)) := by
  refine Eq.trans (if_eq (tgt := 39) dX12_book_34 (by decide +kernel)) (ite_cong (fun _ => ?_) (fun _ => ?_))
  · refine Eq.trans (st1 dX12_book_39 rfl rfl) ?_
    refine Eq.trans (st1 dX12_book_40 rfl rfl) ?_
    exact iv0 dX12_book_41 rfl cp_12_186 rfl rfl (kd_ka ka_72) ka_72.1 (Nat.le_of_ble_eq_true rfl)
  · refine Eq.trans (xiconst dX12_book_37 ci_0) ?_
    exact ret0 dX12_book_38 rfl
theorem q_X12_book_44 {call : CALL} {L X : Nat} {I : Nat → Nat → Int32} {J : Nat → Nat → Int64} {u1 : Option Value} {u2 : Option Value} {u3 : Option Value} {u4 : Option Value} {u5 : Option Value} (hu1 : okv u1 = true) : runI call iX12_book (44, [some (.ref 72), u1, u2, u3, u4, u5], [], (mm L X I J)) = runI call iX12_book (46, [some (.ref 72), u1, some (.int (nI 0)), u3, u4, u5], [], (mm L X I J)) := by
  refine Eq.trans (xiconst dX12_book_44 ci_0) ?_
  refine Eq.trans (xst1 (k := 2) dX12_book_45 hu1 rfl) ?_
  rfl
theorem q_X12_book_46 {call : CALL} {L X : Nat} {I : Nat → Nat → Int32} {J : Nat → Nat → Int64} {u1 : Option Value} {x2 : Int32} {u3 : Option Value} {u4 : Option Value} {u5 : Option Value} : runI call iX12_book (46, [some (.ref 72), u1, some (.int x2), u3, u4, u5], [], (mm L X I J)) = if (I 72 5) = (nI 0) then if (I 72 2) ≤ (I 72 4) then runI call iX12_book (190, [some (.ref 72), u1, some (.int x2), u3, u4, u5], [], (mm L X I J)) else bnd (call nX12_number [.ref 72, .int (nI 0), .int (nI 5)] (mm L X I J)) (fun v m' => runI call iX12_book (75, [some (.ref 72), u1, some (.int x2), some (.int (I 72 4)), u4, u5], v.toList ++ [], m')) else runI call iX12_book (190, [some (.ref 72), u1, some (.int x2), u3, u4, u5], [], (mm L X I J)) := by
  refine Eq.trans (st1 dX12_book_46 rfl rfl) ?_
  refine Eq.trans (getIm dX12_book_47 cp_12_119 ka_72 (.inl rfl)) ?_
  refine Eq.trans (if_ne (tgt := 190) dX12_book_50 (by decide +kernel)) (ite_cong (fun _ => ?_) (fun _ => ?_))
  · refine Eq.trans (st1 dX12_book_53 rfl rfl) ?_
    refine Eq.trans (getIm dX12_book_54 cp_12_112 ka_72 (.inl rfl)) ?_
    refine Eq.trans (st1 dX12_book_57 rfl rfl) ?_
    refine Eq.trans (getIm dX12_book_58 cp_12_109 ka_72 (.inl rfl)) ?_
    refine Eq.trans (ic_ge (tgt := 190) dX12_book_61 (by decide +kernel)) (ite_cong (fun _ => ?_) (fun _ => ?_))
    · rfl
    · refine Eq.trans (st1 dX12_book_64 rfl rfl) ?_
      refine Eq.trans (getIm dX12_book_65 cp_12_112 ka_72 (.inl rfl)) ?_
      refine Eq.trans (st1 dX12_book_68 rfl rfl) ?_
      refine Eq.trans (st1 dX12_book_69 rfl rfl) ?_
      refine Eq.trans (xiconst dX12_book_70 ci_0) ?_
      refine Eq.trans (xiconst dX12_book_71 ci_5) ?_
      exact iv0 dX12_book_72 rfl cp_12_165 rfl rfl (kd_ka ka_72) ka_72.1 (Nat.le_of_ble_eq_true rfl)
  · rfl
theorem q_X12_book_190 {call : CALL} {L X : Nat} {I : Nat → Nat → Int32} {J : Nat → Nat → Int64} {u1 : Option Value} {x2 : Int32} {u3 : Option Value} {u4 : Option Value} {u5 : Option Value} : runI call iX12_book (190, [some (.ref 72), u1, some (.int x2), u3, u4, u5], [], (mm L X I J)) = if (I 72 5) = (nI 0) then bndN (call nX12_lays [.ref 443, .ref 436, .int x2] (mm L X (up2 (up2 I 72 3 (-1 : Int32)) 72 34 x2) J)) (fun v m' => runI call iX12_book (224, [some (.ref 72), u1, some (.int x2), u3, u4, u5], v.toList ++ [], m')) else bnd (call nX12_ends [.ref 72] (mm L X I J)) (fun v m' => runI call iX12_book (201, [some (.ref 72), u1, some (.int x2), u3, u4, u5], v.toList ++ [], m')) := by
  refine Eq.trans (st1 dX12_book_190 rfl rfl) ?_
  refine Eq.trans (getIm dX12_book_191 cp_12_119 ka_72 (.inl rfl)) ?_
  refine Eq.trans (if_eq (tgt := 202) dX12_book_194 (by decide +kernel)) (ite_cong (fun _ => ?_) (fun _ => ?_))
  · refine Eq.trans (st1 dX12_book_202 rfl rfl) ?_
    refine Eq.trans (xiconst dX12_book_203 ci_m1) ?_
    refine Eq.trans (putIm dX12_book_204 cp_12_9 ka_72 rfl) ?_
    refine Eq.trans (st1 dX12_book_207 rfl rfl) ?_
    refine Eq.trans (st1 dX12_book_208 rfl rfl) ?_
    refine Eq.trans (putIm dX12_book_209 cp_12_205 ka_72 rfl) ?_
    refine Eq.trans (st1 dX12_book_212 rfl rfl) ?_
    refine Eq.trans (getRm dX12_book_213 cp_12_55 ka_72 rfl r_72_24) ?_
    refine Eq.trans (st1 dX12_book_216 rfl rfl) ?_
    refine Eq.trans (getRm dX12_book_217 cp_12_52 ka_72 rfl r_72_23) ?_
    refine Eq.trans (st1 dX12_book_220 rfl rfl) ?_
    exact is2 dX12_book_221 cp_12_195 (Nat.le_of_ble_eq_true rfl) rfl rfl (Nat.le_of_ble_eq_true rfl)
  · refine Eq.trans (st1 dX12_book_197 rfl rfl) ?_
    exact iv0 dX12_book_198 rfl cp_12_192 rfl rfl (kd_ka ka_72) ka_72.1 (Nat.le_of_ble_eq_true rfl)
theorem q_X12_book_75 {call : CALL} {L X : Nat} {I : Nat → Nat → Int32} {J : Nat → Nat → Int64} {u1 : Option Value} {x2 : Int32} {x3 : Int32} {u4 : Option Value} {u5 : Option Value} {s0 : Int32} : runI call iX12_book (75, [some (.ref 72), u1, some (.int x2), some (.int x3), u4, u5], [.int s0], (mm L X I J)) = runI call iX12_book (80, [some (.ref 72), u1, some (.int x2), some (.int x3), some (.int s0), some (.int (nI 0))], [], (mm L X I J)) := by
  refine Eq.trans (st1 dX12_book_75 rfl rfl) ?_
  refine Eq.trans (xiconst dX12_book_77 ci_0) ?_
  refine Eq.trans (st1 dX12_book_78 rfl rfl) ?_
  rfl
theorem q_X12_book_224 {call : CALL} {L X : Nat} {I : Nat → Nat → Int32} {J : Nat → Nat → Int64} {u0 : Option Value} {u1 : Option Value} {x2 : Int32} {u3 : Option Value} {u4 : Option Value} {u5 : Option Value} : runI call iX12_book (224, [u0, u1, some (.int x2), u3, u4, u5], [], (mm L X I J)) = some (.inl (some (.int x2)), (mm L X I J)) := by
  refine Eq.trans (st1 dX12_book_224 rfl rfl) ?_
  exact ret0 dX12_book_225 rfl
theorem q_X12_book_201 {call : CALL} {L X : Nat} {I : Nat → Nat → Int32} {J : Nat → Nat → Int64} {u0 : Option Value} {u1 : Option Value} {u2 : Option Value} {u3 : Option Value} {u4 : Option Value} {u5 : Option Value} {s0 : Int32} : runI call iX12_book (201, [u0, u1, u2, u3, u4, u5], [.int s0], (mm L X I J)) = some (.inl (some (.int s0)), (mm L X I J)) := by
  exact ret0 dX12_book_201 rfl
theorem q_X12_book_80 {call : CALL} {L X : Nat} {I : Nat → Nat → Int32} {J : Nat → Nat → Int64} {u1 : Option Value} {x2 : Int32} {x3 : Int32} {x4 : Int32} {x5 : Int32} : runI call iX12_book (80, [some (.ref 72), u1, some (.int x2), some (.int x3), some (.int x4), some (.int x5)], [], (mm L X I J)) = if x2 ≤ x5 then if (I 72 5) = (nI 0) then if x2 = (nI 6) then bnd (call nX12_wrong [.ref 72, .int (nI 3), .int x3] (mm L X I J)) (fun v m' => runI call iX12_book (138, [some (.ref 72), u1, some (.int x2), some (.int x3), some (.int x4), some (.int x5)], v.toList ++ [], m')) else runI call iX12_book (138, [some (.ref 72), u1, some (.int x2), some (.int x3), some (.int x4), some (.int x5)], [], (mm L X I J)) else runI call iX12_book (138, [some (.ref 72), u1, some (.int x2), some (.int x3), some (.int x4), some (.int x5)], [], (mm L X I J)) else if (I 72 5) = (nI 0) then gd (inb x5 6) (if (I (444 + (x5).toNatClampNeg) 0) = x4 then bnd (call nX12_wrong [.ref 72, .int (nI 2), .int x3] (mm L X I J)) (fun v m' => runI call iX12_book (113, [some (.ref 72), u1, some (.int x2), some (.int x3), some (.int x4), some (.int x5)], v.toList ++ [], m')) else runI call iX12_book (113, [some (.ref 72), u1, some (.int x2), some (.int x3), some (.int x4), some (.int x5)], [], (mm L X I J))) else runI call iX12_book (113, [some (.ref 72), u1, some (.int x2), some (.int x3), some (.int x4), some (.int x5)], [], (mm L X I J)) := by
  refine Eq.trans (st1 dX12_book_80 rfl rfl) ?_
  refine Eq.trans (st1 dX12_book_82 rfl rfl) ?_
  refine Eq.trans (ic_ge (tgt := 119) dX12_book_83 (by decide +kernel)) (ite_cong (fun _ => ?_) (fun _ => ?_))
  · refine Eq.trans (st1 dX12_book_119 rfl rfl) ?_
    refine Eq.trans (getIm dX12_book_120 cp_12_119 ka_72 (.inl rfl)) ?_
    refine Eq.trans (if_ne (tgt := 138) dX12_book_123 (by decide +kernel)) (ite_cong (fun _ => ?_) (fun _ => ?_))
    · refine Eq.trans (st1 dX12_book_126 rfl rfl) ?_
      refine Eq.trans (xbipush dX12_book_127 cb_6) ?_
      refine Eq.trans (ic_ne (tgt := 138) dX12_book_129 (by decide +kernel)) (ite_cong (fun _ => ?_) (fun _ => ?_))
      · refine Eq.trans (st1 dX12_book_132 rfl rfl) ?_
        refine Eq.trans (xiconst dX12_book_133 ci_3) ?_
        refine Eq.trans (st1 dX12_book_134 rfl rfl) ?_
        exact iv0 dX12_book_135 rfl cp_12_132 rfl rfl (kd_ka ka_72) ka_72.1 (Nat.le_of_ble_eq_true rfl)
      · rfl
    · rfl
  · refine Eq.trans (st1 dX12_book_86 rfl rfl) ?_
    refine Eq.trans (getIm dX12_book_87 cp_12_119 ka_72 (.inl rfl)) ?_
    refine Eq.trans (if_ne (tgt := 113) dX12_book_90 (by decide +kernel)) (ite_cong (fun _ => ?_) (fun _ => ?_))
    · refine Eq.trans (st1 dX12_book_93 rfl rfl) ?_
      refine Eq.trans (getRm dX12_book_94 cp_12_55 ka_72 rfl r_72_24) ?_
      refine Eq.trans (st1 dX12_book_97 rfl rfl) ?_
      refine Eq.trans (al4m dX12_book_99 ka_443 rr_443) (gd_congr fun g1 => ?_)
      refine Eq.trans (xiconst dX12_book_100 ci_0) ?_
      refine Eq.trans (al1c dX12_book_101 (kr_443 (inb_lt g1)) (by decide +kernel) nc_0) ?_
      refine Eq.trans (st1 dX12_book_102 rfl rfl) ?_
      refine Eq.trans (ic_ne (tgt := 113) dX12_book_104 (by decide +kernel)) (ite_cong (fun _ => ?_) (fun _ => ?_))
      · refine Eq.trans (st1 dX12_book_107 rfl rfl) ?_
        refine Eq.trans (xiconst dX12_book_108 ci_2) ?_
        refine Eq.trans (st1 dX12_book_109 rfl rfl) ?_
        exact iv0 dX12_book_110 rfl cp_12_132 rfl rfl (kd_ka ka_72) ka_72.1 (Nat.le_of_ble_eq_true rfl)
      · rfl
    · rfl
theorem q_X12_book_138 {call : CALL} {L X : Nat} {I : Nat → Nat → Int32} {J : Nat → Nat → Int64} {u1 : Option Value} {x2 : Int32} {u3 : Option Value} {x4 : Int32} {u5 : Option Value} : runI call iX12_book (138, [some (.ref 72), u1, some (.int x2), u3, some (.int x4), u5], [], (mm L X I J)) = bnd (call nX12_number [.ref 72, .int (nI 0), .int (nI 99)] (mm L X I J)) (fun v m' => runI call iX12_book (145, [some (.ref 72), u1, some (.int x2), u3, some (.int x4), u5], v.toList ++ [], m')) := by
  refine Eq.trans (st1 dX12_book_138 rfl rfl) ?_
  refine Eq.trans (xiconst dX12_book_139 ci_0) ?_
  refine Eq.trans (xbipush dX12_book_140 cb_99) ?_
  exact iv0 dX12_book_142 rfl cp_12_165 rfl rfl (kd_ka ka_72) ka_72.1 (Nat.le_of_ble_eq_true rfl)
theorem q_X12_book_113 {call : CALL} {L X : Nat} {I : Nat → Nat → Int32} {J : Nat → Nat → Int64} {u1 : Option Value} {x2 : Int32} {x3 : Int32} {x4 : Int32} {x5 : Int32} : runI call iX12_book (113, [some (.ref 72), u1, some (.int x2), some (.int x3), some (.int x4), some (.int x5)], [], (mm L X I J)) = runI call iX12_book (80, [some (.ref 72), u1, some (.int x2), some (.int x3), some (.int x4), some (.int (x5 + (nI 1)))], [], (mm L X I J)) := by
  refine Eq.trans (xinc2 dX12_book_113 ci_1 rfl (Nat.le_of_ble_eq_true rfl) rfl) ?_
  refine Eq.trans (go_to (tgt := 80) dX12_book_116 (by decide +kernel)) ?_
  rfl
theorem q_X12_book_145 {call : CALL} {L X : Nat} {I : Nat → Nat → Int32} {J : Nat → Nat → Int64} {u1 : Option Value} {x2 : Int32} {u3 : Option Value} {x4 : Int32} {u5 : Option Value} {s0 : Int32} : runI call iX12_book (145, [some (.ref 72), u1, some (.int x2), u3, some (.int x4), u5], [.int s0], (mm L X I J)) = bnd (call nX12_sign [.ref 72, .int (nI 59)] (mm L X I J)) (fun v m' => runI call iX12_book (153, [some (.ref 72), u1, some (.int x2), u3, some (.int x4), some (.int s0)], v.toList ++ [], m')) := by
  refine Eq.trans (st1 dX12_book_145 rfl rfl) ?_
  refine Eq.trans (st1 dX12_book_147 rfl rfl) ?_
  refine Eq.trans (xbipush dX12_book_148 cb_59) ?_
  exact iv0 dX12_book_150 rfl cp_12_178 rfl rfl (kd_ka ka_72) ka_72.1 (Nat.le_of_ble_eq_true rfl)
theorem q_X12_book_153 {call : CALL} {L X : Nat} {I : Nat → Nat → Int32} {J : Nat → Nat → Int64} {u1 : Option Value} {x2 : Int32} {u3 : Option Value} {x4 : Int32} {x5 : Int32} (hu1 : okv u1 = true) : runI call iX12_book (153, [some (.ref 72), u1, some (.int x2), u3, some (.int x4), some (.int x5)], [], (mm L X I J)) = if (I 72 5) = (nI 0) then gd (inb x2 6) (runI call iX12_book (183, [some (.ref 72), u1, some (.int (x2 + (nI 1))), u3, some (.int x4), some (.int x5)], [], (mm L X (up2 (up2 I (444 + (x2).toNatClampNeg) 0 x4) (444 + (x2).toNatClampNeg) 1 x5) J))) else runI call iX12_book (183, [some (.ref 72), u1, some (.int x2), u3, some (.int x4), some (.int x5)], [], (mm L X I J)) := by
  refine Eq.trans (st1 dX12_book_153 rfl rfl) ?_
  refine Eq.trans (getIm dX12_book_154 cp_12_119 ka_72 (.inl rfl)) ?_
  refine Eq.trans (if_ne (tgt := 183) dX12_book_157 (by decide +kernel)) (ite_cong (fun _ => ?_) (fun _ => ?_))
  · refine Eq.trans (st1 dX12_book_160 rfl rfl) ?_
    refine Eq.trans (getRm dX12_book_161 cp_12_55 ka_72 rfl r_72_24) ?_
    refine Eq.trans (st1 dX12_book_164 rfl rfl) ?_
    refine Eq.trans (al4m dX12_book_165 ka_443 rr_443) (gd_congr fun g1 => ?_)
    refine Eq.trans (xiconst dX12_book_166 ci_0) ?_
    refine Eq.trans (st1 dX12_book_167 rfl rfl) ?_
    refine Eq.trans (as1c dX12_book_169 (kr_443 (inb_lt g1)) (by decide +kernel) nc_0) ?_
    refine Eq.trans (st1 dX12_book_170 rfl rfl) ?_
    refine Eq.trans (getRm dX12_book_171 cp_12_55 ka_72 rfl r_72_24) ?_
    refine Eq.trans (st1 dX12_book_174 rfl rfl) ?_
    refine Eq.trans (al4m dX12_book_175 ka_443 rr_443) (Eq.trans (gd_t g1) ?_)
    refine Eq.trans (xiconst dX12_book_176 ci_1) ?_
    refine Eq.trans (st1 dX12_book_177 rfl rfl) ?_
    refine Eq.trans (as1c dX12_book_179 (kr_443 (inb_lt g1)) (by decide +kernel) nc_1) ?_
    refine Eq.trans (xinc2 dX12_book_180 ci_1 rfl (Nat.le_of_ble_eq_true rfl) hu1) ?_
    rfl
  · rfl
theorem q_X12_book_183 {call : CALL} {L X : Nat} {I : Nat → Nat → Int32} {J : Nat → Nat → Int64} {u1 : Option Value} {x2 : Int32} {u3 : Option Value} {u4 : Option Value} {u5 : Option Value} : runI call iX12_book (183, [some (.ref 72), u1, some (.int x2), u3, u4, u5], [], (mm L X I J)) = bnd (call nX12_blanks [.ref 72] (mm L X I J)) (fun v m' => runI call iX12_book (187, [some (.ref 72), u1, some (.int x2), u3, u4, u5], v.toList ++ [], m')) := by
  refine Eq.trans (st1 dX12_book_183 rfl rfl) ?_
  exact iv0 dX12_book_184 rfl cp_12_125 rfl rfl (kd_ka ka_72) ka_72.1 (Nat.le_of_ble_eq_true rfl)
theorem q_X12_book_187 {call : CALL} {L X : Nat} {I : Nat → Nat → Int32} {J : Nat → Nat → Int64} {u1 : Option Value} {x2 : Int32} {u3 : Option Value} {u4 : Option Value} {u5 : Option Value} : runI call iX12_book (187, [some (.ref 72), u1, some (.int x2), u3, u4, u5], [], (mm L X I J)) = runI call iX12_book (46, [some (.ref 72), u1, some (.int x2), u3, u4, u5], [], (mm L X I J)) := by
  refine Eq.trans (go_to (tgt := 46) dX12_book_187 (by decide +kernel)) ?_
  rfl
theorem q_X12_fault_0 {call : CALL} {L X : Nat} {I : Nat → Nat → Int32} {J : Nat → Nat → Int64}  : runI call iX12_fault (0, [some (.ref 72)], [], (mm L X I J)) = some (.inl (some (.int ((up2 I 72 0 (nI 0)) 72 3))), (mm L X (up2 I 72 0 (nI 0)) J)) := by
  refine Eq.trans (st1 dX12_fault_0 rfl rfl) ?_
  refine Eq.trans (xiconst dX12_fault_1 ci_0) ?_
  refine Eq.trans (putIm dX12_fault_2 cp_12_103 ka_72 rfl) ?_
  refine Eq.trans (st1 dX12_fault_5 rfl rfl) ?_
  refine Eq.trans (getIm dX12_fault_6 cp_12_9 ka_72 (.inl rfl)) ?_
  exact ret0 dX12_fault_9 rfl
theorem q_X12_work_0 {call : CALL} {L X : Nat} {I : Nat → Nat → Int32} {J : Nat → Nat → Int64} {x1 : Int32} : runI call iX12_work (0, [some (.ref 72), some (.int x1)], [], (mm L X I J)) = bndN (call nX12_in [.int x1, .int (nI 0), .int ((up2 I 72 0 (nI 0)) 72 1)] (mm L X (up2 I 72 0 (nI 0)) J)) (fun v m' => runI call iX12_work (15, [some (.ref 72), some (.int x1)], v.toList ++ [.ref 72], m')) := by
  refine Eq.trans (st1 dX12_work_0 rfl rfl) ?_
  refine Eq.trans (xiconst dX12_work_1 ci_0) ?_
  refine Eq.trans (putIm dX12_work_2 cp_12_103 ka_72 rfl) ?_
  refine Eq.trans (st1 dX12_work_5 rfl rfl) ?_
  refine Eq.trans (st1 dX12_work_6 rfl rfl) ?_
  refine Eq.trans (xiconst dX12_work_7 ci_0) ?_
  refine Eq.trans (st1 dX12_work_8 rfl rfl) ?_
  refine Eq.trans (getIm dX12_work_9 cp_12_106 ka_72 (.inl rfl)) ?_
  exact is2 dX12_work_12 cp_12_137 (Nat.le_of_ble_eq_true rfl) rfl rfl (Nat.le_of_ble_eq_true rfl)
theorem q_X12_work_15 {call : CALL} {L X : Nat} {I : Nat → Nat → Int32} {J : Nat → Nat → Int64} {x1 : Int32} {s1 : Int32} : runI call iX12_work (15, [some (.ref 72), some (.int x1)], [.int s1, .ref 72], (mm L X I J)) = if s1 = (nI 0) then runI call iX12_work (25, [some (.ref 72), some (.int x1)], [.ref 72], (mm L X I J)) else if x1 ≤ (nI 150) then runI call iX12_work (30, [some (.ref 72), some (.int x1)], [.int (nI 0), .ref 72], (mm L X I J)) else runI call iX12_work (25, [some (.ref 72), some (.int x1)], [.ref 72], (mm L X I J)) := by
  refine Eq.trans (if_eq (tgt := 25) dX12_work_15 (by decide +kernel)) (ite_cong (fun _ => ?_) (fun _ => ?_))
  · rfl
  · refine Eq.trans (st1 dX12_work_18 rfl rfl) ?_
    refine Eq.trans (xsipush dX12_work_19 cs_150) ?_
    refine Eq.trans (ic_le (tgt := 29) dX12_work_22 (by decide +kernel)) (ite_cong (fun _ => ?_) (fun _ => ?_))
    · refine Eq.trans (xiconst dX12_work_29 ci_0) ?_
      rfl
    · rfl
theorem q_X12_work_25 {call : CALL} {L X : Nat} {I : Nat → Nat → Int32} {J : Nat → Nat → Int64} {x1 : Int32} : runI call iX12_work (25, [some (.ref 72), some (.int x1)], [.ref 72], (mm L X I J)) = runI call iX12_work (30, [some (.ref 72), some (.int x1)], [.int (nI 1), .ref 72], (mm L X I J)) := by
  refine Eq.trans (xiconst dX12_work_25 ci_1) ?_
  refine Eq.trans (go_to (tgt := 30) dX12_work_26 (by decide +kernel)) ?_
  rfl
theorem q_X12_work_30 {call : CALL} {L X : Nat} {I : Nat → Nat → Int32} {J : Nat → Nat → Int64} {x1 : Int32} {s1 : Int32} : runI call iX12_work (30, [some (.ref 72), some (.int x1)], [.int s1, .ref 72], (mm L X I J)) = bnd (call nX12_bad [.ref 72, .int s1, .int (nI 1), .int (nI 1)] (mm L X I J)) (fun v m' => runI call iX12_work (35, [some (.ref 72), some (.int x1)], v.toList ++ [], m')) := by
  refine Eq.trans (xiconst dX12_work_30 ci_1) ?_
  refine Eq.trans (xiconst dX12_work_31 ci_1) ?_
  exact iv0 dX12_work_32 rfl cp_12_182 rfl rfl (kd_ka ka_72) ka_72.1 (Nat.le_of_ble_eq_true rfl)
theorem q_X12_work_35 {call : CALL} {L X : Nat} {I : Nat → Nat → Int32} {J : Nat → Nat → Int64} {x1 : Int32} {s0 : Int32} : runI call iX12_work (35, [some (.ref 72), some (.int x1)], [.int s0], (mm L X I J)) = if s0 = (nI 0) then if (I 72 35) = (nI 16) then some (.inl (some (.int (-20 : Int32))), (mm L X (up2 (up2 I 72 1 (nI 0)) 72 3 (-1 : Int32)) J)) else bnd (call nX12_starts [.ref 72, .int x1] (mm L X I J)) (fun v m' => runI call iX12_work (67, [some (.ref 72), some (.int x1)], v.toList ++ [], m')) else some (.inl (some (.int (nI 0))), (mm L X I J)) := by
  refine Eq.trans (if_eq (tgt := 40) dX12_work_35 (by decide +kernel)) (ite_cong (fun _ => ?_) (fun _ => ?_))
  · refine Eq.trans (st1 dX12_work_40 rfl rfl) ?_
    refine Eq.trans (getIm dX12_work_41 cp_12_208 ka_72 (.inl rfl)) ?_
    refine Eq.trans (xbipush dX12_work_44 cb_16) ?_
    refine Eq.trans (ic_ne (tgt := 62) dX12_work_46 (by decide +kernel)) (ite_cong (fun _ => ?_) (fun _ => ?_))
    · refine Eq.trans (st1 dX12_work_49 rfl rfl) ?_
      refine Eq.trans (xiconst dX12_work_50 ci_0) ?_
      refine Eq.trans (putIm dX12_work_51 cp_12_106 ka_72 rfl) ?_
      refine Eq.trans (st1 dX12_work_54 rfl rfl) ?_
      refine Eq.trans (xiconst dX12_work_55 ci_m1) ?_
      refine Eq.trans (putIm dX12_work_56 cp_12_9 ka_72 rfl) ?_
      refine Eq.trans (xbipush dX12_work_59 cb_m20) ?_
      exact ret0 dX12_work_61 rfl
    · refine Eq.trans (st1 dX12_work_62 rfl rfl) ?_
      refine Eq.trans (st1 dX12_work_63 rfl rfl) ?_
      exact iv0 dX12_work_64 rfl cp_12_186 rfl rfl (kd_ka ka_72) ka_72.1 (Nat.le_of_ble_eq_true rfl)
  · refine Eq.trans (xiconst dX12_work_38 ci_0) ?_
    exact ret0 dX12_work_39 rfl
theorem q_X12_work_67 {call : CALL} {L X : Nat} {I : Nat → Nat → Int32} {J : Nat → Nat → Int64} {u1 : Option Value} : runI call iX12_work (67, [some (.ref 72), u1], [], (mm L X I J)) = runI call iX12_work (72, [some (.ref 72), u1], [], (mm L X (up2 I 72 28 (nI 0)) J)) := by
  refine Eq.trans (st1 dX12_work_67 rfl rfl) ?_
  refine Eq.trans (xiconst dX12_work_68 ci_0) ?_
  refine Eq.trans (putIm dX12_work_69 cp_12_258 ka_72 rfl) ?_
  rfl
theorem q_X12_work_72 {call : CALL} {L X : Nat} {I : Nat → Nat → Int32} {J : Nat → Nat → Int64} {u1 : Option Value} : runI call iX12_work (72, [some (.ref 72), u1], [], (mm L X I J)) = if (I 72 5) = (nI 0) then if (I 72 2) ≤ (I 72 4) then runI call iX12_work (101, [some (.ref 72), u1], [], (mm L X I J)) else bnd (call nX12_readsStep [.ref 72] (mm L X I J)) (fun v m' => runI call iX12_work (94, [some (.ref 72), u1], v.toList ++ [], m')) else runI call iX12_work (101, [some (.ref 72), u1], [], (mm L X I J)) := by
  refine Eq.trans (st1 dX12_work_72 rfl rfl) ?_
  refine Eq.trans (getIm dX12_work_73 cp_12_119 ka_72 (.inl rfl)) ?_
  refine Eq.trans (if_ne (tgt := 101) dX12_work_76 (by decide +kernel)) (ite_cong (fun _ => ?_) (fun _ => ?_))
  · refine Eq.trans (st1 dX12_work_79 rfl rfl) ?_
    refine Eq.trans (getIm dX12_work_80 cp_12_112 ka_72 (.inl rfl)) ?_
    refine Eq.trans (st1 dX12_work_83 rfl rfl) ?_
    refine Eq.trans (getIm dX12_work_84 cp_12_109 ka_72 (.inl rfl)) ?_
    refine Eq.trans (ic_ge (tgt := 101) dX12_work_87 (by decide +kernel)) (ite_cong (fun _ => ?_) (fun _ => ?_))
    · rfl
    · refine Eq.trans (st1 dX12_work_90 rfl rfl) ?_
      exact iv0 dX12_work_91 rfl cp_12_261 rfl rfl (kd_ka ka_72) ka_72.1 (Nat.le_of_ble_eq_true rfl)
  · rfl
theorem q_X12_work_101 {call : CALL} {L X : Nat} {I : Nat → Nat → Int32} {J : Nat → Nat → Int64} {u1 : Option Value} : runI call iX12_work (101, [some (.ref 72), u1], [], (mm L X I J)) = if (I 72 5) = (nI 0) then gd (inb ((up2 I 72 3 (-1 : Int32)) 72 35) 16) (bndN (call nX12_copies [.ref 533, .ref (537 + (((up2 I 72 3 (-1 : Int32)) 72 35)).toNatClampNeg)] (mm L X (up2 I 72 3 (-1 : Int32)) J)) (fun v m' => runI call iX12_work (134, [some (.ref 72), u1], v.toList ++ [], m'))) else bnd (call nX12_ends [.ref 72] (mm L X I J)) (fun v m' => runI call iX12_work (112, [some (.ref 72), u1], v.toList ++ [], m')) := by
  refine Eq.trans (st1 dX12_work_101 rfl rfl) ?_
  refine Eq.trans (getIm dX12_work_102 cp_12_119 ka_72 (.inl rfl)) ?_
  refine Eq.trans (if_eq (tgt := 113) dX12_work_105 (by decide +kernel)) (ite_cong (fun _ => ?_) (fun _ => ?_))
  · refine Eq.trans (st1 dX12_work_113 rfl rfl) ?_
    refine Eq.trans (xiconst dX12_work_114 ci_m1) ?_
    refine Eq.trans (putIm dX12_work_115 cp_12_9 ka_72 rfl) ?_
    refine Eq.trans (st1 dX12_work_118 rfl rfl) ?_
    refine Eq.trans (getRm dX12_work_119 cp_12_67 ka_72 rfl r_72_29) ?_
    refine Eq.trans (st1 dX12_work_122 rfl rfl) ?_
    refine Eq.trans (getRm dX12_work_123 cp_12_76 ka_72 rfl r_72_32) ?_
    refine Eq.trans (st1 dX12_work_126 rfl rfl) ?_
    refine Eq.trans (getIm dX12_work_127 cp_12_208 ka_72 (.inl rfl)) ?_
    refine Eq.trans (al4m dX12_work_130 ka_536 rr_536) (gd_congr fun g1 => ?_)
    exact is2 dX12_work_131 cp_12_347 (Nat.le_of_ble_eq_true rfl) rfl rfl (Nat.le_of_ble_eq_true rfl)
  · refine Eq.trans (st1 dX12_work_108 rfl rfl) ?_
    exact iv0 dX12_work_109 rfl cp_12_192 rfl rfl (kd_ka ka_72) ka_72.1 (Nat.le_of_ble_eq_true rfl)
theorem q_X12_work_94 {call : CALL} {L X : Nat} {I : Nat → Nat → Int32} {J : Nat → Nat → Int64} {u1 : Option Value} : runI call iX12_work (94, [some (.ref 72), u1], [], (mm L X I J)) = bnd (call nX12_blanks [.ref 72] (mm L X I J)) (fun v m' => runI call iX12_work (98, [some (.ref 72), u1], v.toList ++ [], m')) := by
  refine Eq.trans (st1 dX12_work_94 rfl rfl) ?_
  exact iv0 dX12_work_95 rfl cp_12_125 rfl rfl (kd_ka ka_72) ka_72.1 (Nat.le_of_ble_eq_true rfl)
theorem q_X12_work_134 {call : CALL} {L X : Nat} {I : Nat → Nat → Int32} {J : Nat → Nat → Int64} {u1 : Option Value} : runI call iX12_work (134, [some (.ref 72), u1], [], (mm L X I J)) = runI call iX12_work (159, [some (.ref 72), u1], [], (mm L X (up2 (up2 (up2 (up2 I 72 35 ((I 72 35) + (nI 1))) 72 41 (nI 0)) 72 42 (nI 0)) 72 36 (nI 0)) J)) := by
  refine Eq.trans (st1 dX12_work_134 rfl rfl) ?_
  refine Eq.trans (st1 dX12_work_135 rfl rfl) ?_
  refine Eq.trans (getIm dX12_work_136 cp_12_208 ka_72 (.inl rfl)) ?_
  refine Eq.trans (xiconst dX12_work_139 ci_1) ?_
  refine Eq.trans (st1 dX12_work_140 rfl rfl) ?_
  refine Eq.trans (putIm dX12_work_141 cp_12_208 ka_72 rfl) ?_
  refine Eq.trans (st1 dX12_work_144 rfl rfl) ?_
  refine Eq.trans (xiconst dX12_work_145 ci_0) ?_
  refine Eq.trans (putIm dX12_work_146 cp_12_334 ka_72 rfl) ?_
  refine Eq.trans (st1 dX12_work_149 rfl rfl) ?_
  refine Eq.trans (xiconst dX12_work_150 ci_0) ?_
  refine Eq.trans (putIm dX12_work_151 cp_12_344 ka_72 rfl) ?_
  refine Eq.trans (st1 dX12_work_154 rfl rfl) ?_
  refine Eq.trans (xiconst dX12_work_155 ci_0) ?_
  refine Eq.trans (putIm dX12_work_156 cp_12_211 ka_72 rfl) ?_
  rfl
theorem q_X12_work_112 {call : CALL} {L X : Nat} {I : Nat → Nat → Int32} {J : Nat → Nat → Int64} {u0 : Option Value} {u1 : Option Value} {s0 : Int32} : runI call iX12_work (112, [u0, u1], [.int s0], (mm L X I J)) = some (.inl (some (.int s0)), (mm L X I J)) := by
  exact ret0 dX12_work_112 rfl
theorem q_X12_work_98 {call : CALL} {L X : Nat} {I : Nat → Nat → Int32} {J : Nat → Nat → Int64} {u1 : Option Value} : runI call iX12_work (98, [some (.ref 72), u1], [], (mm L X I J)) = runI call iX12_work (72, [some (.ref 72), u1], [], (mm L X I J)) := by
  refine Eq.trans (go_to (tgt := 72) dX12_work_98 (by decide +kernel)) ?_
  rfl
theorem q_X12_work_159 {call : CALL} {L X : Nat} {I : Nat → Nat → Int32} {J : Nat → Nat → Int64} {u1 : Option Value} : runI call iX12_work (159, [some (.ref 72), u1], [], (mm L X I J)) = bnd (call nX12_goes [.ref 72, .int (nI 0), .int (I 72 28)] (mm L X I J)) (fun v m' => runI call iX12_work (168, [some (.ref 72), u1], v.toList ++ [], m')) := by
  refine Eq.trans (st1 dX12_work_159 rfl rfl) ?_
  refine Eq.trans (xiconst dX12_work_160 ci_0) ?_
  refine Eq.trans (st1 dX12_work_161 rfl rfl) ?_
  refine Eq.trans (getIm dX12_work_162 cp_12_258 ka_72 (.inl rfl)) ?_
  exact iv0 dX12_work_165 rfl cp_12_337 rfl rfl (kd_ka ka_72) ka_72.1 (Nat.le_of_ble_eq_true rfl)
theorem q_X12_work_168 {call : CALL} {L X : Nat} {I : Nat → Nat → Int32} {J : Nat → Nat → Int64} {u1 : Option Value} : runI call iX12_work (168, [some (.ref 72), u1], [], (mm L X I J)) = some (.inl (some (.int (I 72 42))), (mm L X I J)) := by
  refine Eq.trans (st1 dX12_work_168 rfl rfl) ?_
  refine Eq.trans (getIm dX12_work_169 cp_12_344 ka_72 (.inl rfl)) ?_
  exact ret0 dX12_work_172 rfl
theorem q_X12_readsStep_0 {call : CALL} {L X : Nat} {I : Nat → Nat → Int32} {J : Nat → Nat → Int64}  : runI call iX12_readsStep (0, [some (.ref 72), none, none], [], (mm L X I J)) = bnd (call nX12_stepHere [.ref 72] (mm L X I J)) (fun v m' => runI call iX12_readsStep (4, [some (.ref 72), none, none], v.toList ++ [], m')) := by
  refine Eq.trans (st1 dX12_readsStep_0 rfl rfl) ?_
  exact iv0 dX12_readsStep_1 rfl cp_12_255 rfl rfl (kd_ka ka_72) ka_72.1 (Nat.le_of_ble_eq_true rfl)
theorem q_X12_readsStep_4 {call : CALL} {L X : Nat} {I : Nat → Nat → Int32} {J : Nat → Nat → Int64} {u1 : Option Value} {u2 : Option Value} {s0 : Int32} : runI call iX12_readsStep (4, [some (.ref 72), u1, u2], [.int s0], (mm L X I J)) = if s0 = (-1 : Int32) then bnd (call nX12_wrong [.ref 72, .int (nI 1), .int (I 72 4)] (mm L X I J)) (fun v m' => runI call iX12_readsStep (19, [some (.ref 72), some (.int s0), u2], v.toList ++ [], m')) else runI call iX12_readsStep (19, [some (.ref 72), some (.int s0), u2], [], (mm L X I J)) := by
  refine Eq.trans (st1 dX12_readsStep_4 rfl rfl) ?_
  refine Eq.trans (st1 dX12_readsStep_5 rfl rfl) ?_
  refine Eq.trans (xiconst dX12_readsStep_6 ci_m1) ?_
  refine Eq.trans (ic_ne (tgt := 19) dX12_readsStep_7 (by decide +kernel)) (ite_cong (fun _ => ?_) (fun _ => ?_))
  · refine Eq.trans (st1 dX12_readsStep_10 rfl rfl) ?_
    refine Eq.trans (xiconst dX12_readsStep_11 ci_1) ?_
    refine Eq.trans (st1 dX12_readsStep_12 rfl rfl) ?_
    refine Eq.trans (getIm dX12_readsStep_13 cp_12_112 ka_72 (.inl rfl)) ?_
    exact iv0 dX12_readsStep_16 rfl cp_12_132 rfl rfl (kd_ka ka_72) ka_72.1 (Nat.le_of_ble_eq_true rfl)
  · rfl
theorem q_X12_readsStep_19 {call : CALL} {L X : Nat} {I : Nat → Nat → Int32} {J : Nat → Nat → Int64} {x1 : Int32} {u2 : Option Value} : runI call iX12_readsStep (19, [some (.ref 72), some (.int x1), u2], [], (mm L X I J)) = if x1 = (nI 8) then bnd (call nX12_opensOne [.ref 72] (mm L X I J)) (fun v m' => runI call iX12_readsStep (29, [some (.ref 72), some (.int x1), u2], v.toList ++ [], m')) else runI call iX12_readsStep (33, [some (.ref 72), some (.int x1), u2], [], (mm L X I J)) := by
  refine Eq.trans (st1 dX12_readsStep_19 rfl rfl) ?_
  refine Eq.trans (xbipush dX12_readsStep_20 cb_8) ?_
  refine Eq.trans (ic_ne (tgt := 33) dX12_readsStep_22 (by decide +kernel)) (ite_cong (fun _ => ?_) (fun _ => ?_))
  · refine Eq.trans (st1 dX12_readsStep_25 rfl rfl) ?_
    exact iv0 dX12_readsStep_26 rfl cp_12_235 rfl rfl (kd_ka ka_72) ka_72.1 (Nat.le_of_ble_eq_true rfl)
  · rfl
theorem q_X12_readsStep_33 {call : CALL} {L X : Nat} {I : Nat → Nat → Int32} {J : Nat → Nat → Int64} {x1 : Int32} {u2 : Option Value} : runI call iX12_readsStep (33, [some (.ref 72), some (.int x1), u2], [], (mm L X I J)) = if (I 72 5) = (nI 0) then bnd (call nX12_skipWord [.ref 72] (mm L X I J)) (fun v m' => runI call iX12_readsStep (45, [some (.ref 72), some (.int x1), u2], v.toList ++ [], m')) else some (.inl none, (mm L X I J)) := by
  refine Eq.trans (st1 dX12_readsStep_33 rfl rfl) ?_
  refine Eq.trans (getIm dX12_readsStep_34 cp_12_119 ka_72 (.inl rfl)) ?_
  refine Eq.trans (if_eq (tgt := 41) dX12_readsStep_37 (by decide +kernel)) (ite_cong (fun _ => ?_) (fun _ => ?_))
  · refine Eq.trans (st1 dX12_readsStep_41 rfl rfl) ?_
    exact iv0 dX12_readsStep_42 rfl cp_12_156 rfl rfl (kd_ka ka_72) ka_72.1 (Nat.le_of_ble_eq_true rfl)
  · exact ret3 dX12_readsStep_40 (.inl rfl)
theorem q_X12_readsStep_29 {call : CALL} {L X : Nat} {I : Nat → Nat → Int32} {J : Nat → Nat → Int64} {x1 : Int32} {u2 : Option Value} {s0 : Int32} : runI call iX12_readsStep (29, [some (.ref 72), some (.int x1), u2], [.int s0], (mm L X I J)) = if s0 = (nI 0) then some (.inl none, (mm L X I J)) else runI call iX12_readsStep (33, [some (.ref 72), some (.int x1), u2], [], (mm L X I J)) := by
  refine Eq.trans (if_ne (tgt := 33) dX12_readsStep_29 (by decide +kernel)) (ite_cong (fun _ => ?_) (fun _ => ?_))
  · exact ret3 dX12_readsStep_32 (.inl rfl)
  · rfl
theorem q_X12_readsStep_45 {call : CALL} {L X : Nat} {I : Nat → Nat → Int32} {J : Nat → Nat → Int64} {x1 : Int32} {u2 : Option Value} : runI call iX12_readsStep (45, [some (.ref 72), some (.int x1), u2], [], (mm L X I J)) = gd (inb (I 72 28) 80) (if (nI 6) ≤ x1 then runI call iX12_readsStep (96, [some (.ref 72), some (.int x1), some (.ref (453 + ((I 72 28)).toNatClampNeg))], [], (mm L X (up2 (up2 I 72 28 ((I 72 28) + (nI 1))) (453 + ((I 72 28)).toNatClampNeg) 0 x1) J)) else if x1 = (nI 2) then runI call iX12_readsStep (96, [some (.ref 72), some (.int x1), some (.ref (453 + ((I 72 28)).toNatClampNeg))], [], (mm L X (up2 (up2 I 72 28 ((I 72 28) + (nI 1))) (453 + ((I 72 28)).toNatClampNeg) 0 x1) J)) else bnd (call nX12_number [.ref 72, .int (nI 0), .int (((up2 (up2 I 72 28 ((I 72 28) + (nI 1))) (453 + ((I 72 28)).toNatClampNeg) 0 x1) 76 0) - (nI 1))] (mm L X (up2 (up2 I 72 28 ((I 72 28) + (nI 1))) (453 + ((I 72 28)).toNatClampNeg) 0 x1) J)) (fun v m' => runI call iX12_readsStep (95, [some (.ref 72), some (.int x1), some (.ref (453 + ((I 72 28)).toNatClampNeg))], v.toList ++ [.int (nI 1), .ref (453 + ((I 72 28)).toNatClampNeg)], m'))) := by
  refine Eq.trans (st1 dX12_readsStep_45 rfl rfl) ?_
  refine Eq.trans (getRm dX12_readsStep_46 cp_12_64 ka_72 rfl r_72_27) ?_
  refine Eq.trans (st1 dX12_readsStep_49 rfl rfl) ?_
  refine Eq.trans (getIm dX12_readsStep_50 cp_12_258 ka_72 (.inl rfl)) ?_
  refine Eq.trans (al4m dX12_readsStep_53 ka_452 rr_452) (gd_congr fun g1 => ?_)
  refine Eq.trans (st1 dX12_readsStep_54 rfl rfl) ?_
  refine Eq.trans (st1 dX12_readsStep_55 rfl rfl) ?_
  refine Eq.trans (st1 dX12_readsStep_56 rfl rfl) ?_
  refine Eq.trans (getIm dX12_readsStep_57 cp_12_258 ka_72 (.inl rfl)) ?_
  refine Eq.trans (xiconst dX12_readsStep_60 ci_1) ?_
  refine Eq.trans (st1 dX12_readsStep_61 rfl rfl) ?_
  refine Eq.trans (putIm dX12_readsStep_62 cp_12_258 ka_72 rfl) ?_
  refine Eq.trans (st1 dX12_readsStep_65 rfl rfl) ?_
  refine Eq.trans (xiconst dX12_readsStep_66 ci_0) ?_
  refine Eq.trans (st1 dX12_readsStep_67 rfl rfl) ?_
  refine Eq.trans (as1c dX12_readsStep_68 (kr_452 (inb_lt g1)) (by decide +kernel) nc_0) ?_
  refine Eq.trans (st1 dX12_readsStep_69 rfl rfl) ?_
  refine Eq.trans (xbipush dX12_readsStep_70 cb_6) ?_
  refine Eq.trans (ic_ge (tgt := 96) dX12_readsStep_72 (by decide +kernel)) (ite_cong (fun _ => ?_) (fun _ => ?_))
  · rfl
  · refine Eq.trans (st1 dX12_readsStep_75 rfl rfl) ?_
    refine Eq.trans (xiconst dX12_readsStep_76 ci_2) ?_
    refine Eq.trans (ic_eq (tgt := 96) dX12_readsStep_77 (by decide +kernel)) (ite_cong (fun _ => ?_) (fun _ => ?_))
    · rfl
    · refine Eq.trans (st1 dX12_readsStep_80 rfl rfl) ?_
      refine Eq.trans (xiconst dX12_readsStep_81 ci_1) ?_
      refine Eq.trans (st1 dX12_readsStep_82 rfl rfl) ?_
      refine Eq.trans (xiconst dX12_readsStep_83 ci_0) ?_
      refine Eq.trans (st1 dX12_readsStep_84 rfl rfl) ?_
      refine Eq.trans (getRm dX12_readsStep_85 cp_12_23 ka_72 rfl r_72_12) ?_
      refine Eq.trans (xiconst dX12_readsStep_88 ci_0) ?_
      refine Eq.trans (al1c dX12_readsStep_89 ka_76 (by decide +kernel) nc_0) ?_
      refine Eq.trans (xiconst dX12_readsStep_90 ci_1) ?_
      refine Eq.trans (st1 dX12_readsStep_91 rfl rfl) ?_
      exact iv0 dX12_readsStep_92 rfl cp_12_165 rfl rfl (kd_ka ka_72) ka_72.1 (Nat.le_of_ble_eq_true rfl)
theorem q_X12_readsStep_96 {call : CALL} {L X : Nat} {I : Nat → Nat → Int32} {J : Nat → Nat → Int64} {x1 : Int32} {r2 : Nat} (k2 : ka r2 1 4) : runI call iX12_readsStep (96, [some (.ref 72), some (.int x1), some (.ref r2)], [], (mm L X I J)) = if x1 = (nI 3) then bnd (call nX12_number [.ref 72, .int (nI 0), .int (nI 9)] (mm L X I J)) (fun v m' => runI call iX12_readsStep (110, [some (.ref 72), some (.int x1), some (.ref r2)], v.toList ++ [.int (nI 2), .ref r2], m')) else runI call iX12_readsStep (111, [some (.ref 72), some (.int x1), some (.ref r2)], [], (mm L X I J)) := by
  refine Eq.trans (st1 dX12_readsStep_96 rfl rfl) ?_
  refine Eq.trans (xiconst dX12_readsStep_97 ci_3) ?_
  refine Eq.trans (ic_ne (tgt := 111) dX12_readsStep_98 (by decide +kernel)) (ite_cong (fun _ => ?_) (fun _ => ?_))
  · refine Eq.trans (st1 dX12_readsStep_101 rfl rfl) ?_
    refine Eq.trans (xiconst dX12_readsStep_102 ci_2) ?_
    refine Eq.trans (st1 dX12_readsStep_103 rfl rfl) ?_
    refine Eq.trans (xiconst dX12_readsStep_104 ci_0) ?_
    refine Eq.trans (xbipush dX12_readsStep_105 cb_9) ?_
    exact iv0 dX12_readsStep_107 rfl cp_12_165 rfl rfl (kd_ka ka_72) ka_72.1 (Nat.le_of_ble_eq_true rfl)
  · rfl
theorem q_X12_readsStep_95 {call : CALL} {L X : Nat} {I : Nat → Nat → Int32} {J : Nat → Nat → Int64} {x1 : Int32} {r2 : Nat} {q0 : Nat} {s1 : Int32} {s2 : Int32} (k2 : ka r2 1 4) (kq0 : ka q0 1 4) : runI call iX12_readsStep (95, [some (.ref 72), some (.int x1), some (.ref r2)], [.int s2, .int s1, .ref q0], (mm L X I J)) = gd (inb s1 4) (runI call iX12_readsStep (96, [some (.ref 72), some (.int x1), some (.ref r2)], [], (mm L X (up2 I q0 (s1).toNatClampNeg s2) J))) := by
  refine Eq.trans (as1m dX12_readsStep_95 kq0) (gd_congr fun g1 => ?_)
  rfl
theorem q_X12_readsStep_111 {call : CALL} {L X : Nat} {I : Nat → Nat → Int32} {J : Nat → Nat → Int64} {x1 : Int32} {r2 : Nat} (k2 : ka r2 1 4) : runI call iX12_readsStep (111, [some (.ref 72), some (.int x1), some (.ref r2)], [], (mm L X I J)) = if x1 = (nI 6) then bnd (call nX12_number [.ref 72, .int (nI 0), .int (nI 99)] (mm L X I J)) (fun v m' => runI call iX12_readsStep (126, [some (.ref 72), some (.int x1), some (.ref r2)], v.toList ++ [.int (nI 1), .ref r2], m')) else runI call iX12_readsStep (127, [some (.ref 72), some (.int x1), some (.ref r2)], [], (mm L X I J)) := by
  refine Eq.trans (st1 dX12_readsStep_111 rfl rfl) ?_
  refine Eq.trans (xbipush dX12_readsStep_112 cb_6) ?_
  refine Eq.trans (ic_ne (tgt := 127) dX12_readsStep_114 (by decide +kernel)) (ite_cong (fun _ => ?_) (fun _ => ?_))
  · refine Eq.trans (st1 dX12_readsStep_117 rfl rfl) ?_
    refine Eq.trans (xiconst dX12_readsStep_118 ci_1) ?_
    refine Eq.trans (st1 dX12_readsStep_119 rfl rfl) ?_
    refine Eq.trans (xiconst dX12_readsStep_120 ci_0) ?_
    refine Eq.trans (xbipush dX12_readsStep_121 cb_99) ?_
    exact iv0 dX12_readsStep_123 rfl cp_12_165 rfl rfl (kd_ka ka_72) ka_72.1 (Nat.le_of_ble_eq_true rfl)
  · rfl
theorem q_X12_readsStep_110 {call : CALL} {L X : Nat} {I : Nat → Nat → Int32} {J : Nat → Nat → Int64} {x1 : Int32} {r2 : Nat} {s1 : Int32} {s2 : Int32} (k2 : ka r2 1 4) : runI call iX12_readsStep (110, [some (.ref 72), some (.int x1), some (.ref r2)], [.int s2, .int s1, .ref r2], (mm L X I J)) = gd (inb s1 4) (runI call iX12_readsStep (111, [some (.ref 72), some (.int x1), some (.ref r2)], [], (mm L X (up2 I r2 (s1).toNatClampNeg s2) J))) := by
  refine Eq.trans (as1m dX12_readsStep_110 k2) (gd_congr fun g1 => ?_)
  rfl
theorem q_X12_readsStep_127 {call : CALL} {L X : Nat} {I : Nat → Nat → Int32} {J : Nat → Nat → Int64} {x1 : Int32} {r2 : Nat} (k2 : ka r2 1 4) : runI call iX12_readsStep (127, [some (.ref 72), some (.int x1), some (.ref r2)], [], (mm L X I J)) = if x1 = (nI 8) then bnd (call nX12_number [.ref 72, .int (nI 0), .int (nI 30)] (mm L X I J)) (fun v m' => runI call iX12_readsStep (142, [some (.ref 72), some (.int x1), some (.ref r2)], v.toList ++ [.int (nI 1), .ref r2], m')) else runI call iX12_readsStep (200, [some (.ref 72), some (.int x1), some (.ref r2)], [], (mm L X I J)) := by
  refine Eq.trans (st1 dX12_readsStep_127 rfl rfl) ?_
  refine Eq.trans (xbipush dX12_readsStep_128 cb_8) ?_
  refine Eq.trans (ic_ne (tgt := 200) dX12_readsStep_130 (by decide +kernel)) (ite_cong (fun _ => ?_) (fun _ => ?_))
  · refine Eq.trans (st1 dX12_readsStep_133 rfl rfl) ?_
    refine Eq.trans (xiconst dX12_readsStep_134 ci_1) ?_
    refine Eq.trans (st1 dX12_readsStep_135 rfl rfl) ?_
    refine Eq.trans (xiconst dX12_readsStep_136 ci_0) ?_
    refine Eq.trans (xbipush dX12_readsStep_137 cb_30) ?_
    exact iv0 dX12_readsStep_139 rfl cp_12_165 rfl rfl (kd_ka ka_72) ka_72.1 (Nat.le_of_ble_eq_true rfl)
  · rfl
theorem q_X12_readsStep_126 {call : CALL} {L X : Nat} {I : Nat → Nat → Int32} {J : Nat → Nat → Int64} {x1 : Int32} {r2 : Nat} {s1 : Int32} {s2 : Int32} (k2 : ka r2 1 4) : runI call iX12_readsStep (126, [some (.ref 72), some (.int x1), some (.ref r2)], [.int s2, .int s1, .ref r2], (mm L X I J)) = gd (inb s1 4) (runI call iX12_readsStep (127, [some (.ref 72), some (.int x1), some (.ref r2)], [], (mm L X (up2 I r2 (s1).toNatClampNeg s2) J))) := by
  refine Eq.trans (as1m dX12_readsStep_126 k2) (gd_congr fun g1 => ?_)
  rfl
theorem q_X12_readsStep_200 {call : CALL} {L X : Nat} {I : Nat → Nat → Int32} {J : Nat → Nat → Int64} {u1 : Option Value} {r2 : Nat} (k2 : ka r2 1 4) : runI call iX12_readsStep (200, [some (.ref 72), u1, some (.ref r2)], [], (mm L X I J)) = bnd (call nX12_sign [.ref 72, .int (nI 59)] (mm L X (up2 I r2 3 (I 72 28)) J)) (fun v m' => runI call iX12_readsStep (213, [some (.ref 72), u1, some (.ref r2)], v.toList ++ [], m')) := by
  refine Eq.trans (st1 dX12_readsStep_200 rfl rfl) ?_
  refine Eq.trans (xiconst dX12_readsStep_201 ci_3) ?_
  refine Eq.trans (st1 dX12_readsStep_202 rfl rfl) ?_
  refine Eq.trans (getIm dX12_readsStep_203 cp_12_258 ka_72 (.inl rfl)) ?_
  refine Eq.trans (as1c dX12_readsStep_206 k2 (by decide +kernel) nc_3) ?_
  refine Eq.trans (st1 dX12_readsStep_207 rfl rfl) ?_
  refine Eq.trans (xbipush dX12_readsStep_208 cb_59) ?_
  exact iv0 dX12_readsStep_210 rfl cp_12_178 rfl rfl (kd_ka ka_72) ka_72.1 (Nat.le_of_ble_eq_true rfl)
theorem q_X12_readsStep_142 {call : CALL} {L X : Nat} {I : Nat → Nat → Int32} {J : Nat → Nat → Int64} {u1 : Option Value} {r2 : Nat} {s1 : Int32} {s2 : Int32} (k2 : ka r2 1 4) : runI call iX12_readsStep (142, [some (.ref 72), u1, some (.ref r2)], [.int s2, .int s1, .ref r2], (mm L X I J)) = gd (inb s1 4) (bnd (call nX12_sign [.ref 72, .int (nI 91)] (mm L X (up2 I r2 (s1).toNatClampNeg s2) J)) (fun v m' => runI call iX12_readsStep (149, [some (.ref 72), u1, some (.ref r2)], v.toList ++ [], m'))) := by
  refine Eq.trans (as1m dX12_readsStep_142 k2) (gd_congr fun g1 => ?_)
  refine Eq.trans (st1 dX12_readsStep_143 rfl rfl) ?_
  refine Eq.trans (xbipush dX12_readsStep_144 cb_91) ?_
  exact iv0 dX12_readsStep_146 rfl cp_12_178 rfl rfl (kd_ka ka_72) ka_72.1 (Nat.le_of_ble_eq_true rfl)
theorem q_X12_readsStep_213 {call : CALL} {L X : Nat} {I : Nat → Nat → Int32} {J : Nat → Nat → Int64} {u0 : Option Value} {u1 : Option Value} {u2 : Option Value} : runI call iX12_readsStep (213, [u0, u1, u2], [], (mm L X I J)) = some (.inl none, (mm L X I J)) := by
  exact ret3 dX12_readsStep_213 (.inl rfl)
theorem q_X12_readsStep_149 {call : CALL} {L X : Nat} {I : Nat → Nat → Int32} {J : Nat → Nat → Int64} {u1 : Option Value} {r2 : Nat} (k2 : ka r2 1 4) : runI call iX12_readsStep (149, [some (.ref 72), u1, some (.ref r2)], [], (mm L X I J)) = bnd (call nX12_blanks [.ref 72] (mm L X I J)) (fun v m' => runI call iX12_readsStep (153, [some (.ref 72), u1, some (.ref r2)], v.toList ++ [], m')) := by
  refine Eq.trans (st1 dX12_readsStep_149 rfl rfl) ?_
  exact iv0 dX12_readsStep_150 rfl cp_12_125 rfl rfl (kd_ka ka_72) ka_72.1 (Nat.le_of_ble_eq_true rfl)
theorem q_X12_readsStep_153 {call : CALL} {L X : Nat} {I : Nat → Nat → Int32} {J : Nat → Nat → Int64} {u1 : Option Value} {r2 : Nat} (k2 : ka r2 1 4) : runI call iX12_readsStep (153, [some (.ref 72), u1, some (.ref r2)], [], (mm L X I J)) = if (I 72 5) = (nI 0) then bnd (call nX12_byteAt [.ref 72, .int (I 72 4)] (mm L X I J)) (fun v m' => runI call iX12_readsStep (168, [some (.ref 72), u1, some (.ref r2)], v.toList ++ [], m')) else runI call iX12_readsStep (184, [some (.ref 72), u1, some (.ref r2)], [], (mm L X I J)) := by
  refine Eq.trans (st1 dX12_readsStep_153 rfl rfl) ?_
  refine Eq.trans (getIm dX12_readsStep_154 cp_12_119 ka_72 (.inl rfl)) ?_
  refine Eq.trans (if_ne (tgt := 184) dX12_readsStep_157 (by decide +kernel)) (ite_cong (fun _ => ?_) (fun _ => ?_))
  · refine Eq.trans (st1 dX12_readsStep_160 rfl rfl) ?_
    refine Eq.trans (st1 dX12_readsStep_161 rfl rfl) ?_
    refine Eq.trans (getIm dX12_readsStep_162 cp_12_112 ka_72 (.inl rfl)) ?_
    exact iv0 dX12_readsStep_165 rfl cp_12_115 rfl rfl (kd_ka ka_72) ka_72.1 (Nat.le_of_ble_eq_true rfl)
  · rfl
theorem q_X12_readsStep_184 {call : CALL} {L X : Nat} {I : Nat → Nat → Int32} {J : Nat → Nat → Int64} {u1 : Option Value} {r2 : Nat} (k2 : ka r2 1 4) : runI call iX12_readsStep (184, [some (.ref 72), u1, some (.ref r2)], [], (mm L X I J)) = bnd (call nX12_sign [.ref 72, .int (nI 93)] (mm L X I J)) (fun v m' => runI call iX12_readsStep (190, [some (.ref 72), u1, some (.ref r2)], v.toList ++ [], m')) := by
  refine Eq.trans (st1 dX12_readsStep_184 rfl rfl) ?_
  refine Eq.trans (xbipush dX12_readsStep_185 cb_93) ?_
  exact iv0 dX12_readsStep_187 rfl cp_12_178 rfl rfl (kd_ka ka_72) ka_72.1 (Nat.le_of_ble_eq_true rfl)
theorem q_X12_readsStep_168 {call : CALL} {L X : Nat} {I : Nat → Nat → Int32} {J : Nat → Nat → Int64} {u1 : Option Value} {r2 : Nat} {s0 : Int32} (k2 : ka r2 1 4) : runI call iX12_readsStep (168, [some (.ref 72), u1, some (.ref r2)], [.int s0], (mm L X I J)) = if s0 = (nI 93) then runI call iX12_readsStep (184, [some (.ref 72), u1, some (.ref r2)], [], (mm L X I J)) else bnd (call nX12_readsStep [.ref 72] (mm L X I J)) (fun v m' => runI call iX12_readsStep (177, [some (.ref 72), u1, some (.ref r2)], v.toList ++ [], m')) := by
  refine Eq.trans (xbipush dX12_readsStep_168 cb_93) ?_
  refine Eq.trans (ic_eq (tgt := 184) dX12_readsStep_170 (by decide +kernel)) (ite_cong (fun _ => ?_) (fun _ => ?_))
  · rfl
  · refine Eq.trans (st1 dX12_readsStep_173 rfl rfl) ?_
    exact iv0 dX12_readsStep_174 rfl cp_12_261 rfl rfl (kd_ka ka_72) ka_72.1 (Nat.le_of_ble_eq_true rfl)
theorem q_X12_readsStep_190 {call : CALL} {L X : Nat} {I : Nat → Nat → Int32} {J : Nat → Nat → Int64} {u1 : Option Value} {r2 : Nat} (k2 : ka r2 1 4) : runI call iX12_readsStep (190, [some (.ref 72), u1, some (.ref r2)], [], (mm L X I J)) = runI call iX12_readsStep (200, [some (.ref 72), u1, some (.ref r2)], [], (mm L X (up2 I 72 8 ((I 72 8) - (nI 1))) J)) := by
  refine Eq.trans (st1 dX12_readsStep_190 rfl rfl) ?_
  refine Eq.trans (st1 dX12_readsStep_191 rfl rfl) ?_
  refine Eq.trans (getIm dX12_readsStep_192 cp_12_162 ka_72 (.inl rfl)) ?_
  refine Eq.trans (xiconst dX12_readsStep_195 ci_1) ?_
  refine Eq.trans (st1 dX12_readsStep_196 rfl rfl) ?_
  refine Eq.trans (putIm dX12_readsStep_197 cp_12_162 ka_72 rfl) ?_
  rfl
theorem q_X12_readsStep_177 {call : CALL} {L X : Nat} {I : Nat → Nat → Int32} {J : Nat → Nat → Int64} {u1 : Option Value} {r2 : Nat} (k2 : ka r2 1 4) : runI call iX12_readsStep (177, [some (.ref 72), u1, some (.ref r2)], [], (mm L X I J)) = bnd (call nX12_blanks [.ref 72] (mm L X I J)) (fun v m' => runI call iX12_readsStep (181, [some (.ref 72), u1, some (.ref r2)], v.toList ++ [], m')) := by
  refine Eq.trans (st1 dX12_readsStep_177 rfl rfl) ?_
  exact iv0 dX12_readsStep_178 rfl cp_12_125 rfl rfl (kd_ka ka_72) ka_72.1 (Nat.le_of_ble_eq_true rfl)
theorem q_X12_readsStep_181 {call : CALL} {L X : Nat} {I : Nat → Nat → Int32} {J : Nat → Nat → Int64} {u1 : Option Value} {r2 : Nat} (k2 : ka r2 1 4) : runI call iX12_readsStep (181, [some (.ref 72), u1, some (.ref r2)], [], (mm L X I J)) = runI call iX12_readsStep (153, [some (.ref 72), u1, some (.ref r2)], [], (mm L X I J)) := by
  refine Eq.trans (go_to (tgt := 153) dX12_readsStep_181 (by decide +kernel)) ?_
  rfl
theorem q_X12_stepHere_0 {call : CALL} {L X : Nat} {I : Nat → Nat → Int32} {J : Nat → Nat → Int64}  : runI call iX12_stepHere (0, [some (.ref 72)], [], (mm L X I J)) = bnd (call nX12_isWord [.ref 72, .int (nI 20), .int (nI 21), .int (nI 18), .int (nI 14), .int (nI 0), .int (nI 0)] (mm L X I J)) (fun v m' => runI call iX12_stepHere (14, [some (.ref 72)], v.toList ++ [], m')) := by
  refine Eq.trans (st1 dX12_stepHere_0 rfl rfl) ?_
  refine Eq.trans (xbipush dX12_stepHere_1 cb_20) ?_
  refine Eq.trans (xbipush dX12_stepHere_3 cb_21) ?_
  refine Eq.trans (xbipush dX12_stepHere_5 cb_18) ?_
  refine Eq.trans (xbipush dX12_stepHere_7 cb_14) ?_
  refine Eq.trans (xiconst dX12_stepHere_9 ci_0) ?_
  refine Eq.trans (xiconst dX12_stepHere_10 ci_0) ?_
  exact iv0 dX12_stepHere_11 rfl cp_12_152 rfl rfl (kd_ka ka_72) ka_72.1 (Nat.le_of_ble_eq_true rfl)
theorem q_X12_stepHere_14 {call : CALL} {L X : Nat} {I : Nat → Nat → Int32} {J : Nat → Nat → Int64} {s0 : Int32} : runI call iX12_stepHere (14, [some (.ref 72)], [.int s0], (mm L X I J)) = if s0 = (nI 0) then bnd (call nX12_isWord [.ref 72, .int (nI 12), .int (nI 1), .int (nI 25), .int (nI 0), .int (nI 0), .int (nI 0)] (mm L X I J)) (fun v m' => runI call iX12_stepHere (31, [some (.ref 72)], v.toList ++ [], m')) else some (.inl (some (.int (nI 0))), (mm L X I J)) := by
  refine Eq.trans (if_eq (tgt := 19) dX12_stepHere_14 (by decide +kernel)) (ite_cong (fun _ => ?_) (fun _ => ?_))
  · refine Eq.trans (st1 dX12_stepHere_19 rfl rfl) ?_
    refine Eq.trans (xbipush dX12_stepHere_20 cb_12) ?_
    refine Eq.trans (xiconst dX12_stepHere_22 ci_1) ?_
    refine Eq.trans (xbipush dX12_stepHere_23 cb_25) ?_
    refine Eq.trans (xiconst dX12_stepHere_25 ci_0) ?_
    refine Eq.trans (xiconst dX12_stepHere_26 ci_0) ?_
    refine Eq.trans (xiconst dX12_stepHere_27 ci_0) ?_
    exact iv0 dX12_stepHere_28 rfl cp_12_152 rfl rfl (kd_ka ka_72) ka_72.1 (Nat.le_of_ble_eq_true rfl)
  · refine Eq.trans (xiconst dX12_stepHere_17 ci_0) ?_
    exact ret0 dX12_stepHere_18 rfl
theorem q_X12_stepHere_31 {call : CALL} {L X : Nat} {I : Nat → Nat → Int32} {J : Nat → Nat → Int64} {s0 : Int32} : runI call iX12_stepHere (31, [some (.ref 72)], [.int s0], (mm L X I J)) = if s0 = (nI 0) then bnd (call nX12_isWord [.ref 72, .int (nI 12), .int (nI 9), .int (nI 6), .int (nI 20), .int (nI 0), .int (nI 0)] (mm L X I J)) (fun v m' => runI call iX12_stepHere (50, [some (.ref 72)], v.toList ++ [], m')) else some (.inl (some (.int (nI 1))), (mm L X I J)) := by
  refine Eq.trans (if_eq (tgt := 36) dX12_stepHere_31 (by decide +kernel)) (ite_cong (fun _ => ?_) (fun _ => ?_))
  · refine Eq.trans (st1 dX12_stepHere_36 rfl rfl) ?_
    refine Eq.trans (xbipush dX12_stepHere_37 cb_12) ?_
    refine Eq.trans (xbipush dX12_stepHere_39 cb_9) ?_
    refine Eq.trans (xbipush dX12_stepHere_41 cb_6) ?_
    refine Eq.trans (xbipush dX12_stepHere_43 cb_20) ?_
    refine Eq.trans (xiconst dX12_stepHere_45 ci_0) ?_
    refine Eq.trans (xiconst dX12_stepHere_46 ci_0) ?_
    exact iv0 dX12_stepHere_47 rfl cp_12_152 rfl rfl (kd_ka ka_72) ka_72.1 (Nat.le_of_ble_eq_true rfl)
  · refine Eq.trans (xiconst dX12_stepHere_34 ci_1) ?_
    exact ret0 dX12_stepHere_35 rfl
theorem q_X12_stepHere_50 {call : CALL} {L X : Nat} {I : Nat → Nat → Int32} {J : Nat → Nat → Int64} {s0 : Int32} : runI call iX12_stepHere (50, [some (.ref 72)], [.int s0], (mm L X I J)) = if s0 = (nI 0) then bnd (call nX12_isWord [.ref 72, .int (nI 2), .int (nI 5), .int (nI 14), .int (nI 4), .int (nI 0), .int (nI 0)] (mm L X I J)) (fun v m' => runI call iX12_stepHere (66, [some (.ref 72)], v.toList ++ [], m')) else some (.inl (some (.int (nI 2))), (mm L X I J)) := by
  refine Eq.trans (if_eq (tgt := 55) dX12_stepHere_50 (by decide +kernel)) (ite_cong (fun _ => ?_) (fun _ => ?_))
  · refine Eq.trans (st1 dX12_stepHere_55 rfl rfl) ?_
    refine Eq.trans (xiconst dX12_stepHere_56 ci_2) ?_
    refine Eq.trans (xiconst dX12_stepHere_57 ci_5) ?_
    refine Eq.trans (xbipush dX12_stepHere_58 cb_14) ?_
    refine Eq.trans (xiconst dX12_stepHere_60 ci_4) ?_
    refine Eq.trans (xiconst dX12_stepHere_61 ci_0) ?_
    refine Eq.trans (xiconst dX12_stepHere_62 ci_0) ?_
    exact iv0 dX12_stepHere_63 rfl cp_12_152 rfl rfl (kd_ka ka_72) ka_72.1 (Nat.le_of_ble_eq_true rfl)
  · refine Eq.trans (xiconst dX12_stepHere_53 ci_2) ?_
    exact ret0 dX12_stepHere_54 rfl
theorem q_X12_stepHere_66 {call : CALL} {L X : Nat} {I : Nat → Nat → Int32} {J : Nat → Nat → Int64} {s0 : Int32} : runI call iX12_stepHere (66, [some (.ref 72)], [.int s0], (mm L X I J)) = if s0 = (nI 0) then bnd (call nX12_isWord [.ref 72, .int (nI 2), .int (nI 21), .int (nI 18), .int (nI 19), .int (nI 20), .int (nI 0)] (mm L X I J)) (fun v m' => runI call iX12_stepHere (85, [some (.ref 72)], v.toList ++ [], m')) else some (.inl (some (.int (nI 3))), (mm L X I J)) := by
  refine Eq.trans (if_eq (tgt := 71) dX12_stepHere_66 (by decide +kernel)) (ite_cong (fun _ => ?_) (fun _ => ?_))
  · refine Eq.trans (st1 dX12_stepHere_71 rfl rfl) ?_
    refine Eq.trans (xiconst dX12_stepHere_72 ci_2) ?_
    refine Eq.trans (xbipush dX12_stepHere_73 cb_21) ?_
    refine Eq.trans (xbipush dX12_stepHere_75 cb_18) ?_
    refine Eq.trans (xbipush dX12_stepHere_77 cb_19) ?_
    refine Eq.trans (xbipush dX12_stepHere_79 cb_20) ?_
    refine Eq.trans (xiconst dX12_stepHere_81 ci_0) ?_
    exact iv0 dX12_stepHere_82 rfl cp_12_152 rfl rfl (kd_ka ka_72) ka_72.1 (Nat.le_of_ble_eq_true rfl)
  · refine Eq.trans (xiconst dX12_stepHere_69 ci_3) ?_
    exact ret0 dX12_stepHere_70 rfl
theorem q_X12_stepHere_85 {call : CALL} {L X : Nat} {I : Nat → Nat → Int32} {J : Nat → Nat → Int64} {s0 : Int32} : runI call iX12_stepHere (85, [some (.ref 72)], [.int s0], (mm L X I J)) = if s0 = (nI 0) then bnd (call nX12_isWord [.ref 72, .int (nI 16), .int (nI 1), .int (nI 20), .int (nI 3), .int (nI 8), .int (nI 0)] (mm L X I J)) (fun v m' => runI call iX12_stepHere (103, [some (.ref 72)], v.toList ++ [], m')) else some (.inl (some (.int (nI 4))), (mm L X I J)) := by
  refine Eq.trans (if_eq (tgt := 90) dX12_stepHere_85 (by decide +kernel)) (ite_cong (fun _ => ?_) (fun _ => ?_))
  · refine Eq.trans (st1 dX12_stepHere_90 rfl rfl) ?_
    refine Eq.trans (xbipush dX12_stepHere_91 cb_16) ?_
    refine Eq.trans (xiconst dX12_stepHere_93 ci_1) ?_
    refine Eq.trans (xbipush dX12_stepHere_94 cb_20) ?_
    refine Eq.trans (xiconst dX12_stepHere_96 ci_3) ?_
    refine Eq.trans (xbipush dX12_stepHere_97 cb_8) ?_
    refine Eq.trans (xiconst dX12_stepHere_99 ci_0) ?_
    exact iv0 dX12_stepHere_100 rfl cp_12_152 rfl rfl (kd_ka ka_72) ka_72.1 (Nat.le_of_ble_eq_true rfl)
  · refine Eq.trans (xiconst dX12_stepHere_88 ci_4) ?_
    exact ret0 dX12_stepHere_89 rfl
theorem q_X12_stepHere_103 {call : CALL} {L X : Nat} {I : Nat → Nat → Int32} {J : Nat → Nat → Int64} {s0 : Int32} : runI call iX12_stepHere (103, [some (.ref 72)], [.int s0], (mm L X I J)) = if s0 = (nI 0) then bnd (call nX12_isWord [.ref 72, .int (nI 8), .int (nI 15), .int (nI 16), .int (nI 5), .int (nI 0), .int (nI 0)] (mm L X I J)) (fun v m' => runI call iX12_stepHere (121, [some (.ref 72)], v.toList ++ [], m')) else some (.inl (some (.int (nI 5))), (mm L X I J)) := by
  refine Eq.trans (if_eq (tgt := 108) dX12_stepHere_103 (by decide +kernel)) (ite_cong (fun _ => ?_) (fun _ => ?_))
  · refine Eq.trans (st1 dX12_stepHere_108 rfl rfl) ?_
    refine Eq.trans (xbipush dX12_stepHere_109 cb_8) ?_
    refine Eq.trans (xbipush dX12_stepHere_111 cb_15) ?_
    refine Eq.trans (xbipush dX12_stepHere_113 cb_16) ?_
    refine Eq.trans (xiconst dX12_stepHere_115 ci_5) ?_
    refine Eq.trans (xiconst dX12_stepHere_116 ci_0) ?_
    refine Eq.trans (xiconst dX12_stepHere_117 ci_0) ?_
    exact iv0 dX12_stepHere_118 rfl cp_12_152 rfl rfl (kd_ka ka_72) ka_72.1 (Nat.le_of_ble_eq_true rfl)
  · refine Eq.trans (xiconst dX12_stepHere_106 ci_5) ?_
    exact ret0 dX12_stepHere_107 rfl
theorem q_X12_stepHere_121 {call : CALL} {L X : Nat} {I : Nat → Nat → Int32} {J : Nat → Nat → Int64} {s0 : Int32} : runI call iX12_stepHere (121, [some (.ref 72)], [.int s0], (mm L X I J)) = if s0 = (nI 0) then bnd (call nX12_isWord [.ref 72, .int (nI 8), .int (nI 15), .int (nI 21), .int (nI 18), .int (nI 0), .int (nI 0)] (mm L X I J)) (fun v m' => runI call iX12_stepHere (141, [some (.ref 72)], v.toList ++ [], m')) else some (.inl (some (.int (nI 6))), (mm L X I J)) := by
  refine Eq.trans (if_eq (tgt := 127) dX12_stepHere_121 (by decide +kernel)) (ite_cong (fun _ => ?_) (fun _ => ?_))
  · refine Eq.trans (st1 dX12_stepHere_127 rfl rfl) ?_
    refine Eq.trans (xbipush dX12_stepHere_128 cb_8) ?_
    refine Eq.trans (xbipush dX12_stepHere_130 cb_15) ?_
    refine Eq.trans (xbipush dX12_stepHere_132 cb_21) ?_
    refine Eq.trans (xbipush dX12_stepHere_134 cb_18) ?_
    refine Eq.trans (xiconst dX12_stepHere_136 ci_0) ?_
    refine Eq.trans (xiconst dX12_stepHere_137 ci_0) ?_
    exact iv0 dX12_stepHere_138 rfl cp_12_152 rfl rfl (kd_ka ka_72) ka_72.1 (Nat.le_of_ble_eq_true rfl)
  · refine Eq.trans (xbipush dX12_stepHere_124 cb_6) ?_
    exact ret0 dX12_stepHere_126 rfl
theorem q_X12_stepHere_141 {call : CALL} {L X : Nat} {I : Nat → Nat → Int32} {J : Nat → Nat → Int64} {s0 : Int32} : runI call iX12_stepHere (141, [some (.ref 72)], [.int s0], (mm L X I J)) = if s0 = (nI 0) then bnd (call nX12_isWord [.ref 72, .int (nI 1), .int (nI 7), .int (nI 1), .int (nI 9), .int (nI 14), .int (nI 0)] (mm L X I J)) (fun v m' => runI call iX12_stepHere (160, [some (.ref 72)], v.toList ++ [], m')) else some (.inl (some (.int (nI 7))), (mm L X I J)) := by
  refine Eq.trans (if_eq (tgt := 147) dX12_stepHere_141 (by decide +kernel)) (ite_cong (fun _ => ?_) (fun _ => ?_))
  · refine Eq.trans (st1 dX12_stepHere_147 rfl rfl) ?_
    refine Eq.trans (xiconst dX12_stepHere_148 ci_1) ?_
    refine Eq.trans (xbipush dX12_stepHere_149 cb_7) ?_
    refine Eq.trans (xiconst dX12_stepHere_151 ci_1) ?_
    refine Eq.trans (xbipush dX12_stepHere_152 cb_9) ?_
    refine Eq.trans (xbipush dX12_stepHere_154 cb_14) ?_
    refine Eq.trans (xiconst dX12_stepHere_156 ci_0) ?_
    exact iv0 dX12_stepHere_157 rfl cp_12_152 rfl rfl (kd_ka ka_72) ka_72.1 (Nat.le_of_ble_eq_true rfl)
  · refine Eq.trans (xbipush dX12_stepHere_144 cb_7) ?_
    exact ret0 dX12_stepHere_146 rfl
theorem q_X12_stepHere_160 {call : CALL} {L X : Nat} {I : Nat → Nat → Int32} {J : Nat → Nat → Int64} {u0 : Option Value} {s0 : Int32} : runI call iX12_stepHere (160, [u0], [.int s0], (mm L X I J)) = if s0 = (nI 0) then some (.inl (some (.int (-1 : Int32))), (mm L X I J)) else some (.inl (some (.int (nI 8))), (mm L X I J)) := by
  refine Eq.trans (if_eq (tgt := 168) dX12_stepHere_160 (by decide +kernel)) (ite_cong (fun _ => ?_) (fun _ => ?_))
  · refine Eq.trans (xiconst dX12_stepHere_168 ci_m1) ?_
    exact ret0 dX12_stepHere_169 rfl
  · refine Eq.trans (xbipush dX12_stepHere_163 cb_8) ?_
    refine Eq.trans (go_to (tgt := 169) dX12_stepHere_165 (by decide +kernel)) ?_
    exact ret0 dX12_stepHere_169 rfl
theorem q_X12_copies_0 {call : CALL} {L X : Nat} {I : Nat → Nat → Int32} {J : Nat → Nat → Int64} {r0 : Nat} {n0 : Nat} {r1 : Nat} {n1 : Nat} (k0 : ka r0 1 n0) (k1 : ka r1 1 n1) : runI call iX12_copies (0, [some (.ref r0), some (.ref r1), none], [], (mm L X I J)) = runI call iX12_copies (2, [some (.ref r0), some (.ref r1), some (.int (nI 0))], [], (mm L X I J)) := by
  refine Eq.trans (xiconst dX12_copies_0 ci_0) ?_
  refine Eq.trans (st1 dX12_copies_1 rfl rfl) ?_
  rfl
theorem q_X12_copies_2 {call : CALL} {L X : Nat} {I : Nat → Nat → Int32} {J : Nat → Nat → Int64} {r0 : Nat} {n0 : Nat} {r1 : Nat} {n1 : Nat} {x2 : Int32} (k0 : ka r0 1 n0) (k1 : ka r1 1 n1) : runI call iX12_copies (2, [some (.ref r0), some (.ref r1), some (.int x2)], [], (mm L X I J)) = if (nI 31) ≤ x2 then some (.inl none, (mm L X I J)) else gd (inb x2 n0) (gd (inb x2 n1) (runI call iX12_copies (2, [some (.ref r0), some (.ref r1), some (.int (x2 + (nI 1)))], [], (mm L X (up2 I r1 (x2).toNatClampNeg (I r0 (x2).toNatClampNeg)) J)))) := by
  refine Eq.trans (st1 dX12_copies_2 rfl rfl) ?_
  refine Eq.trans (xbipush dX12_copies_3 cb_31) ?_
  refine Eq.trans (ic_ge (tgt := 20) dX12_copies_5 (by decide +kernel)) (ite_cong (fun _ => ?_) (fun _ => ?_))
  · exact ret3 dX12_copies_20 (.inl rfl)
  · refine Eq.trans (st1 dX12_copies_8 rfl rfl) ?_
    refine Eq.trans (st1 dX12_copies_9 rfl rfl) ?_
    refine Eq.trans (st1 dX12_copies_10 rfl rfl) ?_
    refine Eq.trans (st1 dX12_copies_11 rfl rfl) ?_
    refine Eq.trans (al1m dX12_copies_12 k0) (gd_congr fun g1 => ?_)
    refine Eq.trans (as1m dX12_copies_13 k1) (gd_congr fun g2 => ?_)
    refine Eq.trans (xinc2 dX12_copies_14 ci_1 rfl (Nat.le_of_ble_eq_true rfl) rfl) ?_
    refine Eq.trans (go_to (tgt := 2) dX12_copies_17 (by decide +kernel)) ?_
    rfl
theorem q_X12_goes_0 {call : CALL} {L X : Nat} {I : Nat → Nat → Int32} {J : Nat → Nat → Int64} {x1 : Int32} {x2 : Int32} : runI call iX12_goes (0, [some (.ref 72), some (.int x1), some (.int x2), none, none], [], (mm L X I J)) = runI call iX12_goes (2, [some (.ref 72), some (.int x1), some (.int x2), some (.int x1), none], [], (mm L X I J)) := by
  refine Eq.trans (st1 dX12_goes_0 rfl rfl) ?_
  refine Eq.trans (st1 dX12_goes_1 rfl rfl) ?_
  rfl
theorem q_X12_goes_2 {call : CALL} {L X : Nat} {I : Nat → Nat → Int32} {J : Nat → Nat → Int64} {u1 : Option Value} {x2 : Int32} {x3 : Int32} {u4 : Option Value} : runI call iX12_goes (2, [some (.ref 72), u1, some (.int x2), some (.int x3), u4], [], (mm L X I J)) = if x2 ≤ x3 then some (.inl none, (mm L X I J)) else if (nI 200) ≤ (I 72 41) then some (.inl none, (mm L X I J)) else gd (inb x3 80) (if ((up2 I 72 41 ((I 72 41) + (nI 1))) (453 + (x3).toNatClampNeg) 0) = (nI 8) then runI call iX12_goes (43, [some (.ref 72), u1, some (.int x2), some (.int x3), some (.int (nI 0))], [], (mm L X (up2 I 72 41 ((I 72 41) + (nI 1))) J)) else bnd (call nX12_does [.ref 72, .ref 533, .ref (453 + (x3).toNatClampNeg)] (mm L X (up2 I 72 41 ((I 72 41) + (nI 1))) J)) (fun v m' => runI call iX12_goes (104, [some (.ref 72), u1, some (.int x2), some (.int x3), u4], v.toList ++ [], m'))) := by
  refine Eq.trans (st1 dX12_goes_2 rfl rfl) ?_
  refine Eq.trans (st1 dX12_goes_3 rfl rfl) ?_
  refine Eq.trans (ic_ge (tgt := 156) dX12_goes_4 (by decide +kernel)) (ite_cong (fun _ => ?_) (fun _ => ?_))
  · exact ret3 dX12_goes_156 (.inl rfl)
  · refine Eq.trans (st1 dX12_goes_7 rfl rfl) ?_
    refine Eq.trans (getIm dX12_goes_8 cp_12_334 ka_72 (.inl rfl)) ?_
    refine Eq.trans (xsipush dX12_goes_11 cs_200) ?_
    refine Eq.trans (ic_ge (tgt := 156) dX12_goes_14 (by decide +kernel)) (ite_cong (fun _ => ?_) (fun _ => ?_))
    · exact ret3 dX12_goes_156 (.inl rfl)
    · refine Eq.trans (st1 dX12_goes_17 rfl rfl) ?_
      refine Eq.trans (st1 dX12_goes_18 rfl rfl) ?_
      refine Eq.trans (getIm dX12_goes_19 cp_12_334 ka_72 (.inl rfl)) ?_
      refine Eq.trans (xiconst dX12_goes_22 ci_1) ?_
      refine Eq.trans (st1 dX12_goes_23 rfl rfl) ?_
      refine Eq.trans (putIm dX12_goes_24 cp_12_334 ka_72 rfl) ?_
      refine Eq.trans (st1 dX12_goes_27 rfl rfl) ?_
      refine Eq.trans (getRm dX12_goes_28 cp_12_64 ka_72 rfl r_72_27) ?_
      refine Eq.trans (st1 dX12_goes_31 rfl rfl) ?_
      refine Eq.trans (al4m dX12_goes_32 ka_452 rr_452) (gd_congr fun g1 => ?_)
      refine Eq.trans (xiconst dX12_goes_33 ci_0) ?_
      refine Eq.trans (al1c dX12_goes_34 (kr_452 (inb_lt g1)) (by decide +kernel) nc_0) ?_
      refine Eq.trans (xbipush dX12_goes_35 cb_8) ?_
      refine Eq.trans (ic_ne (tgt := 90) dX12_goes_37 (by decide +kernel)) (ite_cong (fun _ => ?_) (fun _ => ?_))
      · refine Eq.trans (xiconst dX12_goes_40 ci_0) ?_
        refine Eq.trans (st1 dX12_goes_41 rfl rfl) ?_
        rfl
      · refine Eq.trans (st1 dX12_goes_90 rfl rfl) ?_
        refine Eq.trans (st1 dX12_goes_91 rfl rfl) ?_
        refine Eq.trans (getRm dX12_goes_92 cp_12_67 ka_72 rfl r_72_29) ?_
        refine Eq.trans (st1 dX12_goes_95 rfl rfl) ?_
        refine Eq.trans (getRm dX12_goes_96 cp_12_64 ka_72 rfl r_72_27) ?_
        refine Eq.trans (st1 dX12_goes_99 rfl rfl) ?_
        refine Eq.trans (al4m dX12_goes_100 ka_452 rr_452) (Eq.trans (gd_t g1) ?_)
        exact iv0 dX12_goes_101 rfl cp_12_340 rfl rfl (kd_ka ka_72) ka_72.1 (Nat.le_of_ble_eq_true rfl)
theorem q_X12_goes_104 {call : CALL} {L X : Nat} {I : Nat → Nat → Int32} {J : Nat → Nat → Int64} {u1 : Option Value} {x2 : Int32} {x3 : Int32} {u4 : Option Value} {s0 : Int32} : runI call iX12_goes (104, [some (.ref 72), u1, some (.int x2), some (.int x3), u4], [.int s0], (mm L X I J)) = if s0 = (nI 0) then runI call iX12_goes (121, [some (.ref 72), u1, some (.int x2), some (.int x3), some (.int s0)], [.int (nI 0), .int (I 72 42), .ref 72], (mm L X I J)) else runI call iX12_goes (121, [some (.ref 72), u1, some (.int x2), some (.int x3), some (.int s0)], [.int (nI 1), .int (I 72 42), .ref 72], (mm L X I J)) := by
  refine Eq.trans (st1 dX12_goes_104 rfl rfl) ?_
  refine Eq.trans (st1 dX12_goes_106 rfl rfl) ?_
  refine Eq.trans (st1 dX12_goes_107 rfl rfl) ?_
  refine Eq.trans (getIm dX12_goes_108 cp_12_344 ka_72 (.inl rfl)) ?_
  refine Eq.trans (st1 dX12_goes_111 rfl rfl) ?_
  refine Eq.trans (if_eq (tgt := 120) dX12_goes_113 (by decide +kernel)) (ite_cong (fun _ => ?_) (fun _ => ?_))
  · refine Eq.trans (xiconst dX12_goes_120 ci_0) ?_
    rfl
  · refine Eq.trans (xiconst dX12_goes_116 ci_1) ?_
    refine Eq.trans (go_to (tgt := 121) dX12_goes_117 (by decide +kernel)) ?_
    rfl
theorem q_X12_goes_43 {call : CALL} {L X : Nat} {I : Nat → Nat → Int32} {J : Nat → Nat → Int64} {u1 : Option Value} {x2 : Int32} {x3 : Int32} {x4 : Int32} : runI call iX12_goes (43, [some (.ref 72), u1, some (.int x2), some (.int x3), some (.int x4)], [], (mm L X I J)) = gd (inb x3 80) (if (I (453 + (x3).toNatClampNeg) 1) ≤ x4 then runI call iX12_goes (87, [some (.ref 72), u1, some (.int x2), some (.int x3), some (.int x4)], [], (mm L X I J)) else if (nI 200) ≤ (I 72 41) then runI call iX12_goes (87, [some (.ref 72), u1, some (.int x2), some (.int x3), some (.int x4)], [], (mm L X I J)) else bnd (call nX12_goes [.ref 72, .int (x3 + (nI 1)), .int (I (453 + (x3).toNatClampNeg) 3)] (mm L X I J)) (fun v m' => runI call iX12_goes (81, [some (.ref 72), u1, some (.int x2), some (.int x3), some (.int x4)], v.toList ++ [], m'))) := by
  refine Eq.trans (st1 dX12_goes_43 rfl rfl) ?_
  refine Eq.trans (st1 dX12_goes_45 rfl rfl) ?_
  refine Eq.trans (getRm dX12_goes_46 cp_12_64 ka_72 rfl r_72_27) ?_
  refine Eq.trans (st1 dX12_goes_49 rfl rfl) ?_
  refine Eq.trans (al4m dX12_goes_50 ka_452 rr_452) (gd_congr fun g1 => ?_)
  refine Eq.trans (xiconst dX12_goes_51 ci_1) ?_
  refine Eq.trans (al1c dX12_goes_52 (kr_452 (inb_lt g1)) (by decide +kernel) nc_1) ?_
  refine Eq.trans (ic_ge (tgt := 87) dX12_goes_53 (by decide +kernel)) (ite_cong (fun _ => ?_) (fun _ => ?_))
  · rfl
  · refine Eq.trans (st1 dX12_goes_56 rfl rfl) ?_
    refine Eq.trans (getIm dX12_goes_57 cp_12_334 ka_72 (.inl rfl)) ?_
    refine Eq.trans (xsipush dX12_goes_60 cs_200) ?_
    refine Eq.trans (ic_ge (tgt := 87) dX12_goes_63 (by decide +kernel)) (ite_cong (fun _ => ?_) (fun _ => ?_))
    · rfl
    · refine Eq.trans (st1 dX12_goes_66 rfl rfl) ?_
      refine Eq.trans (st1 dX12_goes_67 rfl rfl) ?_
      refine Eq.trans (xiconst dX12_goes_68 ci_1) ?_
      refine Eq.trans (st1 dX12_goes_69 rfl rfl) ?_
      refine Eq.trans (st1 dX12_goes_70 rfl rfl) ?_
      refine Eq.trans (getRm dX12_goes_71 cp_12_64 ka_72 rfl r_72_27) ?_
      refine Eq.trans (st1 dX12_goes_74 rfl rfl) ?_
      refine Eq.trans (al4m dX12_goes_75 ka_452 rr_452) (Eq.trans (gd_t g1) ?_)
      refine Eq.trans (xiconst dX12_goes_76 ci_3) ?_
      refine Eq.trans (al1c dX12_goes_77 (kr_452 (inb_lt g1)) (by decide +kernel) nc_3) ?_
      exact iv0 dX12_goes_78 rfl cp_12_337 rfl rfl (kd_ka ka_72) ka_72.1 (Nat.le_of_ble_eq_true rfl)
theorem q_X12_goes_121 {call : CALL} {L X : Nat} {I : Nat → Nat → Int32} {J : Nat → Nat → Int64} {u1 : Option Value} {x2 : Int32} {x3 : Int32} {x4 : Int32} {s1 : Int32} {s2 : Int32} : runI call iX12_goes (121, [some (.ref 72), u1, some (.int x2), some (.int x3), some (.int x4)], [.int s2, .int s1, .ref 72], (mm L X I J)) = if x4 = (nI 0) then runI call iX12_goes (140, [some (.ref 72), u1, some (.int x2), some (.int x3), some (.int x4)], [.int (nI 1), .int ((up2 I 72 42 (s1 + s2)) 72 36), .ref 72], (mm L X (up2 I 72 42 (s1 + s2)) J)) else runI call iX12_goes (140, [some (.ref 72), u1, some (.int x2), some (.int x3), some (.int x4)], [.int (nI 0), .int ((up2 I 72 42 (s1 + s2)) 72 36), .ref 72], (mm L X (up2 I 72 42 (s1 + s2)) J)) := by
  refine Eq.trans (st1 dX12_goes_121 rfl rfl) ?_
  refine Eq.trans (putIm dX12_goes_122 cp_12_344 ka_72 rfl) ?_
  refine Eq.trans (st1 dX12_goes_125 rfl rfl) ?_
  refine Eq.trans (st1 dX12_goes_126 rfl rfl) ?_
  refine Eq.trans (getIm dX12_goes_127 cp_12_211 ka_72 (.inl rfl)) ?_
  refine Eq.trans (st1 dX12_goes_130 rfl rfl) ?_
  refine Eq.trans (if_eq (tgt := 139) dX12_goes_132 (by decide +kernel)) (ite_cong (fun _ => ?_) (fun _ => ?_))
  · refine Eq.trans (xiconst dX12_goes_139 ci_1) ?_
    rfl
  · refine Eq.trans (xiconst dX12_goes_135 ci_0) ?_
    refine Eq.trans (go_to (tgt := 140) dX12_goes_136 (by decide +kernel)) ?_
    rfl
theorem q_X12_goes_87 {call : CALL} {L X : Nat} {I : Nat → Nat → Int32} {J : Nat → Nat → Int64} {u1 : Option Value} {x2 : Int32} {x3 : Int32} {u4 : Option Value} : runI call iX12_goes (87, [some (.ref 72), u1, some (.int x2), some (.int x3), u4], [], (mm L X I J)) = runI call iX12_goes (144, [some (.ref 72), u1, some (.int x2), some (.int x3), u4], [], (mm L X I J)) := by
  refine Eq.trans (go_to (tgt := 144) dX12_goes_87 (by decide +kernel)) ?_
  rfl
theorem q_X12_goes_81 {call : CALL} {L X : Nat} {I : Nat → Nat → Int32} {J : Nat → Nat → Int64} {u1 : Option Value} {x2 : Int32} {x3 : Int32} {x4 : Int32} : runI call iX12_goes (81, [some (.ref 72), u1, some (.int x2), some (.int x3), some (.int x4)], [], (mm L X I J)) = runI call iX12_goes (43, [some (.ref 72), u1, some (.int x2), some (.int x3), some (.int (x4 + (nI 1)))], [], (mm L X I J)) := by
  refine Eq.trans (xinc2 dX12_goes_81 ci_1 rfl (Nat.le_of_ble_eq_true rfl) rfl) ?_
  refine Eq.trans (go_to (tgt := 43) dX12_goes_84 (by decide +kernel)) ?_
  rfl
theorem q_X12_goes_140 {call : CALL} {L X : Nat} {I : Nat → Nat → Int32} {J : Nat → Nat → Int64} {u1 : Option Value} {x2 : Int32} {x3 : Int32} {u4 : Option Value} {s1 : Int32} {s2 : Int32} : runI call iX12_goes (140, [some (.ref 72), u1, some (.int x2), some (.int x3), u4], [.int s2, .int s1, .ref 72], (mm L X I J)) = runI call iX12_goes (144, [some (.ref 72), u1, some (.int x2), some (.int x3), u4], [], (mm L X (up2 I 72 36 (s1 + s2)) J)) := by
  refine Eq.trans (st1 dX12_goes_140 rfl rfl) ?_
  refine Eq.trans (putIm dX12_goes_141 cp_12_211 ka_72 rfl) ?_
  rfl
theorem q_X12_goes_144 {call : CALL} {L X : Nat} {I : Nat → Nat → Int32} {J : Nat → Nat → Int64} {u1 : Option Value} {x2 : Int32} {x3 : Int32} {u4 : Option Value} : runI call iX12_goes (144, [some (.ref 72), u1, some (.int x2), some (.int x3), u4], [], (mm L X I J)) = gd (inb x3 80) (runI call iX12_goes (2, [some (.ref 72), u1, some (.int x2), some (.int (I (453 + (x3).toNatClampNeg) 3)), u4], [], (mm L X I J))) := by
  refine Eq.trans (st1 dX12_goes_144 rfl rfl) ?_
  refine Eq.trans (getRm dX12_goes_145 cp_12_64 ka_72 rfl r_72_27) ?_
  refine Eq.trans (st1 dX12_goes_148 rfl rfl) ?_
  refine Eq.trans (al4m dX12_goes_149 ka_452 rr_452) (gd_congr fun g1 => ?_)
  refine Eq.trans (xiconst dX12_goes_150 ci_3) ?_
  refine Eq.trans (al1c dX12_goes_151 (kr_452 (inb_lt g1)) (by decide +kernel) nc_3) ?_
  refine Eq.trans (st1 dX12_goes_152 rfl rfl) ?_
  refine Eq.trans (go_to (tgt := 2) dX12_goes_153 (by decide +kernel)) ?_
  rfl
theorem q_X12_does_0 {call : CALL} {L X : Nat} {I : Nat → Nat → Int32} {J : Nat → Nat → Int64} {r1 : Nat} {n1 : Nat} {r2 : Nat} {n2 : Nat} (k1 : ka r1 1 n1) (k2 : ka r2 1 n2) : runI call iX12_does (0, [some (.ref 72), some (.ref r1), some (.ref r2), none], [], (mm L X I J)) = gd (inb (nI 1) n2) (gd (inb (nI 0) n2) (runI call iX12_does (7, [some (.ref 72), some (.ref r1), some (.ref r2), some (.int (I r2 ((nI 1)).toNatClampNeg))], [.int (I r2 ((nI 0)).toNatClampNeg)], (mm L X I J)))) := by
  refine Eq.trans (st1 dX12_does_0 rfl rfl) ?_
  refine Eq.trans (xiconst dX12_does_1 ci_1) ?_
  refine Eq.trans (al1m dX12_does_2 k2) (gd_congr fun g1 => ?_)
  refine Eq.trans (st1 dX12_does_3 rfl rfl) ?_
  refine Eq.trans (st1 dX12_does_4 rfl rfl) ?_
  refine Eq.trans (xiconst dX12_does_5 ci_0) ?_
  refine Eq.trans (al1m dX12_does_6 k2) (gd_congr fun g2 => ?_)
  rfl
theorem q_X12_does_7 {call : CALL} {L X : Nat} {I : Nat → Nat → Int32} {J : Nat → Nat → Int64} {r1 : Nat} {n1 : Nat} {r2 : Nat} {n2 : Nat} {x3 : Int32} {s0 : Int32} (k1 : ka r1 1 n1) (k2 : ka r2 1 n2) : runI call iX12_does (7, [some (.ref 72), some (.ref r1), some (.ref r2), some (.int x3)], [.int s0], (mm L X I J)) = if s0 = (nI 0) then runI call iX12_does (48, [some (.ref 72), some (.ref r1), some (.ref r2), some (.int x3)], [], (mm L X I J)) else if s0 = (nI 1) then runI call iX12_does (55, [some (.ref 72), some (.ref r1), some (.ref r2), some (.int x3)], [], (mm L X I J)) else if s0 = (nI 2) then runI call iX12_does (62, [some (.ref 72), some (.ref r1), some (.ref r2), some (.int x3)], [], (mm L X I J)) else if s0 = (nI 3) then runI call iX12_does (67, [some (.ref 72), some (.ref r1), some (.ref r2), some (.int x3)], [], (mm L X I J)) else if s0 = (nI 4) then runI call iX12_does (79, [some (.ref 72), some (.ref r1), some (.ref r2), some (.int x3)], [], (mm L X I J)) else if s0 = (nI 5) then runI call iX12_does (86, [some (.ref 72), some (.ref r1), some (.ref r2), some (.int x3)], [], (mm L X I J)) else if s0 = (nI 6) then runI call iX12_does (93, [some (.ref 72), some (.ref r1), some (.ref r2), some (.int x3)], [], (mm L X I J)) else runI call iX12_does (101, [some (.ref 72), some (.ref r1), some (.ref r2), some (.int x3)], [], (mm L X I J)) := by
  refine ite_cong2 (fun e0 => sw_t dX12_does_7 (by rw [e0]; decide +kernel)) (fun e0 => ?_)
  refine ite_cong2 (fun e1 => sw_t dX12_does_7 (by rw [e1]; decide +kernel)) (fun e1 => ?_)
  refine ite_cong2 (fun e2 => sw_t dX12_does_7 (by rw [e2]; decide +kernel)) (fun e2 => ?_)
  refine ite_cong2 (fun e3 => sw_t dX12_does_7 (by rw [e3]; decide +kernel)) (fun e3 => ?_)
  refine ite_cong2 (fun e4 => sw_t dX12_does_7 (by rw [e4]; decide +kernel)) (fun e4 => ?_)
  refine ite_cong2 (fun e5 => sw_t dX12_does_7 (by rw [e5]; decide +kernel)) (fun e5 => ?_)
  refine ite_cong2 (fun e6 => sw_t dX12_does_7 (by rw [e6]; decide +kernel)) (fun e6 => ?_)
  exact sw_t dX12_does_7 (swT_dflt (vs := [(0 : Int), (1 : Int), (2 : Int), (3 : Int), (4 : Int), (5 : Int), (6 : Int)]) (by decide +kernel) (fun v hv => by simp only [List.mem_cons, List.not_mem_nil, or_false] at hv; rcases hv with rfl | rfl | rfl | rfl | rfl | rfl | rfl <;> first | exact ne_toInt (by decide +kernel) e0 | exact ne_toInt (by decide +kernel) e1 | exact ne_toInt (by decide +kernel) e2 | exact ne_toInt (by decide +kernel) e3 | exact ne_toInt (by decide +kernel) e4 | exact ne_toInt (by decide +kernel) e5 | exact ne_toInt (by decide +kernel) e6))
theorem q_X12_does_48 {call : CALL} {L X : Nat} {I : Nat → Nat → Int32} {J : Nat → Nat → Int64} {r1 : Nat} {n1 : Nat} {u2 : Option Value} {x3 : Int32} (k1 : ka r1 1 n1) : runI call iX12_does (48, [some (.ref 72), some (.ref r1), u2, some (.int x3)], [], (mm L X I J)) = bnd (call nX12_turns [.ref 72, .ref r1, .int x3] (mm L X I J)) (fun v m' => runI call iX12_does (54, [some (.ref 72), some (.ref r1), u2, some (.int x3)], v.toList ++ [], m')) := by
  refine Eq.trans (st1 dX12_does_48 rfl rfl) ?_
  refine Eq.trans (st1 dX12_does_49 rfl rfl) ?_
  refine Eq.trans (st1 dX12_does_50 rfl rfl) ?_
  exact iv0 dX12_does_51 rfl cp_12_314 rfl rfl (kd_ka ka_72) ka_72.1 (Nat.le_of_ble_eq_true rfl)
theorem q_X12_does_55 {call : CALL} {L X : Nat} {I : Nat → Nat → Int32} {J : Nat → Nat → Int64} {r1 : Nat} {n1 : Nat} {u2 : Option Value} {x3 : Int32} (k1 : ka r1 1 n1) : runI call iX12_does (55, [some (.ref 72), some (.ref r1), u2, some (.int x3)], [], (mm L X I J)) = bnd (call nX12_laysOne [.ref 72, .ref r1, .int x3] (mm L X I J)) (fun v m' => runI call iX12_does (61, [some (.ref 72), some (.ref r1), u2, some (.int x3)], v.toList ++ [], m')) := by
  refine Eq.trans (st1 dX12_does_55 rfl rfl) ?_
  refine Eq.trans (st1 dX12_does_56 rfl rfl) ?_
  refine Eq.trans (st1 dX12_does_57 rfl rfl) ?_
  exact iv0 dX12_does_58 rfl cp_12_317 rfl rfl (kd_ka ka_72) ka_72.1 (Nat.le_of_ble_eq_true rfl)
theorem q_X12_does_62 {call : CALL} {L X : Nat} {I : Nat → Nat → Int32} {J : Nat → Nat → Int64} {u0 : Option Value} {r1 : Nat} {n1 : Nat} {u2 : Option Value} {u3 : Option Value} (k1 : ka r1 1 n1) : runI call iX12_does (62, [u0, some (.ref r1), u2, u3], [], (mm L X I J)) = bndN (call nX12_lifts [.ref r1] (mm L X I J)) (fun v m' => runI call iX12_does (66, [u0, some (.ref r1), u2, u3], v.toList ++ [], m')) := by
  refine Eq.trans (st1 dX12_does_62 rfl rfl) ?_
  exact is2 dX12_does_63 cp_12_320 (Nat.le_of_ble_eq_true rfl) rfl rfl (Nat.le_of_ble_eq_true rfl)
theorem q_X12_does_67 {call : CALL} {L X : Nat} {I : Nat → Nat → Int32} {J : Nat → Nat → Int64} {u0 : Option Value} {r1 : Nat} {n1 : Nat} {r2 : Nat} {n2 : Nat} {x3 : Int32} (k1 : ka r1 1 n1) (k2 : ka r2 1 n2) : runI call iX12_does (67, [u0, some (.ref r1), some (.ref r2), some (.int x3)], [], (mm L X I J)) = gd (inb (nI 2) n2) (bndN (call nX12_becomes [.ref r1, .int ((nI 12) + x3), .int (I r2 ((nI 2)).toNatClampNeg)] (mm L X I J)) (fun v m' => runI call iX12_does (78, [u0, some (.ref r1), some (.ref r2), some (.int x3)], v.toList ++ [], m'))) := by
  refine Eq.trans (st1 dX12_does_67 rfl rfl) ?_
  refine Eq.trans (xbipush dX12_does_68 cb_12) ?_
  refine Eq.trans (st1 dX12_does_70 rfl rfl) ?_
  refine Eq.trans (st1 dX12_does_71 rfl rfl) ?_
  refine Eq.trans (st1 dX12_does_72 rfl rfl) ?_
  refine Eq.trans (xiconst dX12_does_73 ci_2) ?_
  refine Eq.trans (al1m dX12_does_74 k2) (gd_congr fun g1 => ?_)
  exact is2 dX12_does_75 cp_12_324 (Nat.le_of_ble_eq_true rfl) rfl rfl (Nat.le_of_ble_eq_true rfl)
theorem q_X12_does_79 {call : CALL} {L X : Nat} {I : Nat → Nat → Int32} {J : Nat → Nat → Int64} {u0 : Option Value} {r1 : Nat} {n1 : Nat} {u2 : Option Value} {x3 : Int32} (k1 : ka r1 1 n1) : runI call iX12_does (79, [u0, some (.ref r1), u2, some (.int x3)], [], (mm L X I J)) = bndN (call nX12_bursts [.ref r1, .int x3, .int (nI 1)] (mm L X I J)) (fun v m' => runI call iX12_does (85, [u0, some (.ref r1), u2, some (.int x3)], v.toList ++ [], m')) := by
  refine Eq.trans (st1 dX12_does_79 rfl rfl) ?_
  refine Eq.trans (st1 dX12_does_80 rfl rfl) ?_
  refine Eq.trans (xiconst dX12_does_81 ci_1) ?_
  exact is2 dX12_does_82 cp_12_327 (Nat.le_of_ble_eq_true rfl) rfl rfl (Nat.le_of_ble_eq_true rfl)
theorem q_X12_does_86 {call : CALL} {L X : Nat} {I : Nat → Nat → Int32} {J : Nat → Nat → Int64} {u0 : Option Value} {r1 : Nat} {n1 : Nat} {u2 : Option Value} {x3 : Int32} (k1 : ka r1 1 n1) : runI call iX12_does (86, [u0, some (.ref r1), u2, some (.int x3)], [], (mm L X I J)) = bndN (call nX12_bursts [.ref r1, .int x3, .int (-1 : Int32)] (mm L X I J)) (fun v m' => runI call iX12_does (92, [u0, some (.ref r1), u2, some (.int x3)], v.toList ++ [], m')) := by
  refine Eq.trans (st1 dX12_does_86 rfl rfl) ?_
  refine Eq.trans (st1 dX12_does_87 rfl rfl) ?_
  refine Eq.trans (xiconst dX12_does_88 ci_m1) ?_
  exact is2 dX12_does_89 cp_12_327 (Nat.le_of_ble_eq_true rfl) rfl rfl (Nat.le_of_ble_eq_true rfl)
theorem q_X12_does_93 {call : CALL} {L X : Nat} {I : Nat → Nat → Int32} {J : Nat → Nat → Int64} {u0 : Option Value} {r1 : Nat} {n1 : Nat} {u2 : Option Value} {x3 : Int32} (k1 : ka r1 1 n1) : runI call iX12_does (93, [u0, some (.ref r1), u2, some (.int x3)], [], (mm L X I J)) = bndN (call nX12_becomes [.ref r1, .int (nI 29), .int x3] (mm L X I J)) (fun v m' => runI call iX12_does (100, [u0, some (.ref r1), u2, some (.int x3)], v.toList ++ [], m')) := by
  refine Eq.trans (st1 dX12_does_93 rfl rfl) ?_
  refine Eq.trans (xbipush dX12_does_94 cb_29) ?_
  refine Eq.trans (st1 dX12_does_96 rfl rfl) ?_
  exact is2 dX12_does_97 cp_12_324 (Nat.le_of_ble_eq_true rfl) rfl rfl (Nat.le_of_ble_eq_true rfl)
theorem q_X12_does_101 {call : CALL} {L X : Nat} {I : Nat → Nat → Int32} {J : Nat → Nat → Int64} {r1 : Nat} {n1 : Nat} {u2 : Option Value} {u3 : Option Value} (k1 : ka r1 1 n1) : runI call iX12_does (101, [some (.ref 72), some (.ref r1), u2, u3], [], (mm L X I J)) = gd (inb (nI 30) n1) (if (I r1 ((nI 30)).toNatClampNeg) < (nI 500) then bnd (call nX12_hourEnds [.ref 72, .ref r1] (mm L X I J)) (fun v m' => runI call iX12_does (118, [some (.ref 72), some (.ref r1), u2, u3], v.toList ++ [], m')) else some (.inl (some (.int (nI 0))), (mm L X I J))) := by
  refine Eq.trans (st1 dX12_does_101 rfl rfl) ?_
  refine Eq.trans (xbipush dX12_does_102 cb_30) ?_
  refine Eq.trans (al1m dX12_does_104 k1) (gd_congr fun g1 => ?_)
  refine Eq.trans (xsipush dX12_does_105 cs_500) ?_
  refine Eq.trans (ic_lt (tgt := 113) dX12_does_108 (by decide +kernel)) (ite_cong (fun _ => ?_) (fun _ => ?_))
  · refine Eq.trans (st1 dX12_does_113 rfl rfl) ?_
    refine Eq.trans (st1 dX12_does_114 rfl rfl) ?_
    exact iv0 dX12_does_115 rfl cp_12_330 rfl rfl (kd_ka ka_72) ka_72.1 (Nat.le_of_ble_eq_true rfl)
  · refine Eq.trans (xiconst dX12_does_111 ci_0) ?_
    exact ret1 dX12_does_112 rfl (.inl rfl)
theorem q_X12_does_54 {call : CALL} {L X : Nat} {I : Nat → Nat → Int32} {J : Nat → Nat → Int64} {u0 : Option Value} {u1 : Option Value} {u2 : Option Value} {u3 : Option Value} {s0 : Int32} : runI call iX12_does (54, [u0, u1, u2, u3], [.int s0], (mm L X I J)) = gd (b01 s0) (some (.inl (some (.int s0)), (mm L X I J))) := by
  exact ret1g dX12_does_54 rfl
theorem q_X12_does_61 {call : CALL} {L X : Nat} {I : Nat → Nat → Int32} {J : Nat → Nat → Int64} {u0 : Option Value} {u1 : Option Value} {u2 : Option Value} {u3 : Option Value} {s0 : Int32} : runI call iX12_does (61, [u0, u1, u2, u3], [.int s0], (mm L X I J)) = gd (b01 s0) (some (.inl (some (.int s0)), (mm L X I J))) := by
  exact ret1g dX12_does_61 rfl
theorem q_X12_does_66 {call : CALL} {L X : Nat} {I : Nat → Nat → Int32} {J : Nat → Nat → Int64} {u0 : Option Value} {u1 : Option Value} {u2 : Option Value} {u3 : Option Value} {s0 : Int32} : runI call iX12_does (66, [u0, u1, u2, u3], [.int s0], (mm L X I J)) = gd (b01 s0) (some (.inl (some (.int s0)), (mm L X I J))) := by
  exact ret1g dX12_does_66 rfl
theorem q_X12_does_78 {call : CALL} {L X : Nat} {I : Nat → Nat → Int32} {J : Nat → Nat → Int64} {u0 : Option Value} {u1 : Option Value} {u2 : Option Value} {u3 : Option Value} {s0 : Int32} : runI call iX12_does (78, [u0, u1, u2, u3], [.int s0], (mm L X I J)) = gd (b01 s0) (some (.inl (some (.int s0)), (mm L X I J))) := by
  exact ret1g dX12_does_78 rfl
theorem q_X12_does_85 {call : CALL} {L X : Nat} {I : Nat → Nat → Int32} {J : Nat → Nat → Int64} {u0 : Option Value} {u1 : Option Value} {u2 : Option Value} {u3 : Option Value} {s0 : Int32} : runI call iX12_does (85, [u0, u1, u2, u3], [.int s0], (mm L X I J)) = gd (b01 s0) (some (.inl (some (.int s0)), (mm L X I J))) := by
  exact ret1g dX12_does_85 rfl
theorem q_X12_does_92 {call : CALL} {L X : Nat} {I : Nat → Nat → Int32} {J : Nat → Nat → Int64} {u0 : Option Value} {u1 : Option Value} {u2 : Option Value} {u3 : Option Value} {s0 : Int32} : runI call iX12_does (92, [u0, u1, u2, u3], [.int s0], (mm L X I J)) = gd (b01 s0) (some (.inl (some (.int s0)), (mm L X I J))) := by
  exact ret1g dX12_does_92 rfl
theorem q_X12_does_100 {call : CALL} {L X : Nat} {I : Nat → Nat → Int32} {J : Nat → Nat → Int64} {u0 : Option Value} {u1 : Option Value} {u2 : Option Value} {u3 : Option Value} {s0 : Int32} : runI call iX12_does (100, [u0, u1, u2, u3], [.int s0], (mm L X I J)) = gd (b01 s0) (some (.inl (some (.int s0)), (mm L X I J))) := by
  exact ret1g dX12_does_100 rfl
theorem q_X12_does_118 {call : CALL} {L X : Nat} {I : Nat → Nat → Int32} {J : Nat → Nat → Int64} {u0 : Option Value} {u1 : Option Value} {u2 : Option Value} {u3 : Option Value} : runI call iX12_does (118, [u0, u1, u2, u3], [], (mm L X I J)) = some (.inl (some (.int (nI 1))), (mm L X I J)) := by
  refine Eq.trans (xiconst dX12_does_118 ci_1) ?_
  exact ret1 dX12_does_119 rfl (.inr rfl)
theorem q_X12_turns_0 {call : CALL} {L X : Nat} {I : Nat → Nat → Int32} {J : Nat → Nat → Int64} {r1 : Nat} {n1 : Nat} {x2 : Int32} (k1 : ka r1 1 n1) : runI call iX12_turns (0, [some (.ref 72), some (.ref r1), some (.int x2)], [], (mm L X I J)) = bndN (call nX12_placeOf [.ref r1, .int x2] (mm L X I J)) (fun v m' => runI call iX12_turns (5, [some (.ref 72), some (.ref r1), some (.int x2)], v.toList ++ [], m')) := by
  refine Eq.trans (st1 dX12_turns_0 rfl rfl) ?_
  refine Eq.trans (st1 dX12_turns_1 rfl rfl) ?_
  exact is2 dX12_turns_2 cp_12_268 (Nat.le_of_ble_eq_true rfl) rfl rfl (Nat.le_of_ble_eq_true rfl)
theorem q_X12_turns_5 {call : CALL} {L X : Nat} {I : Nat → Nat → Int32} {J : Nat → Nat → Int64} {u0 : Option Value} {r1 : Nat} {n1 : Nat} {x2 : Int32} {s0 : Int32} (k1 : ka r1 1 n1) : runI call iX12_turns (5, [u0, some (.ref r1), some (.int x2)], [.int s0], (mm L X I J)) = if s0 = (-1 : Int32) then gd (inb ((nI 6) + x2) n1) (some (.inl (some (.int (nI 1))), (mm L X (up2 I r1 (((nI 6) + x2)).toNatClampNeg ((nI 1) - (I r1 (((nI 6) + x2)).toNatClampNeg))) J))) else some (.inl (some (.int (nI 0))), (mm L X I J)) := by
  refine Eq.trans (xiconst dX12_turns_5 ci_m1) ?_
  refine Eq.trans (ic_eq (tgt := 11) dX12_turns_6 (by decide +kernel)) (ite_cong (fun _ => ?_) (fun _ => ?_))
  · refine Eq.trans (st1 dX12_turns_11 rfl rfl) ?_
    refine Eq.trans (xbipush dX12_turns_12 cb_6) ?_
    refine Eq.trans (st1 dX12_turns_14 rfl rfl) ?_
    refine Eq.trans (st1 dX12_turns_15 rfl rfl) ?_
    refine Eq.trans (xiconst dX12_turns_16 ci_1) ?_
    refine Eq.trans (st1 dX12_turns_17 rfl rfl) ?_
    refine Eq.trans (xbipush dX12_turns_18 cb_6) ?_
    refine Eq.trans (st1 dX12_turns_20 rfl rfl) ?_
    refine Eq.trans (st1 dX12_turns_21 rfl rfl) ?_
    refine Eq.trans (al1m dX12_turns_22 k1) (gd_congr fun g1 => ?_)
    refine Eq.trans (st1 dX12_turns_23 rfl rfl) ?_
    refine Eq.trans (as1m dX12_turns_24 k1) (Eq.trans (gd_t g1) ?_)
    refine Eq.trans (xiconst dX12_turns_25 ci_1) ?_
    exact ret1 dX12_turns_26 rfl (.inr rfl)
  · refine Eq.trans (xiconst dX12_turns_9 ci_0) ?_
    exact ret1 dX12_turns_10 rfl (.inl rfl)
theorem q_X12_placeOf_0 {call : CALL} {L X : Nat} {I : Nat → Nat → Int32} {J : Nat → Nat → Int64} {r0 : Nat} {n0 : Nat} {x1 : Int32} (k0 : ka r0 1 n0) : runI call iX12_placeOf (0, [some (.ref r0), some (.int x1), none], [], (mm L X I J)) = runI call iX12_placeOf (2, [some (.ref r0), some (.int x1), some (.int (nI 0))], [], (mm L X I J)) := by
  refine Eq.trans (xiconst dX12_placeOf_0 ci_0) ?_
  refine Eq.trans (st1 dX12_placeOf_1 rfl rfl) ?_
  rfl
theorem q_X12_placeOf_2 {call : CALL} {L X : Nat} {I : Nat → Nat → Int32} {J : Nat → Nat → Int64} {r0 : Nat} {n0 : Nat} {x1 : Int32} {x2 : Int32} (k0 : ka r0 1 n0) : runI call iX12_placeOf (2, [some (.ref r0), some (.int x1), some (.int x2)], [], (mm L X I J)) = if (nI 6) ≤ x2 then some (.inl (some (.int (-1 : Int32))), (mm L X I J)) else gd (inb ((nI 0) + x2) n0) (if (I r0 (((nI 0) + x2)).toNatClampNeg) = x1 then some (.inl (some (.int x2)), (mm L X I J)) else runI call iX12_placeOf (2, [some (.ref r0), some (.int x1), some (.int (x2 + (nI 1)))], [], (mm L X I J))) := by
  refine Eq.trans (st1 dX12_placeOf_2 rfl rfl) ?_
  refine Eq.trans (xbipush dX12_placeOf_3 cb_6) ?_
  refine Eq.trans (ic_ge (tgt := 25) dX12_placeOf_5 (by decide +kernel)) (ite_cong (fun _ => ?_) (fun _ => ?_))
  · refine Eq.trans (xiconst dX12_placeOf_25 ci_m1) ?_
    exact ret0 dX12_placeOf_26 rfl
  · refine Eq.trans (st1 dX12_placeOf_8 rfl rfl) ?_
    refine Eq.trans (xiconst dX12_placeOf_9 ci_0) ?_
    refine Eq.trans (st1 dX12_placeOf_10 rfl rfl) ?_
    refine Eq.trans (st1 dX12_placeOf_11 rfl rfl) ?_
    refine Eq.trans (al1m dX12_placeOf_12 k0) (gd_congr fun g1 => ?_)
    refine Eq.trans (st1 dX12_placeOf_13 rfl rfl) ?_
    refine Eq.trans (ic_ne (tgt := 19) dX12_placeOf_14 (by decide +kernel)) (ite_cong (fun _ => ?_) (fun _ => ?_))
    · refine Eq.trans (st1 dX12_placeOf_17 rfl rfl) ?_
      exact ret0 dX12_placeOf_18 rfl
    · refine Eq.trans (xinc2 dX12_placeOf_19 ci_1 rfl (Nat.le_of_ble_eq_true rfl) rfl) ?_
      refine Eq.trans (go_to (tgt := 2) dX12_placeOf_22 (by decide +kernel)) ?_
      rfl
theorem q_X12_laysOne_0 {call : CALL} {L X : Nat} {I : Nat → Nat → Int32} {J : Nat → Nat → Int64} {r1 : Nat} {n1 : Nat} {x2 : Int32} (k1 : ka r1 1 n1) : runI call iX12_laysOne (0, [some (.ref 72), some (.ref r1), some (.int x2)], [], (mm L X I J)) = gd (inb ((nI 6) + x2) n1) (bnd (call nX12_canLay [.ref 72, .ref r1, .int x2, .int (I r1 (((nI 6) + x2)).toNatClampNeg)] (mm L X I J)) (fun v m' => runI call iX12_laysOne (12, [some (.ref 72), some (.ref r1), some (.int x2)], v.toList ++ [], m'))) := by
  refine Eq.trans (st1 dX12_laysOne_0 rfl rfl) ?_
  refine Eq.trans (st1 dX12_laysOne_1 rfl rfl) ?_
  refine Eq.trans (st1 dX12_laysOne_2 rfl rfl) ?_
  refine Eq.trans (st1 dX12_laysOne_3 rfl rfl) ?_
  refine Eq.trans (xbipush dX12_laysOne_4 cb_6) ?_
  refine Eq.trans (st1 dX12_laysOne_6 rfl rfl) ?_
  refine Eq.trans (st1 dX12_laysOne_7 rfl rfl) ?_
  refine Eq.trans (al1m dX12_laysOne_8 k1) (gd_congr fun g1 => ?_)
  exact iv0 dX12_laysOne_9 rfl cp_12_310 rfl rfl (kd_ka ka_72) ka_72.1 (Nat.le_of_ble_eq_true rfl)
theorem q_X12_laysOne_12 {call : CALL} {L X : Nat} {I : Nat → Nat → Int32} {J : Nat → Nat → Int64} {u0 : Option Value} {r1 : Nat} {n1 : Nat} {x2 : Int32} {s0 : Int32} (k1 : ka r1 1 n1) : runI call iX12_laysOne (12, [u0, some (.ref r1), some (.int x2)], [.int s0], (mm L X I J)) = if s0 = (nI 0) then some (.inl (some (.int (nI 0))), (mm L X I J)) else bndN (call nX12_manyIn [.ref r1] (mm L X I J)) (fun v m' => runI call iX12_laysOne (23, [u0, some (.ref r1), some (.int x2)], v.toList ++ [.int (nI 0), .ref r1], m')) := by
  refine Eq.trans (if_ne (tgt := 17) dX12_laysOne_12 (by decide +kernel)) (ite_cong (fun _ => ?_) (fun _ => ?_))
  · refine Eq.trans (xiconst dX12_laysOne_15 ci_0) ?_
    exact ret1 dX12_laysOne_16 rfl (.inl rfl)
  · refine Eq.trans (st1 dX12_laysOne_17 rfl rfl) ?_
    refine Eq.trans (xiconst dX12_laysOne_18 ci_0) ?_
    refine Eq.trans (st1 dX12_laysOne_19 rfl rfl) ?_
    exact is2 dX12_laysOne_20 cp_12_264 (Nat.le_of_ble_eq_true rfl) rfl rfl (Nat.le_of_ble_eq_true rfl)
theorem q_X12_laysOne_23 {call : CALL} {L X : Nat} {I : Nat → Nat → Int32} {J : Nat → Nat → Int64} {u0 : Option Value} {u1 : Option Value} {x2 : Int32} {r1 : Nat} {n1 : Nat} {s1 : Int32} {s2 : Int32} (k1 : ka r1 1 n1) : runI call iX12_laysOne (23, [u0, u1, some (.int x2)], [.int s2, .int s1, .ref r1], (mm L X I J)) = gd (inb (s1 + s2) n1) (some (.inl (some (.int (nI 1))), (mm L X (up2 I r1 ((s1 + s2)).toNatClampNeg x2) J))) := by
  refine Eq.trans (st1 dX12_laysOne_23 rfl rfl) ?_
  refine Eq.trans (st1 dX12_laysOne_24 rfl rfl) ?_
  refine Eq.trans (as1m dX12_laysOne_25 k1) (gd_congr fun g1 => ?_)
  refine Eq.trans (xiconst dX12_laysOne_26 ci_1) ?_
  exact ret1 dX12_laysOne_27 rfl (.inr rfl)
theorem q_X12_canLay_0 {call : CALL} {L X : Nat} {I : Nat → Nat → Int32} {J : Nat → Nat → Int64} {r1 : Nat} {n1 : Nat} {x2 : Int32} {x3 : Int32} (k1 : ka r1 1 n1) : runI call iX12_canLay (0, [some (.ref 72), some (.ref r1), some (.int x2), some (.int x3), none, none], [], (mm L X I J)) = bndN (call nX12_manyIn [.ref r1] (mm L X I J)) (fun v m' => runI call iX12_canLay (4, [some (.ref 72), some (.ref r1), some (.int x2), some (.int x3), none, none], v.toList ++ [], m')) := by
  refine Eq.trans (st1 dX12_canLay_0 rfl rfl) ?_
  exact is2 dX12_canLay_1 cp_12_264 (Nat.le_of_ble_eq_true rfl) rfl rfl (Nat.le_of_ble_eq_true rfl)
theorem q_X12_canLay_4 {call : CALL} {L X : Nat} {I : Nat → Nat → Int32} {J : Nat → Nat → Int64} {r1 : Nat} {n1 : Nat} {x2 : Int32} {x3 : Int32} {u4 : Option Value} {u5 : Option Value} {s0 : Int32} (k1 : ka r1 1 n1) : runI call iX12_canLay (4, [some (.ref 72), some (.ref r1), some (.int x2), some (.int x3), u4, u5], [.int s0], (mm L X I J)) = bndN (call nX12_placeOf [.ref r1, .int x2] (mm L X I J)) (fun v m' => runI call iX12_canLay (11, [some (.ref 72), some (.ref r1), some (.int x2), some (.int x3), some (.int s0), u5], v.toList ++ [], m')) := by
  refine Eq.trans (st1 dX12_canLay_4 rfl rfl) ?_
  refine Eq.trans (st1 dX12_canLay_6 rfl rfl) ?_
  refine Eq.trans (st1 dX12_canLay_7 rfl rfl) ?_
  exact is2 dX12_canLay_8 cp_12_268 (Nat.le_of_ble_eq_true rfl) rfl rfl (Nat.le_of_ble_eq_true rfl)
theorem q_X12_canLay_11 {call : CALL} {L X : Nat} {I : Nat → Nat → Int32} {J : Nat → Nat → Int64} {r1 : Nat} {n1 : Nat} {x2 : Int32} {x3 : Int32} {x4 : Int32} {u5 : Option Value} {s0 : Int32} (k1 : ka r1 1 n1) : runI call iX12_canLay (11, [some (.ref 72), some (.ref r1), some (.int x2), some (.int x3), some (.int x4), u5], [.int s0], (mm L X I J)) = if s0 = (-1 : Int32) then if x4 = (nI 0) then some (.inl (some (.int (nI 1))), (mm L X I J)) else gd (inb (((nI 0) + x4) - (nI 1)) n1) (gd (inb ((nI 6) + (I r1 ((((nI 0) + x4) - (nI 1))).toNatClampNeg)) n1) (bnd (call nX12_footOf [.ref 72, .int (I r1 ((((nI 0) + x4) - (nI 1))).toNatClampNeg), .int (I r1 (((nI 6) + (I r1 ((((nI 0) + x4) - (nI 1))).toNatClampNeg))).toNatClampNeg)] (mm L X I J)) (fun v m' => runI call iX12_canLay (48, [some (.ref 72), some (.ref r1), some (.int x2), some (.int x3), some (.int x4), some (.int (I r1 ((((nI 0) + x4) - (nI 1))).toNatClampNeg))], v.toList ++ [.ref 72], m')))) else some (.inl (some (.int (nI 0))), (mm L X I J)) := by
  refine Eq.trans (xiconst dX12_canLay_11 ci_m1) ?_
  refine Eq.trans (ic_eq (tgt := 17) dX12_canLay_12 (by decide +kernel)) (ite_cong (fun _ => ?_) (fun _ => ?_))
  · refine Eq.trans (st1 dX12_canLay_17 rfl rfl) ?_
    refine Eq.trans (if_ne (tgt := 24) dX12_canLay_19 (by decide +kernel)) (ite_cong (fun _ => ?_) (fun _ => ?_))
    · refine Eq.trans (xiconst dX12_canLay_22 ci_1) ?_
      exact ret1 dX12_canLay_23 rfl (.inr rfl)
    · refine Eq.trans (st1 dX12_canLay_24 rfl rfl) ?_
      refine Eq.trans (xiconst dX12_canLay_25 ci_0) ?_
      refine Eq.trans (st1 dX12_canLay_26 rfl rfl) ?_
      refine Eq.trans (st1 dX12_canLay_28 rfl rfl) ?_
      refine Eq.trans (xiconst dX12_canLay_29 ci_1) ?_
      refine Eq.trans (st1 dX12_canLay_30 rfl rfl) ?_
      refine Eq.trans (al1m dX12_canLay_31 k1) (gd_congr fun g1 => ?_)
      refine Eq.trans (st1 dX12_canLay_32 rfl rfl) ?_
      refine Eq.trans (st1 dX12_canLay_34 rfl rfl) ?_
      refine Eq.trans (st1 dX12_canLay_35 rfl rfl) ?_
      refine Eq.trans (st1 dX12_canLay_36 rfl rfl) ?_
      refine Eq.trans (st1 dX12_canLay_38 rfl rfl) ?_
      refine Eq.trans (xbipush dX12_canLay_39 cb_6) ?_
      refine Eq.trans (st1 dX12_canLay_41 rfl rfl) ?_
      refine Eq.trans (st1 dX12_canLay_43 rfl rfl) ?_
      refine Eq.trans (al1m dX12_canLay_44 k1) (gd_congr fun g2 => ?_)
      exact iv0 dX12_canLay_45 rfl cp_12_272 rfl rfl (kd_ka ka_72) ka_72.1 (Nat.le_of_ble_eq_true rfl)
  · refine Eq.trans (xiconst dX12_canLay_15 ci_0) ?_
    exact ret1 dX12_canLay_16 rfl (.inl rfl)
theorem q_X12_canLay_48 {call : CALL} {L X : Nat} {I : Nat → Nat → Int32} {J : Nat → Nat → Int64} {u1 : Option Value} {x2 : Int32} {x3 : Int32} {u4 : Option Value} {u5 : Option Value} {s1 : Int32} : runI call iX12_canLay (48, [some (.ref 72), u1, some (.int x2), some (.int x3), u4, u5], [.int s1, .ref 72], (mm L X I J)) = bnd (call nX12_headOf [.ref 72, .int x2, .int x3] (mm L X I J)) (fun v m' => runI call iX12_canLay (54, [some (.ref 72), u1, some (.int x2), some (.int x3), u4, u5], v.toList ++ [.int s1, .ref 72], m')) := by
  refine Eq.trans (st1 dX12_canLay_48 rfl rfl) ?_
  refine Eq.trans (st1 dX12_canLay_49 rfl rfl) ?_
  refine Eq.trans (st1 dX12_canLay_50 rfl rfl) ?_
  exact iv0 dX12_canLay_51 rfl cp_12_275 rfl rfl (kd_ka ka_72) ka_72.1 (Nat.le_of_ble_eq_true rfl)
theorem q_X12_canLay_54 {call : CALL} {L X : Nat} {I : Nat → Nat → Int32} {J : Nat → Nat → Int64} {u0 : Option Value} {u1 : Option Value} {u2 : Option Value} {u3 : Option Value} {u4 : Option Value} {u5 : Option Value} {s1 : Int32} {s2 : Int32} : runI call iX12_canLay (54, [u0, u1, u2, u3, u4, u5], [.int s2, .int s1, .ref 72], (mm L X I J)) = bnd (call nX12_isJoined [.ref 72, .int s1, .int s2] (mm L X I J)) (fun v m' => runI call iX12_canLay (57, [u0, u1, u2, u3, u4, u5], v.toList ++ [], m')) := by
  exact iv0 dX12_canLay_54 rfl cp_12_278 rfl rfl (kd_ka ka_72) ka_72.1 (Nat.le_of_ble_eq_true rfl)
theorem q_X12_canLay_57 {call : CALL} {L X : Nat} {I : Nat → Nat → Int32} {J : Nat → Nat → Int64} {u0 : Option Value} {u1 : Option Value} {u2 : Option Value} {u3 : Option Value} {u4 : Option Value} {u5 : Option Value} {s0 : Int32} : runI call iX12_canLay (57, [u0, u1, u2, u3, u4, u5], [.int s0], (mm L X I J)) = gd (b01 s0) (some (.inl (some (.int s0)), (mm L X I J))) := by
  exact ret1g dX12_canLay_57 rfl
theorem q_X12_manyIn_0 {call : CALL} {L X : Nat} {I : Nat → Nat → Int32} {J : Nat → Nat → Int64} {r0 : Nat} {n0 : Nat} (k0 : ka r0 1 n0) : runI call iX12_manyIn (0, [some (.ref r0), none], [], (mm L X I J)) = runI call iX12_manyIn (2, [some (.ref r0), some (.int (nI 0))], [], (mm L X I J)) := by
  refine Eq.trans (xiconst dX12_manyIn_0 ci_0) ?_
  refine Eq.trans (st1 dX12_manyIn_1 rfl rfl) ?_
  rfl
theorem q_X12_manyIn_2 {call : CALL} {L X : Nat} {I : Nat → Nat → Int32} {J : Nat → Nat → Int64} {r0 : Nat} {n0 : Nat} {x1 : Int32} (k0 : ka r0 1 n0) : runI call iX12_manyIn (2, [some (.ref r0), some (.int x1)], [], (mm L X I J)) = if (nI 6) ≤ x1 then some (.inl (some (.int x1)), (mm L X I J)) else gd (inb ((nI 0) + x1) n0) (if (I r0 (((nI 0) + x1)).toNatClampNeg) = (-1 : Int32) then some (.inl (some (.int x1)), (mm L X I J)) else runI call iX12_manyIn (2, [some (.ref r0), some (.int (x1 + (nI 1)))], [], (mm L X I J))) := by
  refine Eq.trans (st1 dX12_manyIn_2 rfl rfl) ?_
  refine Eq.trans (xbipush dX12_manyIn_3 cb_6) ?_
  refine Eq.trans (ic_ge (tgt := 23) dX12_manyIn_5 (by decide +kernel)) (ite_cong (fun _ => ?_) (fun _ => ?_))
  · refine Eq.trans (st1 dX12_manyIn_23 rfl rfl) ?_
    exact ret0 dX12_manyIn_24 rfl
  · refine Eq.trans (st1 dX12_manyIn_8 rfl rfl) ?_
    refine Eq.trans (xiconst dX12_manyIn_9 ci_0) ?_
    refine Eq.trans (st1 dX12_manyIn_10 rfl rfl) ?_
    refine Eq.trans (st1 dX12_manyIn_11 rfl rfl) ?_
    refine Eq.trans (al1m dX12_manyIn_12 k0) (gd_congr fun g1 => ?_)
    refine Eq.trans (xiconst dX12_manyIn_13 ci_m1) ?_
    refine Eq.trans (ic_eq (tgt := 23) dX12_manyIn_14 (by decide +kernel)) (ite_cong (fun _ => ?_) (fun _ => ?_))
    · refine Eq.trans (st1 dX12_manyIn_23 rfl rfl) ?_
      exact ret0 dX12_manyIn_24 rfl
    · refine Eq.trans (xinc2 dX12_manyIn_17 ci_1 rfl (Nat.le_of_ble_eq_true rfl) rfl) ?_
      refine Eq.trans (go_to (tgt := 2) dX12_manyIn_20 (by decide +kernel)) ?_
      rfl
theorem q_X12_footOf_0 {call : CALL} {L X : Nat} {I : Nat → Nat → Int32} {J : Nat → Nat → Int64} {x1 : Int32} {x2 : Int32} : runI call iX12_footOf (0, [some (.ref 72), some (.int x1), some (.int x2)], [], (mm L X I J)) = gd (inb x1 6) (gd (inb ((nI 2) - x2) 4) (some (.inl (some (.int (I (85 + (x1).toNatClampNeg) (((nI 2) - x2)).toNatClampNeg))), (mm L X I J)))) := by
  refine Eq.trans (st1 dX12_footOf_0 rfl rfl) ?_
  refine Eq.trans (getRm dX12_footOf_1 cp_12_31 ka_72 rfl r_72_14) ?_
  refine Eq.trans (st1 dX12_footOf_4 rfl rfl) ?_
  refine Eq.trans (al4m dX12_footOf_5 ka_84 rr_84) (gd_congr fun g1 => ?_)
  refine Eq.trans (xiconst dX12_footOf_6 ci_2) ?_
  refine Eq.trans (st1 dX12_footOf_7 rfl rfl) ?_
  refine Eq.trans (st1 dX12_footOf_8 rfl rfl) ?_
  refine Eq.trans (al1m dX12_footOf_9 (kr_84 (inb_lt g1))) (gd_congr fun g2 => ?_)
  exact ret0 dX12_footOf_10 rfl
theorem q_X12_headOf_0 {call : CALL} {L X : Nat} {I : Nat → Nat → Int32} {J : Nat → Nat → Int64} {x1 : Int32} {x2 : Int32} : runI call iX12_headOf (0, [some (.ref 72), some (.int x1), some (.int x2)], [], (mm L X I J)) = gd (inb x1 6) (gd (inb ((nI 1) + x2) 4) (some (.inl (some (.int (I (85 + (x1).toNatClampNeg) (((nI 1) + x2)).toNatClampNeg))), (mm L X I J)))) := by
  refine Eq.trans (st1 dX12_headOf_0 rfl rfl) ?_
  refine Eq.trans (getRm dX12_headOf_1 cp_12_31 ka_72 rfl r_72_14) ?_
  refine Eq.trans (st1 dX12_headOf_4 rfl rfl) ?_
  refine Eq.trans (al4m dX12_headOf_5 ka_84 rr_84) (gd_congr fun g1 => ?_)
  refine Eq.trans (xiconst dX12_headOf_6 ci_1) ?_
  refine Eq.trans (st1 dX12_headOf_7 rfl rfl) ?_
  refine Eq.trans (st1 dX12_headOf_8 rfl rfl) ?_
  refine Eq.trans (al1m dX12_headOf_9 (kr_84 (inb_lt g1))) (gd_congr fun g2 => ?_)
  exact ret0 dX12_headOf_10 rfl
theorem q_X12_isJoined_0 {call : CALL} {L X : Nat} {I : Nat → Nat → Int32} {J : Nat → Nat → Int64} {x1 : Int32} {x2 : Int32} : runI call iX12_isJoined (0, [some (.ref 72), some (.int x1), some (.int x2), none], [], (mm L X I J)) = runI call iX12_isJoined (2, [some (.ref 72), some (.int x1), some (.int x2), some (.int (nI 0))], [], (mm L X I J)) := by
  refine Eq.trans (xiconst dX12_isJoined_0 ci_0) ?_
  refine Eq.trans (st1 dX12_isJoined_1 rfl rfl) ?_
  rfl
theorem q_X12_isJoined_2 {call : CALL} {L X : Nat} {I : Nat → Nat → Int32} {J : Nat → Nat → Int64} {x1 : Int32} {x2 : Int32} {x3 : Int32} : runI call iX12_isJoined (2, [some (.ref 72), some (.int x1), some (.int x2), some (.int x3)], [], (mm L X I J)) = if (I 72 39) ≤ x3 then if x1 = x2 then some (.inl (some (.int (nI 1))), (mm L X I J)) else some (.inl (some (.int (nI 0))), (mm L X I J)) else gd (inb x3 5) (if (I (97 + (x3).toNatClampNeg) 0) = x1 then if (I (97 + (x3).toNatClampNeg) 1) = x2 then some (.inl (some (.int (nI 1))), (mm L X I J)) else runI call iX12_isJoined (34, [some (.ref 72), some (.int x1), some (.int x2), some (.int x3)], [], (mm L X I J)) else runI call iX12_isJoined (34, [some (.ref 72), some (.int x1), some (.int x2), some (.int x3)], [], (mm L X I J))) := by
  refine Eq.trans (st1 dX12_isJoined_2 rfl rfl) ?_
  refine Eq.trans (st1 dX12_isJoined_3 rfl rfl) ?_
  refine Eq.trans (getIm dX12_isJoined_4 cp_12_199 ka_72 (.inl rfl)) ?_
  refine Eq.trans (ic_ge (tgt := 66) dX12_isJoined_7 (by decide +kernel)) (ite_cong (fun _ => ?_) (fun _ => ?_))
  · refine Eq.trans (st1 dX12_isJoined_66 rfl rfl) ?_
    refine Eq.trans (st1 dX12_isJoined_67 rfl rfl) ?_
    refine Eq.trans (ic_ne (tgt := 75) dX12_isJoined_68 (by decide +kernel)) (ite_cong (fun _ => ?_) (fun _ => ?_))
    · refine Eq.trans (xiconst dX12_isJoined_71 ci_1) ?_
      refine Eq.trans (go_to (tgt := 76) dX12_isJoined_72 (by decide +kernel)) ?_
      exact ret1 dX12_isJoined_76 rfl (.inr rfl)
    · refine Eq.trans (xiconst dX12_isJoined_75 ci_0) ?_
      exact ret1 dX12_isJoined_76 rfl (.inl rfl)
  · refine Eq.trans (st1 dX12_isJoined_10 rfl rfl) ?_
    refine Eq.trans (getRm dX12_isJoined_11 cp_12_37 ka_72 rfl r_72_16) ?_
    refine Eq.trans (st1 dX12_isJoined_14 rfl rfl) ?_
    refine Eq.trans (al4m dX12_isJoined_15 ka_96 rr_96) (gd_congr fun g1 => ?_)
    refine Eq.trans (xiconst dX12_isJoined_16 ci_0) ?_
    refine Eq.trans (al1c dX12_isJoined_17 (kr_96 (inb_lt g1)) (by decide +kernel) nc_0) ?_
    refine Eq.trans (st1 dX12_isJoined_18 rfl rfl) ?_
    refine Eq.trans (ic_ne (tgt := 34) dX12_isJoined_19 (by decide +kernel)) (ite_cong (fun _ => ?_) (fun _ => ?_))
    · refine Eq.trans (st1 dX12_isJoined_22 rfl rfl) ?_
      refine Eq.trans (getRm dX12_isJoined_23 cp_12_37 ka_72 rfl r_72_16) ?_
      refine Eq.trans (st1 dX12_isJoined_26 rfl rfl) ?_
      refine Eq.trans (al4m dX12_isJoined_27 ka_96 rr_96) (Eq.trans (gd_t g1) ?_)
      refine Eq.trans (xiconst dX12_isJoined_28 ci_1) ?_
      refine Eq.trans (al1c dX12_isJoined_29 (kr_96 (inb_lt g1)) (by decide +kernel) nc_1) ?_
      refine Eq.trans (st1 dX12_isJoined_30 rfl rfl) ?_
      refine Eq.trans (ic_eq (tgt := 58) dX12_isJoined_31 (by decide +kernel)) (ite_cong (fun _ => ?_) (fun _ => ?_))
      · refine Eq.trans (xiconst dX12_isJoined_58 ci_1) ?_
        exact ret1 dX12_isJoined_59 rfl (.inr rfl)
      · rfl
    · rfl
theorem q_X12_isJoined_34 {call : CALL} {L X : Nat} {I : Nat → Nat → Int32} {J : Nat → Nat → Int64} {x1 : Int32} {x2 : Int32} {x3 : Int32} : runI call iX12_isJoined (34, [some (.ref 72), some (.int x1), some (.int x2), some (.int x3)], [], (mm L X I J)) = gd (inb x3 5) (if (I (97 + (x3).toNatClampNeg) 0) = x2 then if (I (97 + (x3).toNatClampNeg) 1) = x1 then some (.inl (some (.int (nI 1))), (mm L X I J)) else runI call iX12_isJoined (60, [some (.ref 72), some (.int x1), some (.int x2), some (.int x3)], [], (mm L X I J)) else runI call iX12_isJoined (60, [some (.ref 72), some (.int x1), some (.int x2), some (.int x3)], [], (mm L X I J))) := by
  refine Eq.trans (st1 dX12_isJoined_34 rfl rfl) ?_
  refine Eq.trans (getRm dX12_isJoined_35 cp_12_37 ka_72 rfl r_72_16) ?_
  refine Eq.trans (st1 dX12_isJoined_38 rfl rfl) ?_
  refine Eq.trans (al4m dX12_isJoined_39 ka_96 rr_96) (gd_congr fun g1 => ?_)
  refine Eq.trans (xiconst dX12_isJoined_40 ci_0) ?_
  refine Eq.trans (al1c dX12_isJoined_41 (kr_96 (inb_lt g1)) (by decide +kernel) nc_0) ?_
  refine Eq.trans (st1 dX12_isJoined_42 rfl rfl) ?_
  refine Eq.trans (ic_ne (tgt := 60) dX12_isJoined_43 (by decide +kernel)) (ite_cong (fun _ => ?_) (fun _ => ?_))
  · refine Eq.trans (st1 dX12_isJoined_46 rfl rfl) ?_
    refine Eq.trans (getRm dX12_isJoined_47 cp_12_37 ka_72 rfl r_72_16) ?_
    refine Eq.trans (st1 dX12_isJoined_50 rfl rfl) ?_
    refine Eq.trans (al4m dX12_isJoined_51 ka_96 rr_96) (Eq.trans (gd_t g1) ?_)
    refine Eq.trans (xiconst dX12_isJoined_52 ci_1) ?_
    refine Eq.trans (al1c dX12_isJoined_53 (kr_96 (inb_lt g1)) (by decide +kernel) nc_1) ?_
    refine Eq.trans (st1 dX12_isJoined_54 rfl rfl) ?_
    refine Eq.trans (ic_ne (tgt := 60) dX12_isJoined_55 (by decide +kernel)) (ite_cong (fun _ => ?_) (fun _ => ?_))
    · refine Eq.trans (xiconst dX12_isJoined_58 ci_1) ?_
      exact ret1 dX12_isJoined_59 rfl (.inr rfl)
    · rfl
  · rfl
theorem q_X12_isJoined_60 {call : CALL} {L X : Nat} {I : Nat → Nat → Int32} {J : Nat → Nat → Int64} {x1 : Int32} {x2 : Int32} {x3 : Int32} : runI call iX12_isJoined (60, [some (.ref 72), some (.int x1), some (.int x2), some (.int x3)], [], (mm L X I J)) = runI call iX12_isJoined (2, [some (.ref 72), some (.int x1), some (.int x2), some (.int (x3 + (nI 1)))], [], (mm L X I J)) := by
  refine Eq.trans (xinc2 dX12_isJoined_60 ci_1 rfl (Nat.le_of_ble_eq_true rfl) rfl) ?_
  refine Eq.trans (go_to (tgt := 2) dX12_isJoined_63 (by decide +kernel)) ?_
  rfl
theorem q_X12_lifts_0 {call : CALL} {L X : Nat} {I : Nat → Nat → Int32} {J : Nat → Nat → Int64} {r0 : Nat} {n0 : Nat} (k0 : ka r0 1 n0) : runI call iX12_lifts (0, [some (.ref r0), none], [], (mm L X I J)) = bndN (call nX12_manyIn [.ref r0] (mm L X I J)) (fun v m' => runI call iX12_lifts (4, [some (.ref r0), none], v.toList ++ [], m')) := by
  refine Eq.trans (st1 dX12_lifts_0 rfl rfl) ?_
  exact is2 dX12_lifts_1 cp_12_264 (Nat.le_of_ble_eq_true rfl) rfl rfl (Nat.le_of_ble_eq_true rfl)
theorem q_X12_lifts_4 {call : CALL} {L X : Nat} {I : Nat → Nat → Int32} {J : Nat → Nat → Int64} {r0 : Nat} {n0 : Nat} {u1 : Option Value} {s0 : Int32} (k0 : ka r0 1 n0) : runI call iX12_lifts (4, [some (.ref r0), u1], [.int s0], (mm L X I J)) = if s0 = (nI 0) then some (.inl (some (.int (nI 0))), (mm L X I J)) else gd (inb (((nI 0) + s0) - (nI 1)) n0) (some (.inl (some (.int (nI 1))), (mm L X (up2 I r0 ((((nI 0) + s0) - (nI 1))).toNatClampNeg (-1 : Int32)) J))) := by
  refine Eq.trans (st1 dX12_lifts_4 rfl rfl) ?_
  refine Eq.trans (st1 dX12_lifts_5 rfl rfl) ?_
  refine Eq.trans (if_ne (tgt := 11) dX12_lifts_6 (by decide +kernel)) (ite_cong (fun _ => ?_) (fun _ => ?_))
  · refine Eq.trans (xiconst dX12_lifts_9 ci_0) ?_
    exact ret1 dX12_lifts_10 rfl (.inl rfl)
  · refine Eq.trans (st1 dX12_lifts_11 rfl rfl) ?_
    refine Eq.trans (xiconst dX12_lifts_12 ci_0) ?_
    refine Eq.trans (st1 dX12_lifts_13 rfl rfl) ?_
    refine Eq.trans (st1 dX12_lifts_14 rfl rfl) ?_
    refine Eq.trans (xiconst dX12_lifts_15 ci_1) ?_
    refine Eq.trans (st1 dX12_lifts_16 rfl rfl) ?_
    refine Eq.trans (xiconst dX12_lifts_17 ci_m1) ?_
    refine Eq.trans (as1m dX12_lifts_18 k0) (gd_congr fun g1 => ?_)
    refine Eq.trans (xiconst dX12_lifts_19 ci_1) ?_
    exact ret1 dX12_lifts_20 rfl (.inr rfl)
theorem q_X12_becomes_0 {call : CALL} {L X : Nat} {I : Nat → Nat → Int32} {J : Nat → Nat → Int64} {r0 : Nat} {n0 : Nat} {x1 : Int32} {x2 : Int32} (k0 : ka r0 1 n0) : runI call iX12_becomes (0, [some (.ref r0), some (.int x1), some (.int x2)], [], (mm L X I J)) = gd (inb x1 n0) (if (I r0 (x1).toNatClampNeg) = x2 then some (.inl (some (.int (nI 0))), (mm L X I J)) else some (.inl (some (.int (nI 1))), (mm L X (up2 I r0 (x1).toNatClampNeg x2) J))) := by
  refine Eq.trans (st1 dX12_becomes_0 rfl rfl) ?_
  refine Eq.trans (st1 dX12_becomes_1 rfl rfl) ?_
  refine Eq.trans (al1m dX12_becomes_2 k0) (gd_congr fun g1 => ?_)
  refine Eq.trans (st1 dX12_becomes_3 rfl rfl) ?_
  refine Eq.trans (ic_ne (tgt := 9) dX12_becomes_4 (by decide +kernel)) (ite_cong (fun _ => ?_) (fun _ => ?_))
  · refine Eq.trans (xiconst dX12_becomes_7 ci_0) ?_
    exact ret1 dX12_becomes_8 rfl (.inl rfl)
  · refine Eq.trans (st1 dX12_becomes_9 rfl rfl) ?_
    refine Eq.trans (st1 dX12_becomes_10 rfl rfl) ?_
    refine Eq.trans (st1 dX12_becomes_11 rfl rfl) ?_
    refine Eq.trans (as1m dX12_becomes_12 k0) (Eq.trans (gd_t g1) ?_)
    refine Eq.trans (xiconst dX12_becomes_13 ci_1) ?_
    exact ret1 dX12_becomes_14 rfl (.inr rfl)
theorem q_X12_bursts_0 {call : CALL} {L X : Nat} {I : Nat → Nat → Int32} {J : Nat → Nat → Int64} {r0 : Nat} {n0 : Nat} {x1 : Int32} {x2 : Int32} (k0 : ka r0 1 n0) : runI call iX12_bursts (0, [some (.ref r0), some (.int x1), some (.int x2)], [], (mm L X I J)) = gd (inb ((nI 18) + x1) n0) (bndN (call nX12_in [.int ((I r0 (((nI 18) + x1)).toNatClampNeg) + x2), .int (nI 0), .int (nI 9)] (mm L X I J)) (fun v m' => runI call iX12_bursts (14, [some (.ref r0), some (.int x1), some (.int x2)], v.toList ++ [], m'))) := by
  refine Eq.trans (st1 dX12_bursts_0 rfl rfl) ?_
  refine Eq.trans (xbipush dX12_bursts_1 cb_18) ?_
  refine Eq.trans (st1 dX12_bursts_3 rfl rfl) ?_
  refine Eq.trans (st1 dX12_bursts_4 rfl rfl) ?_
  refine Eq.trans (al1m dX12_bursts_5 k0) (gd_congr fun g1 => ?_)
  refine Eq.trans (st1 dX12_bursts_6 rfl rfl) ?_
  refine Eq.trans (st1 dX12_bursts_7 rfl rfl) ?_
  refine Eq.trans (xiconst dX12_bursts_8 ci_0) ?_
  refine Eq.trans (xbipush dX12_bursts_9 cb_9) ?_
  exact is2 dX12_bursts_11 cp_12_137 (Nat.le_of_ble_eq_true rfl) rfl rfl (Nat.le_of_ble_eq_true rfl)
theorem q_X12_bursts_14 {call : CALL} {L X : Nat} {I : Nat → Nat → Int32} {J : Nat → Nat → Int64} {r0 : Nat} {n0 : Nat} {x1 : Int32} {x2 : Int32} {s0 : Int32} (k0 : ka r0 1 n0) : runI call iX12_bursts (14, [some (.ref r0), some (.int x1), some (.int x2)], [.int s0], (mm L X I J)) = if s0 = (nI 0) then some (.inl (some (.int (nI 0))), (mm L X I J)) else gd (inb ((nI 18) + x1) n0) (some (.inl (some (.int (nI 1))), (mm L X (up2 I r0 (((nI 18) + x1)).toNatClampNeg ((I r0 (((nI 18) + x1)).toNatClampNeg) + x2)) J))) := by
  refine Eq.trans (if_ne (tgt := 19) dX12_bursts_14 (by decide +kernel)) (ite_cong (fun _ => ?_) (fun _ => ?_))
  · refine Eq.trans (xiconst dX12_bursts_17 ci_0) ?_
    exact ret1 dX12_bursts_18 rfl (.inl rfl)
  · refine Eq.trans (st1 dX12_bursts_19 rfl rfl) ?_
    refine Eq.trans (xbipush dX12_bursts_20 cb_18) ?_
    refine Eq.trans (st1 dX12_bursts_22 rfl rfl) ?_
    refine Eq.trans (st1 dX12_bursts_23 rfl rfl) ?_
    refine Eq.trans (st1 dX12_bursts_24 rfl rfl) ?_
    refine Eq.trans (al1m dX12_bursts_25 k0) (gd_congr fun g1 => ?_)
    refine Eq.trans (st1 dX12_bursts_26 rfl rfl) ?_
    refine Eq.trans (st1 dX12_bursts_27 rfl rfl) ?_
    refine Eq.trans (as1m dX12_bursts_28 k0) (Eq.trans (gd_t g1) ?_)
    refine Eq.trans (xiconst dX12_bursts_29 ci_1) ?_
    exact ret1 dX12_bursts_30 rfl (.inr rfl)
theorem q_X12_hourEnds_0 {call : CALL} {L X : Nat} {I : Nat → Nat → Int32} {J : Nat → Nat → Int64} {r1 : Nat} {n1 : Nat} (k1 : ka r1 1 n1) : runI call iX12_hourEnds (0, [some (.ref 72), some (.ref r1), none, none], [], (mm L X I J)) = runI call iX12_hourEnds (2, [some (.ref 72), some (.ref r1), some (.int (nI 0)), none], [], (mm L X I J)) := by
  refine Eq.trans (xiconst dX12_hourEnds_0 ci_0) ?_
  refine Eq.trans (st1 dX12_hourEnds_1 rfl rfl) ?_
  rfl
theorem q_X12_hourEnds_2 {call : CALL} {L X : Nat} {I : Nat → Nat → Int32} {J : Nat → Nat → Int64} {r1 : Nat} {n1 : Nat} {x2 : Int32} {u3 : Option Value} (k1 : ka r1 1 n1) : runI call iX12_hourEnds (2, [some (.ref 72), some (.ref r1), some (.int x2), u3], [], (mm L X I J)) = if (I 76 2) ≤ x2 then gd (inb (nI 30) n1) (some (.inl none, (mm L X (up2 I r1 ((nI 30)).toNatClampNeg ((I r1 ((nI 30)).toNatClampNeg) + (nI 1))) J))) else gd (inb ((nI 24) + x2) n1) (bnd (call nX12_isReached [.ref 72, .ref r1, .int x2] (mm L X I J)) (fun v m' => runI call iX12_hourEnds (25, [some (.ref 72), some (.ref r1), some (.int x2), some (.int (I r1 (((nI 24) + x2)).toNatClampNeg))], v.toList ++ [], m'))) := by
  refine Eq.trans (st1 dX12_hourEnds_2 rfl rfl) ?_
  refine Eq.trans (st1 dX12_hourEnds_3 rfl rfl) ?_
  refine Eq.trans (getRm dX12_hourEnds_4 cp_12_23 ka_72 rfl r_72_12) ?_
  refine Eq.trans (xiconst dX12_hourEnds_7 ci_2) ?_
  refine Eq.trans (al1c dX12_hourEnds_8 ka_76 (by decide +kernel) nc_2) ?_
  refine Eq.trans (ic_ge (tgt := 89) dX12_hourEnds_9 (by decide +kernel)) (ite_cong (fun _ => ?_) (fun _ => ?_))
  · refine Eq.trans (st1 dX12_hourEnds_89 rfl rfl) ?_
    refine Eq.trans (xbipush dX12_hourEnds_90 cb_30) ?_
    refine Eq.trans (st1 dX12_hourEnds_92 rfl rfl) ?_
    refine Eq.trans (al1m dX12_hourEnds_93 k1) (gd_congr fun g1 => ?_)
    refine Eq.trans (xiconst dX12_hourEnds_94 ci_1) ?_
    refine Eq.trans (st1 dX12_hourEnds_95 rfl rfl) ?_
    refine Eq.trans (as1m dX12_hourEnds_96 k1) (Eq.trans (gd_t g1) ?_)
    exact ret3 dX12_hourEnds_97 (.inl rfl)
  · refine Eq.trans (st1 dX12_hourEnds_12 rfl rfl) ?_
    refine Eq.trans (xbipush dX12_hourEnds_13 cb_24) ?_
    refine Eq.trans (st1 dX12_hourEnds_15 rfl rfl) ?_
    refine Eq.trans (st1 dX12_hourEnds_16 rfl rfl) ?_
    refine Eq.trans (al1m dX12_hourEnds_17 k1) (gd_congr fun g2 => ?_)
    refine Eq.trans (st1 dX12_hourEnds_18 rfl rfl) ?_
    refine Eq.trans (st1 dX12_hourEnds_19 rfl rfl) ?_
    refine Eq.trans (st1 dX12_hourEnds_20 rfl rfl) ?_
    refine Eq.trans (st1 dX12_hourEnds_21 rfl rfl) ?_
    exact iv0 dX12_hourEnds_22 rfl cp_12_303 rfl rfl (kd_ka ka_72) ka_72.1 (Nat.le_of_ble_eq_true rfl)
theorem q_X12_hourEnds_25 {call : CALL} {L X : Nat} {I : Nat → Nat → Int32} {J : Nat → Nat → Int64} {r1 : Nat} {n1 : Nat} {x2 : Int32} {x3 : Int32} {s0 : Int32} (k1 : ka r1 1 n1) : runI call iX12_hourEnds (25, [some (.ref 72), some (.ref r1), some (.int x2), some (.int x3)], [.int s0], (mm L X I J)) = if s0 = (nI 0) then if x3 = (-1 : Int32) then runI call iX12_hourEnds (83, [some (.ref 72), some (.ref r1), some (.int x2), some (.int x3)], [], (mm L X I J)) else gd (inb (nI 30) n1) (if ((I r1 ((nI 30)).toNatClampNeg) - x3) < (nI 9) then runI call iX12_hourEnds (83, [some (.ref 72), some (.ref r1), some (.int x2), some (.int x3)], [], (mm L X I J)) else gd (inb ((nI 24) + x2) n1) (runI call iX12_hourEnds (83, [some (.ref 72), some (.ref r1), some (.int x2), some (.int x3)], [], (mm L X (up2 I r1 (((nI 24) + x2)).toNatClampNeg (-1 : Int32)) J)))) else if x3 = (-1 : Int32) then runI call iX12_hourEnds (43, [some (.ref 72), some (.ref r1), some (.int x2), some (.int x3)], [.int (nI 1), .int (I 72 40), .ref 72], (mm L X I J)) else runI call iX12_hourEnds (43, [some (.ref 72), some (.ref r1), some (.int x2), some (.int x3)], [.int (nI 0), .int (I 72 40), .ref 72], (mm L X I J)) := by
  refine Eq.trans (if_eq (tgt := 60) dX12_hourEnds_25 (by decide +kernel)) (ite_cong (fun _ => ?_) (fun _ => ?_))
  · refine Eq.trans (st1 dX12_hourEnds_60 rfl rfl) ?_
    refine Eq.trans (xiconst dX12_hourEnds_61 ci_m1) ?_
    refine Eq.trans (ic_eq (tgt := 83) dX12_hourEnds_62 (by decide +kernel)) (ite_cong (fun _ => ?_) (fun _ => ?_))
    · rfl
    · refine Eq.trans (st1 dX12_hourEnds_65 rfl rfl) ?_
      refine Eq.trans (xbipush dX12_hourEnds_66 cb_30) ?_
      refine Eq.trans (al1m dX12_hourEnds_68 k1) (gd_congr fun g1 => ?_)
      refine Eq.trans (st1 dX12_hourEnds_69 rfl rfl) ?_
      refine Eq.trans (st1 dX12_hourEnds_70 rfl rfl) ?_
      refine Eq.trans (xbipush dX12_hourEnds_71 cb_9) ?_
      refine Eq.trans (ic_lt (tgt := 83) dX12_hourEnds_73 (by decide +kernel)) (ite_cong (fun _ => ?_) (fun _ => ?_))
      · rfl
      · refine Eq.trans (st1 dX12_hourEnds_76 rfl rfl) ?_
        refine Eq.trans (xbipush dX12_hourEnds_77 cb_24) ?_
        refine Eq.trans (st1 dX12_hourEnds_79 rfl rfl) ?_
        refine Eq.trans (st1 dX12_hourEnds_80 rfl rfl) ?_
        refine Eq.trans (xiconst dX12_hourEnds_81 ci_m1) ?_
        refine Eq.trans (as1m dX12_hourEnds_82 k1) (gd_congr fun g2 => ?_)
        rfl
  · refine Eq.trans (st1 dX12_hourEnds_28 rfl rfl) ?_
    refine Eq.trans (st1 dX12_hourEnds_29 rfl rfl) ?_
    refine Eq.trans (getIm dX12_hourEnds_30 cp_12_307 ka_72 (.inl rfl)) ?_
    refine Eq.trans (st1 dX12_hourEnds_33 rfl rfl) ?_
    refine Eq.trans (xiconst dX12_hourEnds_34 ci_m1) ?_
    refine Eq.trans (ic_ne (tgt := 42) dX12_hourEnds_35 (by decide +kernel)) (ite_cong (fun _ => ?_) (fun _ => ?_))
    · refine Eq.trans (xiconst dX12_hourEnds_38 ci_1) ?_
      refine Eq.trans (go_to (tgt := 43) dX12_hourEnds_39 (by decide +kernel)) ?_
      rfl
    · refine Eq.trans (xiconst dX12_hourEnds_42 ci_0) ?_
      rfl
theorem q_X12_hourEnds_83 {call : CALL} {L X : Nat} {I : Nat → Nat → Int32} {J : Nat → Nat → Int64} {r1 : Nat} {n1 : Nat} {x2 : Int32} {u3 : Option Value} (k1 : ka r1 1 n1) : runI call iX12_hourEnds (83, [some (.ref 72), some (.ref r1), some (.int x2), u3], [], (mm L X I J)) = runI call iX12_hourEnds (2, [some (.ref 72), some (.ref r1), some (.int (x2 + (nI 1))), u3], [], (mm L X I J)) := by
  refine Eq.trans (xinc2 dX12_hourEnds_83 ci_1 rfl (Nat.le_of_ble_eq_true rfl) rfl) ?_
  refine Eq.trans (go_to (tgt := 2) dX12_hourEnds_86 (by decide +kernel)) ?_
  rfl
theorem q_X12_hourEnds_43 {call : CALL} {L X : Nat} {I : Nat → Nat → Int32} {J : Nat → Nat → Int64} {r1 : Nat} {n1 : Nat} {x2 : Int32} {u3 : Option Value} {s1 : Int32} {s2 : Int32} (k1 : ka r1 1 n1) : runI call iX12_hourEnds (43, [some (.ref 72), some (.ref r1), some (.int x2), u3], [.int s2, .int s1, .ref 72], (mm L X I J)) = gd (inb (nI 30) n1) (gd (inb ((nI 24) + x2) n1) (runI call iX12_hourEnds (83, [some (.ref 72), some (.ref r1), some (.int x2), u3], [], (mm L X (up2 (up2 I 72 40 (s1 + s2)) r1 (((nI 24) + x2)).toNatClampNeg ((up2 I 72 40 (s1 + s2)) r1 ((nI 30)).toNatClampNeg)) J)))) := by
  refine Eq.trans (st1 dX12_hourEnds_43 rfl rfl) ?_
  refine Eq.trans (putIm dX12_hourEnds_44 cp_12_307 ka_72 rfl) ?_
  refine Eq.trans (st1 dX12_hourEnds_47 rfl rfl) ?_
  refine Eq.trans (xbipush dX12_hourEnds_48 cb_24) ?_
  refine Eq.trans (st1 dX12_hourEnds_50 rfl rfl) ?_
  refine Eq.trans (st1 dX12_hourEnds_51 rfl rfl) ?_
  refine Eq.trans (st1 dX12_hourEnds_52 rfl rfl) ?_
  refine Eq.trans (xbipush dX12_hourEnds_53 cb_30) ?_
  refine Eq.trans (al1m dX12_hourEnds_55 k1) (gd_congr fun g1 => ?_)
  refine Eq.trans (as1m dX12_hourEnds_56 k1) (gd_congr fun g2 => ?_)
  refine Eq.trans (go_to (tgt := 83) dX12_hourEnds_57 (by decide +kernel)) ?_
  rfl
theorem q_X12_isReached_0 {call : CALL} {L X : Nat} {I : Nat → Nat → Int32} {J : Nat → Nat → Int64} {r1 : Nat} {n1 : Nat} {x2 : Int32} (k1 : ka r1 1 n1) : runI call iX12_isReached (0, [some (.ref 72), some (.ref r1), some (.int x2)], [], (mm L X I J)) = bnd (call nX12_longOf [.ref 72, .ref r1] (mm L X I J)) (fun v m' => runI call iX12_isReached (5, [some (.ref 72), some (.ref r1), some (.int x2)], v.toList ++ [], m')) := by
  refine Eq.trans (st1 dX12_isReached_0 rfl rfl) ?_
  refine Eq.trans (st1 dX12_isReached_1 rfl rfl) ?_
  exact iv0 dX12_isReached_2 rfl cp_12_297 rfl rfl (kd_ka ka_72) ka_72.1 (Nat.le_of_ble_eq_true rfl)
theorem q_X12_isReached_5 {call : CALL} {L X : Nat} {I : Nat → Nat → Int32} {J : Nat → Nat → Int64} {r1 : Nat} {n1 : Nat} {x2 : Int32} {s0 : Int32} (k1 : ka r1 1 n1) : runI call iX12_isReached (5, [some (.ref 72), some (.ref r1), some (.int x2)], [.int s0], (mm L X I J)) = gd (inb x2 5) (if s0 < (I (109 + (x2).toNatClampNeg) 0) then some (.inl (some (.int (nI 0))), (mm L X I J)) else bnd (call nX12_arrives [.ref 72, .ref r1] (mm L X I J)) (fun v m' => runI call iX12_isReached (21, [some (.ref 72), some (.ref r1), some (.int x2)], v.toList ++ [], m'))) := by
  refine Eq.trans (st1 dX12_isReached_5 rfl rfl) ?_
  refine Eq.trans (getRm dX12_isReached_6 cp_12_43 ka_72 rfl r_72_18) ?_
  refine Eq.trans (st1 dX12_isReached_9 rfl rfl) ?_
  refine Eq.trans (al4m dX12_isReached_10 ka_108 rr_108) (gd_congr fun g1 => ?_)
  refine Eq.trans (xiconst dX12_isReached_11 ci_0) ?_
  refine Eq.trans (al1c dX12_isReached_12 (kr_108 (inb_lt g1)) (by decide +kernel) nc_0) ?_
  refine Eq.trans (ic_lt (tgt := 36) dX12_isReached_13 (by decide +kernel)) (ite_cong (fun _ => ?_) (fun _ => ?_))
  · refine Eq.trans (xiconst dX12_isReached_36 ci_0) ?_
    exact ret1 dX12_isReached_37 rfl (.inl rfl)
  · refine Eq.trans (st1 dX12_isReached_16 rfl rfl) ?_
    refine Eq.trans (st1 dX12_isReached_17 rfl rfl) ?_
    exact iv0 dX12_isReached_18 rfl cp_12_300 rfl rfl (kd_ka ka_72) ka_72.1 (Nat.le_of_ble_eq_true rfl)
theorem q_X12_isReached_21 {call : CALL} {L X : Nat} {I : Nat → Nat → Int32} {J : Nat → Nat → Int64} {u1 : Option Value} {x2 : Int32} {s0 : Int32} : runI call iX12_isReached (21, [some (.ref 72), u1, some (.int x2)], [.int s0], (mm L X I J)) = gd (inb x2 5) (if s0 < (I (109 + (x2).toNatClampNeg) 1) then some (.inl (some (.int (nI 0))), (mm L X I J)) else some (.inl (some (.int (nI 1))), (mm L X I J))) := by
  refine Eq.trans (st1 dX12_isReached_21 rfl rfl) ?_
  refine Eq.trans (getRm dX12_isReached_22 cp_12_43 ka_72 rfl r_72_18) ?_
  refine Eq.trans (st1 dX12_isReached_25 rfl rfl) ?_
  refine Eq.trans (al4m dX12_isReached_26 ka_108 rr_108) (gd_congr fun g1 => ?_)
  refine Eq.trans (xiconst dX12_isReached_27 ci_1) ?_
  refine Eq.trans (al1c dX12_isReached_28 (kr_108 (inb_lt g1)) (by decide +kernel) nc_1) ?_
  refine Eq.trans (ic_lt (tgt := 36) dX12_isReached_29 (by decide +kernel)) (ite_cong (fun _ => ?_) (fun _ => ?_))
  · refine Eq.trans (xiconst dX12_isReached_36 ci_0) ?_
    exact ret1 dX12_isReached_37 rfl (.inl rfl)
  · refine Eq.trans (xiconst dX12_isReached_32 ci_1) ?_
    refine Eq.trans (go_to (tgt := 37) dX12_isReached_33 (by decide +kernel)) ?_
    exact ret1 dX12_isReached_37 rfl (.inr rfl)
theorem q_X12_longOf_0 {call : CALL} {L X : Nat} {I : Nat → Nat → Int32} {J : Nat → Nat → Int64} {r1 : Nat} {n1 : Nat} (k1 : ka r1 1 n1) : runI call iX12_longOf (0, [some (.ref 72), some (.ref r1), none, none], [], (mm L X I J)) = runI call iX12_longOf (4, [some (.ref 72), some (.ref r1), some (.int (nI 0)), some (.int (nI 0))], [], (mm L X I J)) := by
  refine Eq.trans (xiconst dX12_longOf_0 ci_0) ?_
  refine Eq.trans (st1 dX12_longOf_1 rfl rfl) ?_
  refine Eq.trans (xiconst dX12_longOf_2 ci_0) ?_
  refine Eq.trans (st1 dX12_longOf_3 rfl rfl) ?_
  rfl
theorem q_X12_longOf_4 {call : CALL} {L X : Nat} {I : Nat → Nat → Int32} {J : Nat → Nat → Int64} {r1 : Nat} {n1 : Nat} {x2 : Int32} {x3 : Int32} (k1 : ka r1 1 n1) : runI call iX12_longOf (4, [some (.ref 72), some (.ref r1), some (.int x2), some (.int x3)], [], (mm L X I J)) = bndN (call nX12_manyIn [.ref r1] (mm L X I J)) (fun v m' => runI call iX12_longOf (9, [some (.ref 72), some (.ref r1), some (.int x2), some (.int x3)], v.toList ++ [.int x3], m')) := by
  refine Eq.trans (st1 dX12_longOf_4 rfl rfl) ?_
  refine Eq.trans (st1 dX12_longOf_5 rfl rfl) ?_
  exact is2 dX12_longOf_6 cp_12_264 (Nat.le_of_ble_eq_true rfl) rfl rfl (Nat.le_of_ble_eq_true rfl)
theorem q_X12_longOf_9 {call : CALL} {L X : Nat} {I : Nat → Nat → Int32} {J : Nat → Nat → Int64} {r1 : Nat} {n1 : Nat} {x2 : Int32} {x3 : Int32} {s0 : Int32} {s1 : Int32} (k1 : ka r1 1 n1) : runI call iX12_longOf (9, [some (.ref 72), some (.ref r1), some (.int x2), some (.int x3)], [.int s1, .int s0], (mm L X I J)) = if s1 ≤ s0 then some (.inl (some (.int x2)), (mm L X I J)) else gd (inb ((nI 0) + x3) n1) (gd (inb (I r1 (((nI 0) + x3)).toNatClampNeg) 6) (runI call iX12_longOf (4, [some (.ref 72), some (.ref r1), some (.int (x2 + (I (85 + ((I r1 (((nI 0) + x3)).toNatClampNeg)).toNatClampNeg) 0))), some (.int (x3 + (nI 1)))], [], (mm L X I J)))) := by
  refine Eq.trans (ic_ge (tgt := 33) dX12_longOf_9 (by decide +kernel)) (ite_cong (fun _ => ?_) (fun _ => ?_))
  · refine Eq.trans (st1 dX12_longOf_33 rfl rfl) ?_
    exact ret0 dX12_longOf_34 rfl
  · refine Eq.trans (st1 dX12_longOf_12 rfl rfl) ?_
    refine Eq.trans (st1 dX12_longOf_13 rfl rfl) ?_
    refine Eq.trans (getRm dX12_longOf_14 cp_12_31 ka_72 rfl r_72_14) ?_
    refine Eq.trans (st1 dX12_longOf_17 rfl rfl) ?_
    refine Eq.trans (xiconst dX12_longOf_18 ci_0) ?_
    refine Eq.trans (st1 dX12_longOf_19 rfl rfl) ?_
    refine Eq.trans (st1 dX12_longOf_20 rfl rfl) ?_
    refine Eq.trans (al1m dX12_longOf_21 k1) (gd_congr fun g1 => ?_)
    refine Eq.trans (al4m dX12_longOf_22 ka_84 rr_84) (gd_congr fun g2 => ?_)
    refine Eq.trans (xiconst dX12_longOf_23 ci_0) ?_
    refine Eq.trans (al1c dX12_longOf_24 (kr_84 (inb_lt g2)) (by decide +kernel) nc_0) ?_
    refine Eq.trans (st1 dX12_longOf_25 rfl rfl) ?_
    refine Eq.trans (st1 dX12_longOf_26 rfl rfl) ?_
    refine Eq.trans (xinc2 dX12_longOf_27 ci_1 rfl (Nat.le_of_ble_eq_true rfl) rfl) ?_
    refine Eq.trans (go_to (tgt := 4) dX12_longOf_30 (by decide +kernel)) ?_
    rfl
theorem q_X12_arrives_0 {call : CALL} {L X : Nat} {I : Nat → Nat → Int32} {J : Nat → Nat → Int64} {r1 : Nat} {n1 : Nat} (k1 : ka r1 1 n1) : runI call iX12_arrives (0, [some (.ref 72), some (.ref r1)], [], (mm L X I J)) = bnd (call nX12_runs [.ref 72, .ref r1, .int (-1 : Int32), .int (nI 0)] (mm L X I J)) (fun v m' => runI call iX12_arrives (7, [some (.ref 72), some (.ref r1)], v.toList ++ [], m')) := by
  refine Eq.trans (st1 dX12_arrives_0 rfl rfl) ?_
  refine Eq.trans (st1 dX12_arrives_1 rfl rfl) ?_
  refine Eq.trans (xiconst dX12_arrives_2 ci_m1) ?_
  refine Eq.trans (xiconst dX12_arrives_3 ci_0) ?_
  exact iv0 dX12_arrives_4 rfl cp_12_293 rfl rfl (kd_ka ka_72) ka_72.1 (Nat.le_of_ble_eq_true rfl)
theorem q_X12_arrives_7 {call : CALL} {L X : Nat} {I : Nat → Nat → Int32} {J : Nat → Nat → Int64} {u0 : Option Value} {u1 : Option Value} {s0 : Int32} : runI call iX12_arrives (7, [u0, u1], [.int s0], (mm L X I J)) = some (.inl (some (.int s0)), (mm L X I J)) := by
  exact ret0 dX12_arrives_7 rfl
theorem q_X12_runs_0 {call : CALL} {L X : Nat} {I : Nat → Nat → Int32} {J : Nat → Nat → Int64} {r1 : Nat} {n1 : Nat} {x2 : Int32} {x3 : Int32} (k1 : ka r1 1 n1) : runI call iX12_runs (0, [some (.ref 72), some (.ref r1), some (.int x2), some (.int x3), none, none, none, none], [], (mm L X I J)) = gd (inb (nI 29) n1) (bndN (call nX12_manyIn [.ref r1] (mm L X I J)) (fun v m' => runI call iX12_runs (10, [some (.ref 72), some (.ref r1), some (.int x2), some (.int x3), some (.int (I r1 ((nI 29)).toNatClampNeg)), none, none, none], v.toList ++ [], m'))) := by
  refine Eq.trans (st1 dX12_runs_0 rfl rfl) ?_
  refine Eq.trans (xbipush dX12_runs_1 cb_29) ?_
  refine Eq.trans (al1m dX12_runs_3 k1) (gd_congr fun g1 => ?_)
  refine Eq.trans (st1 dX12_runs_4 rfl rfl) ?_
  refine Eq.trans (st1 dX12_runs_6 rfl rfl) ?_
  exact is2 dX12_runs_7 cp_12_264 (Nat.le_of_ble_eq_true rfl) rfl rfl (Nat.le_of_ble_eq_true rfl)
theorem q_X12_runs_10 {call : CALL} {L X : Nat} {I : Nat → Nat → Int32} {J : Nat → Nat → Int64} {r1 : Nat} {n1 : Nat} {x2 : Int32} {x3 : Int32} {x4 : Int32} {u5 : Option Value} {u6 : Option Value} {u7 : Option Value} {s0 : Int32} (k1 : ka r1 1 n1) : runI call iX12_runs (10, [some (.ref 72), some (.ref r1), some (.int x2), some (.int x3), some (.int x4), u5, u6, u7], [.int s0], (mm L X I J)) = runI call iX12_runs (15, [some (.ref 72), some (.ref r1), some (.int x2), some (.int x3), some (.int x4), some (.int s0), some (.int (nI 0)), u7], [], (mm L X I J)) := by
  refine Eq.trans (st1 dX12_runs_10 rfl rfl) ?_
  refine Eq.trans (xiconst dX12_runs_12 ci_0) ?_
  refine Eq.trans (st1 dX12_runs_13 rfl rfl) ?_
  rfl
theorem q_X12_runs_15 {call : CALL} {L X : Nat} {I : Nat → Nat → Int32} {J : Nat → Nat → Int64} {r1 : Nat} {n1 : Nat} {x2 : Int32} {x3 : Int32} {x4 : Int32} {x5 : Int32} {x6 : Int32} {u7 : Option Value} (k1 : ka r1 1 n1) : runI call iX12_runs (15, [some (.ref 72), some (.ref r1), some (.int x2), some (.int x3), some (.int x4), some (.int x5), some (.int x6), u7], [], (mm L X I J)) = if x5 ≤ x6 then some (.inl (some (.int x4)), (mm L X I J)) else gd (inb ((nI 0) + x6) n1) (gd (inb ((nI 6) + (I r1 (((nI 0) + x6)).toNatClampNeg)) n1) (bnd (call nX12_leftOf [.ref 72, .ref r1, .int (I r1 (((nI 0) + x6)).toNatClampNeg), .int (I r1 (((nI 6) + (I r1 (((nI 0) + x6)).toNatClampNeg))).toNatClampNeg), .int x4, .int x6] (mm L X I J)) (fun v m' => runI call iX12_runs (48, [some (.ref 72), some (.ref r1), some (.int x2), some (.int x3), some (.int x4), some (.int x5), some (.int x6), some (.int (I r1 (((nI 0) + x6)).toNatClampNeg))], v.toList ++ [], m')))) := by
  refine Eq.trans (st1 dX12_runs_15 rfl rfl) ?_
  refine Eq.trans (st1 dX12_runs_17 rfl rfl) ?_
  refine Eq.trans (ic_ge (tgt := 86) dX12_runs_19 (by decide +kernel)) (ite_cong (fun _ => ?_) (fun _ => ?_))
  · refine Eq.trans (st1 dX12_runs_86 rfl rfl) ?_
    exact ret0 dX12_runs_88 rfl
  · refine Eq.trans (st1 dX12_runs_22 rfl rfl) ?_
    refine Eq.trans (xiconst dX12_runs_23 ci_0) ?_
    refine Eq.trans (st1 dX12_runs_24 rfl rfl) ?_
    refine Eq.trans (st1 dX12_runs_26 rfl rfl) ?_
    refine Eq.trans (al1m dX12_runs_27 k1) (gd_congr fun g1 => ?_)
    refine Eq.trans (st1 dX12_runs_28 rfl rfl) ?_
    refine Eq.trans (st1 dX12_runs_30 rfl rfl) ?_
    refine Eq.trans (st1 dX12_runs_31 rfl rfl) ?_
    refine Eq.trans (st1 dX12_runs_32 rfl rfl) ?_
    refine Eq.trans (st1 dX12_runs_34 rfl rfl) ?_
    refine Eq.trans (xbipush dX12_runs_35 cb_6) ?_
    refine Eq.trans (st1 dX12_runs_37 rfl rfl) ?_
    refine Eq.trans (st1 dX12_runs_39 rfl rfl) ?_
    refine Eq.trans (al1m dX12_runs_40 k1) (gd_congr fun g2 => ?_)
    refine Eq.trans (st1 dX12_runs_41 rfl rfl) ?_
    refine Eq.trans (st1 dX12_runs_43 rfl rfl) ?_
    exact iv0 dX12_runs_45 rfl cp_12_289 rfl rfl (kd_ka ka_72) ka_72.1 (Nat.le_of_ble_eq_true rfl)
theorem q_X12_runs_48 {call : CALL} {L X : Nat} {I : Nat → Nat → Int32} {J : Nat → Nat → Int64} {r1 : Nat} {n1 : Nat} {x2 : Int32} {x3 : Int32} {u4 : Option Value} {x5 : Int32} {x6 : Int32} {u7 : Option Value} {s0 : Int32} (k1 : ka r1 1 n1) : runI call iX12_runs (48, [some (.ref 72), some (.ref r1), some (.int x2), some (.int x3), u4, some (.int x5), some (.int x6), u7], [.int s0], (mm L X I J)) = if x6 = x2 then bndN (call nX12_more [.int (nI 0), .int (s0 - x3)] (mm L X I J)) (fun v m' => runI call iX12_runs (64, [some (.ref 72), some (.ref r1), some (.int x2), some (.int x3), some (.int s0), some (.int x5), some (.int x6), u7], v.toList ++ [], m')) else runI call iX12_runs (69, [some (.ref 72), some (.ref r1), some (.int x2), some (.int x3), some (.int s0), some (.int x5), some (.int x6), u7], [.int s0], (mm L X I J)) := by
  refine Eq.trans (st1 dX12_runs_48 rfl rfl) ?_
  refine Eq.trans (st1 dX12_runs_50 rfl rfl) ?_
  refine Eq.trans (st1 dX12_runs_52 rfl rfl) ?_
  refine Eq.trans (ic_ne (tgt := 67) dX12_runs_53 (by decide +kernel)) (ite_cong (fun _ => ?_) (fun _ => ?_))
  · refine Eq.trans (xiconst dX12_runs_56 ci_0) ?_
    refine Eq.trans (st1 dX12_runs_57 rfl rfl) ?_
    refine Eq.trans (st1 dX12_runs_59 rfl rfl) ?_
    refine Eq.trans (st1 dX12_runs_60 rfl rfl) ?_
    exact is2 dX12_runs_61 cp_12_248 (Nat.le_of_ble_eq_true rfl) rfl rfl (Nat.le_of_ble_eq_true rfl)
  · refine Eq.trans (st1 dX12_runs_67 rfl rfl) ?_
    rfl
theorem q_X12_runs_69 {call : CALL} {L X : Nat} {I : Nat → Nat → Int32} {J : Nat → Nat → Int64} {r1 : Nat} {n1 : Nat} {x2 : Int32} {x3 : Int32} {u4 : Option Value} {x5 : Int32} {x6 : Int32} {u7 : Option Value} {s0 : Int32} (k1 : ka r1 1 n1) : runI call iX12_runs (69, [some (.ref 72), some (.ref r1), some (.int x2), some (.int x3), u4, some (.int x5), some (.int x6), u7], [.int s0], (mm L X I J)) = gd (inb x6 6) (runI call iX12_runs (15, [some (.ref 72), some (.ref r1), some (.int x2), some (.int x3), some (.int s0), some (.int x5), some (.int (x6 + (nI 1))), u7], [], (mm L X (up2 I 535 (x6).toNatClampNeg s0) J))) := by
  refine Eq.trans (st1 dX12_runs_69 rfl rfl) ?_
  refine Eq.trans (st1 dX12_runs_71 rfl rfl) ?_
  refine Eq.trans (getRm dX12_runs_72 cp_12_73 ka_72 rfl r_72_31) ?_
  refine Eq.trans (st1 dX12_runs_75 rfl rfl) ?_
  refine Eq.trans (st1 dX12_runs_77 rfl rfl) ?_
  refine Eq.trans (as1m dX12_runs_79 ka_535) (gd_congr fun g1 => ?_)
  refine Eq.trans (xinc2 dX12_runs_80 ci_1 rfl (Nat.le_of_ble_eq_true rfl) rfl) ?_
  refine Eq.trans (go_to (tgt := 15) dX12_runs_83 (by decide +kernel)) ?_
  rfl
theorem q_X12_runs_64 {call : CALL} {L X : Nat} {I : Nat → Nat → Int32} {J : Nat → Nat → Int64} {r1 : Nat} {n1 : Nat} {x2 : Int32} {x3 : Int32} {u4 : Option Value} {x5 : Int32} {x6 : Int32} {u7 : Option Value} {s0 : Int32} (k1 : ka r1 1 n1) : runI call iX12_runs (64, [some (.ref 72), some (.ref r1), some (.int x2), some (.int x3), u4, some (.int x5), some (.int x6), u7], [.int s0], (mm L X I J)) = runI call iX12_runs (69, [some (.ref 72), some (.ref r1), some (.int x2), some (.int x3), u4, some (.int x5), some (.int x6), u7], [.int s0], (mm L X I J)) := by
  refine Eq.trans (go_to (tgt := 69) dX12_runs_64 (by decide +kernel)) ?_
  rfl
theorem q_X12_leftOf_0 {call : CALL} {L X : Nat} {I : Nat → Nat → Int32} {J : Nat → Nat → Int64} {r1 : Nat} {n1 : Nat} {x2 : Int32} {x3 : Int32} {x4 : Int32} {x5 : Int32} (k1 : ka r1 1 n1) : runI call iX12_leftOf (0, [some (.ref 72), some (.ref r1), some (.int x2), some (.int x3), some (.int x4), some (.int x5)], [], (mm L X I J)) = gd (inb x2 6) (gd (inb ((nI 12) + x2) n1) (gd (inb ((nI 18) + x2) n1) (gd (inb (nI 29) n1) (bnd (call nX12_leftBy [.ref 72, .int x4, .int (I (85 + (x2).toNatClampNeg) 3), .int (I (85 + (x2).toNatClampNeg) 0), .int (I r1 (((nI 12) + x2)).toNatClampNeg), .int (I r1 (((nI 18) + x2)).toNatClampNeg), .int x5, .int x3, .int (I r1 ((nI 29)).toNatClampNeg), .int x2] (mm L X I J)) (fun v m' => runI call iX12_leftOf (42, [some (.ref 72), some (.ref r1), some (.int x2), some (.int x3), some (.int x4), some (.int x5)], v.toList ++ [], m')))))) := by
  refine Eq.trans (st1 dX12_leftOf_0 rfl rfl) ?_
  refine Eq.trans (st1 dX12_leftOf_1 rfl rfl) ?_
  refine Eq.trans (st1 dX12_leftOf_3 rfl rfl) ?_
  refine Eq.trans (getRm dX12_leftOf_4 cp_12_31 ka_72 rfl r_72_14) ?_
  refine Eq.trans (st1 dX12_leftOf_7 rfl rfl) ?_
  refine Eq.trans (al4m dX12_leftOf_8 ka_84 rr_84) (gd_congr fun g1 => ?_)
  refine Eq.trans (xiconst dX12_leftOf_9 ci_3) ?_
  refine Eq.trans (al1c dX12_leftOf_10 (kr_84 (inb_lt g1)) (by decide +kernel) nc_3) ?_
  refine Eq.trans (st1 dX12_leftOf_11 rfl rfl) ?_
  refine Eq.trans (getRm dX12_leftOf_12 cp_12_31 ka_72 rfl r_72_14) ?_
  refine Eq.trans (st1 dX12_leftOf_15 rfl rfl) ?_
  refine Eq.trans (al4m dX12_leftOf_16 ka_84 rr_84) (Eq.trans (gd_t g1) ?_)
  refine Eq.trans (xiconst dX12_leftOf_17 ci_0) ?_
  refine Eq.trans (al1c dX12_leftOf_18 (kr_84 (inb_lt g1)) (by decide +kernel) nc_0) ?_
  refine Eq.trans (st1 dX12_leftOf_19 rfl rfl) ?_
  refine Eq.trans (xbipush dX12_leftOf_20 cb_12) ?_
  refine Eq.trans (st1 dX12_leftOf_22 rfl rfl) ?_
  refine Eq.trans (st1 dX12_leftOf_23 rfl rfl) ?_
  refine Eq.trans (al1m dX12_leftOf_24 k1) (gd_congr fun g2 => ?_)
  refine Eq.trans (st1 dX12_leftOf_25 rfl rfl) ?_
  refine Eq.trans (xbipush dX12_leftOf_26 cb_18) ?_
  refine Eq.trans (st1 dX12_leftOf_28 rfl rfl) ?_
  refine Eq.trans (st1 dX12_leftOf_29 rfl rfl) ?_
  refine Eq.trans (al1m dX12_leftOf_30 k1) (gd_congr fun g3 => ?_)
  refine Eq.trans (st1 dX12_leftOf_31 rfl rfl) ?_
  refine Eq.trans (st1 dX12_leftOf_33 rfl rfl) ?_
  refine Eq.trans (st1 dX12_leftOf_34 rfl rfl) ?_
  refine Eq.trans (xbipush dX12_leftOf_35 cb_29) ?_
  refine Eq.trans (al1m dX12_leftOf_37 k1) (gd_congr fun g4 => ?_)
  refine Eq.trans (st1 dX12_leftOf_38 rfl rfl) ?_
  exact iv0 dX12_leftOf_39 rfl cp_12_285 rfl rfl (kd_ka ka_72) ka_72.1 (Nat.le_of_ble_eq_true rfl)
theorem q_X12_leftOf_42 {call : CALL} {L X : Nat} {I : Nat → Nat → Int32} {J : Nat → Nat → Int64} {u0 : Option Value} {u1 : Option Value} {u2 : Option Value} {u3 : Option Value} {u4 : Option Value} {u5 : Option Value} {s0 : Int32} : runI call iX12_leftOf (42, [u0, u1, u2, u3, u4, u5], [.int s0], (mm L X I J)) = some (.inl (some (.int s0)), (mm L X I J)) := by
  exact ret0 dX12_leftOf_42 rfl
theorem q_X12_leftBy_0 {call : CALL} {L X : Nat} {I : Nat → Nat → Int32} {J : Nat → Nat → Int64} {x1 : Int32} {x2 : Int32} {x3 : Int32} {x4 : Int32} {x5 : Int32} {x6 : Int32} {x7 : Int32} {x8 : Int32} {x9 : Int32} : runI call iX12_leftBy (0, [some (.ref 72), some (.int x1), some (.int x2), some (.int x3), some (.int x4), some (.int x5), some (.int x6), some (.int x7), some (.int x8), some (.int x9)], [], (mm L X I J)) = runI call iX12_leftBy (29, [some (.ref 72), some (.int x1), some (.int x2), some (.int x3), some (.int x4), some (.int x5), some (.int x6), some (.int x7), some (.int x8), some (.int x9)], [], (mm L X (up2 (up2 (up2 (up2 I 451 0 x1) 451 1 x2) 451 2 x3) 451 3 x4) J)) := by
  refine Eq.trans (st1 dX12_leftBy_0 rfl rfl) ?_
  refine Eq.trans (getRm dX12_leftBy_1 cp_12_61 ka_72 rfl r_72_26) ?_
  refine Eq.trans (xiconst dX12_leftBy_4 ci_0) ?_
  refine Eq.trans (st1 dX12_leftBy_5 rfl rfl) ?_
  refine Eq.trans (as1c dX12_leftBy_6 ka_451 (by decide +kernel) nc_0) ?_
  refine Eq.trans (st1 dX12_leftBy_7 rfl rfl) ?_
  refine Eq.trans (getRm dX12_leftBy_8 cp_12_61 ka_72 rfl r_72_26) ?_
  refine Eq.trans (xiconst dX12_leftBy_11 ci_1) ?_
  refine Eq.trans (st1 dX12_leftBy_12 rfl rfl) ?_
  refine Eq.trans (as1c dX12_leftBy_13 ka_451 (by decide +kernel) nc_1) ?_
  refine Eq.trans (st1 dX12_leftBy_14 rfl rfl) ?_
  refine Eq.trans (getRm dX12_leftBy_15 cp_12_61 ka_72 rfl r_72_26) ?_
  refine Eq.trans (xiconst dX12_leftBy_18 ci_2) ?_
  refine Eq.trans (st1 dX12_leftBy_19 rfl rfl) ?_
  refine Eq.trans (as1c dX12_leftBy_20 ka_451 (by decide +kernel) nc_2) ?_
  refine Eq.trans (st1 dX12_leftBy_21 rfl rfl) ?_
  refine Eq.trans (getRm dX12_leftBy_22 cp_12_61 ka_72 rfl r_72_26) ?_
  refine Eq.trans (xiconst dX12_leftBy_25 ci_3) ?_
  refine Eq.trans (st1 dX12_leftBy_26 rfl rfl) ?_
  refine Eq.trans (as1c dX12_leftBy_28 ka_451 (by decide +kernel) nc_3) ?_
  rfl
theorem q_X12_leftBy_29 {call : CALL} {L X : Nat} {I : Nat → Nat → Int32} {J : Nat → Nat → Int64} {u1 : Option Value} {u2 : Option Value} {u3 : Option Value} {u4 : Option Value} {x5 : Int32} {x6 : Int32} {x7 : Int32} {x8 : Int32} {x9 : Int32} : runI call iX12_leftBy (29, [some (.ref 72), u1, u2, u3, u4, some (.int x5), some (.int x6), some (.int x7), some (.int x8), some (.int x9)], [], (mm L X I J)) = runI call iX12_leftBy (63, [some (.ref 72), u1, u2, u3, u4, some (.int x5), some (.int x6), some (.int x7), some (.int x8), some (.int x9)], [], (mm L X (up2 (up2 (up2 (up2 I 451 4 x5) 451 5 x6) 451 6 x7) 451 7 x8) J)) := by
  refine Eq.trans (st1 dX12_leftBy_29 rfl rfl) ?_
  refine Eq.trans (getRm dX12_leftBy_30 cp_12_61 ka_72 rfl r_72_26) ?_
  refine Eq.trans (xiconst dX12_leftBy_33 ci_4) ?_
  refine Eq.trans (st1 dX12_leftBy_34 rfl rfl) ?_
  refine Eq.trans (as1c dX12_leftBy_36 ka_451 (by decide +kernel) nc_4) ?_
  refine Eq.trans (st1 dX12_leftBy_37 rfl rfl) ?_
  refine Eq.trans (getRm dX12_leftBy_38 cp_12_61 ka_72 rfl r_72_26) ?_
  refine Eq.trans (xiconst dX12_leftBy_41 ci_5) ?_
  refine Eq.trans (st1 dX12_leftBy_42 rfl rfl) ?_
  refine Eq.trans (as1c dX12_leftBy_44 ka_451 (by decide +kernel) nc_5) ?_
  refine Eq.trans (st1 dX12_leftBy_45 rfl rfl) ?_
  refine Eq.trans (getRm dX12_leftBy_46 cp_12_61 ka_72 rfl r_72_26) ?_
  refine Eq.trans (xbipush dX12_leftBy_49 cb_6) ?_
  refine Eq.trans (st1 dX12_leftBy_51 rfl rfl) ?_
  refine Eq.trans (as1c dX12_leftBy_53 ka_451 (by decide +kernel) nc_6) ?_
  refine Eq.trans (st1 dX12_leftBy_54 rfl rfl) ?_
  refine Eq.trans (getRm dX12_leftBy_55 cp_12_61 ka_72 rfl r_72_26) ?_
  refine Eq.trans (xbipush dX12_leftBy_58 cb_7) ?_
  refine Eq.trans (st1 dX12_leftBy_60 rfl rfl) ?_
  refine Eq.trans (as1c dX12_leftBy_62 ka_451 (by decide +kernel) nc_7) ?_
  rfl
theorem q_X12_leftBy_63 {call : CALL} {L X : Nat} {I : Nat → Nat → Int32} {J : Nat → Nat → Int64} {u1 : Option Value} {u2 : Option Value} {u3 : Option Value} {u4 : Option Value} {u5 : Option Value} {u6 : Option Value} {u7 : Option Value} {u8 : Option Value} {x9 : Int32} : runI call iX12_leftBy (63, [some (.ref 72), u1, u2, u3, u4, u5, u6, u7, u8, some (.int x9)], [], (mm L X I J)) = bnd (call nX12_byLaw [.ref 72] (mm L X (up2 I 451 8 x9) J)) (fun v m' => runI call iX12_leftBy (76, [some (.ref 72), u1, u2, u3, u4, u5, u6, u7, u8, some (.int x9)], v.toList ++ [], m')) := by
  refine Eq.trans (st1 dX12_leftBy_63 rfl rfl) ?_
  refine Eq.trans (getRm dX12_leftBy_64 cp_12_61 ka_72 rfl r_72_26) ?_
  refine Eq.trans (xbipush dX12_leftBy_67 cb_8) ?_
  refine Eq.trans (st1 dX12_leftBy_69 rfl rfl) ?_
  refine Eq.trans (as1c dX12_leftBy_71 ka_451 (by decide +kernel) nc_8) ?_
  refine Eq.trans (st1 dX12_leftBy_72 rfl rfl) ?_
  exact iv0 dX12_leftBy_73 rfl cp_12_282 rfl rfl (kd_ka ka_72) ka_72.1 (Nat.le_of_ble_eq_true rfl)
theorem q_X12_leftBy_76 {call : CALL} {L X : Nat} {I : Nat → Nat → Int32} {J : Nat → Nat → Int64} {u0 : Option Value} {u1 : Option Value} {u2 : Option Value} {u3 : Option Value} {u4 : Option Value} {u5 : Option Value} {u6 : Option Value} {u7 : Option Value} {u8 : Option Value} {u9 : Option Value} {s0 : Int32} : runI call iX12_leftBy (76, [u0, u1, u2, u3, u4, u5, u6, u7, u8, u9], [.int s0], (mm L X I J)) = some (.inl (some (.int s0)), (mm L X I J)) := by
  exact ret0 dX12_leftBy_76 rfl
theorem q_X12_byLaw_0 {call : CALL} {L X : Nat} {I : Nat → Nat → Int32} {J : Nat → Nat → Int64}  : runI call iX12_byLaw (0, [some (.ref 72), none, none], [], (mm L X I J)) = runI call iX12_byLaw (41, [some (.ref 72), some (.int (nI 0)), some (.int (nI 0))], [], (mm L X (up2 I 450 0 ((((I 451 0) - (I 451 1)) - ((nI 2) * (I 451 3))) - ((nI 5) * (I 451 4)))) J)) := by
  refine Eq.trans (xiconst dX12_byLaw_0 ci_0) ?_
  refine Eq.trans (st1 dX12_byLaw_1 rfl rfl) ?_
  refine Eq.trans (st1 dX12_byLaw_2 rfl rfl) ?_
  refine Eq.trans (getRm dX12_byLaw_3 cp_12_58 ka_72 rfl r_72_25) ?_
  refine Eq.trans (xiconst dX12_byLaw_6 ci_0) ?_
  refine Eq.trans (st1 dX12_byLaw_7 rfl rfl) ?_
  refine Eq.trans (getRm dX12_byLaw_8 cp_12_61 ka_72 rfl r_72_26) ?_
  refine Eq.trans (xiconst dX12_byLaw_11 ci_0) ?_
  refine Eq.trans (al1c dX12_byLaw_12 ka_451 (by decide +kernel) nc_0) ?_
  refine Eq.trans (st1 dX12_byLaw_13 rfl rfl) ?_
  refine Eq.trans (getRm dX12_byLaw_14 cp_12_61 ka_72 rfl r_72_26) ?_
  refine Eq.trans (xiconst dX12_byLaw_17 ci_1) ?_
  refine Eq.trans (al1c dX12_byLaw_18 ka_451 (by decide +kernel) nc_1) ?_
  refine Eq.trans (st1 dX12_byLaw_19 rfl rfl) ?_
  refine Eq.trans (xiconst dX12_byLaw_20 ci_2) ?_
  refine Eq.trans (st1 dX12_byLaw_21 rfl rfl) ?_
  refine Eq.trans (getRm dX12_byLaw_22 cp_12_61 ka_72 rfl r_72_26) ?_
  refine Eq.trans (xiconst dX12_byLaw_25 ci_3) ?_
  refine Eq.trans (al1c dX12_byLaw_26 ka_451 (by decide +kernel) nc_3) ?_
  refine Eq.trans (st1 dX12_byLaw_27 rfl rfl) ?_
  refine Eq.trans (st1 dX12_byLaw_28 rfl rfl) ?_
  refine Eq.trans (xiconst dX12_byLaw_29 ci_5) ?_
  refine Eq.trans (st1 dX12_byLaw_30 rfl rfl) ?_
  refine Eq.trans (getRm dX12_byLaw_31 cp_12_61 ka_72 rfl r_72_26) ?_
  refine Eq.trans (xiconst dX12_byLaw_34 ci_4) ?_
  refine Eq.trans (al1c dX12_byLaw_35 ka_451 (by decide +kernel) nc_4) ?_
  refine Eq.trans (st1 dX12_byLaw_36 rfl rfl) ?_
  refine Eq.trans (st1 dX12_byLaw_37 rfl rfl) ?_
  refine Eq.trans (as1c dX12_byLaw_38 ka_450 (by decide +kernel) nc_0) ?_
  refine Eq.trans (xiconst dX12_byLaw_39 ci_0) ?_
  refine Eq.trans (st1 dX12_byLaw_40 rfl rfl) ?_
  rfl
theorem q_X12_byLaw_41 {call : CALL} {L X : Nat} {I : Nat → Nat → Int32} {J : Nat → Nat → Int64} {x1 : Int32} {x2 : Int32} : runI call iX12_byLaw (41, [some (.ref 72), some (.int x1), some (.int x2)], [], (mm L X I J)) = if (I 72 19) ≤ x2 then bndN (call nX12_more [.int (nI 0), .int (I 450 0)] (mm L X I J)) (fun v m' => runI call iX12_byLaw (162, [some (.ref 72), some (.int x1), some (.int x2)], v.toList ++ [.int (nI 99)], m')) else gd (inb x2 160) (if (nI 2) ≤ (I (115 + (x2).toNatClampNeg) 0) then gd (inb ((x1 + (-1 : Int32)) - (nI 1)) 160) (gd (inb (x1 + (-1 : Int32)) 160) (bndN (call nX12_by [.int (I (115 + (x2).toNatClampNeg) 0), .int (I 450 (((x1 + (-1 : Int32)) - (nI 1))).toNatClampNeg), .int (I 450 ((x1 + (-1 : Int32))).toNatClampNeg)] (mm L X I J)) (fun v m' => runI call iX12_byLaw (143, [some (.ref 72), some (.int (x1 + (-1 : Int32))), some (.int x2)], v.toList ++ [.int ((x1 + (-1 : Int32)) - (nI 1)), .ref 450], m')))) else if (I (115 + (x2).toNatClampNeg) 0) = (nI 0) then runI call iX12_byLaw (101, [some (.ref 72), some (.int x1), some (.int x2)], [.int (I (115 + (x2).toNatClampNeg) 1), .int x1, .ref 450], (mm L X I J)) else gd (inb (I (115 + (x2).toNatClampNeg) 1) 9) (runI call iX12_byLaw (101, [some (.ref 72), some (.int x1), some (.int x2)], [.int (I 451 ((I (115 + (x2).toNatClampNeg) 1)).toNatClampNeg), .int x1, .ref 450], (mm L X I J)))) := by
  refine Eq.trans (st1 dX12_byLaw_41 rfl rfl) ?_
  refine Eq.trans (st1 dX12_byLaw_42 rfl rfl) ?_
  refine Eq.trans (getIm dX12_byLaw_43 cp_12_202 ka_72 (.inl rfl)) ?_
  refine Eq.trans (ic_ge (tgt := 150) dX12_byLaw_46 (by decide +kernel)) (ite_cong (fun _ => ?_) (fun _ => ?_))
  · refine Eq.trans (xbipush dX12_byLaw_150 cb_99) ?_
    refine Eq.trans (xiconst dX12_byLaw_152 ci_0) ?_
    refine Eq.trans (st1 dX12_byLaw_153 rfl rfl) ?_
    refine Eq.trans (getRm dX12_byLaw_154 cp_12_58 ka_72 rfl r_72_25) ?_
    refine Eq.trans (xiconst dX12_byLaw_157 ci_0) ?_
    refine Eq.trans (al1c dX12_byLaw_158 ka_450 (by decide +kernel) nc_0) ?_
    exact is2 dX12_byLaw_159 cp_12_248 (Nat.le_of_ble_eq_true rfl) rfl rfl (Nat.le_of_ble_eq_true rfl)
  · refine Eq.trans (st1 dX12_byLaw_49 rfl rfl) ?_
    refine Eq.trans (getRm dX12_byLaw_50 cp_12_46 ka_72 rfl r_72_21) ?_
    refine Eq.trans (st1 dX12_byLaw_53 rfl rfl) ?_
    refine Eq.trans (al4m dX12_byLaw_54 ka_114 rr_114) (gd_congr fun g1 => ?_)
    refine Eq.trans (xiconst dX12_byLaw_55 ci_0) ?_
    refine Eq.trans (al1c dX12_byLaw_56 (kr_114 (inb_lt g1)) (by decide +kernel) nc_0) ?_
    refine Eq.trans (xiconst dX12_byLaw_57 ci_2) ?_
    refine Eq.trans (ic_ge (tgt := 108) dX12_byLaw_58 (by decide +kernel)) (ite_cong (fun _ => ?_) (fun _ => ?_))
    · refine Eq.trans (xinc2 dX12_byLaw_108 ci_m1 rfl (Nat.le_of_ble_eq_true rfl) rfl) ?_
      refine Eq.trans (st1 dX12_byLaw_111 rfl rfl) ?_
      refine Eq.trans (getRm dX12_byLaw_112 cp_12_58 ka_72 rfl r_72_25) ?_
      refine Eq.trans (st1 dX12_byLaw_115 rfl rfl) ?_
      refine Eq.trans (xiconst dX12_byLaw_116 ci_1) ?_
      refine Eq.trans (st1 dX12_byLaw_117 rfl rfl) ?_
      refine Eq.trans (st1 dX12_byLaw_118 rfl rfl) ?_
      refine Eq.trans (getRm dX12_byLaw_119 cp_12_46 ka_72 rfl r_72_21) ?_
      refine Eq.trans (st1 dX12_byLaw_122 rfl rfl) ?_
      refine Eq.trans (al4m dX12_byLaw_123 ka_114 rr_114) (Eq.trans (gd_t g1) ?_)
      refine Eq.trans (xiconst dX12_byLaw_124 ci_0) ?_
      refine Eq.trans (al1c dX12_byLaw_125 (kr_114 (inb_lt g1)) (by decide +kernel) nc_0) ?_
      refine Eq.trans (st1 dX12_byLaw_126 rfl rfl) ?_
      refine Eq.trans (getRm dX12_byLaw_127 cp_12_58 ka_72 rfl r_72_25) ?_
      refine Eq.trans (st1 dX12_byLaw_130 rfl rfl) ?_
      refine Eq.trans (xiconst dX12_byLaw_131 ci_1) ?_
      refine Eq.trans (st1 dX12_byLaw_132 rfl rfl) ?_
      refine Eq.trans (al1m dX12_byLaw_133 ka_450) (gd_congr fun g2 => ?_)
      refine Eq.trans (st1 dX12_byLaw_134 rfl rfl) ?_
      refine Eq.trans (getRm dX12_byLaw_135 cp_12_58 ka_72 rfl r_72_25) ?_
      refine Eq.trans (st1 dX12_byLaw_138 rfl rfl) ?_
      refine Eq.trans (al1m dX12_byLaw_139 ka_450) (gd_congr fun g3 => ?_)
      exact is2 dX12_byLaw_140 cp_12_251 (Nat.le_of_ble_eq_true rfl) rfl rfl (Nat.le_of_ble_eq_true rfl)
    · refine Eq.trans (st1 dX12_byLaw_61 rfl rfl) ?_
      refine Eq.trans (getRm dX12_byLaw_62 cp_12_58 ka_72 rfl r_72_25) ?_
      refine Eq.trans (st1 dX12_byLaw_65 rfl rfl) ?_
      refine Eq.trans (st1 dX12_byLaw_66 rfl rfl) ?_
      refine Eq.trans (getRm dX12_byLaw_67 cp_12_46 ka_72 rfl r_72_21) ?_
      refine Eq.trans (st1 dX12_byLaw_70 rfl rfl) ?_
      refine Eq.trans (al4m dX12_byLaw_71 ka_114 rr_114) (Eq.trans (gd_t g1) ?_)
      refine Eq.trans (xiconst dX12_byLaw_72 ci_0) ?_
      refine Eq.trans (al1c dX12_byLaw_73 (kr_114 (inb_lt g1)) (by decide +kernel) nc_0) ?_
      refine Eq.trans (if_ne (tgt := 88) dX12_byLaw_74 (by decide +kernel)) (ite_cong (fun _ => ?_) (fun _ => ?_))
      · refine Eq.trans (st1 dX12_byLaw_77 rfl rfl) ?_
        refine Eq.trans (getRm dX12_byLaw_78 cp_12_46 ka_72 rfl r_72_21) ?_
        refine Eq.trans (st1 dX12_byLaw_81 rfl rfl) ?_
        refine Eq.trans (al4m dX12_byLaw_82 ka_114 rr_114) (Eq.trans (gd_t g1) ?_)
        refine Eq.trans (xiconst dX12_byLaw_83 ci_1) ?_
        refine Eq.trans (al1c dX12_byLaw_84 (kr_114 (inb_lt g1)) (by decide +kernel) nc_1) ?_
        refine Eq.trans (go_to (tgt := 101) dX12_byLaw_85 (by decide +kernel)) ?_
        rfl
      · refine Eq.trans (st1 dX12_byLaw_88 rfl rfl) ?_
        refine Eq.trans (getRm dX12_byLaw_89 cp_12_61 ka_72 rfl r_72_26) ?_
        refine Eq.trans (st1 dX12_byLaw_92 rfl rfl) ?_
        refine Eq.trans (getRm dX12_byLaw_93 cp_12_46 ka_72 rfl r_72_21) ?_
        refine Eq.trans (st1 dX12_byLaw_96 rfl rfl) ?_
        refine Eq.trans (al4m dX12_byLaw_97 ka_114 rr_114) (Eq.trans (gd_t g1) ?_)
        refine Eq.trans (xiconst dX12_byLaw_98 ci_1) ?_
        refine Eq.trans (al1c dX12_byLaw_99 (kr_114 (inb_lt g1)) (by decide +kernel) nc_1) ?_
        refine Eq.trans (al1m dX12_byLaw_100 ka_451) (gd_congr fun g4 => ?_)
        rfl
theorem q_X12_byLaw_162 {call : CALL} {L X : Nat} {I : Nat → Nat → Int32} {J : Nat → Nat → Int64} {u0 : Option Value} {u1 : Option Value} {u2 : Option Value} {s0 : Int32} {s1 : Int32} : runI call iX12_byLaw (162, [u0, u1, u2], [.int s1, .int s0], (mm L X I J)) = bndN (call nX12_less [.int s0, .int s1] (mm L X I J)) (fun v m' => runI call iX12_byLaw (165, [u0, u1, u2], v.toList ++ [], m')) := by
  exact is2 dX12_byLaw_162 cp_12_245 (Nat.le_of_ble_eq_true rfl) rfl rfl (Nat.le_of_ble_eq_true rfl)
theorem q_X12_byLaw_143 {call : CALL} {L X : Nat} {I : Nat → Nat → Int32} {J : Nat → Nat → Int64} {x1 : Int32} {x2 : Int32} {s1 : Int32} {s2 : Int32} : runI call iX12_byLaw (143, [some (.ref 72), some (.int x1), some (.int x2)], [.int s2, .int s1, .ref 450], (mm L X I J)) = gd (inb s1 160) (runI call iX12_byLaw (144, [some (.ref 72), some (.int x1), some (.int x2)], [], (mm L X (up2 I 450 (s1).toNatClampNeg s2) J))) := by
  refine Eq.trans (as1m dX12_byLaw_143 ka_450) (gd_congr fun g1 => ?_)
  rfl
theorem q_X12_byLaw_101 {call : CALL} {L X : Nat} {I : Nat → Nat → Int32} {J : Nat → Nat → Int64} {x1 : Int32} {x2 : Int32} {s1 : Int32} {s2 : Int32} : runI call iX12_byLaw (101, [some (.ref 72), some (.int x1), some (.int x2)], [.int s2, .int s1, .ref 450], (mm L X I J)) = gd (inb s1 160) (runI call iX12_byLaw (144, [some (.ref 72), some (.int (x1 + (nI 1))), some (.int x2)], [], (mm L X (up2 I 450 (s1).toNatClampNeg s2) J))) := by
  refine Eq.trans (as1m dX12_byLaw_101 ka_450) (gd_congr fun g1 => ?_)
  refine Eq.trans (xinc2 dX12_byLaw_102 ci_1 rfl (Nat.le_of_ble_eq_true rfl) rfl) ?_
  refine Eq.trans (go_to (tgt := 144) dX12_byLaw_105 (by decide +kernel)) ?_
  rfl
theorem q_X12_byLaw_165 {call : CALL} {L X : Nat} {I : Nat → Nat → Int32} {J : Nat → Nat → Int64} {u0 : Option Value} {u1 : Option Value} {u2 : Option Value} {s0 : Int32} : runI call iX12_byLaw (165, [u0, u1, u2], [.int s0], (mm L X I J)) = some (.inl (some (.int s0)), (mm L X I J)) := by
  exact ret0 dX12_byLaw_165 rfl
theorem q_X12_byLaw_144 {call : CALL} {L X : Nat} {I : Nat → Nat → Int32} {J : Nat → Nat → Int64} {x1 : Int32} {x2 : Int32} : runI call iX12_byLaw (144, [some (.ref 72), some (.int x1), some (.int x2)], [], (mm L X I J)) = runI call iX12_byLaw (41, [some (.ref 72), some (.int x1), some (.int (x2 + (nI 1)))], [], (mm L X I J)) := by
  refine Eq.trans (xinc2 dX12_byLaw_144 ci_1 rfl (Nat.le_of_ble_eq_true rfl) rfl) ?_
  refine Eq.trans (go_to (tgt := 41) dX12_byLaw_147 (by decide +kernel)) ?_
  rfl
