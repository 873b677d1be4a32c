/-! EQUATIONS OF THE METHODS (written by gen_eq.py) -/
theorem q_X5_longWith_0 {call : CALL} {L X : Nat} {I : Nat → Nat → Int32} {J : Nat → Nat → Int64} {x1 : Int32} {x2 : Int32} : runI call iX5_longWith (0, [some (.ref 56), some (.int x1), some (.int x2), none], [], (mm L X I J)) = bndN (call nX11_pick [.ref 4, .int (x2 >>> ((nI 1) &&& 31))] (mm L X I J)) (fun v m' => runI call iX5_longWith (21, [some (.ref 56), some (.int x1), some (.int x2), some (.int (x1 ||| ((nI 1) <<< ((x2 >>> ((nI 1) &&& 31)) &&& 31))))], v.toList ++ [], m')) := by
  refine Eq.trans (st1 dX5_longWith_0 rfl rfl) ?_
  refine Eq.trans (xiconst dX5_longWith_1 ci_1) ?_
  refine Eq.trans (st1 dX5_longWith_2 rfl rfl) ?_
  refine Eq.trans (xiconst dX5_longWith_3 ci_1) ?_
  refine Eq.trans (st1 dX5_longWith_4 rfl rfl) ?_
  refine Eq.trans (st1 dX5_longWith_5 rfl rfl) ?_
  refine Eq.trans (st1 dX5_longWith_6 rfl rfl) ?_
  refine Eq.trans (st1 dX5_longWith_7 rfl rfl) ?_
  refine Eq.trans (st1 dX5_longWith_8 rfl rfl) ?_
  refine Eq.trans (getRm dX5_longWith_9 cp_5_38 ka_56 rfl r_56_0) ?_
  refine Eq.trans (getRm dX5_longWith_12 cp_5_70 ka_3 rfl r_3_4) ?_
  refine Eq.trans (st1 dX5_longWith_15 rfl rfl) ?_
  refine Eq.trans (xiconst dX5_longWith_16 ci_1) ?_
  refine Eq.trans (st1 dX5_longWith_17 rfl rfl) ?_
  exact is3 dX5_longWith_18 cp_5_75 (Nat.le_of_ble_eq_true rfl) rfl rfl (Nat.le_of_ble_eq_true rfl)
theorem q_X5_longWith_21 {call : CALL} {L X : Nat} {I : Nat → Nat → Int32} {J : Nat → Nat → Int64} {u1 : Option Value} {x2 : Int32} {x3 : Int32} {s0 : Int32} : runI call iX5_longWith (21, [some (.ref 56), u1, some (.int x2), some (.int x3)], [.int s0], (mm L X I J)) = bndN (call nX11_pick [.ref 58, .int ((x3 * (nI 12)) + x2)] (mm L X I J)) (fun v m' => runI call iX5_longWith (34, [some (.ref 56), u1, some (.int x2), some (.int x3)], v.toList ++ [.int s0], m')) := by
  refine Eq.trans (st1 dX5_longWith_21 rfl rfl) ?_
  refine Eq.trans (getRm dX5_longWith_22 cp_5_15 ka_56 rfl r_56_3) ?_
  refine Eq.trans (st1 dX5_longWith_25 rfl rfl) ?_
  refine Eq.trans (xbipush dX5_longWith_26 cb_12) ?_
  refine Eq.trans (st1 dX5_longWith_28 rfl rfl) ?_
  refine Eq.trans (st1 dX5_longWith_29 rfl rfl) ?_
  refine Eq.trans (st1 dX5_longWith_30 rfl rfl) ?_
  exact is3 dX5_longWith_31 cp_5_75 (Nat.le_of_ble_eq_true rfl) rfl rfl (Nat.le_of_ble_eq_true rfl)
theorem q_X5_longWith_34 {call : CALL} {L X : Nat} {I : Nat → Nat → Int32} {J : Nat → Nat → Int64} {u0 : Option Value} {u1 : Option Value} {u2 : Option Value} {u3 : Option Value} {s0 : Int32} {s1 : Int32} : runI call iX5_longWith (34, [u0, u1, u2, u3], [.int s1, .int s0], (mm L X I J)) = some (.inl (some (.int (s0 + s1))), (mm L X I J)) := by
  refine Eq.trans (st1 dX5_longWith_34 rfl rfl) ?_
  exact ret0 dX5_longWith_35 rfl
theorem q_X5_firstLeaving_0 {call : CALL} {L X : Nat} {I : Nat → Nat → Int32} {J : Nat → Nat → Int64} {x1 : Int32} {x2 : Int32} {x3 : Int32} : runI call iX5_firstLeaving (0, [some (.ref 56), some (.int x1), some (.int x2), some (.int x3), none], [], (mm L X I J)) = runI call iX5_firstLeaving (3, [some (.ref 56), some (.int x1), some (.int x2), some (.int x3), some (.int (nI 0))], [], (mm L X I J)) := by
  refine Eq.trans (xiconst dX5_firstLeaving_0 ci_0) ?_
  refine Eq.trans (st1 dX5_firstLeaving_1 rfl rfl) ?_
  rfl
theorem q_X5_firstLeaving_3 {call : CALL} {L X : Nat} {I : Nat → Nat → Int32} {J : Nat → Nat → Int64} {x1 : Int32} {x2 : Int32} {x3 : Int32} {x4 : Int32} : runI call iX5_firstLeaving (3, [some (.ref 56), some (.int x1), some (.int x2), some (.int x3), some (.int x4)], [], (mm L X I J)) = if ((nI 2) * (I 3 0)) ≤ x4 then some (.inl (some (.int (nI 0))), (mm L X I J)) else bnd (call nX5_canFollow [.ref 56, .int x1, .int x2, .int x4] (mm L X I J)) (fun v m' => runI call iX5_firstLeaving (25, [some (.ref 56), some (.int x1), some (.int x2), some (.int x3), some (.int x4)], v.toList ++ [], m')) := by
  refine Eq.trans (st1 dX5_firstLeaving_3 rfl rfl) ?_
  refine Eq.trans (xiconst dX5_firstLeaving_5 ci_2) ?_
  refine Eq.trans (st1 dX5_firstLeaving_6 rfl rfl) ?_
  refine Eq.trans (getRm dX5_firstLeaving_7 cp_5_38 ka_56 rfl r_56_0) ?_
  refine Eq.trans (getIm dX5_firstLeaving_10 cp_5_79 ka_3 (.inl rfl)) ?_
  refine Eq.trans (st1 dX5_firstLeaving_13 rfl rfl) ?_
  refine Eq.trans (ic_ge (tgt := 48) dX5_firstLeaving_14 (by decide +kernel)) (ite_cong (fun _ => ?_) (fun _ => ?_))
  · refine Eq.trans (xiconst dX5_firstLeaving_48 ci_0) ?_
    exact ret0 dX5_firstLeaving_49 rfl
  · refine Eq.trans (st1 dX5_firstLeaving_17 rfl rfl) ?_
    refine Eq.trans (st1 dX5_firstLeaving_18 rfl rfl) ?_
    refine Eq.trans (st1 dX5_firstLeaving_19 rfl rfl) ?_
    refine Eq.trans (st1 dX5_firstLeaving_20 rfl rfl) ?_
    exact iv0 dX5_firstLeaving_22 rfl cp_5_100 rfl rfl (kd_ka ka_56) ka_56.1 (Nat.le_of_ble_eq_true rfl)
theorem q_X5_firstLeaving_25 {call : CALL} {L X : Nat} {I : Nat → Nat → Int32} {J : Nat → Nat → Int64} {x1 : Int32} {x2 : Int32} {x3 : Int32} {x4 : Int32} {s0 : Int32} : runI call iX5_firstLeaving (25, [some (.ref 56), some (.int x1), some (.int x2), some (.int x3), some (.int x4)], [.int s0], (mm L X I J)) = if s0 = (nI 0) then runI call iX5_firstLeaving (42, [some (.ref 56), some (.int x1), some (.int x2), some (.int x3), some (.int x4)], [], (mm L X I J)) else bnd (call nX5_longWith [.ref 56, .int x1, .int x4] (mm L X I J)) (fun v m' => runI call iX5_firstLeaving (35, [some (.ref 56), some (.int x1), some (.int x2), some (.int x3), some (.int x4)], v.toList ++ [], m')) := by
  refine Eq.trans (if_eq (tgt := 42) dX5_firstLeaving_25 (by decide +kernel)) (ite_cong (fun _ => ?_) (fun _ => ?_))
  · rfl
  · refine Eq.trans (st1 dX5_firstLeaving_28 rfl rfl) ?_
    refine Eq.trans (st1 dX5_firstLeaving_29 rfl rfl) ?_
    refine Eq.trans (st1 dX5_firstLeaving_30 rfl rfl) ?_
    exact iv0 dX5_firstLeaving_32 rfl cp_5_104 rfl rfl (kd_ka ka_56) ka_56.1 (Nat.le_of_ble_eq_true rfl)
theorem q_X5_firstLeaving_42 {call : CALL} {L X : Nat} {I : Nat → Nat → Int32} {J : Nat → Nat → Int64} {x1 : Int32} {x2 : Int32} {x3 : Int32} {x4 : Int32} : runI call iX5_firstLeaving (42, [some (.ref 56), some (.int x1), some (.int x2), some (.int x3), some (.int x4)], [], (mm L X I J)) = runI call iX5_firstLeaving (3, [some (.ref 56), some (.int x1), some (.int x2), some (.int x3), some (.int (x4 + (nI 1)))], [], (mm L X I J)) := by
  refine Eq.trans (xinc2 dX5_firstLeaving_42 ci_1 rfl (Nat.le_of_ble_eq_true rfl) rfl) ?_
  refine Eq.trans (go_to (tgt := 3) dX5_firstLeaving_45 (by decide +kernel)) ?_
  rfl
theorem q_X5_firstLeaving_35 {call : CALL} {L X : Nat} {I : Nat → Nat → Int32} {J : Nat → Nat → Int64} {x1 : Int32} {x2 : Int32} {x3 : Int32} {x4 : Int32} {s0 : Int32} : runI call iX5_firstLeaving (35, [some (.ref 56), some (.int x1), some (.int x2), some (.int x3), some (.int x4)], [.int s0], (mm L X I J)) = if s0 = x3 then some (.inl (some (.int x4)), (mm L X I J)) else runI call iX5_firstLeaving (42, [some (.ref 56), some (.int x1), some (.int x2), some (.int x3), some (.int x4)], [], (mm L X I J)) := by
  refine Eq.trans (st1 dX5_firstLeaving_35 rfl rfl) ?_
  refine Eq.trans (ic_ne (tgt := 42) dX5_firstLeaving_36 (by decide +kernel)) (ite_cong (fun _ => ?_) (fun _ => ?_))
  · refine Eq.trans (st1 dX5_firstLeaving_39 rfl rfl) ?_
    exact ret0 dX5_firstLeaving_41 rfl
  · rfl
theorem q_X5_findShort_0 {call : CALL} {L X : Nat} {I : Nat → Nat → Int32} {J : Nat → Nat → Int64} {a1 : Nat} {x2 : Int32} (h1 : oc3 a1) : runI call iX5_findShort (0, [some (.ref 56), some (.ref a1), some (.int x2)], [], (mm L X I J)) = if (I 56 11) = x2 then some (.inl none, (mm L X I J)) else bnd (call nX5_fillFollowers [.ref 56] (mm L X (up2 (up2 I 56 11 x2) 56 13 (-1 : Int32)) J)) (fun v m' => runI call iX5_findShort (23, [some (.ref 56), some (.ref a1), some (.int x2)], v.toList ++ [], m')) := by
  refine Eq.trans (st1 dX5_findShort_0 rfl rfl) ?_
  refine Eq.trans (getIm dX5_findShort_1 cp_5_21 ka_56 (.inl rfl)) ?_
  refine Eq.trans (st1 dX5_findShort_4 rfl rfl) ?_
  refine Eq.trans (ic_ne (tgt := 9) dX5_findShort_5 (by decide +kernel)) (ite_cong (fun _ => ?_) (fun _ => ?_))
  · exact ret3 dX5_findShort_8 (.inl rfl)
  · refine Eq.trans (st1 dX5_findShort_9 rfl rfl) ?_
    refine Eq.trans (st1 dX5_findShort_10 rfl rfl) ?_
    refine Eq.trans (putIm dX5_findShort_11 cp_5_21 ka_56 rfl) ?_
    refine Eq.trans (st1 dX5_findShort_14 rfl rfl) ?_
    refine Eq.trans (xiconst dX5_findShort_15 ci_m1) ?_
    refine Eq.trans (putIm dX5_findShort_16 cp_5_131 ka_56 rfl) ?_
    refine Eq.trans (st1 dX5_findShort_19 rfl rfl) ?_
    exact iv0 dX5_findShort_20 rfl cp_5_86 rfl rfl (kd_ka ka_56) ka_56.1 (Nat.le_of_ble_eq_true rfl)
theorem q_X5_findShort_23 {call : CALL} {L X : Nat} {I : Nat → Nat → Int32} {J : Nat → Nat → Int64} {a1 : Nat} {u2 : Option Value} (h1 : oc3 a1) : runI call iX5_findShort (23, [some (.ref 56), some (.ref a1), u2], [], (mm L X I J)) = bndN (call nJ7_fill_d0a16 [.ref 62, .long (lN 0)] (mm L X I J)) (fun v m' => runI call iX5_findShort (31, [some (.ref 56), some (.ref a1), u2], v.toList ++ [], m')) := by
  refine Eq.trans (st1 dX5_findShort_23 rfl rfl) ?_
  refine Eq.trans (getRm dX5_findShort_24 cp_5_31 ka_56 rfl r_56_15) ?_
  refine Eq.trans (st1 dX5_findShort_27 rfl rfl) ?_
  exact is2 dX5_findShort_28 cp_5_134 (Nat.le_of_ble_eq_true rfl) rfl rfl (Nat.le_of_ble_eq_true rfl)
theorem q_X5_findShort_31 {call : CALL} {L X : Nat} {I : Nat → Nat → Int32} {J : Nat → Nat → Int64} {a1 : Nat} {u2 : Option Value} (h1 : oc3 a1) : runI call iX5_findShort (31, [some (.ref 56), some (.ref a1), u2], [], (mm L X I J)) = bnd (call nX5_searchShort [.ref 56, .ref a1, .int (nI 0), .int (nI 0), .int (-1 : Int32), .int (I a1 7), .int (nI 0)] (mm L X I J)) (fun v m' => runI call iX5_findShort (44, [some (.ref 56), some (.ref a1), u2], v.toList ++ [], m')) := by
  refine Eq.trans (st1 dX5_findShort_31 rfl rfl) ?_
  refine Eq.trans (st1 dX5_findShort_32 rfl rfl) ?_
  refine Eq.trans (xiconst dX5_findShort_33 ci_0) ?_
  refine Eq.trans (xiconst dX5_findShort_34 ci_0) ?_
  refine Eq.trans (xiconst dX5_findShort_35 ci_m1) ?_
  refine Eq.trans (st1 dX5_findShort_36 rfl rfl) ?_
  refine Eq.trans (getIm dX5_findShort_37 cp_5_140 (ks3_0 h1) (.inl rfl)) ?_
  refine Eq.trans (xiconst dX5_findShort_40 ci_0) ?_
  exact iv0 dX5_findShort_41 rfl cp_5_145 rfl rfl (kd_ka ka_56) ka_56.1 (Nat.le_of_ble_eq_true rfl)
theorem q_X5_findShort_44 {call : CALL} {L X : Nat} {I : Nat → Nat → Int32} {J : Nat → Nat → Int64} {u0 : Option Value} {u1 : Option Value} {u2 : Option Value} : runI call iX5_findShort (44, [u0, u1, u2], [], (mm L X I J)) = some (.inl none, (mm L X I J)) := by
  exact ret3 dX5_findShort_44 (.inl rfl)
theorem q_X5_searchShort_0 {call : CALL} {L X : Nat} {I : Nat → Nat → Int32} {J : Nat → Nat → Int64} {a1 : Nat} {x2 : Int32} {x3 : Int32} {x4 : Int32} {x5 : Int32} {x6 : Int32} (h1 : oc3 a1) : runI call iX5_searchShort (0, [some (.ref 56), some (.ref a1), some (.int x2), some (.int x3), some (.int x4), some (.int x5), some (.int x6), none, none, none, none], [], (mm L X I J)) = bnd (call nX1_reaches [.ref 3, .int (I 56 11), .int x6, .int x5] (mm L X I J)) (fun v m' => runI call iX5_searchShort (15, [some (.ref 56), some (.ref a1), some (.int x2), some (.int x3), some (.int x4), some (.int x5), some (.int x6), none, none, none, none], v.toList ++ [], m')) := by
  refine Eq.trans (st1 dX5_searchShort_0 rfl rfl) ?_
  refine Eq.trans (getRm dX5_searchShort_1 cp_5_38 ka_56 rfl r_56_0) ?_
  refine Eq.trans (st1 dX5_searchShort_4 rfl rfl) ?_
  refine Eq.trans (getIm dX5_searchShort_5 cp_5_21 ka_56 (.inl rfl)) ?_
  refine Eq.trans (st1 dX5_searchShort_8 rfl rfl) ?_
  refine Eq.trans (st1 dX5_searchShort_10 rfl rfl) ?_
  exact iv0 dX5_searchShort_12 rfl cp_5_149 rfl rfl (kd_ka ka_3) ka_3.1 (Nat.le_of_ble_eq_true rfl)
theorem q_X5_searchShort_15 {call : CALL} {L X : Nat} {I : Nat → Nat → Int32} {J : Nat → Nat → Int64} {a1 : Nat} {x2 : Int32} {x3 : Int32} {x4 : Int32} {x5 : Int32} {x6 : Int32} {u7 : Option Value} {u8 : Option Value} {u9 : Option Value} {u10 : Option Value} {s0 : Int32} (h1 : oc3 a1) : runI call iX5_searchShort (15, [some (.ref 56), some (.ref a1), some (.int x2), some (.int x3), some (.int x4), some (.int x5), some (.int x6), u7, u8, u9, u10], [.int s0], (mm L X I J)) = if s0 = (nI 0) then runI call iX5_searchShort (42, [some (.ref 56), some (.ref a1), some (.int x2), some (.int x3), some (.int x4), some (.int x5), some (.int x6), some (.int (nI 0)), u8, u9, u10], [], (mm L X I J)) else gd (cpok (nI 0) (nI 0) (nI 6) 6 6) (some (.inl none, (mm L X (up1 (up2 I 56 13 x2) 60 (va_cpy ((up2 I 56 13 x2) 61) ((up2 I 56 13 x2) 60) ((nI 0)).toNatClampNeg ((nI 0)).toNatClampNeg ((nI 6)).toNatClampNeg)) J))) := by
  refine Eq.trans (if_eq (tgt := 39) dX5_searchShort_15 (by decide +kernel)) (ite_cong (fun _ => ?_) (fun _ => ?_))
  · refine Eq.trans (xiconst dX5_searchShort_39 ci_0) ?_
    refine Eq.trans (st1 dX5_searchShort_40 rfl rfl) ?_
    rfl
  · refine Eq.trans (st1 dX5_searchShort_18 rfl rfl) ?_
    refine Eq.trans (st1 dX5_searchShort_19 rfl rfl) ?_
    refine Eq.trans (putIm dX5_searchShort_20 cp_5_131 ka_56 rfl) ?_
    refine Eq.trans (st1 dX5_searchShort_23 rfl rfl) ?_
    refine Eq.trans (getRm dX5_searchShort_24 cp_5_28 ka_56 rfl r_56_14) ?_
    refine Eq.trans (xiconst dX5_searchShort_27 ci_0) ?_
    refine Eq.trans (st1 dX5_searchShort_28 rfl rfl) ?_
    refine Eq.trans (getRm dX5_searchShort_29 cp_5_25 ka_56 rfl r_56_12) ?_
    refine Eq.trans (xiconst dX5_searchShort_32 ci_0) ?_
    refine Eq.trans (xbipush dX5_searchShort_33 cb_6) ?_
    refine Eq.trans (icpym dX5_searchShort_35 cp_5_152 ka_61 ka_60 (Nat.le_of_ble_eq_true rfl)) (gd_congr fun _ => ?_)
    exact ret3 dX5_searchShort_38 (.inl rfl)
theorem q_X5_searchShort_42 {call : CALL} {L X : Nat} {I : Nat → Nat → Int32} {J : Nat → Nat → Int64} {a1 : Nat} {x2 : Int32} {x3 : Int32} {x4 : Int32} {x5 : Int32} {x6 : Int32} {x7 : Int32} {u8 : Option Value} {u9 : Option Value} {u10 : Option Value} (h1 : oc3 a1) : runI call iX5_searchShort (42, [some (.ref 56), some (.ref a1), some (.int x2), some (.int x3), some (.int x4), some (.int x5), some (.int x6), some (.int x7), u8, u9, u10], [], (mm L X I J)) = if ((nI 2) * (I 3 0)) ≤ x7 then some (.inl none, (mm L X I J)) else if (nI 6) ≤ x2 then some (.inl none, (mm L X I J)) else if (I 56 13) = (-1 : Int32) then runI call iX5_searchShort (81, [some (.ref 56), some (.ref a1), some (.int x2), some (.int x3), some (.int x4), some (.int x5), some (.int x6), some (.int x7), u8, u9, u10], [], (mm L X I J)) else if (x2 + (nI 1)) < (I 56 13) then runI call iX5_searchShort (81, [some (.ref 56), some (.ref a1), some (.int x2), some (.int x3), some (.int x4), some (.int x5), some (.int x6), some (.int x7), u8, u9, u10], [], (mm L X I J)) else some (.inl none, (mm L X I J)) := by
  refine Eq.trans (st1 dX5_searchShort_42 rfl rfl) ?_
  refine Eq.trans (xiconst dX5_searchShort_44 ci_2) ?_
  refine Eq.trans (st1 dX5_searchShort_45 rfl rfl) ?_
  refine Eq.trans (getRm dX5_searchShort_46 cp_5_38 ka_56 rfl r_56_0) ?_
  refine Eq.trans (getIm dX5_searchShort_49 cp_5_79 ka_3 (.inl rfl)) ?_
  refine Eq.trans (st1 dX5_searchShort_52 rfl rfl) ?_
  refine Eq.trans (ic_ge (tgt := 195) dX5_searchShort_53 (by decide +kernel)) (ite_cong (fun _ => ?_) (fun _ => ?_))
  · exact ret3 dX5_searchShort_195 (.inl rfl)
  · refine Eq.trans (st1 dX5_searchShort_56 rfl rfl) ?_
    refine Eq.trans (xbipush dX5_searchShort_57 cb_6) ?_
    refine Eq.trans (ic_ge (tgt := 80) dX5_searchShort_59 (by decide +kernel)) (ite_cong (fun _ => ?_) (fun _ => ?_))
    · exact ret3 dX5_searchShort_80 (.inl rfl)
    · refine Eq.trans (st1 dX5_searchShort_62 rfl rfl) ?_
      refine Eq.trans (getIm dX5_searchShort_63 cp_5_131 ka_56 (.inl rfl)) ?_
      refine Eq.trans (xiconst dX5_searchShort_66 ci_m1) ?_
      refine Eq.trans (ic_eq (tgt := 81) dX5_searchShort_67 (by decide +kernel)) (ite_cong (fun _ => ?_) (fun _ => ?_))
      · rfl
      · refine Eq.trans (st1 dX5_searchShort_70 rfl rfl) ?_
        refine Eq.trans (xiconst dX5_searchShort_71 ci_1) ?_
        refine Eq.trans (st1 dX5_searchShort_72 rfl rfl) ?_
        refine Eq.trans (st1 dX5_searchShort_73 rfl rfl) ?_
        refine Eq.trans (getIm dX5_searchShort_74 cp_5_131 ka_56 (.inl rfl)) ?_
        refine Eq.trans (ic_lt (tgt := 81) dX5_searchShort_77 (by decide +kernel)) (ite_cong (fun _ => ?_) (fun _ => ?_))
        · rfl
        · exact ret3 dX5_searchShort_80 (.inl rfl)
theorem q_X5_searchShort_81 {call : CALL} {L X : Nat} {I : Nat → Nat → Int32} {J : Nat → Nat → Int64} {a1 : Nat} {x2 : Int32} {x3 : Int32} {x4 : Int32} {x5 : Int32} {x6 : Int32} {x7 : Int32} {u8 : Option Value} {u9 : Option Value} {u10 : Option Value} (h1 : oc3 a1) : runI call iX5_searchShort (81, [some (.ref 56), some (.ref a1), some (.int x2), some (.int x3), some (.int x4), some (.int x5), some (.int x6), some (.int x7), u8, u9, u10], [], (mm L X I J)) = bnd (call nX5_canFollow [.ref 56, .int x3, .int x4, .int x7] (mm L X I J)) (fun v m' => runI call iX5_searchShort (90, [some (.ref 56), some (.ref a1), some (.int x2), some (.int x3), some (.int x4), some (.int x5), some (.int x6), some (.int x7), u8, u9, u10], v.toList ++ [], m')) := by
  refine Eq.trans (st1 dX5_searchShort_81 rfl rfl) ?_
  refine Eq.trans (st1 dX5_searchShort_82 rfl rfl) ?_
  refine Eq.trans (st1 dX5_searchShort_83 rfl rfl) ?_
  refine Eq.trans (st1 dX5_searchShort_85 rfl rfl) ?_
  exact iv0 dX5_searchShort_87 rfl cp_5_100 rfl rfl (kd_ka ka_56) ka_56.1 (Nat.le_of_ble_eq_true rfl)
theorem q_X5_searchShort_90 {call : CALL} {L X : Nat} {I : Nat → Nat → Int32} {J : Nat → Nat → Int64} {a1 : Nat} {x2 : Int32} {x3 : Int32} {x4 : Int32} {x5 : Int32} {x6 : Int32} {x7 : Int32} {u8 : Option Value} {u9 : Option Value} {u10 : Option Value} {s0 : Int32} (h1 : oc3 a1) : runI call iX5_searchShort (90, [some (.ref 56), some (.ref a1), some (.int x2), some (.int x3), some (.int x4), some (.int x5), some (.int x6), some (.int x7), u8, u9, u10], [.int s0], (mm L X I J)) = if s0 = (nI 0) then runI call iX5_searchShort (189, [some (.ref 56), some (.ref a1), some (.int x2), some (.int x3), some (.int x4), some (.int x5), some (.int x6), some (.int x7), u8, u9, u10], [], (mm L X I J)) else bnd (call nX8_behindPiece [.ref 52, .ref a1, .int x7, .int x2, .int x5, .int (I a1 7)] (mm L X I J)) (fun v m' => runI call iX5_searchShort (127, [some (.ref 56), some (.ref a1), some (.int x2), some (.int x3), some (.int x4), some (.int x5), some (.int x6), some (.int x7), some (.int (x7 >>> ((nI 1) &&& 31))), some (.int (x3 ||| ((nI 1) <<< ((x7 >>> ((nI 1) &&& 31)) &&& 31)))), u10], v.toList ++ [], m')) := by
  refine Eq.trans (if_ne (tgt := 96) dX5_searchShort_90 (by decide +kernel)) (ite_cong (fun _ => ?_) (fun _ => ?_))
  · refine Eq.trans (go_to (tgt := 189) dX5_searchShort_93 (by decide +kernel)) ?_
    rfl
  · refine Eq.trans (st1 dX5_searchShort_96 rfl rfl) ?_
    refine Eq.trans (xiconst dX5_searchShort_98 ci_1) ?_
    refine Eq.trans (st1 dX5_searchShort_99 rfl rfl) ?_
    refine Eq.trans (st1 dX5_searchShort_100 rfl rfl) ?_
    refine Eq.trans (st1 dX5_searchShort_102 rfl rfl) ?_
    refine Eq.trans (xiconst dX5_searchShort_103 ci_1) ?_
    refine Eq.trans (st1 dX5_searchShort_104 rfl rfl) ?_
    refine Eq.trans (st1 dX5_searchShort_106 rfl rfl) ?_
    refine Eq.trans (st1 dX5_searchShort_107 rfl rfl) ?_
    refine Eq.trans (st1 dX5_searchShort_108 rfl rfl) ?_
    refine Eq.trans (st1 dX5_searchShort_110 rfl rfl) ?_
    refine Eq.trans (getRm dX5_searchShort_111 cp_5_42 ka_56 rfl r_56_1) ?_
    refine Eq.trans (st1 dX5_searchShort_114 rfl rfl) ?_
    refine Eq.trans (st1 dX5_searchShort_115 rfl rfl) ?_
    refine Eq.trans (st1 dX5_searchShort_117 rfl rfl) ?_
    refine Eq.trans (st1 dX5_searchShort_118 rfl rfl) ?_
    refine Eq.trans (st1 dX5_searchShort_120 rfl rfl) ?_
    refine Eq.trans (getIm dX5_searchShort_121 cp_5_140 (ks3_0 h1) (.inl rfl)) ?_
    exact iv0 dX5_searchShort_124 rfl cp_5_158 rfl rfl (kd_ka ka_52) ka_52.1 (Nat.le_of_ble_eq_true rfl)
theorem q_X5_searchShort_127 {call : CALL} {L X : Nat} {I : Nat → Nat → Int32} {J : Nat → Nat → Int64} {a1 : Nat} {x2 : Int32} {x3 : Int32} {x4 : Int32} {x5 : Int32} {x6 : Int32} {x7 : Int32} {x8 : Int32} {x9 : Int32} {u10 : Option Value} {s0 : Int32} (h1 : oc3 a1) : runI call iX5_searchShort (127, [some (.ref 56), some (.ref a1), some (.int x2), some (.int x3), some (.int x4), some (.int x5), some (.int x6), some (.int x7), some (.int x8), some (.int x9), u10], [.int s0], (mm L X I J)) = bnd (call nX5_isNew [.ref 56, .int ((((x9 * (nI 12)) + x7) * (nI 100)) + s0)] (mm L X I J)) (fun v m' => runI call iX5_searchShort (147, [some (.ref 56), some (.ref a1), some (.int x2), some (.int x3), some (.int x4), some (.int x5), some (.int x6), some (.int x7), some (.int x8), some (.int x9), some (.int s0)], v.toList ++ [], m')) := by
  refine Eq.trans (st1 dX5_searchShort_127 rfl rfl) ?_
  refine Eq.trans (st1 dX5_searchShort_129 rfl rfl) ?_
  refine Eq.trans (st1 dX5_searchShort_130 rfl rfl) ?_
  refine Eq.trans (xbipush dX5_searchShort_132 cb_12) ?_
  refine Eq.trans (st1 dX5_searchShort_134 rfl rfl) ?_
  refine Eq.trans (st1 dX5_searchShort_135 rfl rfl) ?_
  refine Eq.trans (st1 dX5_searchShort_137 rfl rfl) ?_
  refine Eq.trans (xbipush dX5_searchShort_138 cb_100) ?_
  refine Eq.trans (st1 dX5_searchShort_140 rfl rfl) ?_
  refine Eq.trans (st1 dX5_searchShort_141 rfl rfl) ?_
  refine Eq.trans (st1 dX5_searchShort_143 rfl rfl) ?_
  exact iv0 dX5_searchShort_144 rfl cp_5_164 rfl rfl (kd_ka ka_56) ka_56.1 (Nat.le_of_ble_eq_true rfl)
theorem q_X5_searchShort_189 {call : CALL} {L X : Nat} {I : Nat → Nat → Int32} {J : Nat → Nat → Int64} {a1 : Nat} {x2 : Int32} {x3 : Int32} {x4 : Int32} {x5 : Int32} {x6 : Int32} {x7 : Int32} {u8 : Option Value} {u9 : Option Value} {u10 : Option Value} (h1 : oc3 a1) : runI call iX5_searchShort (189, [some (.ref 56), some (.ref a1), some (.int x2), some (.int x3), some (.int x4), some (.int x5), some (.int x6), some (.int x7), u8, u9, u10], [], (mm L X I J)) = runI call iX5_searchShort (42, [some (.ref 56), some (.ref a1), some (.int x2), some (.int x3), some (.int x4), some (.int x5), some (.int x6), some (.int (x7 + (nI 1))), u8, u9, u10], [], (mm L X I J)) := by
  refine Eq.trans (xinc2 dX5_searchShort_189 ci_1 rfl (Nat.le_of_ble_eq_true rfl) rfl) ?_
  refine Eq.trans (go_to (tgt := 42) dX5_searchShort_192 (by decide +kernel)) ?_
  rfl
theorem q_X5_searchShort_147 {call : CALL} {L X : Nat} {I : Nat → Nat → Int32} {J : Nat → Nat → Int64} {a1 : Nat} {x2 : Int32} {x3 : Int32} {x4 : Int32} {x5 : Int32} {x6 : Int32} {x7 : Int32} {x8 : Int32} {x9 : Int32} {x10 : Int32} {s0 : Int32} (h1 : oc3 a1) : runI call iX5_searchShort (147, [some (.ref 56), some (.ref a1), some (.int x2), some (.int x3), some (.int x4), some (.int x5), some (.int x6), some (.int x7), some (.int x8), some (.int x9), some (.int x10)], [.int s0], (mm L X I J)) = if s0 = (nI 0) then runI call iX5_searchShort (189, [some (.ref 56), some (.ref a1), some (.int x2), some (.int x3), some (.int x4), some (.int x5), some (.int x6), some (.int x7), some (.int x8), some (.int x9), some (.int x10)], [], (mm L X I J)) else bndN (call nX11_put [.ref 61, .int x2, .int x7] (mm L X I J)) (fun v m' => runI call iX5_searchShort (160, [some (.ref 56), some (.ref a1), some (.int x2), some (.int x3), some (.int x4), some (.int x5), some (.int x6), some (.int x7), some (.int x8), some (.int x9), some (.int x10)], v.toList ++ [], m')) := by
  refine Eq.trans (if_eq (tgt := 189) dX5_searchShort_147 (by decide +kernel)) (ite_cong (fun _ => ?_) (fun _ => ?_))
  · rfl
  · refine Eq.trans (st1 dX5_searchShort_150 rfl rfl) ?_
    refine Eq.trans (getRm dX5_searchShort_151 cp_5_28 ka_56 rfl r_56_14) ?_
    refine Eq.trans (st1 dX5_searchShort_154 rfl rfl) ?_
    refine Eq.trans (st1 dX5_searchShort_155 rfl rfl) ?_
    exact is3 dX5_searchShort_157 cp_5_96 (Nat.le_of_ble_eq_true rfl) rfl rfl (Nat.le_of_ble_eq_true rfl)
theorem q_X5_searchShort_160 {call : CALL} {L X : Nat} {I : Nat → Nat → Int32} {J : Nat → Nat → Int64} {a1 : Nat} {x2 : Int32} {x3 : Int32} {x4 : Int32} {x5 : Int32} {x6 : Int32} {x7 : Int32} {x8 : Int32} {x9 : Int32} {x10 : Int32} (h1 : oc3 a1) : runI call iX5_searchShort (160, [some (.ref 56), some (.ref a1), some (.int x2), some (.int x3), some (.int x4), some (.int x5), some (.int x6), some (.int x7), some (.int x8), some (.int x9), some (.int x10)], [], (mm L X I J)) = bndN (call nX11_pick [.ref 4, .int x8] (mm L X I J)) (fun v m' => runI call iX5_searchShort (185, [some (.ref 56), some (.ref a1), some (.int x2), some (.int x3), some (.int x4), some (.int x5), some (.int x6), some (.int x7), some (.int x8), some (.int x9), some (.int x10)], v.toList ++ [.int x6, .int x10, .int x7, .int x9, .int (x2 + (nI 1)), .ref a1, .ref 56], m')) := by
  refine Eq.trans (st1 dX5_searchShort_160 rfl rfl) ?_
  refine Eq.trans (st1 dX5_searchShort_161 rfl rfl) ?_
  refine Eq.trans (st1 dX5_searchShort_162 rfl rfl) ?_
  refine Eq.trans (xiconst dX5_searchShort_163 ci_1) ?_
  refine Eq.trans (st1 dX5_searchShort_164 rfl rfl) ?_
  refine Eq.trans (st1 dX5_searchShort_165 rfl rfl) ?_
  refine Eq.trans (st1 dX5_searchShort_167 rfl rfl) ?_
  refine Eq.trans (st1 dX5_searchShort_169 rfl rfl) ?_
  refine Eq.trans (st1 dX5_searchShort_171 rfl rfl) ?_
  refine Eq.trans (st1 dX5_searchShort_173 rfl rfl) ?_
  refine Eq.trans (getRm dX5_searchShort_174 cp_5_38 ka_56 rfl r_56_0) ?_
  refine Eq.trans (getRm dX5_searchShort_177 cp_5_70 ka_3 rfl r_3_4) ?_
  refine Eq.trans (st1 dX5_searchShort_180 rfl rfl) ?_
  exact is3 dX5_searchShort_182 cp_5_75 (Nat.le_of_ble_eq_true rfl) rfl rfl (Nat.le_of_ble_eq_true rfl)
theorem q_X5_searchShort_185 {call : CALL} {L X : Nat} {I : Nat → Nat → Int32} {J : Nat → Nat → Int64} {a1 : Nat} {x2 : Int32} {x3 : Int32} {x4 : Int32} {x5 : Int32} {x6 : Int32} {x7 : Int32} {u8 : Option Value} {u9 : Option Value} {u10 : Option Value} {s2 : Int32} {s3 : Int32} {s4 : Int32} {s5 : Int32} {s6 : Int32} {s7 : Int32} (h1 : oc3 a1) : runI call iX5_searchShort (185, [some (.ref 56), some (.ref a1), some (.int x2), some (.int x3), some (.int x4), some (.int x5), some (.int x6), some (.int x7), u8, u9, u10], [.int s7, .int s6, .int s5, .int s4, .int s3, .int s2, .ref a1, .ref 56], (mm L X I J)) = bnd (call nX5_searchShort [.ref 56, .ref a1, .int s2, .int s3, .int s4, .int s5, .int (s6 + s7)] (mm L X I J)) (fun v m' => runI call iX5_searchShort (189, [some (.ref 56), some (.ref a1), some (.int x2), some (.int x3), some (.int x4), some (.int x5), some (.int x6), some (.int x7), u8, u9, u10], v.toList ++ [], m')) := by
  refine Eq.trans (st1 dX5_searchShort_185 rfl rfl) ?_
  exact iv0 dX5_searchShort_186 rfl cp_5_145 rfl rfl (kd_ka ka_56) ka_56.1 (Nat.le_of_ble_eq_true rfl)
theorem q_X5_isNew_0 {call : CALL} {L X : Nat} {I : Nat → Nat → Int32} {J : Nat → Nat → Int64} {x1 : Int32} : runI call iX5_isNew (0, [some (.ref 56), some (.int x1), none, none, none], [], (mm L X I J)) = if x1 < (nI 0) then some (.inl (some (.int (nI 0))), (mm L X I J)) else if x1 < (nI 76800) then gd (inb (x1 >>> ((nI 6) &&& 31)) 1200) (if (lg_cmp ((J 62 ((x1 >>> ((nI 6) &&& 31))).toNatClampNeg) &&& ((lN 1) <<< (((x1 &&& (nI 63))).toInt64 &&& 63))) (lN 0)) = (nI 0) then runI call iX5_isNew (40, [some (.ref 56), some (.int x1), some (.long ((lN 1) <<< (((x1 &&& (nI 63))).toInt64 &&& 63))), none, none], [.int (nI 1)], (mm L X I J)) else runI call iX5_isNew (40, [some (.ref 56), some (.int x1), some (.long ((lN 1) <<< (((x1 &&& (nI 63))).toInt64 &&& 63))), none, none], [.int (nI 0)], (mm L X I J))) else some (.inl (some (.int (nI 0))), (mm L X I J)) := by
  refine Eq.trans (st1 dX5_isNew_0 rfl rfl) ?_
  refine Eq.trans (if_lt (tgt := 10) dX5_isNew_1 (by decide +kernel)) (ite_cong (fun _ => ?_) (fun _ => ?_))
  · refine Eq.trans (xiconst dX5_isNew_10 ci_0) ?_
    exact ret1 dX5_isNew_11 rfl (.inl rfl)
  · refine Eq.trans (st1 dX5_isNew_4 rfl rfl) ?_
    refine Eq.trans (xldc1 dX5_isNew_5 cp_5_168 cn_76800) ?_
    refine Eq.trans (ic_lt (tgt := 12) dX5_isNew_7 (by decide +kernel)) (ite_cong (fun _ => ?_) (fun _ => ?_))
    · refine Eq.trans (st1 dX5_isNew_12 rfl rfl) ?_
      refine Eq.trans (st1 dX5_isNew_13 rfl rfl) ?_
      refine Eq.trans (xbipush dX5_isNew_14 cb_63) ?_
      refine Eq.trans (st1 dX5_isNew_16 rfl rfl) ?_
      refine Eq.trans (st1 dX5_isNew_17 rfl rfl) ?_
      refine Eq.trans (st1 dX5_isNew_18 rfl rfl) ?_
      refine Eq.trans (st1 dX5_isNew_19 rfl rfl) ?_
      refine Eq.trans (getRm dX5_isNew_20 cp_5_31 ka_56 rfl r_56_15) ?_
      refine Eq.trans (st1 dX5_isNew_23 rfl rfl) ?_
      refine Eq.trans (xbipush dX5_isNew_24 cb_6) ?_
      refine Eq.trans (st1 dX5_isNew_26 rfl rfl) ?_
      refine Eq.trans (al3m dX5_isNew_27 ka_62) (gd_congr fun g1 => ?_)
      refine Eq.trans (st1 dX5_isNew_28 rfl rfl) ?_
      refine Eq.trans (st1 dX5_isNew_29 rfl rfl) ?_
      refine Eq.trans (st1 dX5_isNew_30 rfl rfl) ?_
      refine Eq.trans (st1 dX5_isNew_31 rfl rfl) ?_
      refine Eq.trans (if_ne (tgt := 39) dX5_isNew_32 (by decide +kernel)) (ite_cong (fun _ => ?_) (fun _ => ?_))
      · refine Eq.trans (xiconst dX5_isNew_35 ci_1) ?_
        refine Eq.trans (go_to (tgt := 40) dX5_isNew_36 (by decide +kernel)) ?_
        rfl
      · refine Eq.trans (xiconst dX5_isNew_39 ci_0) ?_
        rfl
    · refine Eq.trans (xiconst dX5_isNew_10 ci_0) ?_
      exact ret1 dX5_isNew_11 rfl (.inl rfl)
theorem q_X5_isNew_40 {call : CALL} {L X : Nat} {I : Nat → Nat → Int32} {J : Nat → Nat → Int64} {x1 : Int32} {y2 : Int64} {u4 : Option Value} {s0 : Int32} : runI call iX5_isNew (40, [some (.ref 56), some (.int x1), some (.long y2), none, u4], [.int s0], (mm L X I J)) = gd (inb (x1 >>> ((nI 6) &&& 31)) 1200) (gd (b01 s0) (some (.inl (some (.int s0)), (mm L X I (up2 J 62 ((x1 >>> ((nI 6) &&& 31))).toNatClampNeg ((J 62 ((x1 >>> ((nI 6) &&& 31))).toNatClampNeg) ||| y2)))))) := by
  refine Eq.trans (st1 dX5_isNew_40 rfl rfl) ?_
  refine Eq.trans (st1 dX5_isNew_42 rfl rfl) ?_
  refine Eq.trans (getRm dX5_isNew_43 cp_5_31 ka_56 rfl r_56_15) ?_
  refine Eq.trans (st1 dX5_isNew_46 rfl rfl) ?_
  refine Eq.trans (xbipush dX5_isNew_47 cb_6) ?_
  refine Eq.trans (st1 dX5_isNew_49 rfl rfl) ?_
  refine Eq.trans (st1 dX5_isNew_50 rfl rfl) ?_
  refine Eq.trans (al3m dX5_isNew_51 ka_62) (gd_congr fun g1 => ?_)
  refine Eq.trans (st1 dX5_isNew_52 rfl rfl) ?_
  refine Eq.trans (st1 dX5_isNew_53 rfl rfl) ?_
  refine Eq.trans (as3m dX5_isNew_54 ka_62) (Eq.trans (gd_t g1) ?_)
  refine Eq.trans (st1 dX5_isNew_55 rfl rfl) ?_
  exact ret1g dX5_isNew_57 rfl
theorem q_X5_findCollar_0 {call : CALL} {L X : Nat} {I : Nat → Nat → Int32} {J : Nat → Nat → Int64}  : runI call iX5_findCollar (0, [some (.ref 56), none, none], [], (mm L X I J)) = if (I 56 8) = (nI 0) then runI call iX5_findCollar (20, [some (.ref 56), some (.int (nI 0)), none], [], (mm L X (up2 (up2 I 56 9 (-1 : Int32)) 56 10 (-1 : Int32)) J)) else some (.inl none, (mm L X I J)) := by
  refine Eq.trans (st1 dX5_findCollar_0 rfl rfl) ?_
  refine Eq.trans (getIm dX5_findCollar_1 cp_5_50 ka_56 (.inr rfl)) ?_
  refine Eq.trans (if_eq (tgt := 8) dX5_findCollar_4 (by decide +kernel)) (ite_cong (fun _ => ?_) (fun _ => ?_))
  · refine Eq.trans (st1 dX5_findCollar_8 rfl rfl) ?_
    refine Eq.trans (xiconst dX5_findCollar_9 ci_m1) ?_
    refine Eq.trans (putIm dX5_findCollar_10 cp_5_112 ka_56 rfl) ?_
    refine Eq.trans (st1 dX5_findCollar_13 rfl rfl) ?_
    refine Eq.trans (xiconst dX5_findCollar_14 ci_m1) ?_
    refine Eq.trans (putIm dX5_findCollar_15 cp_5_115 ka_56 rfl) ?_
    refine Eq.trans (xiconst dX5_findCollar_18 ci_0) ?_
    refine Eq.trans (st1 dX5_findCollar_19 rfl rfl) ?_
    rfl
  · exact ret3 dX5_findCollar_7 (.inl rfl)
theorem q_X5_findCollar_20 {call : CALL} {L X : Nat} {I : Nat → Nat → Int32} {J : Nat → Nat → Int64} {x1 : Int32} {u2 : Option Value} : runI call iX5_findCollar (20, [some (.ref 56), some (.int x1), u2], [], (mm L X I J)) = if (nI 10) ≤ x1 then some (.inl none, (mm L X (up2 I 56 8 (nI 1)) J)) else runI call iX5_findCollar (30, [some (.ref 56), some (.int x1), some (.int (x1 + (nI 1)))], [], (mm L X I J)) := by
  refine Eq.trans (st1 dX5_findCollar_20 rfl rfl) ?_
  refine Eq.trans (xbipush dX5_findCollar_21 cb_10) ?_
  refine Eq.trans (ic_ge (tgt := 66) dX5_findCollar_23 (by decide +kernel)) (ite_cong (fun _ => ?_) (fun _ => ?_))
  · refine Eq.trans (st1 dX5_findCollar_66 rfl rfl) ?_
    refine Eq.trans (xiconst dX5_findCollar_67 ci_1) ?_
    refine Eq.trans (putBm dX5_findCollar_68 cp_5_50 ka_56 rfl (.inr rfl)) ?_
    exact ret3 dX5_findCollar_71 (.inl rfl)
  · refine Eq.trans (st1 dX5_findCollar_26 rfl rfl) ?_
    refine Eq.trans (xiconst dX5_findCollar_27 ci_1) ?_
    refine Eq.trans (st1 dX5_findCollar_28 rfl rfl) ?_
    refine Eq.trans (st1 dX5_findCollar_29 rfl rfl) ?_
    rfl
theorem q_X5_findCollar_30 {call : CALL} {L X : Nat} {I : Nat → Nat → Int32} {J : Nat → Nat → Int64} {x1 : Int32} {x2 : Int32} : runI call iX5_findCollar (30, [some (.ref 56), some (.int x1), some (.int x2)], [], (mm L X I J)) = if (nI 10) ≤ x2 then runI call iX5_findCollar (20, [some (.ref 56), some (.int (x1 + (nI 1))), some (.int x2)], [], (mm L X I J)) else bnd (call nX1_joins [.ref 3, .int x1, .int x2] (mm L X I J)) (fun v m' => runI call iX5_findCollar (45, [some (.ref 56), some (.int x1), some (.int x2)], v.toList ++ [], m')) := by
  refine Eq.trans (st1 dX5_findCollar_30 rfl rfl) ?_
  refine Eq.trans (xbipush dX5_findCollar_31 cb_10) ?_
  refine Eq.trans (ic_ge (tgt := 60) dX5_findCollar_33 (by decide +kernel)) (ite_cong (fun _ => ?_) (fun _ => ?_))
  · refine Eq.trans (xinc2 dX5_findCollar_60 ci_1 rfl (Nat.le_of_ble_eq_true rfl) rfl) ?_
    refine Eq.trans (go_to (tgt := 20) dX5_findCollar_63 (by decide +kernel)) ?_
    rfl
  · refine Eq.trans (st1 dX5_findCollar_36 rfl rfl) ?_
    refine Eq.trans (getRm dX5_findCollar_37 cp_5_38 ka_56 rfl r_56_0) ?_
    refine Eq.trans (st1 dX5_findCollar_40 rfl rfl) ?_
    refine Eq.trans (st1 dX5_findCollar_41 rfl rfl) ?_
    exact iv0 dX5_findCollar_42 rfl cp_5_118 rfl rfl (kd_ka ka_3) ka_3.1 (Nat.le_of_ble_eq_true rfl)
theorem q_X5_findCollar_45 {call : CALL} {L X : Nat} {I : Nat → Nat → Int32} {J : Nat → Nat → Int64} {x1 : Int32} {x2 : Int32} {s0 : Int32} : runI call iX5_findCollar (45, [some (.ref 56), some (.int x1), some (.int x2)], [.int s0], (mm L X I J)) = if s0 = (nI 0) then bnd (call nX5_tryCollar [.ref 56, .int x1, .int x2] (mm L X I J)) (fun v m' => runI call iX5_findCollar (54, [some (.ref 56), some (.int x1), some (.int x2)], v.toList ++ [], m')) else runI call iX5_findCollar (54, [some (.ref 56), some (.int x1), some (.int x2)], [], (mm L X I J)) := by
  refine Eq.trans (if_ne (tgt := 54) dX5_findCollar_45 (by decide +kernel)) (ite_cong (fun _ => ?_) (fun _ => ?_))
  · refine Eq.trans (st1 dX5_findCollar_48 rfl rfl) ?_
    refine Eq.trans (st1 dX5_findCollar_49 rfl rfl) ?_
    refine Eq.trans (st1 dX5_findCollar_50 rfl rfl) ?_
    exact iv0 dX5_findCollar_51 rfl cp_5_121 rfl rfl (kd_ka ka_56) ka_56.1 (Nat.le_of_ble_eq_true rfl)
  · rfl
theorem q_X5_findCollar_54 {call : CALL} {L X : Nat} {I : Nat → Nat → Int32} {J : Nat → Nat → Int64} {x1 : Int32} {x2 : Int32} : runI call iX5_findCollar (54, [some (.ref 56), some (.int x1), some (.int x2)], [], (mm L X I J)) = runI call iX5_findCollar (30, [some (.ref 56), some (.int x1), some (.int (x2 + (nI 1)))], [], (mm L X I J)) := by
  refine Eq.trans (xinc2 dX5_findCollar_54 ci_1 rfl (Nat.le_of_ble_eq_true rfl) rfl) ?_
  refine Eq.trans (go_to (tgt := 30) dX5_findCollar_57 (by decide +kernel)) ?_
  rfl
theorem q_X5_tryCollar_0 {call : CALL} {L X : Nat} {I : Nat → Nat → Int32} {J : Nat → Nat → Int64} {x1 : Int32} {x2 : Int32} : runI call iX5_tryCollar (0, [some (.ref 56), some (.int x1), some (.int x2), none], [], (mm L X I J)) = bnd (call nX1_join [.ref 3, .int x1, .int x2] (mm L X I J)) (fun v m' => runI call iX5_tryCollar (9, [some (.ref 56), some (.int x1), some (.int x2), none], v.toList ++ [], m')) := by
  refine Eq.trans (st1 dX5_tryCollar_0 rfl rfl) ?_
  refine Eq.trans (getRm dX5_tryCollar_1 cp_5_38 ka_56 rfl r_56_0) ?_
  refine Eq.trans (st1 dX5_tryCollar_4 rfl rfl) ?_
  refine Eq.trans (st1 dX5_tryCollar_5 rfl rfl) ?_
  exact iv0 dX5_tryCollar_6 rfl cp_5_125 rfl rfl (kd_ka ka_3) ka_3.1 (Nat.le_of_ble_eq_true rfl)
theorem q_X5_tryCollar_9 {call : CALL} {L X : Nat} {I : Nat → Nat → Int32} {J : Nat → Nat → Int64} {x1 : Int32} {x2 : Int32} {u3 : Option Value} : runI call iX5_tryCollar (9, [some (.ref 56), some (.int x1), some (.int x2), u3], [], (mm L X I J)) = bnd (call nX5_longestNow [.ref 56] (mm L X I J)) (fun v m' => runI call iX5_tryCollar (13, [some (.ref 56), some (.int x1), some (.int x2), u3], v.toList ++ [], m')) := by
  refine Eq.trans (st1 dX5_tryCollar_9 rfl rfl) ?_
  exact iv0 dX5_tryCollar_10 rfl cp_5_56 rfl rfl (kd_ka ka_56) ka_56.1 (Nat.le_of_ble_eq_true rfl)
theorem q_X5_tryCollar_13 {call : CALL} {L X : Nat} {I : Nat → Nat → Int32} {J : Nat → Nat → Int64} {x1 : Int32} {x2 : Int32} {u3 : Option Value} {s0 : Int32} : runI call iX5_tryCollar (13, [some (.ref 56), some (.int x1), some (.int x2), u3], [.int s0], (mm L X I J)) = bnd (call nX1_part [.ref 3, .int x1, .int x2] (mm L X I J)) (fun v m' => runI call iX5_tryCollar (23, [some (.ref 56), some (.int x1), some (.int x2), some (.int s0)], v.toList ++ [], m')) := by
  refine Eq.trans (st1 dX5_tryCollar_13 rfl rfl) ?_
  refine Eq.trans (st1 dX5_tryCollar_14 rfl rfl) ?_
  refine Eq.trans (getRm dX5_tryCollar_15 cp_5_38 ka_56 rfl r_56_0) ?_
  refine Eq.trans (st1 dX5_tryCollar_18 rfl rfl) ?_
  refine Eq.trans (st1 dX5_tryCollar_19 rfl rfl) ?_
  exact iv0 dX5_tryCollar_20 rfl cp_5_128 rfl rfl (kd_ka ka_3) ka_3.1 (Nat.le_of_ble_eq_true rfl)
theorem q_X5_tryCollar_23 {call : CALL} {L X : Nat} {I : Nat → Nat → Int32} {J : Nat → Nat → Int64} {x1 : Int32} {x2 : Int32} {x3 : Int32} : runI call iX5_tryCollar (23, [some (.ref 56), some (.int x1), some (.int x2), some (.int x3)], [], (mm L X I J)) = if x3 ≤ (I 56 9) then some (.inl none, (mm L X I J)) else some (.inl none, (mm L X (up2 (up2 I 56 9 x3) 56 10 (((nI 10) * x1) + x2)) J)) := by
  refine Eq.trans (st1 dX5_tryCollar_23 rfl rfl) ?_
  refine Eq.trans (st1 dX5_tryCollar_24 rfl rfl) ?_
  refine Eq.trans (getIm dX5_tryCollar_25 cp_5_112 ka_56 (.inl rfl)) ?_
  refine Eq.trans (ic_le (tgt := 46) dX5_tryCollar_28 (by decide +kernel)) (ite_cong (fun _ => ?_) (fun _ => ?_))
  · exact ret3 dX5_tryCollar_46 (.inl rfl)
  · refine Eq.trans (st1 dX5_tryCollar_31 rfl rfl) ?_
    refine Eq.trans (st1 dX5_tryCollar_32 rfl rfl) ?_
    refine Eq.trans (putIm dX5_tryCollar_33 cp_5_112 ka_56 rfl) ?_
    refine Eq.trans (st1 dX5_tryCollar_36 rfl rfl) ?_
    refine Eq.trans (xbipush dX5_tryCollar_37 cb_10) ?_
    refine Eq.trans (st1 dX5_tryCollar_39 rfl rfl) ?_
    refine Eq.trans (st1 dX5_tryCollar_40 rfl rfl) ?_
    refine Eq.trans (st1 dX5_tryCollar_41 rfl rfl) ?_
    refine Eq.trans (st1 dX5_tryCollar_42 rfl rfl) ?_
    refine Eq.trans (putIm dX5_tryCollar_43 cp_5_115 ka_56 rfl) ?_
    exact ret3 dX5_tryCollar_46 (.inl rfl)
theorem q_X6_findRests_0 {call : CALL} {L X : Nat} {I : Nat → Nat → Int32} {J : Nat → Nat → Int64} {a1 : Nat} {x2 : Int32} (h1 : oc3 a1) : runI call iX6_findRests (0, [some (.ref 64), some (.ref a1), some (.int x2), none, none], [], (mm L X I J)) = runI call iX6_findRests (23, [some (.ref 64), some (.ref a1), some (.int x2), none, none], [], (mm L X (up2 (up2 (up2 (up2 I 64 2 (I a1 5)) 64 3 x2) 64 4 (nI 0)) 64 5 (-1 : Int32)) J)) := by
  refine Eq.trans (st1 dX6_findRests_0 rfl rfl) ?_
  refine Eq.trans (st1 dX6_findRests_1 rfl rfl) ?_
  refine Eq.trans (getIm dX6_findRests_2 cp_6_19 (ks3_0 h1) (.inl rfl)) ?_
  refine Eq.trans (putIm dX6_findRests_5 cp_6_25 ka_64 rfl) ?_
  refine Eq.trans (st1 dX6_findRests_8 rfl rfl) ?_
  refine Eq.trans (st1 dX6_findRests_9 rfl rfl) ?_
  refine Eq.trans (putIm dX6_findRests_10 cp_6_28 ka_64 rfl) ?_
  refine Eq.trans (st1 dX6_findRests_13 rfl rfl) ?_
  refine Eq.trans (xiconst dX6_findRests_14 ci_0) ?_
  refine Eq.trans (putIm dX6_findRests_15 cp_6_31 ka_64 rfl) ?_
  refine Eq.trans (st1 dX6_findRests_18 rfl rfl) ?_
  refine Eq.trans (xiconst dX6_findRests_19 ci_m1) ?_
  refine Eq.trans (putIm dX6_findRests_20 cp_6_34 ka_64 rfl) ?_
  rfl
theorem q_X6_findRests_23 {call : CALL} {L X : Nat} {I : Nat → Nat → Int32} {J : Nat → Nat → Int64} {a1 : Nat} {u2 : Option Value} {u3 : Option Value} {u4 : Option Value} (h1 : oc3 a1) : runI call iX6_findRests (23, [some (.ref 64), some (.ref a1), u2, u3, u4], [], (mm L X I J)) = bnd (call nX6_fillArrives [.ref 64, .ref a1] (mm L X I J)) (fun v m' => runI call iX6_findRests (28, [some (.ref 64), some (.ref a1), u2, u3, u4], v.toList ++ [], m')) := by
  refine Eq.trans (st1 dX6_findRests_23 rfl rfl) ?_
  refine Eq.trans (st1 dX6_findRests_24 rfl rfl) ?_
  exact iv0 dX6_findRests_25 rfl cp_6_37 rfl rfl (kd_ka ka_64) ka_64.1 (Nat.le_of_ble_eq_true rfl)
theorem q_X6_findRests_28 {call : CALL} {L X : Nat} {I : Nat → Nat → Int32} {J : Nat → Nat → Int64} {a1 : Nat} {u2 : Option Value} {u3 : Option Value} {u4 : Option Value} (h1 : oc3 a1) (hu2 : okv u2 = true) : runI call iX6_findRests (28, [some (.ref 64), some (.ref a1), u2, u3, u4], [], (mm L X I J)) = runI call iX6_findRests (30, [some (.ref 64), some (.ref a1), u2, some (.int (nI 0)), u4], [], (mm L X I J)) := by
  refine Eq.trans (xiconst dX6_findRests_28 ci_0) ?_
  refine Eq.trans (xst1 (k := 3) dX6_findRests_29 hu2 rfl) ?_
  rfl
theorem q_X6_findRests_30 {call : CALL} {L X : Nat} {I : Nat → Nat → Int32} {J : Nat → Nat → Int64} {a1 : Nat} {u2 : Option Value} {x3 : Int32} {u4 : Option Value} (h1 : oc3 a1) : runI call iX6_findRests (30, [some (.ref 64), some (.ref a1), u2, some (.int x3), u4], [], (mm L X I J)) = if (I 64 2) < x3 then some (.inl none, (mm L X I J)) else runI call iX6_findRests (41, [some (.ref 64), some (.ref a1), u2, some (.int x3), some (.int (nI 0))], [], (mm L X I J)) := by
  refine Eq.trans (st1 dX6_findRests_30 rfl rfl) ?_
  refine Eq.trans (st1 dX6_findRests_31 rfl rfl) ?_
  refine Eq.trans (getIm dX6_findRests_32 cp_6_25 ka_64 (.inl rfl)) ?_
  refine Eq.trans (ic_gt (tgt := 90) dX6_findRests_35 (by decide +kernel)) (ite_cong (fun _ => ?_) (fun _ => ?_))
  · exact ret3 dX6_findRests_90 (.inl rfl)
  · refine Eq.trans (xiconst dX6_findRests_38 ci_0) ?_
    refine Eq.trans (st1 dX6_findRests_39 rfl rfl) ?_
    rfl
theorem q_X6_findRests_41 {call : CALL} {L X : Nat} {I : Nat → Nat → Int32} {J : Nat → Nat → Int64} {a1 : Nat} {u2 : Option Value} {x3 : Int32} {x4 : Int32} (h1 : oc3 a1) (hu2 : okv u2 = true) : runI call iX6_findRests (41, [some (.ref 64), some (.ref a1), u2, some (.int x3), some (.int x4)], [], (mm L X I J)) = if (I 64 2) < x4 then runI call iX6_findRests (30, [some (.ref 64), some (.ref a1), u2, some (.int (x3 + (nI 1))), some (.int x4)], [], (mm L X I J)) else bnd (call nX6_canTake [.ref 64, .ref a1, .int x4] (mm L X I J)) (fun v m' => runI call iX6_findRests (57, [some (.ref 64), some (.ref a1), u2, some (.int x3), some (.int x4)], v.toList ++ [], m')) := by
  refine Eq.trans (st1 dX6_findRests_41 rfl rfl) ?_
  refine Eq.trans (st1 dX6_findRests_43 rfl rfl) ?_
  refine Eq.trans (getIm dX6_findRests_44 cp_6_25 ka_64 (.inl rfl)) ?_
  refine Eq.trans (ic_gt (tgt := 84) dX6_findRests_47 (by decide +kernel)) (ite_cong (fun _ => ?_) (fun _ => ?_))
  · refine Eq.trans (xinc2 dX6_findRests_84 ci_1 rfl (Nat.le_of_ble_eq_true rfl) hu2) ?_
    refine Eq.trans (go_to (tgt := 30) dX6_findRests_87 (by decide +kernel)) ?_
    rfl
  · refine Eq.trans (st1 dX6_findRests_50 rfl rfl) ?_
    refine Eq.trans (st1 dX6_findRests_51 rfl rfl) ?_
    refine Eq.trans (st1 dX6_findRests_52 rfl rfl) ?_
    exact iv0 dX6_findRests_54 rfl cp_6_41 rfl rfl (kd_ka ka_64) ka_64.1 (Nat.le_of_ble_eq_true rfl)
theorem q_X6_findRests_57 {call : CALL} {L X : Nat} {I : Nat → Nat → Int32} {J : Nat → Nat → Int64} {a1 : Nat} {u2 : Option Value} {x3 : Int32} {x4 : Int32} {s0 : Int32} (h1 : oc3 a1) : runI call iX6_findRests (57, [some (.ref 64), some (.ref a1), u2, some (.int x3), some (.int x4)], [.int s0], (mm L X I J)) = if s0 = (nI 0) then runI call iX6_findRests (78, [some (.ref 64), some (.ref a1), u2, some (.int x3), some (.int x4)], [], (mm L X I J)) else bnd (call nX6_isRest [.ref 64, .ref a1, .int x3, .int x4] (mm L X I J)) (fun v m' => runI call iX6_findRests (68, [some (.ref 64), some (.ref a1), u2, some (.int x3), some (.int x4)], v.toList ++ [], m')) := by
  refine Eq.trans (if_eq (tgt := 78) dX6_findRests_57 (by decide +kernel)) (ite_cong (fun _ => ?_) (fun _ => ?_))
  · rfl
  · refine Eq.trans (st1 dX6_findRests_60 rfl rfl) ?_
    refine Eq.trans (st1 dX6_findRests_61 rfl rfl) ?_
    refine Eq.trans (st1 dX6_findRests_62 rfl rfl) ?_
    refine Eq.trans (st1 dX6_findRests_63 rfl rfl) ?_
    exact iv0 dX6_findRests_65 rfl cp_6_45 rfl rfl (kd_ka ka_64) ka_64.1 (Nat.le_of_ble_eq_true rfl)
theorem q_X6_findRests_78 {call : CALL} {L X : Nat} {I : Nat → Nat → Int32} {J : Nat → Nat → Int64} {a1 : Nat} {u2 : Option Value} {x3 : Int32} {x4 : Int32} (h1 : oc3 a1) : runI call iX6_findRests (78, [some (.ref 64), some (.ref a1), u2, some (.int x3), some (.int x4)], [], (mm L X I J)) = runI call iX6_findRests (41, [some (.ref 64), some (.ref a1), u2, some (.int x3), some (.int (x4 + (nI 1)))], [], (mm L X I J)) := by
  refine Eq.trans (xinc2 dX6_findRests_78 ci_1 rfl (Nat.le_of_ble_eq_true rfl) rfl) ?_
  refine Eq.trans (go_to (tgt := 41) dX6_findRests_81 (by decide +kernel)) ?_
  rfl
theorem q_X6_findRests_68 {call : CALL} {L X : Nat} {I : Nat → Nat → Int32} {J : Nat → Nat → Int64} {a1 : Nat} {u2 : Option Value} {x3 : Int32} {x4 : Int32} {s0 : Int32} (h1 : oc3 a1) : runI call iX6_findRests (68, [some (.ref 64), some (.ref a1), u2, some (.int x3), some (.int x4)], [.int s0], (mm L X I J)) = if s0 = (nI 0) then runI call iX6_findRests (78, [some (.ref 64), some (.ref a1), u2, some (.int x3), some (.int x4)], [], (mm L X I J)) else bnd (call nX6_noteRest [.ref 64, .int x3, .int x4] (mm L X I J)) (fun v m' => runI call iX6_findRests (78, [some (.ref 64), some (.ref a1), u2, some (.int x3), some (.int x4)], v.toList ++ [], m')) := by
  refine Eq.trans (if_eq (tgt := 78) dX6_findRests_68 (by decide +kernel)) (ite_cong (fun _ => ?_) (fun _ => ?_))
  · rfl
  · refine Eq.trans (st1 dX6_findRests_71 rfl rfl) ?_
    refine Eq.trans (st1 dX6_findRests_72 rfl rfl) ?_
    refine Eq.trans (st1 dX6_findRests_73 rfl rfl) ?_
    exact iv0 dX6_findRests_75 rfl cp_6_49 rfl rfl (kd_ka ka_64) ka_64.1 (Nat.le_of_ble_eq_true rfl)
theorem q_X6_fillArrives_0 {call : CALL} {L X : Nat} {I : Nat → Nat → Int32} {J : Nat → Nat → Int64} {a1 : Nat} (h1 : oc3 a1) : runI call iX6_fillArrives (0, [some (.ref 64), some (.ref a1), none, none], [], (mm L X I J)) = runI call iX6_fillArrives (2, [some (.ref 64), some (.ref a1), some (.int (nI 0)), none], [], (mm L X I J)) := by
  refine Eq.trans (xiconst dX6_fillArrives_0 ci_0) ?_
  refine Eq.trans (st1 dX6_fillArrives_1 rfl rfl) ?_
  rfl
theorem q_X6_fillArrives_2 {call : CALL} {L X : Nat} {I : Nat → Nat → Int32} {J : Nat → Nat → Int64} {a1 : Nat} {x2 : Int32} {u3 : Option Value} (h1 : oc3 a1) : runI call iX6_fillArrives (2, [some (.ref 64), some (.ref a1), some (.int x2), u3], [], (mm L X I J)) = if (I 64 2) < x2 then some (.inl none, (mm L X I J)) else runI call iX6_fillArrives (12, [some (.ref 64), some (.ref a1), some (.int x2), some (.int (nI 0))], [], (mm L X I J)) := by
  refine Eq.trans (st1 dX6_fillArrives_2 rfl rfl) ?_
  refine Eq.trans (st1 dX6_fillArrives_3 rfl rfl) ?_
  refine Eq.trans (getIm dX6_fillArrives_4 cp_6_25 ka_64 (.inl rfl)) ?_
  refine Eq.trans (ic_gt (tgt := 90) dX6_fillArrives_7 (by decide +kernel)) (ite_cong (fun _ => ?_) (fun _ => ?_))
  · exact ret3 dX6_fillArrives_90 (.inl rfl)
  · refine Eq.trans (xiconst dX6_fillArrives_10 ci_0) ?_
    refine Eq.trans (st1 dX6_fillArrives_11 rfl rfl) ?_
    rfl
theorem q_X6_fillArrives_12 {call : CALL} {L X : Nat} {I : Nat → Nat → Int32} {J : Nat → Nat → Int64} {a1 : Nat} {x2 : Int32} {x3 : Int32} (h1 : oc3 a1) : runI call iX6_fillArrives (12, [some (.ref 64), some (.ref a1), some (.int x2), some (.int x3)], [], (mm L X I J)) = if (I 64 2) < x3 then runI call iX6_fillArrives (2, [some (.ref 64), some (.ref a1), some (.int (x2 + (nI 1))), some (.int x3)], [], (mm L X I J)) else bnd (call nX6_canTake [.ref 64, .ref a1, .int x3] (mm L X I J)) (fun v m' => runI call iX6_fillArrives (26, [some (.ref 64), some (.ref a1), some (.int x2), some (.int x3)], v.toList ++ [], m')) := by
  refine Eq.trans (st1 dX6_fillArrives_12 rfl rfl) ?_
  refine Eq.trans (st1 dX6_fillArrives_13 rfl rfl) ?_
  refine Eq.trans (getIm dX6_fillArrives_14 cp_6_25 ka_64 (.inl rfl)) ?_
  refine Eq.trans (ic_gt (tgt := 84) dX6_fillArrives_17 (by decide +kernel)) (ite_cong (fun _ => ?_) (fun _ => ?_))
  · refine Eq.trans (xinc2 dX6_fillArrives_84 ci_1 rfl (Nat.le_of_ble_eq_true rfl) rfl) ?_
    refine Eq.trans (go_to (tgt := 2) dX6_fillArrives_87 (by decide +kernel)) ?_
    rfl
  · refine Eq.trans (st1 dX6_fillArrives_20 rfl rfl) ?_
    refine Eq.trans (st1 dX6_fillArrives_21 rfl rfl) ?_
    refine Eq.trans (st1 dX6_fillArrives_22 rfl rfl) ?_
    exact iv0 dX6_fillArrives_23 rfl cp_6_41 rfl rfl (kd_ka ka_64) ka_64.1 (Nat.le_of_ble_eq_true rfl)
theorem q_X6_fillArrives_26 {call : CALL} {L X : Nat} {I : Nat → Nat → Int32} {J : Nat → Nat → Int64} {a1 : Nat} {x2 : Int32} {x3 : Int32} {s0 : Int32} (h1 : oc3 a1) : runI call iX6_fillArrives (26, [some (.ref 64), some (.ref a1), some (.int x2), some (.int x3)], [.int s0], (mm L X I J)) = if s0 = (nI 0) then runI call iX6_fillArrives (78, [some (.ref 64), some (.ref a1), some (.int x2), some (.int x3)], [], (mm L X I J)) else bnd (call nX6_bendMore [.ref 64, .int x2, .int (nI 1)] (mm L X I J)) (fun v m' => runI call iX6_fillArrives (35, [some (.ref 64), some (.ref a1), some (.int x2), some (.int x3)], v.toList ++ [], m')) := by
  refine Eq.trans (if_eq (tgt := 78) dX6_fillArrives_26 (by decide +kernel)) (ite_cong (fun _ => ?_) (fun _ => ?_))
  · rfl
  · refine Eq.trans (st1 dX6_fillArrives_29 rfl rfl) ?_
    refine Eq.trans (st1 dX6_fillArrives_30 rfl rfl) ?_
    refine Eq.trans (xiconst dX6_fillArrives_31 ci_1) ?_
    exact iv0 dX6_fillArrives_32 rfl cp_6_53 rfl rfl (kd_ka ka_64) ka_64.1 (Nat.le_of_ble_eq_true rfl)
theorem q_X6_fillArrives_78 {call : CALL} {L X : Nat} {I : Nat → Nat → Int32} {J : Nat → Nat → Int64} {a1 : Nat} {x2 : Int32} {x3 : Int32} (h1 : oc3 a1) : runI call iX6_fillArrives (78, [some (.ref 64), some (.ref a1), some (.int x2), some (.int x3)], [], (mm L X I J)) = runI call iX6_fillArrives (12, [some (.ref 64), some (.ref a1), some (.int x2), some (.int (x3 + (nI 1)))], [], (mm L X I J)) := by
  refine Eq.trans (xinc2 dX6_fillArrives_78 ci_1 rfl (Nat.le_of_ble_eq_true rfl) rfl) ?_
  refine Eq.trans (go_to (tgt := 12) dX6_fillArrives_81 (by decide +kernel)) ?_
  rfl
theorem q_X6_fillArrives_35 {call : CALL} {L X : Nat} {I : Nat → Nat → Int32} {J : Nat → Nat → Int64} {a1 : Nat} {x2 : Int32} {x3 : Int32} (h1 : oc3 a1) : runI call iX6_fillArrives (35, [some (.ref 64), some (.ref a1), some (.int x2), some (.int x3)], [], (mm L X I J)) = bnd (call nX6_bendMore [.ref 64, .int x3, .int (-1 : Int32)] (mm L X I J)) (fun v m' => runI call iX6_fillArrives (41, [some (.ref 64), some (.ref a1), some (.int x2), some (.int x3)], v.toList ++ [], m')) := by
  refine Eq.trans (st1 dX6_fillArrives_35 rfl rfl) ?_
  refine Eq.trans (st1 dX6_fillArrives_36 rfl rfl) ?_
  refine Eq.trans (xiconst dX6_fillArrives_37 ci_m1) ?_
  exact iv0 dX6_fillArrives_38 rfl cp_6_53 rfl rfl (kd_ka ka_64) ka_64.1 (Nat.le_of_ble_eq_true rfl)
theorem q_X6_fillArrives_41 {call : CALL} {L X : Nat} {I : Nat → Nat → Int32} {J : Nat → Nat → Int64} {a1 : Nat} {x2 : Int32} {x3 : Int32} (h1 : oc3 a1) : runI call iX6_fillArrives (41, [some (.ref 64), some (.ref a1), some (.int x2), some (.int x3)], [], (mm L X I J)) = bnd (call nX8_arriving [.ref 52, .ref a1, .int (I a1 7)] (mm L X I J)) (fun v m' => runI call iX6_fillArrives (63, [some (.ref 64), some (.ref a1), some (.int x2), some (.int x3)], v.toList ++ [.int ((x2 * (nI 7)) + x3), .ref 65], m')) := by
  refine Eq.trans (st1 dX6_fillArrives_41 rfl rfl) ?_
  refine Eq.trans (getRm dX6_fillArrives_42 cp_6_11 ka_64 rfl r_64_1) ?_
  refine Eq.trans (st1 dX6_fillArrives_45 rfl rfl) ?_
  refine Eq.trans (xbipush dX6_fillArrives_46 cb_7) ?_
  refine Eq.trans (st1 dX6_fillArrives_48 rfl rfl) ?_
  refine Eq.trans (st1 dX6_fillArrives_49 rfl rfl) ?_
  refine Eq.trans (st1 dX6_fillArrives_50 rfl rfl) ?_
  refine Eq.trans (st1 dX6_fillArrives_51 rfl rfl) ?_
  refine Eq.trans (getRm dX6_fillArrives_52 cp_6_15 ka_64 rfl r_64_0) ?_
  refine Eq.trans (st1 dX6_fillArrives_55 rfl rfl) ?_
  refine Eq.trans (st1 dX6_fillArrives_56 rfl rfl) ?_
  refine Eq.trans (getIm dX6_fillArrives_57 cp_6_56 (ks3_0 h1) (.inl rfl)) ?_
  exact iv0 dX6_fillArrives_60 rfl cp_6_59 rfl rfl (kd_ka ka_52) ka_52.1 (Nat.le_of_ble_eq_true rfl)
theorem q_X6_fillArrives_63 {call : CALL} {L X : Nat} {I : Nat → Nat → Int32} {J : Nat → Nat → Int64} {a1 : Nat} {x2 : Int32} {x3 : Int32} {s1 : Int32} {s2 : Int32} (h1 : oc3 a1) : runI call iX6_fillArrives (63, [some (.ref 64), some (.ref a1), some (.int x2), some (.int x3)], [.int s2, .int s1, .ref 65], (mm L X I J)) = bndN (call nX11_put [.ref 65, .int s1, .int s2] (mm L X I J)) (fun v m' => runI call iX6_fillArrives (66, [some (.ref 64), some (.ref a1), some (.int x2), some (.int x3)], v.toList ++ [], m')) := by
  exact is3 dX6_fillArrives_63 cp_6_65 (Nat.le_of_ble_eq_true rfl) rfl rfl (Nat.le_of_ble_eq_true rfl)
theorem q_X6_fillArrives_66 {call : CALL} {L X : Nat} {I : Nat → Nat → Int32} {J : Nat → Nat → Int64} {a1 : Nat} {x2 : Int32} {x3 : Int32} (h1 : oc3 a1) : runI call iX6_fillArrives (66, [some (.ref 64), some (.ref a1), some (.int x2), some (.int x3)], [], (mm L X I J)) = bnd (call nX6_bendMore [.ref 64, .int x2, .int (-1 : Int32)] (mm L X I J)) (fun v m' => runI call iX6_fillArrives (72, [some (.ref 64), some (.ref a1), some (.int x2), some (.int x3)], v.toList ++ [], m')) := by
  refine Eq.trans (st1 dX6_fillArrives_66 rfl rfl) ?_
  refine Eq.trans (st1 dX6_fillArrives_67 rfl rfl) ?_
  refine Eq.trans (xiconst dX6_fillArrives_68 ci_m1) ?_
  exact iv0 dX6_fillArrives_69 rfl cp_6_53 rfl rfl (kd_ka ka_64) ka_64.1 (Nat.le_of_ble_eq_true rfl)
theorem q_X6_fillArrives_72 {call : CALL} {L X : Nat} {I : Nat → Nat → Int32} {J : Nat → Nat → Int64} {a1 : Nat} {x2 : Int32} {x3 : Int32} (h1 : oc3 a1) : runI call iX6_fillArrives (72, [some (.ref 64), some (.ref a1), some (.int x2), some (.int x3)], [], (mm L X I J)) = bnd (call nX6_bendMore [.ref 64, .int x3, .int (nI 1)] (mm L X I J)) (fun v m' => runI call iX6_fillArrives (78, [some (.ref 64), some (.ref a1), some (.int x2), some (.int x3)], v.toList ++ [], m')) := by
  refine Eq.trans (st1 dX6_fillArrives_72 rfl rfl) ?_
  refine Eq.trans (st1 dX6_fillArrives_73 rfl rfl) ?_
  refine Eq.trans (xiconst dX6_fillArrives_74 ci_1) ?_
  exact iv0 dX6_fillArrives_75 rfl cp_6_53 rfl rfl (kd_ka ka_64) ka_64.1 (Nat.le_of_ble_eq_true rfl)
theorem q_X6_canTake_0 {call : CALL} {L X : Nat} {I : Nat → Nat → Int32} {J : Nat → Nat → Int64} {a1 : Nat} {x2 : Int32} (h1 : oc3 a1) : runI call iX6_canTake (0, [some (.ref 64), some (.ref a1), some (.int x2)], [], (mm L X I J)) = if x2 = (I 64 2) then some (.inl (some (.int (nI 1))), (mm L X I J)) else bndN (call nX11_pick [.ref (a1 + 1), .int x2] (mm L X I J)) (fun v m' => runI call iX6_canTake (20, [some (.ref 64), some (.ref a1), some (.int x2)], v.toList ++ [.ref (a1 + 2)], m')) := by
  refine Eq.trans (st1 dX6_canTake_0 rfl rfl) ?_
  refine Eq.trans (st1 dX6_canTake_1 rfl rfl) ?_
  refine Eq.trans (getIm dX6_canTake_2 cp_6_25 ka_64 (.inl rfl)) ?_
  refine Eq.trans (ic_eq (tgt := 26) dX6_canTake_5 (by decide +kernel)) (ite_cong (fun _ => ?_) (fun _ => ?_))
  · refine Eq.trans (xiconst dX6_canTake_26 ci_1) ?_
    refine Eq.trans (go_to (tgt := 31) dX6_canTake_27 (by decide +kernel)) ?_
    exact ret1 dX6_canTake_31 rfl (.inr rfl)
  · refine Eq.trans (st1 dX6_canTake_8 rfl rfl) ?_
    refine Eq.trans (getRm dX6_canTake_9 cp_6_76 (ks3_0 h1) rfl (rs3_1 h1)) ?_
    refine Eq.trans (st1 dX6_canTake_12 rfl rfl) ?_
    refine Eq.trans (getRm dX6_canTake_13 cp_6_79 (ks3_0 h1) rfl (rs3_0 h1)) ?_
    refine Eq.trans (st1 dX6_canTake_16 rfl rfl) ?_
    exact is3 dX6_canTake_17 cp_6_72 (Nat.le_of_ble_eq_true rfl) rfl rfl (Nat.le_of_ble_eq_true rfl)
theorem q_X6_canTake_20 {call : CALL} {L X : Nat} {I : Nat → Nat → Int32} {J : Nat → Nat → Int64} {u0 : Option Value} {u1 : Option Value} {u2 : Option Value} {a1 : Nat} {s1 : Int32} (h1 : oc3 a1) : runI call iX6_canTake (20, [u0, u1, u2], [.int s1, .ref (a1 + 2)], (mm L X I J)) = bndN (call nX11_pick [.ref (a1 + 2), .int s1] (mm L X I J)) (fun v m' => runI call iX6_canTake (23, [u0, u1, u2], v.toList ++ [], m')) := by
  exact is3 dX6_canTake_20 cp_6_72 (Nat.le_of_ble_eq_true rfl) rfl rfl (Nat.le_of_ble_eq_true rfl)
theorem q_X6_canTake_23 {call : CALL} {L X : Nat} {I : Nat → Nat → Int32} {J : Nat → Nat → Int64} {u0 : Option Value} {u1 : Option Value} {u2 : Option Value} {s0 : Int32} : runI call iX6_canTake (23, [u0, u1, u2], [.int s0], (mm L X I J)) = if s0 ≤ (nI 0) then some (.inl (some (.int (nI 0))), (mm L X I J)) else some (.inl (some (.int (nI 1))), (mm L X I J)) := by
  refine Eq.trans (if_le (tgt := 30) dX6_canTake_23 (by decide +kernel)) (ite_cong (fun _ => ?_) (fun _ => ?_))
  · refine Eq.trans (xiconst dX6_canTake_30 ci_0) ?_
    exact ret1 dX6_canTake_31 rfl (.inl rfl)
  · refine Eq.trans (xiconst dX6_canTake_26 ci_1) ?_
    refine Eq.trans (go_to (tgt := 31) dX6_canTake_27 (by decide +kernel)) ?_
    exact ret1 dX6_canTake_31 rfl (.inr rfl)
theorem q_X6_bendMore_0 {call : CALL} {L X : Nat} {I : Nat → Nat → Int32} {J : Nat → Nat → Int64} {x1 : Int32} {x2 : Int32} : runI call iX6_bendMore (0, [some (.ref 64), some (.int x1), some (.int x2)], [], (mm L X I J)) = bndN (call nX11_pick [.ref 54, .int x1] (mm L X I J)) (fun v m' => runI call iX6_bendMore (19, [some (.ref 64), some (.int x1), some (.int x2)], v.toList ++ [.int x1, .ref 54], m')) := by
  refine Eq.trans (st1 dX6_bendMore_0 rfl rfl) ?_
  refine Eq.trans (getRm dX6_bendMore_1 cp_6_15 ka_64 rfl r_64_0) ?_
  refine Eq.trans (getRm dX6_bendMore_4 cp_6_69 ka_52 rfl r_52_3) ?_
  refine Eq.trans (st1 dX6_bendMore_7 rfl rfl) ?_
  refine Eq.trans (st1 dX6_bendMore_8 rfl rfl) ?_
  refine Eq.trans (getRm dX6_bendMore_9 cp_6_15 ka_64 rfl r_64_0) ?_
  refine Eq.trans (getRm dX6_bendMore_12 cp_6_69 ka_52 rfl r_52_3) ?_
  refine Eq.trans (st1 dX6_bendMore_15 rfl rfl) ?_
  exact is3 dX6_bendMore_16 cp_6_72 (Nat.le_of_ble_eq_true rfl) rfl rfl (Nat.le_of_ble_eq_true rfl)
theorem q_X6_bendMore_19 {call : CALL} {L X : Nat} {I : Nat → Nat → Int32} {J : Nat → Nat → Int64} {u0 : Option Value} {u1 : Option Value} {x2 : Int32} {s1 : Int32} {s2 : Int32} : runI call iX6_bendMore (19, [u0, u1, some (.int x2)], [.int s2, .int s1, .ref 54], (mm L X I J)) = bndN (call nX11_put [.ref 54, .int s1, .int (s2 + x2)] (mm L X I J)) (fun v m' => runI call iX6_bendMore (24, [u0, u1, some (.int x2)], v.toList ++ [], m')) := by
  refine Eq.trans (st1 dX6_bendMore_19 rfl rfl) ?_
  refine Eq.trans (st1 dX6_bendMore_20 rfl rfl) ?_
  exact is3 dX6_bendMore_21 cp_6_65 (Nat.le_of_ble_eq_true rfl) rfl rfl (Nat.le_of_ble_eq_true rfl)
theorem q_X6_bendMore_24 {call : CALL} {L X : Nat} {I : Nat → Nat → Int32} {J : Nat → Nat → Int64} {u0 : Option Value} {u1 : Option Value} {u2 : Option Value} : runI call iX6_bendMore (24, [u0, u1, u2], [], (mm L X I J)) = some (.inl none, (mm L X I J)) := by
  exact ret3 dX6_bendMore_24 (.inl rfl)
theorem q_X6_isRest_0 {call : CALL} {L X : Nat} {I : Nat → Nat → Int32} {J : Nat → Nat → Int64} {a1 : Nat} {x2 : Int32} {x3 : Int32} (h1 : oc3 a1) : runI call iX6_isRest (0, [some (.ref 64), some (.ref a1), some (.int x2), some (.int x3), none], [], (mm L X I J)) = runI call iX6_isRest (3, [some (.ref 64), some (.ref a1), some (.int x2), some (.int x3), some (.int (nI 0))], [], (mm L X I J)) := by
  refine Eq.trans (xiconst dX6_isRest_0 ci_0) ?_
  refine Eq.trans (st1 dX6_isRest_1 rfl rfl) ?_
  rfl
theorem q_X6_isRest_3 {call : CALL} {L X : Nat} {I : Nat → Nat → Int32} {J : Nat → Nat → Int64} {a1 : Nat} {x2 : Int32} {x3 : Int32} {x4 : Int32} (h1 : oc3 a1) : runI call iX6_isRest (3, [some (.ref 64), some (.ref a1), some (.int x2), some (.int x3), some (.int x4)], [], (mm L X I J)) = if (I 64 2) < x4 then some (.inl (some (.int (nI 1))), (mm L X I J)) else bnd (call nX6_streetHas [.ref 64, .int x4, .int x3] (mm L X I J)) (fun v m' => runI call iX6_isRest (19, [some (.ref 64), some (.ref a1), some (.int x2), some (.int x3), some (.int x4)], v.toList ++ [], m')) := by
  refine Eq.trans (st1 dX6_isRest_3 rfl rfl) ?_
  refine Eq.trans (st1 dX6_isRest_5 rfl rfl) ?_
  refine Eq.trans (getIm dX6_isRest_6 cp_6_25 ka_64 (.inl rfl)) ?_
  refine Eq.trans (ic_gt (tgt := 64) dX6_isRest_9 (by decide +kernel)) (ite_cong (fun _ => ?_) (fun _ => ?_))
  · refine Eq.trans (xiconst dX6_isRest_64 ci_1) ?_
    exact ret1 dX6_isRest_65 rfl (.inr rfl)
  · refine Eq.trans (st1 dX6_isRest_12 rfl rfl) ?_
    refine Eq.trans (st1 dX6_isRest_13 rfl rfl) ?_
    refine Eq.trans (st1 dX6_isRest_15 rfl rfl) ?_
    exact iv0 dX6_isRest_16 rfl cp_6_82 rfl rfl (kd_ka ka_64) ka_64.1 (Nat.le_of_ble_eq_true rfl)
theorem q_X6_isRest_19 {call : CALL} {L X : Nat} {I : Nat → Nat → Int32} {J : Nat → Nat → Int64} {a1 : Nat} {x2 : Int32} {x3 : Int32} {x4 : Int32} {s0 : Int32} (h1 : oc3 a1) : runI call iX6_isRest (19, [some (.ref 64), some (.ref a1), some (.int x2), some (.int x3), some (.int x4)], [.int s0], (mm L X I J)) = bnd (call nX6_streetHas [.ref 64, .int x2, .int x3] (mm L X I J)) (fun v m' => runI call iX6_isRest (25, [some (.ref 64), some (.ref a1), some (.int x2), some (.int x3), some (.int x4)], v.toList ++ [.int s0], m')) := by
  refine Eq.trans (st1 dX6_isRest_19 rfl rfl) ?_
  refine Eq.trans (st1 dX6_isRest_20 rfl rfl) ?_
  refine Eq.trans (st1 dX6_isRest_21 rfl rfl) ?_
  exact iv0 dX6_isRest_22 rfl cp_6_82 rfl rfl (kd_ka ka_64) ka_64.1 (Nat.le_of_ble_eq_true rfl)
theorem q_X6_isRest_25 {call : CALL} {L X : Nat} {I : Nat → Nat → Int32} {J : Nat → Nat → Int64} {a1 : Nat} {x2 : Int32} {x3 : Int32} {x4 : Int32} {s0 : Int32} {s1 : Int32} (h1 : oc3 a1) : runI call iX6_isRest (25, [some (.ref 64), some (.ref a1), some (.int x2), some (.int x3), some (.int x4)], [.int s1, .int s0], (mm L X I J)) = if s0 ≤ s1 then bnd (call nX6_canTake [.ref 64, .ref a1, .int x4] (mm L X I J)) (fun v m' => runI call iX6_isRest (37, [some (.ref 64), some (.ref a1), some (.int x2), some (.int x3), some (.int x4)], v.toList ++ [], m')) else some (.inl (some (.int (nI 0))), (mm L X I J)) := by
  refine Eq.trans (ic_le (tgt := 30) dX6_isRest_25 (by decide +kernel)) (ite_cong (fun _ => ?_) (fun _ => ?_))
  · refine Eq.trans (st1 dX6_isRest_30 rfl rfl) ?_
    refine Eq.trans (st1 dX6_isRest_31 rfl rfl) ?_
    refine Eq.trans (st1 dX6_isRest_32 rfl rfl) ?_
    exact iv0 dX6_isRest_34 rfl cp_6_41 rfl rfl (kd_ka ka_64) ka_64.1 (Nat.le_of_ble_eq_true rfl)
  · refine Eq.trans (xiconst dX6_isRest_28 ci_0) ?_
    exact ret1 dX6_isRest_29 rfl (.inl rfl)
theorem q_X6_isRest_37 {call : CALL} {L X : Nat} {I : Nat → Nat → Int32} {J : Nat → Nat → Int64} {a1 : Nat} {x2 : Int32} {x3 : Int32} {x4 : Int32} {s0 : Int32} (h1 : oc3 a1) : runI call iX6_isRest (37, [some (.ref 64), some (.ref a1), some (.int x2), some (.int x3), some (.int x4)], [.int s0], (mm L X I J)) = if s0 = (nI 0) then runI call iX6_isRest (58, [some (.ref 64), some (.ref a1), some (.int x2), some (.int x3), some (.int x4)], [], (mm L X I J)) else bnd (call nX6_houseHas [.ref 64, .int x2, .int x4] (mm L X I J)) (fun v m' => runI call iX6_isRest (47, [some (.ref 64), some (.ref a1), some (.int x2), some (.int x3), some (.int x4)], v.toList ++ [], m')) := by
  refine Eq.trans (if_eq (tgt := 58) dX6_isRest_37 (by decide +kernel)) (ite_cong (fun _ => ?_) (fun _ => ?_))
  · rfl
  · refine Eq.trans (st1 dX6_isRest_40 rfl rfl) ?_
    refine Eq.trans (st1 dX6_isRest_41 rfl rfl) ?_
    refine Eq.trans (st1 dX6_isRest_42 rfl rfl) ?_
    exact iv0 dX6_isRest_44 rfl cp_6_86 rfl rfl (kd_ka ka_64) ka_64.1 (Nat.le_of_ble_eq_true rfl)
theorem q_X6_isRest_58 {call : CALL} {L X : Nat} {I : Nat → Nat → Int32} {J : Nat → Nat → Int64} {a1 : Nat} {x2 : Int32} {x3 : Int32} {x4 : Int32} (h1 : oc3 a1) : runI call iX6_isRest (58, [some (.ref 64), some (.ref a1), some (.int x2), some (.int x3), some (.int x4)], [], (mm L X I J)) = runI call iX6_isRest (3, [some (.ref 64), some (.ref a1), some (.int x2), some (.int x3), some (.int (x4 + (nI 1)))], [], (mm L X I J)) := by
  refine Eq.trans (xinc2 dX6_isRest_58 ci_1 rfl (Nat.le_of_ble_eq_true rfl) rfl) ?_
  refine Eq.trans (go_to (tgt := 3) dX6_isRest_61 (by decide +kernel)) ?_
  rfl
theorem q_X6_isRest_47 {call : CALL} {L X : Nat} {I : Nat → Nat → Int32} {J : Nat → Nat → Int64} {a1 : Nat} {x2 : Int32} {x3 : Int32} {x4 : Int32} {s0 : Int32} (h1 : oc3 a1) : runI call iX6_isRest (47, [some (.ref 64), some (.ref a1), some (.int x2), some (.int x3), some (.int x4)], [.int s0], (mm L X I J)) = bnd (call nX6_houseHas [.ref 64, .int x2, .int x3] (mm L X I J)) (fun v m' => runI call iX6_isRest (53, [some (.ref 64), some (.ref a1), some (.int x2), some (.int x3), some (.int x4)], v.toList ++ [.int s0], m')) := by
  refine Eq.trans (st1 dX6_isRest_47 rfl rfl) ?_
  refine Eq.trans (st1 dX6_isRest_48 rfl rfl) ?_
  refine Eq.trans (st1 dX6_isRest_49 rfl rfl) ?_
  exact iv0 dX6_isRest_50 rfl cp_6_86 rfl rfl (kd_ka ka_64) ka_64.1 (Nat.le_of_ble_eq_true rfl)
theorem q_X6_isRest_53 {call : CALL} {L X : Nat} {I : Nat → Nat → Int32} {J : Nat → Nat → Int64} {a1 : Nat} {x2 : Int32} {x3 : Int32} {x4 : Int32} {s0 : Int32} {s1 : Int32} (h1 : oc3 a1) : runI call iX6_isRest (53, [some (.ref 64), some (.ref a1), some (.int x2), some (.int x3), some (.int x4)], [.int s1, .int s0], (mm L X I J)) = if s0 ≤ s1 then runI call iX6_isRest (58, [some (.ref 64), some (.ref a1), some (.int x2), some (.int x3), some (.int x4)], [], (mm L X I J)) else some (.inl (some (.int (nI 0))), (mm L X I J)) := by
  refine Eq.trans (ic_le (tgt := 58) dX6_isRest_53 (by decide +kernel)) (ite_cong (fun _ => ?_) (fun _ => ?_))
  · rfl
  · refine Eq.trans (xiconst dX6_isRest_56 ci_0) ?_
    exact ret1 dX6_isRest_57 rfl (.inl rfl)
theorem q_X6_streetHas_0 {call : CALL} {L X : Nat} {I : Nat → Nat → Int32} {J : Nat → Nat → Int64} {x1 : Int32} {x2 : Int32} : runI call iX6_streetHas (0, [some (.ref 64), some (.int x1), some (.int x2)], [], (mm L X I J)) = bndN (call nX11_pick [.ref 65, .int ((x1 * (nI 7)) + x2)] (mm L X I J)) (fun v m' => runI call iX6_streetHas (13, [some (.ref 64), some (.int x1), some (.int x2)], v.toList ++ [], m')) := by
  refine Eq.trans (st1 dX6_streetHas_0 rfl rfl) ?_
  refine Eq.trans (getRm dX6_streetHas_1 cp_6_11 ka_64 rfl r_64_1) ?_
  refine Eq.trans (st1 dX6_streetHas_4 rfl rfl) ?_
  refine Eq.trans (xbipush dX6_streetHas_5 cb_7) ?_
  refine Eq.trans (st1 dX6_streetHas_7 rfl rfl) ?_
  refine Eq.trans (st1 dX6_streetHas_8 rfl rfl) ?_
  refine Eq.trans (st1 dX6_streetHas_9 rfl rfl) ?_
  exact is3 dX6_streetHas_10 cp_6_72 (Nat.le_of_ble_eq_true rfl) rfl rfl (Nat.le_of_ble_eq_true rfl)
theorem q_X6_streetHas_13 {call : CALL} {L X : Nat} {I : Nat → Nat → Int32} {J : Nat → Nat → Int64} {x1 : Int32} {u2 : Option Value} {s0 : Int32} : runI call iX6_streetHas (13, [some (.ref 64), some (.int x1), u2], [.int s0], (mm L X I J)) = bnd (call nX6_paid [.ref 64, .int x1] (mm L X I J)) (fun v m' => runI call iX6_streetHas (19, [some (.ref 64), some (.int x1), u2], v.toList ++ [.int (-s0)], m')) := by
  refine Eq.trans (st1 dX6_streetHas_13 rfl rfl) ?_
  refine Eq.trans (st1 dX6_streetHas_14 rfl rfl) ?_
  refine Eq.trans (st1 dX6_streetHas_15 rfl rfl) ?_
  exact iv0 dX6_streetHas_16 rfl cp_6_89 rfl rfl (kd_ka ka_64) ka_64.1 (Nat.le_of_ble_eq_true rfl)
theorem q_X6_streetHas_19 {call : CALL} {L X : Nat} {I : Nat → Nat → Int32} {J : Nat → Nat → Int64} {u0 : Option Value} {u1 : Option Value} {u2 : Option Value} {s0 : Int32} {s1 : Int32} : runI call iX6_streetHas (19, [u0, u1, u2], [.int s1, .int s0], (mm L X I J)) = some (.inl (some (.int (s0 - s1))), (mm L X I J)) := by
  refine Eq.trans (st1 dX6_streetHas_19 rfl rfl) ?_
  exact ret0 dX6_streetHas_20 rfl
theorem q_X6_paid_0 {call : CALL} {L X : Nat} {I : Nat → Nat → Int32} {J : Nat → Nat → Int64} {x1 : Int32} : runI call iX6_paid (0, [some (.ref 64), some (.int x1)], [], (mm L X I J)) = if x1 = (I 64 2) then some (.inl (some (.int (nI 0))), (mm L X I J)) else some (.inl (some (.int (I 64 3))), (mm L X I J)) := by
  refine Eq.trans (st1 dX6_paid_0 rfl rfl) ?_
  refine Eq.trans (st1 dX6_paid_1 rfl rfl) ?_
  refine Eq.trans (getIm dX6_paid_2 cp_6_25 ka_64 (.inl rfl)) ?_
  refine Eq.trans (ic_ne (tgt := 12) dX6_paid_5 (by decide +kernel)) (ite_cong (fun _ => ?_) (fun _ => ?_))
  · refine Eq.trans (xiconst dX6_paid_8 ci_0) ?_
    refine Eq.trans (go_to (tgt := 16) dX6_paid_9 (by decide +kernel)) ?_
    exact ret0 dX6_paid_16 rfl
  · refine Eq.trans (st1 dX6_paid_12 rfl rfl) ?_
    refine Eq.trans (getIm dX6_paid_13 cp_6_28 ka_64 (.inl rfl)) ?_
    exact ret0 dX6_paid_16 rfl
theorem q_X6_houseHas_0 {call : CALL} {L X : Nat} {I : Nat → Nat → Int32} {J : Nat → Nat → Int64} {x1 : Int32} {x2 : Int32} : runI call iX6_houseHas (0, [some (.ref 64), some (.int x1), some (.int x2)], [], (mm L X I J)) = bndN (call nX11_pick [.ref 65, .int ((x1 * (nI 7)) + x2)] (mm L X I J)) (fun v m' => runI call iX6_houseHas (13, [some (.ref 64), some (.int x1), some (.int x2)], v.toList ++ [], m')) := by
  refine Eq.trans (st1 dX6_houseHas_0 rfl rfl) ?_
  refine Eq.trans (getRm dX6_houseHas_1 cp_6_11 ka_64 rfl r_64_1) ?_
  refine Eq.trans (st1 dX6_houseHas_4 rfl rfl) ?_
  refine Eq.trans (xbipush dX6_houseHas_5 cb_7) ?_
  refine Eq.trans (st1 dX6_houseHas_7 rfl rfl) ?_
  refine Eq.trans (st1 dX6_houseHas_8 rfl rfl) ?_
  refine Eq.trans (st1 dX6_houseHas_9 rfl rfl) ?_
  exact is3 dX6_houseHas_10 cp_6_72 (Nat.le_of_ble_eq_true rfl) rfl rfl (Nat.le_of_ble_eq_true rfl)
theorem q_X6_houseHas_13 {call : CALL} {L X : Nat} {I : Nat → Nat → Int32} {J : Nat → Nat → Int64} {u1 : Option Value} {x2 : Int32} {s0 : Int32} : runI call iX6_houseHas (13, [some (.ref 64), u1, some (.int x2)], [.int s0], (mm L X I J)) = bnd (call nX6_paid [.ref 64, .int x2] (mm L X I J)) (fun v m' => runI call iX6_houseHas (18, [some (.ref 64), u1, some (.int x2)], v.toList ++ [.int s0], m')) := by
  refine Eq.trans (st1 dX6_houseHas_13 rfl rfl) ?_
  refine Eq.trans (st1 dX6_houseHas_14 rfl rfl) ?_
  exact iv0 dX6_houseHas_15 rfl cp_6_89 rfl rfl (kd_ka ka_64) ka_64.1 (Nat.le_of_ble_eq_true rfl)
theorem q_X6_houseHas_18 {call : CALL} {L X : Nat} {I : Nat → Nat → Int32} {J : Nat → Nat → Int64} {u0 : Option Value} {u1 : Option Value} {u2 : Option Value} {s0 : Int32} {s1 : Int32} : runI call iX6_houseHas (18, [u0, u1, u2], [.int s1, .int s0], (mm L X I J)) = some (.inl (some (.int (s0 - s1))), (mm L X I J)) := by
  refine Eq.trans (st1 dX6_houseHas_18 rfl rfl) ?_
  exact ret0 dX6_houseHas_19 rfl
theorem q_X6_noteRest_0 {call : CALL} {L X : Nat} {I : Nat → Nat → Int32} {J : Nat → Nat → Int64} {x1 : Int32} {x2 : Int32} : runI call iX6_noteRest (0, [some (.ref 64), some (.int x1), some (.int x2)], [], (mm L X I J)) = if (I 64 4) = (nI 0) then bnd (call nX6_asTold [.ref 64, .int x1] (mm L X I J)) (fun v m' => runI call iX6_noteRest (15, [some (.ref 64), some (.int x1), some (.int x2)], v.toList ++ [.int (nI 10), .ref 64], m')) else runI call iX6_noteRest (40, [some (.ref 64), some (.int x1), some (.int x2)], [], (mm L X I J)) := by
  refine Eq.trans (st1 dX6_noteRest_0 rfl rfl) ?_
  refine Eq.trans (getIm dX6_noteRest_1 cp_6_31 ka_64 (.inl rfl)) ?_
  refine Eq.trans (if_ne (tgt := 40) dX6_noteRest_4 (by decide +kernel)) (ite_cong (fun _ => ?_) (fun _ => ?_))
  · refine Eq.trans (st1 dX6_noteRest_7 rfl rfl) ?_
    refine Eq.trans (xbipush dX6_noteRest_8 cb_10) ?_
    refine Eq.trans (st1 dX6_noteRest_10 rfl rfl) ?_
    refine Eq.trans (st1 dX6_noteRest_11 rfl rfl) ?_
    exact iv0 dX6_noteRest_12 rfl cp_6_93 rfl rfl (kd_ka ka_64) ka_64.1 (Nat.le_of_ble_eq_true rfl)
  · rfl
theorem q_X6_noteRest_40 {call : CALL} {L X : Nat} {I : Nat → Nat → Int32} {J : Nat → Nat → Int64} {u1 : Option Value} {u2 : Option Value} : runI call iX6_noteRest (40, [some (.ref 64), u1, u2], [], (mm L X I J)) = some (.inl none, (mm L X (up2 I 64 4 ((I 64 4) + (nI 1))) J)) := by
  refine Eq.trans (st1 dX6_noteRest_40 rfl rfl) ?_
  refine Eq.trans (st1 dX6_noteRest_41 rfl rfl) ?_
  refine Eq.trans (getIm dX6_noteRest_42 cp_6_31 ka_64 (.inl rfl)) ?_
  refine Eq.trans (xiconst dX6_noteRest_45 ci_1) ?_
  refine Eq.trans (st1 dX6_noteRest_46 rfl rfl) ?_
  refine Eq.trans (putIm dX6_noteRest_47 cp_6_31 ka_64 rfl) ?_
  exact ret3 dX6_noteRest_50 (.inl rfl)
theorem q_X6_noteRest_15 {call : CALL} {L X : Nat} {I : Nat → Nat → Int32} {J : Nat → Nat → Int64} {x1 : Int32} {x2 : Int32} {s1 : Int32} {s2 : Int32} : runI call iX6_noteRest (15, [some (.ref 64), some (.int x1), some (.int x2)], [.int s2, .int s1, .ref 64], (mm L X I J)) = bnd (call nX6_asTold [.ref 64, .int x2] (mm L X I J)) (fun v m' => runI call iX6_noteRest (21, [some (.ref 64), some (.int x1), some (.int x2)], v.toList ++ [.int (s1 * s2), .ref 64], m')) := by
  refine Eq.trans (st1 dX6_noteRest_15 rfl rfl) ?_
  refine Eq.trans (st1 dX6_noteRest_16 rfl rfl) ?_
  refine Eq.trans (st1 dX6_noteRest_17 rfl rfl) ?_
  exact iv0 dX6_noteRest_18 rfl cp_6_93 rfl rfl (kd_ka ka_64) ka_64.1 (Nat.le_of_ble_eq_true rfl)
theorem q_X6_noteRest_21 {call : CALL} {L X : Nat} {I : Nat → Nat → Int32} {J : Nat → Nat → Int64} {x1 : Int32} {x2 : Int32} {s1 : Int32} {s2 : Int32} : runI call iX6_noteRest (21, [some (.ref 64), some (.int x1), some (.int x2)], [.int s2, .int s1, .ref 64], (mm L X I J)) = bnd (call nX6_paid [.ref 64, .int x1] (mm L X (up2 I 64 5 (s1 + s2)) J)) (fun v m' => runI call iX6_noteRest (31, [some (.ref 64), some (.int x1), some (.int x2)], v.toList ++ [.ref 64], m')) := by
  refine Eq.trans (st1 dX6_noteRest_21 rfl rfl) ?_
  refine Eq.trans (putIm dX6_noteRest_22 cp_6_34 ka_64 rfl) ?_
  refine Eq.trans (st1 dX6_noteRest_25 rfl rfl) ?_
  refine Eq.trans (st1 dX6_noteRest_26 rfl rfl) ?_
  refine Eq.trans (st1 dX6_noteRest_27 rfl rfl) ?_
  exact iv0 dX6_noteRest_28 rfl cp_6_89 rfl rfl (kd_ka ka_64) ka_64.1 (Nat.le_of_ble_eq_true rfl)
theorem q_X6_noteRest_31 {call : CALL} {L X : Nat} {I : Nat → Nat → Int32} {J : Nat → Nat → Int64} {u1 : Option Value} {x2 : Int32} {s1 : Int32} : runI call iX6_noteRest (31, [some (.ref 64), u1, some (.int x2)], [.int s1, .ref 64], (mm L X I J)) = bnd (call nX6_paid [.ref 64, .int x2] (mm L X I J)) (fun v m' => runI call iX6_noteRest (36, [some (.ref 64), u1, some (.int x2)], v.toList ++ [.int s1, .ref 64], m')) := by
  refine Eq.trans (st1 dX6_noteRest_31 rfl rfl) ?_
  refine Eq.trans (st1 dX6_noteRest_32 rfl rfl) ?_
  exact iv0 dX6_noteRest_33 rfl cp_6_89 rfl rfl (kd_ka ka_64) ka_64.1 (Nat.le_of_ble_eq_true rfl)
theorem q_X6_noteRest_36 {call : CALL} {L X : Nat} {I : Nat → Nat → Int32} {J : Nat → Nat → Int64} {u1 : Option Value} {u2 : Option Value} {s1 : Int32} {s2 : Int32} : runI call iX6_noteRest (36, [some (.ref 64), u1, u2], [.int s2, .int s1, .ref 64], (mm L X I J)) = runI call iX6_noteRest (40, [some (.ref 64), u1, u2], [], (mm L X (up2 I 64 6 (s1 + s2)) J)) := by
  refine Eq.trans (st1 dX6_noteRest_36 rfl rfl) ?_
  refine Eq.trans (putIm dX6_noteRest_37 cp_6_96 ka_64 rfl) ?_
  rfl
theorem q_X6_asTold_0 {call : CALL} {L X : Nat} {I : Nat → Nat → Int32} {J : Nat → Nat → Int64} {x1 : Int32} : runI call iX6_asTold (0, [some (.ref 64), some (.int x1)], [], (mm L X I J)) = if x1 = (I 64 2) then some (.inl (some (.int (nI 8))), (mm L X I J)) else some (.inl (some (.int x1)), (mm L X I J)) := by
  refine Eq.trans (st1 dX6_asTold_0 rfl rfl) ?_
  refine Eq.trans (st1 dX6_asTold_1 rfl rfl) ?_
  refine Eq.trans (getIm dX6_asTold_2 cp_6_25 ka_64 (.inl rfl)) ?_
  refine Eq.trans (ic_ne (tgt := 13) dX6_asTold_5 (by decide +kernel)) (ite_cong (fun _ => ?_) (fun _ => ?_))
  · refine Eq.trans (xbipush dX6_asTold_8 cb_8) ?_
    refine Eq.trans (go_to (tgt := 14) dX6_asTold_10 (by decide +kernel)) ?_
    exact ret0 dX6_asTold_14 rfl
  · refine Eq.trans (st1 dX6_asTold_13 rfl rfl) ?_
    exact ret0 dX6_asTold_14 rfl
theorem q_X7_hasRoom_0 {call : CALL} {L X : Nat} {I : Nat → Nat → Int32} {J : Nat → Nat → Int64}  : runI call iX7_hasRoom (0, [some (.ref 1)], [], (mm L X I J)) = if (nI 600) < ((I 1 1) + (nI 20)) then some (.inl (some (.int (nI 0))), (mm L X I J)) else some (.inl (some (.int (nI 1))), (mm L X I J)) := by
  refine Eq.trans (st1 dX7_hasRoom_0 rfl rfl) ?_
  refine Eq.trans (getIm dX7_hasRoom_1 cp_7_19 ka_1 (.inl rfl)) ?_
  refine Eq.trans (xbipush dX7_hasRoom_4 cb_20) ?_
  refine Eq.trans (st1 dX7_hasRoom_6 rfl rfl) ?_
  refine Eq.trans (xsipush dX7_hasRoom_7 cs_600) ?_
  refine Eq.trans (ic_gt (tgt := 17) dX7_hasRoom_10 (by decide +kernel)) (ite_cong (fun _ => ?_) (fun _ => ?_))
  · refine Eq.trans (xiconst dX7_hasRoom_17 ci_0) ?_
    exact ret1 dX7_hasRoom_18 rfl (.inl rfl)
  · refine Eq.trans (xiconst dX7_hasRoom_13 ci_1) ?_
    refine Eq.trans (go_to (tgt := 18) dX7_hasRoom_14 (by decide +kernel)) ?_
    exact ret1 dX7_hasRoom_18 rfl (.inr rfl)
theorem q_X7_append_0 {call : CALL} {L X : Nat} {I : Nat → Nat → Int32} {J : Nat → Nat → Int64} {x1 : Int32} : runI call iX7_append (0, [some (.ref 1), some (.int x1), none], [], (mm L X I J)) = runI call iX7_append (3, [some (.ref 1), some (.int x1), some (.int (nI 24))], [], (mm L X I J)) := by
  refine Eq.trans (xbipush dX7_append_0 cb_24) ?_
  refine Eq.trans (st1 dX7_append_2 rfl rfl) ?_
  rfl
theorem q_X7_append_3 {call : CALL} {L X : Nat} {I : Nat → Nat → Int32} {J : Nat → Nat → Int64} {x1 : Int32} {x2 : Int32} : runI call iX7_append (3, [some (.ref 1), some (.int x1), some (.int x2)], [], (mm L X I J)) = if x2 < (nI 0) then some (.inl none, (mm L X I J)) else if (I 1 1) < (nI 0) then runI call iX7_append (47, [some (.ref 1), some (.int x1), some (.int x2)], [], (mm L X I J)) else if (nI 600) ≤ (I 1 1) then runI call iX7_append (47, [some (.ref 1), some (.int x1), some (.int x2)], [], (mm L X I J)) else gd (inb (I 1 1) 600) (runI call iX7_append (47, [some (.ref 1), some (.int x1), some (.int x2)], [], (mm L X (up2 (up2 I 2 ((I 1 1)).toNatClampNeg (vp_nar .byte ((x1 >>> (x2 &&& 31))).toInt8.toInt32)) 1 1 (((up2 I 2 ((I 1 1)).toNatClampNeg (vp_nar .byte ((x1 >>> (x2 &&& 31))).toInt8.toInt32)) 1 1) + (nI 1))) J))) := by
  refine Eq.trans (st1 dX7_append_3 rfl rfl) ?_
  refine Eq.trans (if_lt (tgt := 53) dX7_append_4 (by decide +kernel)) (ite_cong (fun _ => ?_) (fun _ => ?_))
  · exact ret3 dX7_append_53 (.inl rfl)
  · refine Eq.trans (st1 dX7_append_7 rfl rfl) ?_
    refine Eq.trans (getIm dX7_append_8 cp_7_19 ka_1 (.inl rfl)) ?_
    refine Eq.trans (if_lt (tgt := 47) dX7_append_11 (by decide +kernel)) (ite_cong (fun _ => ?_) (fun _ => ?_))
    · rfl
    · refine Eq.trans (st1 dX7_append_14 rfl rfl) ?_
      refine Eq.trans (getIm dX7_append_15 cp_7_19 ka_1 (.inl rfl)) ?_
      refine Eq.trans (xsipush dX7_append_18 cs_600) ?_
      refine Eq.trans (ic_ge (tgt := 47) dX7_append_21 (by decide +kernel)) (ite_cong (fun _ => ?_) (fun _ => ?_))
      · rfl
      · refine Eq.trans (st1 dX7_append_24 rfl rfl) ?_
        refine Eq.trans (getRm dX7_append_25 cp_7_11 ka_1 rfl r_1_0) ?_
        refine Eq.trans (st1 dX7_append_28 rfl rfl) ?_
        refine Eq.trans (getIm dX7_append_29 cp_7_19 ka_1 (.inl rfl)) ?_
        refine Eq.trans (st1 dX7_append_32 rfl rfl) ?_
        refine Eq.trans (st1 dX7_append_33 rfl rfl) ?_
        refine Eq.trans (st1 dX7_append_34 rfl rfl) ?_
        refine Eq.trans (st1 dX7_append_35 rfl rfl) ?_
        refine Eq.trans (as2m dX7_append_36 ka_2) (gd_congr fun g1 => ?_)
        refine Eq.trans (st1 dX7_append_37 rfl rfl) ?_
        refine Eq.trans (st1 dX7_append_38 rfl rfl) ?_
        refine Eq.trans (getIm dX7_append_39 cp_7_19 ka_1 (.inl rfl)) ?_
        refine Eq.trans (xiconst dX7_append_42 ci_1) ?_
        refine Eq.trans (st1 dX7_append_43 rfl rfl) ?_
        refine Eq.trans (putIm dX7_append_44 cp_7_19 ka_1 rfl) ?_
        rfl
theorem q_X7_append_47 {call : CALL} {L X : Nat} {I : Nat → Nat → Int32} {J : Nat → Nat → Int64} {x1 : Int32} {x2 : Int32} : runI call iX7_append (47, [some (.ref 1), some (.int x1), some (.int x2)], [], (mm L X I J)) = runI call iX7_append (3, [some (.ref 1), some (.int x1), some (.int (x2 + (-8 : Int32)))], [], (mm L X I J)) := by
  refine Eq.trans (xinc2 dX7_append_47 ci_m8 rfl (Nat.le_of_ble_eq_true rfl) rfl) ?_
  refine Eq.trans (go_to (tgt := 3) dX7_append_50 (by decide +kernel)) ?_
  rfl
theorem q_X7_begin_0 {call : CALL} {L X : Nat} {I : Nat → Nat → Int32} {J : Nat → Nat → Int64} {x1 : Int32} : runI call iX7_begin (0, [some (.ref 1), some (.int x1)], [], (mm L X I J)) = runI call iX7_begin (20, [some (.ref 1), some (.int x1)], [], (mm L X (up2 (up2 (up2 (up2 I 1 5 (nI 0)) 1 6 x1) 1 1 (nI 0)) 1 2 (nI 0)) J)) := by
  refine Eq.trans (st1 dX7_begin_0 rfl rfl) ?_
  refine Eq.trans (xiconst dX7_begin_1 ci_0) ?_
  refine Eq.trans (putIm dX7_begin_2 cp_7_22 ka_1 rfl) ?_
  refine Eq.trans (st1 dX7_begin_5 rfl rfl) ?_
  refine Eq.trans (st1 dX7_begin_6 rfl rfl) ?_
  refine Eq.trans (putIm dX7_begin_7 cp_7_25 ka_1 rfl) ?_
  refine Eq.trans (st1 dX7_begin_10 rfl rfl) ?_
  refine Eq.trans (xiconst dX7_begin_11 ci_0) ?_
  refine Eq.trans (putIm dX7_begin_12 cp_7_19 ka_1 rfl) ?_
  refine Eq.trans (st1 dX7_begin_15 rfl rfl) ?_
  refine Eq.trans (xiconst dX7_begin_16 ci_0) ?_
  refine Eq.trans (putIm dX7_begin_17 cp_7_28 ka_1 rfl) ?_
  rfl
theorem q_X7_begin_20 {call : CALL} {L X : Nat} {I : Nat → Nat → Int32} {J : Nat → Nat → Int64} {u1 : Option Value} : runI call iX7_begin (20, [some (.ref 1), u1], [], (mm L X I J)) = some (.inl none, (mm L X (up2 I 1 3 (-1 : Int32)) J)) := by
  refine Eq.trans (st1 dX7_begin_20 rfl rfl) ?_
  refine Eq.trans (xiconst dX7_begin_21 ci_m1) ?_
  refine Eq.trans (putIm dX7_begin_22 cp_7_15 ka_1 rfl) ?_
  exact ret3 dX7_begin_25 (.inl rfl)
theorem q_X7_peek_0 {call : CALL} {L X : Nat} {I : Nat → Nat → Int32} {J : Nat → Nat → Int64}  : runI call iX7_peek (0, [some (.ref 1)], [], (mm L X I J)) = if (I 1 6) ≤ (I 1 5) then runI call iX7_peek (37, [some (.ref 1)], [], (mm L X I J)) else bnd (call nX7_byteAt [.ref 1, .int (I 1 5)] (mm L X I J)) (fun v m' => runI call iX7_peek (19, [some (.ref 1)], v.toList ++ [], m')) := by
  refine Eq.trans (st1 dX7_peek_0 rfl rfl) ?_
  refine Eq.trans (getIm dX7_peek_1 cp_7_22 ka_1 (.inl rfl)) ?_
  refine Eq.trans (st1 dX7_peek_4 rfl rfl) ?_
  refine Eq.trans (getIm dX7_peek_5 cp_7_25 ka_1 (.inl rfl)) ?_
  refine Eq.trans (ic_ge (tgt := 37) dX7_peek_8 (by decide +kernel)) (ite_cong (fun _ => ?_) (fun _ => ?_))
  · rfl
  · refine Eq.trans (st1 dX7_peek_11 rfl rfl) ?_
    refine Eq.trans (st1 dX7_peek_12 rfl rfl) ?_
    refine Eq.trans (getIm dX7_peek_13 cp_7_22 ka_1 (.inl rfl)) ?_
    exact iv0 dX7_peek_16 rfl cp_7_31 rfl rfl (kd_ka ka_1) ka_1.1 (Nat.le_of_ble_eq_true rfl)
theorem q_X7_peek_37 {call : CALL} {L X : Nat} {I : Nat → Nat → Int32} {J : Nat → Nat → Int64}  : runI call iX7_peek (37, [some (.ref 1)], [], (mm L X I J)) = if ((up2 I 1 7 (I 1 5)) 1 6) ≤ ((up2 I 1 7 (I 1 5)) 1 5) then some (.inl (some (.int (-1 : Int32))), (mm L X (up2 I 1 7 (I 1 5)) J)) else bnd (call nX7_byteAt [.ref 1, .int ((up2 I 1 7 (I 1 5)) 1 5)] (mm L X (up2 I 1 7 (I 1 5)) J)) (fun v m' => runI call iX7_peek (64, [some (.ref 1)], v.toList ++ [], m')) := by
  refine Eq.trans (st1 dX7_peek_37 rfl rfl) ?_
  refine Eq.trans (st1 dX7_peek_38 rfl rfl) ?_
  refine Eq.trans (getIm dX7_peek_39 cp_7_22 ka_1 (.inl rfl)) ?_
  refine Eq.trans (putIm dX7_peek_42 cp_7_35 ka_1 rfl) ?_
  refine Eq.trans (st1 dX7_peek_45 rfl rfl) ?_
  refine Eq.trans (getIm dX7_peek_46 cp_7_22 ka_1 (.inl rfl)) ?_
  refine Eq.trans (st1 dX7_peek_49 rfl rfl) ?_
  refine Eq.trans (getIm dX7_peek_50 cp_7_25 ka_1 (.inl rfl)) ?_
  refine Eq.trans (ic_ge (tgt := 67) dX7_peek_53 (by decide +kernel)) (ite_cong (fun _ => ?_) (fun _ => ?_))
  · refine Eq.trans (xiconst dX7_peek_67 ci_m1) ?_
    exact ret0 dX7_peek_68 rfl
  · refine Eq.trans (st1 dX7_peek_56 rfl rfl) ?_
    refine Eq.trans (st1 dX7_peek_57 rfl rfl) ?_
    refine Eq.trans (getIm dX7_peek_58 cp_7_22 ka_1 (.inl rfl)) ?_
    exact iv0 dX7_peek_61 rfl cp_7_31 rfl rfl (kd_ka ka_1) ka_1.1 (Nat.le_of_ble_eq_true rfl)
theorem q_X7_peek_19 {call : CALL} {L X : Nat} {I : Nat → Nat → Int32} {J : Nat → Nat → Int64} {s0 : Int32} : runI call iX7_peek (19, [some (.ref 1)], [.int s0], (mm L X I J)) = if s0 = (nI 32) then if ((up2 I 1 5 ((I 1 5) + (nI 1))) 1 6) ≤ ((up2 I 1 5 ((I 1 5) + (nI 1))) 1 5) then runI call iX7_peek (37, [some (.ref 1)], [], (mm L X (up2 I 1 5 ((I 1 5) + (nI 1))) J)) else bnd (call nX7_byteAt [.ref 1, .int ((up2 I 1 5 ((I 1 5) + (nI 1))) 1 5)] (mm L X (up2 I 1 5 ((I 1 5) + (nI 1))) J)) (fun v m' => runI call iX7_peek (19, [some (.ref 1)], v.toList ++ [], m')) else runI call iX7_peek (37, [some (.ref 1)], [], (mm L X I J)) := by
  refine Eq.trans (xbipush dX7_peek_19 cb_32) ?_
  refine Eq.trans (ic_ne (tgt := 37) dX7_peek_21 (by decide +kernel)) (ite_cong (fun _ => ?_) (fun _ => ?_))
  · refine Eq.trans (st1 dX7_peek_24 rfl rfl) ?_
    refine Eq.trans (st1 dX7_peek_25 rfl rfl) ?_
    refine Eq.trans (getIm dX7_peek_26 cp_7_22 ka_1 (.inl rfl)) ?_
    refine Eq.trans (xiconst dX7_peek_29 ci_1) ?_
    refine Eq.trans (st1 dX7_peek_30 rfl rfl) ?_
    refine Eq.trans (putIm dX7_peek_31 cp_7_22 ka_1 rfl) ?_
    refine Eq.trans (go_to (tgt := 0) dX7_peek_34 (by decide +kernel)) ?_
    refine Eq.trans (st1 dX7_peek_0 rfl rfl) ?_
    refine Eq.trans (getIm dX7_peek_1 cp_7_22 ka_1 (.inl rfl)) ?_
    refine Eq.trans (st1 dX7_peek_4 rfl rfl) ?_
    refine Eq.trans (getIm dX7_peek_5 cp_7_25 ka_1 (.inl rfl)) ?_
    refine Eq.trans (ic_ge (tgt := 37) dX7_peek_8 (by decide +kernel)) (ite_cong (fun _ => ?_) (fun _ => ?_))
    · rfl
    · refine Eq.trans (st1 dX7_peek_11 rfl rfl) ?_
      refine Eq.trans (st1 dX7_peek_12 rfl rfl) ?_
      refine Eq.trans (getIm dX7_peek_13 cp_7_22 ka_1 (.inl rfl)) ?_
      exact iv0 dX7_peek_16 rfl cp_7_31 rfl rfl (kd_ka ka_1) ka_1.1 (Nat.le_of_ble_eq_true rfl)
  · rfl
theorem q_X7_peek_64 {call : CALL} {L X : Nat} {I : Nat → Nat → Int32} {J : Nat → Nat → Int64} {u0 : Option Value} {s0 : Int32} : runI call iX7_peek (64, [u0], [.int s0], (mm L X I J)) = some (.inl (some (.int s0)), (mm L X I J)) := by
  refine Eq.trans (go_to (tgt := 68) dX7_peek_64 (by decide +kernel)) ?_
  exact ret0 dX7_peek_68 rfl
theorem q_X7_byteAt_0 {call : CALL} {L X : Nat} {I : Nat → Nat → Int32} {J : Nat → Nat → Int64} {x1 : Int32} : runI call iX7_byteAt (0, [some (.ref 1), some (.int x1)], [], (mm L X I J)) = if x1 < (nI 0) then some (.inl (some (.int (-1 : Int32))), (mm L X I J)) else if (nI 600) ≤ x1 then some (.inl (some (.int (-1 : Int32))), (mm L X I J)) else gd (inb x1 600) (some (.inl (some (.int ((I 2 (x1).toNatClampNeg) &&& (nI 255)))), (mm L X I J))) := by
  refine Eq.trans (st1 dX7_byteAt_0 rfl rfl) ?_
  refine Eq.trans (if_lt (tgt := 24) dX7_byteAt_1 (by decide +kernel)) (ite_cong (fun _ => ?_) (fun _ => ?_))
  · refine Eq.trans (xiconst dX7_byteAt_24 ci_m1) ?_
    exact ret0 dX7_byteAt_25 rfl
  · refine Eq.trans (st1 dX7_byteAt_4 rfl rfl) ?_
    refine Eq.trans (xsipush dX7_byteAt_5 cs_600) ?_
    refine Eq.trans (ic_ge (tgt := 24) dX7_byteAt_8 (by decide +kernel)) (ite_cong (fun _ => ?_) (fun _ => ?_))
    · refine Eq.trans (xiconst dX7_byteAt_24 ci_m1) ?_
      exact ret0 dX7_byteAt_25 rfl
    · refine Eq.trans (st1 dX7_byteAt_11 rfl rfl) ?_
      refine Eq.trans (getRm dX7_byteAt_12 cp_7_11 ka_1 rfl r_1_0) ?_
      refine Eq.trans (st1 dX7_byteAt_15 rfl rfl) ?_
      refine Eq.trans (al2m dX7_byteAt_16 ka_2) (gd_congr fun g1 => ?_)
      refine Eq.trans (xsipush dX7_byteAt_17 cs_255) ?_
      refine Eq.trans (st1 dX7_byteAt_20 rfl rfl) ?_
      refine Eq.trans (go_to (tgt := 25) dX7_byteAt_21 (by decide +kernel)) ?_
      exact ret0 dX7_byteAt_25 rfl
theorem q_X7_named_0 {call : CALL} {L X : Nat} {I : Nat → Nat → Int32} {J : Nat → Nat → Int64} {a1 : Nat} (h1 : os a1) : runI call iX7_named (0, [some (.ref 1), some (.ref a1), none], [], (mm L X I J)) = bnd (call nX7_peek [.ref 1] (mm L X I J)) (fun v m' => runI call iX7_named (4, [some (.ref 1), some (.ref a1), none], v.toList ++ [], m')) := by
  refine Eq.trans (st1 dX7_named_0 rfl rfl) ?_
  exact iv0 dX7_named_1 rfl cp_7_38 rfl rfl (kd_ka ka_1) ka_1.1 (Nat.le_of_ble_eq_true rfl)
theorem q_X7_named_4 {call : CALL} {L X : Nat} {I : Nat → Nat → Int32} {J : Nat → Nat → Int64} {a1 : Nat} {u2 : Option Value} {s0 : Int32} (h1 : os a1) : runI call iX7_named (4, [some (.ref 1), some (.ref a1), u2], [.int s0], (mm L X I J)) = runI call iX7_named (5, [some (.ref 1), some (.ref a1), u2], [], (mm L X I J)) := by
  refine Eq.trans (st1 dX7_named_4 rfl rfl) ?_
  rfl
theorem q_X7_named_5 {call : CALL} {L X : Nat} {I : Nat → Nat → Int32} {J : Nat → Nat → Int64} {a1 : Nat} {u2 : Option Value} (h1 : os a1) : runI call iX7_named (5, [some (.ref 1), some (.ref a1), u2], [], (mm L X I J)) = if (I 1 6) ≤ (I 1 5) then runI call iX7_named (47, [some (.ref 1), some (.ref a1), u2], [], (mm L X I J)) else bnd (call nX7_byteAt [.ref 1, .int (I 1 5)] (mm L X I J)) (fun v m' => runI call iX7_named (24, [some (.ref 1), some (.ref a1), u2], v.toList ++ [], m')) := by
  refine Eq.trans (st1 dX7_named_5 rfl rfl) ?_
  refine Eq.trans (getIm dX7_named_6 cp_7_22 ka_1 (.inl rfl)) ?_
  refine Eq.trans (st1 dX7_named_9 rfl rfl) ?_
  refine Eq.trans (getIm dX7_named_10 cp_7_25 ka_1 (.inl rfl)) ?_
  refine Eq.trans (ic_ge (tgt := 47) dX7_named_13 (by decide +kernel)) (ite_cong (fun _ => ?_) (fun _ => ?_))
  · rfl
  · refine Eq.trans (st1 dX7_named_16 rfl rfl) ?_
    refine Eq.trans (st1 dX7_named_17 rfl rfl) ?_
    refine Eq.trans (getIm dX7_named_18 cp_7_22 ka_1 (.inl rfl)) ?_
    exact iv0 dX7_named_21 rfl cp_7_31 rfl rfl (kd_ka ka_1) ka_1.1 (Nat.le_of_ble_eq_true rfl)
theorem q_X7_named_47 {call : CALL} {L X : Nat} {I : Nat → Nat → Int32} {J : Nat → Nat → Int64} {a1 : Nat} {u2 : Option Value} (h1 : os a1) : runI call iX7_named (47, [some (.ref 1), some (.ref a1), u2], [], (mm L X I J)) = bnd (call nX7_placeAmong [.ref 1, .ref a1] (mm L X I J)) (fun v m' => runI call iX7_named (52, [some (.ref 1), some (.ref a1), u2], v.toList ++ [], m')) := by
  refine Eq.trans (st1 dX7_named_47 rfl rfl) ?_
  refine Eq.trans (st1 dX7_named_48 rfl rfl) ?_
  exact iv0 dX7_named_49 rfl cp_7_63 rfl rfl (kd_ka ka_1) ka_1.1 (Nat.le_of_ble_eq_true rfl)
theorem q_X7_named_24 {call : CALL} {L X : Nat} {I : Nat → Nat → Int32} {J : Nat → Nat → Int64} {a1 : Nat} {u2 : Option Value} {s0 : Int32} (h1 : os a1) : runI call iX7_named (24, [some (.ref 1), some (.ref a1), u2], [.int s0], (mm L X I J)) = bndN (call nX11_within [.int s0, .int (nI 97), .int (nI 122)] (mm L X I J)) (fun v m' => runI call iX7_named (31, [some (.ref 1), some (.ref a1), u2], v.toList ++ [], m')) := by
  refine Eq.trans (xbipush dX7_named_24 cb_97) ?_
  refine Eq.trans (xbipush dX7_named_26 cb_122) ?_
  exact is3 dX7_named_28 cp_7_59 (Nat.le_of_ble_eq_true rfl) rfl rfl (Nat.le_of_ble_eq_true rfl)
theorem q_X7_named_52 {call : CALL} {L X : Nat} {I : Nat → Nat → Int32} {J : Nat → Nat → Int64} {u1 : Option Value} {u2 : Option Value} {s0 : Int32} (hu1 : okv u1 = true) : runI call iX7_named (52, [some (.ref 1), u1, u2], [.int s0], (mm L X I J)) = if (nI 0) ≤ s0 then some (.inl (some (.int s0)), (mm L X I J)) else bnd (call nX7_blame [.ref 1, .int (nI 1)] (mm L X I J)) (fun v m' => runI call iX7_named (62, [some (.ref 1), u1, some (.int s0)], v.toList ++ [], m')) := by
  refine Eq.trans (xst1 (k := 2) dX7_named_52 hu1 rfl) ?_
  refine Eq.trans (st1 dX7_named_53 rfl rfl) ?_
  refine Eq.trans (if_ge (tgt := 63) dX7_named_54 (by decide +kernel)) (ite_cong (fun _ => ?_) (fun _ => ?_))
  · refine Eq.trans (st1 dX7_named_63 rfl rfl) ?_
    exact ret0 dX7_named_64 rfl
  · refine Eq.trans (st1 dX7_named_57 rfl rfl) ?_
    refine Eq.trans (xiconst dX7_named_58 ci_1) ?_
    exact iv0 dX7_named_59 rfl cp_7_42 rfl rfl (kd_ka ka_1) ka_1.1 (Nat.le_of_ble_eq_true rfl)
theorem q_X7_named_31 {call : CALL} {L X : Nat} {I : Nat → Nat → Int32} {J : Nat → Nat → Int64} {a1 : Nat} {u2 : Option Value} {s0 : Int32} (h1 : os a1) : runI call iX7_named (31, [some (.ref 1), some (.ref a1), u2], [.int s0], (mm L X I J)) = if s0 = (nI 0) then runI call iX7_named (47, [some (.ref 1), some (.ref a1), u2], [], (mm L X I J)) else runI call iX7_named (5, [some (.ref 1), some (.ref a1), u2], [], (mm L X (up2 I 1 5 ((I 1 5) + (nI 1))) J)) := by
  refine Eq.trans (if_eq (tgt := 47) dX7_named_31 (by decide +kernel)) (ite_cong (fun _ => ?_) (fun _ => ?_))
  · rfl
  · refine Eq.trans (st1 dX7_named_34 rfl rfl) ?_
    refine Eq.trans (st1 dX7_named_35 rfl rfl) ?_
    refine Eq.trans (getIm dX7_named_36 cp_7_22 ka_1 (.inl rfl)) ?_
    refine Eq.trans (xiconst dX7_named_39 ci_1) ?_
    refine Eq.trans (st1 dX7_named_40 rfl rfl) ?_
    refine Eq.trans (putIm dX7_named_41 cp_7_22 ka_1 rfl) ?_
    refine Eq.trans (go_to (tgt := 5) dX7_named_44 (by decide +kernel)) ?_
    rfl
theorem q_X7_named_62 {call : CALL} {L X : Nat} {I : Nat → Nat → Int32} {J : Nat → Nat → Int64} {u0 : Option Value} {u1 : Option Value} {x2 : Int32} {s0 : Int32} : runI call iX7_named (62, [u0, u1, some (.int x2)], [.int s0], (mm L X I J)) = some (.inl (some (.int x2)), (mm L X I J)) := by
  refine Eq.trans (st1 dX7_named_62 rfl rfl) ?_
  refine Eq.trans (st1 dX7_named_63 rfl rfl) ?_
  exact ret0 dX7_named_64 rfl
theorem q_X7_placeAmong_0 {call : CALL} {L X : Nat} {I : Nat → Nat → Int32} {J : Nat → Nat → Int64} {a1 : Nat} (h1 : os a1) : runI call iX7_placeAmong (0, [some (.ref 1), some (.ref a1), none, none, none, none], [], (mm L X I J)) = runI call iX7_placeAmong (13, [some (.ref 1), some (.ref a1), some (.int (nI 0)), some (.int (I 1 7)), some (.int (nI 1)), some (.int (nI 0))], [], (mm L X I J)) := by
  refine Eq.trans (xiconst dX7_placeAmong_0 ci_0) ?_
  refine Eq.trans (st1 dX7_placeAmong_1 rfl rfl) ?_
  refine Eq.trans (st1 dX7_placeAmong_2 rfl rfl) ?_
  refine Eq.trans (getIm dX7_placeAmong_3 cp_7_35 ka_1 (.inl rfl)) ?_
  refine Eq.trans (st1 dX7_placeAmong_6 rfl rfl) ?_
  refine Eq.trans (xiconst dX7_placeAmong_7 ci_1) ?_
  refine Eq.trans (st1 dX7_placeAmong_8 rfl rfl) ?_
  refine Eq.trans (xiconst dX7_placeAmong_10 ci_0) ?_
  refine Eq.trans (st1 dX7_placeAmong_11 rfl rfl) ?_
  rfl
theorem q_X7_placeAmong_13 {call : CALL} {L X : Nat} {I : Nat → Nat → Int32} {J : Nat → Nat → Int64} {a1 : Nat} {x2 : Int32} {x3 : Int32} {x4 : Int32} {x5 : Int32} (h1 : os a1) : runI call iX7_placeAmong (13, [some (.ref 1), some (.ref a1), some (.int x2), some (.int x3), some (.int x4), some (.int x5)], [], (mm L X I J)) = bndN (call nJ0_length_8abf5 [.ref a1] (mm L X I J)) (fun v m' => runI call iX7_placeAmong (19, [some (.ref 1), some (.ref a1), some (.int x2), some (.int x3), some (.int x4), some (.int x5)], v.toList ++ [.int x5], m')) := by
  refine Eq.trans (st1 dX7_placeAmong_13 rfl rfl) ?_
  refine Eq.trans (st1 dX7_placeAmong_15 rfl rfl) ?_
  exact ivS dX7_placeAmong_16 cp_7_67 rfl rfl (kd_os h1) (os_le h1) (Nat.le_of_ble_eq_true rfl)
theorem q_X7_placeAmong_19 {call : CALL} {L X : Nat} {I : Nat → Nat → Int32} {J : Nat → Nat → Int64} {a1 : Nat} {x2 : Int32} {x3 : Int32} {x4 : Int32} {x5 : Int32} {s0 : Int32} {s1 : Int32} (h1 : os a1) : runI call iX7_placeAmong (19, [some (.ref 1), some (.ref a1), some (.int x2), some (.int x3), some (.int x4), some (.int x5)], [.int s1, .int s0], (mm L X I J)) = if s1 ≤ s0 then some (.inl (some (.int (-1 : Int32))), (mm L X I J)) else bndN (call nJ0_charAt_5068e [.ref a1, .int x5] (mm L X I J)) (fun v m' => runI call iX7_placeAmong (28, [some (.ref 1), some (.ref a1), some (.int x2), some (.int x3), some (.int x4), some (.int x5)], v.toList ++ [], m')) := by
  refine Eq.trans (ic_ge (tgt := 105) dX7_placeAmong_19 (by decide +kernel)) (ite_cong (fun _ => ?_) (fun _ => ?_))
  · refine Eq.trans (xiconst dX7_placeAmong_105 ci_m1) ?_
    exact ret0 dX7_placeAmong_106 rfl
  · refine Eq.trans (st1 dX7_placeAmong_22 rfl rfl) ?_
    refine Eq.trans (st1 dX7_placeAmong_23 rfl rfl) ?_
    exact ivS dX7_placeAmong_25 cp_7_72 rfl rfl (kd_os h1) (os_le h1) (Nat.le_of_ble_eq_true rfl)
theorem q_X7_placeAmong_28 {call : CALL} {L X : Nat} {I : Nat → Nat → Int32} {J : Nat → Nat → Int64} {a1 : Nat} {x2 : Int32} {x3 : Int32} {x4 : Int32} {x5 : Int32} {s0 : Int32} (h1 : os a1) : runI call iX7_placeAmong (28, [some (.ref 1), some (.ref a1), some (.int x2), some (.int x3), some (.int x4), some (.int x5)], [.int s0], (mm L X I J)) = if s0 = (nI 32) then if x4 = (nI 0) then runI call iX7_placeAmong (88, [some (.ref 1), some (.ref a1), some (.int x2), some (.int x3), some (.int x4), some (.int x5)], [], (mm L X I J)) else if x3 = (I 1 5) then some (.inl (some (.int x2)), (mm L X I J)) else runI call iX7_placeAmong (88, [some (.ref 1), some (.ref a1), some (.int x2), some (.int x3), some (.int x4), some (.int x5)], [], (mm L X I J)) else if x4 = (nI 0) then runI call iX7_placeAmong (64, [some (.ref 1), some (.ref a1), some (.int x2), some (.int x3), some (.int x4), some (.int x5)], [], (mm L X I J)) else if (I 1 5) ≤ x3 then runI call iX7_placeAmong (64, [some (.ref 1), some (.ref a1), some (.int x2), some (.int x3), some (.int x4), some (.int x5)], [], (mm L X I J)) else bnd (call nX7_byteAt [.ref 1, .int x3] (mm L X I J)) (fun v m' => runI call iX7_placeAmong (51, [some (.ref 1), some (.ref a1), some (.int x2), some (.int x3), some (.int x4), some (.int x5)], v.toList ++ [], m')) := by
  refine Eq.trans (xbipush dX7_placeAmong_28 cb_32) ?_
  refine Eq.trans (ic_eq (tgt := 73) dX7_placeAmong_30 (by decide +kernel)) (ite_cong (fun _ => ?_) (fun _ => ?_))
  · refine Eq.trans (st1 dX7_placeAmong_73 rfl rfl) ?_
    refine Eq.trans (if_eq (tgt := 88) dX7_placeAmong_75 (by decide +kernel)) (ite_cong (fun _ => ?_) (fun _ => ?_))
    · rfl
    · refine Eq.trans (st1 dX7_placeAmong_78 rfl rfl) ?_
      refine Eq.trans (st1 dX7_placeAmong_79 rfl rfl) ?_
      refine Eq.trans (getIm dX7_placeAmong_80 cp_7_22 ka_1 (.inl rfl)) ?_
      refine Eq.trans (ic_ne (tgt := 88) dX7_placeAmong_83 (by decide +kernel)) (ite_cong (fun _ => ?_) (fun _ => ?_))
      · refine Eq.trans (st1 dX7_placeAmong_86 rfl rfl) ?_
        exact ret0 dX7_placeAmong_87 rfl
      · rfl
  · refine Eq.trans (st1 dX7_placeAmong_33 rfl rfl) ?_
    refine Eq.trans (if_eq (tgt := 64) dX7_placeAmong_35 (by decide +kernel)) (ite_cong (fun _ => ?_) (fun _ => ?_))
    · rfl
    · refine Eq.trans (st1 dX7_placeAmong_38 rfl rfl) ?_
      refine Eq.trans (st1 dX7_placeAmong_39 rfl rfl) ?_
      refine Eq.trans (getIm dX7_placeAmong_40 cp_7_22 ka_1 (.inl rfl)) ?_
      refine Eq.trans (ic_ge (tgt := 64) dX7_placeAmong_43 (by decide +kernel)) (ite_cong (fun _ => ?_) (fun _ => ?_))
      · rfl
      · refine Eq.trans (st1 dX7_placeAmong_46 rfl rfl) ?_
        refine Eq.trans (st1 dX7_placeAmong_47 rfl rfl) ?_
        exact iv0 dX7_placeAmong_48 rfl cp_7_31 rfl rfl (kd_ka ka_1) ka_1.1 (Nat.le_of_ble_eq_true rfl)
theorem q_X7_placeAmong_88 {call : CALL} {L X : Nat} {I : Nat → Nat → Int32} {J : Nat → Nat → Int64} {a1 : Nat} {x2 : Int32} {u3 : Option Value} {u4 : Option Value} {x5 : Int32} (h1 : os a1) : runI call iX7_placeAmong (88, [some (.ref 1), some (.ref a1), some (.int x2), u3, u4, some (.int x5)], [], (mm L X I J)) = runI call iX7_placeAmong (99, [some (.ref 1), some (.ref a1), some (.int (x2 + (nI 1))), some (.int (I 1 7)), some (.int (nI 1)), some (.int x5)], [], (mm L X I J)) := by
  refine Eq.trans (xinc2 dX7_placeAmong_88 ci_1 rfl (Nat.le_of_ble_eq_true rfl) rfl) ?_
  refine Eq.trans (st1 dX7_placeAmong_91 rfl rfl) ?_
  refine Eq.trans (getIm dX7_placeAmong_92 cp_7_35 ka_1 (.inl rfl)) ?_
  refine Eq.trans (st1 dX7_placeAmong_95 rfl rfl) ?_
  refine Eq.trans (xiconst dX7_placeAmong_96 ci_1) ?_
  refine Eq.trans (st1 dX7_placeAmong_97 rfl rfl) ?_
  rfl
theorem q_X7_placeAmong_64 {call : CALL} {L X : Nat} {I : Nat → Nat → Int32} {J : Nat → Nat → Int64} {a1 : Nat} {x2 : Int32} {x3 : Int32} {u4 : Option Value} {x5 : Int32} (h1 : os a1) : runI call iX7_placeAmong (64, [some (.ref 1), some (.ref a1), some (.int x2), some (.int x3), u4, some (.int x5)], [], (mm L X I J)) = runI call iX7_placeAmong (65, [some (.ref 1), some (.ref a1), some (.int x2), some (.int x3), u4, some (.int x5)], [.int (nI 0)], (mm L X I J)) := by
  refine Eq.trans (xiconst dX7_placeAmong_64 ci_0) ?_
  rfl
theorem q_X7_placeAmong_51 {call : CALL} {L X : Nat} {I : Nat → Nat → Int32} {J : Nat → Nat → Int64} {a1 : Nat} {x2 : Int32} {x3 : Int32} {u4 : Option Value} {x5 : Int32} {s0 : Int32} (h1 : os a1) : runI call iX7_placeAmong (51, [some (.ref 1), some (.ref a1), some (.int x2), some (.int x3), u4, some (.int x5)], [.int s0], (mm L X I J)) = bndN (call nJ0_charAt_5068e [.ref a1, .int x5] (mm L X I J)) (fun v m' => runI call iX7_placeAmong (57, [some (.ref 1), some (.ref a1), some (.int x2), some (.int x3), u4, some (.int x5)], v.toList ++ [.int s0], m')) := by
  refine Eq.trans (st1 dX7_placeAmong_51 rfl rfl) ?_
  refine Eq.trans (st1 dX7_placeAmong_52 rfl rfl) ?_
  exact ivS dX7_placeAmong_54 cp_7_72 rfl rfl (kd_os h1) (os_le h1) (Nat.le_of_ble_eq_true rfl)
theorem q_X7_placeAmong_99 {call : CALL} {L X : Nat} {I : Nat → Nat → Int32} {J : Nat → Nat → Int64} {a1 : Nat} {x2 : Int32} {x3 : Int32} {x4 : Int32} {x5 : Int32} (h1 : os a1) : runI call iX7_placeAmong (99, [some (.ref 1), some (.ref a1), some (.int x2), some (.int x3), some (.int x4), some (.int x5)], [], (mm L X I J)) = runI call iX7_placeAmong (13, [some (.ref 1), some (.ref a1), some (.int x2), some (.int x3), some (.int x4), some (.int (x5 + (nI 1)))], [], (mm L X I J)) := by
  refine Eq.trans (xinc2 dX7_placeAmong_99 ci_1 rfl (Nat.le_of_ble_eq_true rfl) rfl) ?_
  refine Eq.trans (go_to (tgt := 13) dX7_placeAmong_102 (by decide +kernel)) ?_
  rfl
theorem q_X7_placeAmong_65 {call : CALL} {L X : Nat} {I : Nat → Nat → Int32} {J : Nat → Nat → Int64} {a1 : Nat} {x2 : Int32} {x3 : Int32} {u4 : Option Value} {x5 : Int32} {s0 : Int32} (h1 : os a1) : runI call iX7_placeAmong (65, [some (.ref 1), some (.ref a1), some (.int x2), some (.int x3), u4, some (.int x5)], [.int s0], (mm L X I J)) = runI call iX7_placeAmong (99, [some (.ref 1), some (.ref a1), some (.int x2), some (.int (x3 + (nI 1))), some (.int s0), some (.int x5)], [], (mm L X I J)) := by
  refine Eq.trans (st1 dX7_placeAmong_65 rfl rfl) ?_
  refine Eq.trans (xinc2 dX7_placeAmong_67 ci_1 rfl (Nat.le_of_ble_eq_true rfl) rfl) ?_
  refine Eq.trans (go_to (tgt := 99) dX7_placeAmong_70 (by decide +kernel)) ?_
  rfl
theorem q_X7_placeAmong_57 {call : CALL} {L X : Nat} {I : Nat → Nat → Int32} {J : Nat → Nat → Int64} {a1 : Nat} {x2 : Int32} {x3 : Int32} {u4 : Option Value} {x5 : Int32} {s0 : Int32} {s1 : Int32} (h1 : os a1) : runI call iX7_placeAmong (57, [some (.ref 1), some (.ref a1), some (.int x2), some (.int x3), u4, some (.int x5)], [.int s1, .int s0], (mm L X I J)) = if s0 = s1 then runI call iX7_placeAmong (65, [some (.ref 1), some (.ref a1), some (.int x2), some (.int x3), u4, some (.int x5)], [.int (nI 1)], (mm L X I J)) else runI call iX7_placeAmong (64, [some (.ref 1), some (.ref a1), some (.int x2), some (.int x3), u4, some (.int x5)], [], (mm L X I J)) := by
  refine Eq.trans (ic_ne (tgt := 64) dX7_placeAmong_57 (by decide +kernel)) (ite_cong (fun _ => ?_) (fun _ => ?_))
  · refine Eq.trans (xiconst dX7_placeAmong_60 ci_1) ?_
    refine Eq.trans (go_to (tgt := 65) dX7_placeAmong_61 (by decide +kernel)) ?_
    rfl
  · rfl
theorem q_X7_blame_0 {call : CALL} {L X : Nat} {I : Nat → Nat → Int32} {J : Nat → Nat → Int64} {x1 : Int32} : runI call iX7_blame (0, [some (.ref 1), some (.int x1)], [], (mm L X I J)) = some (.inl (some (.int (nI 0))), (mm L X (up2 (up2 I 1 2 x1) 1 3 ((up2 I 1 2 x1) 1 7)) J)) := by
  refine Eq.trans (st1 dX7_blame_0 rfl rfl) ?_
  refine Eq.trans (st1 dX7_blame_1 rfl rfl) ?_
  refine Eq.trans (putIm dX7_blame_2 cp_7_28 ka_1 rfl) ?_
  refine Eq.trans (st1 dX7_blame_5 rfl rfl) ?_
  refine Eq.trans (st1 dX7_blame_6 rfl rfl) ?_
  refine Eq.trans (getIm dX7_blame_7 cp_7_35 ka_1 (.inl rfl)) ?_
  refine Eq.trans (putIm dX7_blame_10 cp_7_15 ka_1 rfl) ?_
  refine Eq.trans (xiconst dX7_blame_13 ci_0) ?_
  exact ret1 dX7_blame_14 rfl (.inl rfl)
theorem q_X7_tooMany_0 {call : CALL} {L X : Nat} {I : Nat → Nat → Int32} {J : Nat → Nat → Int64}  : runI call iX7_tooMany (0, [some (.ref 1)], [], (mm L X I J)) = bnd (call nX7_blame [.ref 1, .int (nI 3)] (mm L X I J)) (fun v m' => runI call iX7_tooMany (5, [some (.ref 1)], v.toList ++ [], m')) := by
  refine Eq.trans (st1 dX7_tooMany_0 rfl rfl) ?_
  refine Eq.trans (xiconst dX7_tooMany_1 ci_3) ?_
  exact iv0 dX7_tooMany_2 rfl cp_7_42 rfl rfl (kd_ka ka_1) ka_1.1 (Nat.le_of_ble_eq_true rfl)
theorem q_X7_tooMany_5 {call : CALL} {L X : Nat} {I : Nat → Nat → Int32} {J : Nat → Nat → Int64} {u0 : Option Value} {s0 : Int32} : runI call iX7_tooMany (5, [u0], [.int s0], (mm L X I J)) = gd (b01 s0) (some (.inl (some (.int s0)), (mm L X I J))) := by
  exact ret1g dX7_tooMany_5 rfl
theorem q_X7_numeral_0 {call : CALL} {L X : Nat} {I : Nat → Nat → Int32} {J : Nat → Nat → Int64} {x1 : Int32} {x2 : Int32} : runI call iX7_numeral (0, [some (.ref 1), some (.int x1), some (.int x2), none], [], (mm L X I J)) = bnd (call nX7_peek [.ref 1] (mm L X I J)) (fun v m' => runI call iX7_numeral (4, [some (.ref 1), some (.int x1), some (.int x2), none], v.toList ++ [], m')) := by
  refine Eq.trans (st1 dX7_numeral_0 rfl rfl) ?_
  exact iv0 dX7_numeral_1 rfl cp_7_38 rfl rfl (kd_ka ka_1) ka_1.1 (Nat.le_of_ble_eq_true rfl)
theorem q_X7_numeral_4 {call : CALL} {L X : Nat} {I : Nat → Nat → Int32} {J : Nat → Nat → Int64} {x1 : Int32} {x2 : Int32} {u3 : Option Value} {s0 : Int32} : runI call iX7_numeral (4, [some (.ref 1), some (.int x1), some (.int x2), u3], [.int s0], (mm L X I J)) = bndN (call nX7_isDigit [.int s0] (mm L X I J)) (fun v m' => runI call iX7_numeral (7, [some (.ref 1), some (.int x1), some (.int x2), u3], v.toList ++ [], m')) := by
  exact is2 dX7_numeral_4 cp_7_46 (Nat.le_of_ble_eq_true rfl) rfl rfl (Nat.le_of_ble_eq_true rfl)
theorem q_X7_numeral_7 {call : CALL} {L X : Nat} {I : Nat → Nat → Int32} {J : Nat → Nat → Int64} {x1 : Int32} {x2 : Int32} {u3 : Option Value} {s0 : Int32} : runI call iX7_numeral (7, [some (.ref 1), some (.int x1), some (.int x2), u3], [.int s0], (mm L X I J)) = if s0 = (nI 0) then bnd (call nX7_blame [.ref 1, .int (nI 1)] (mm L X I J)) (fun v m' => runI call iX7_numeral (15, [some (.ref 1), some (.int x1), some (.int x2), u3], v.toList ++ [], m')) else runI call iX7_numeral (18, [some (.ref 1), some (.int x1), some (.int x2), some (.int (nI 0))], [], (mm L X I J)) := by
  refine Eq.trans (if_ne (tgt := 16) dX7_numeral_7 (by decide +kernel)) (ite_cong (fun _ => ?_) (fun _ => ?_))
  · refine Eq.trans (st1 dX7_numeral_10 rfl rfl) ?_
    refine Eq.trans (xiconst dX7_numeral_11 ci_1) ?_
    exact iv0 dX7_numeral_12 rfl cp_7_42 rfl rfl (kd_ka ka_1) ka_1.1 (Nat.le_of_ble_eq_true rfl)
  · refine Eq.trans (xiconst dX7_numeral_16 ci_0) ?_
    refine Eq.trans (st1 dX7_numeral_17 rfl rfl) ?_
    rfl
theorem q_X7_numeral_18 {call : CALL} {L X : Nat} {I : Nat → Nat → Int32} {J : Nat → Nat → Int64} {x1 : Int32} {x2 : Int32} {x3 : Int32} : runI call iX7_numeral (18, [some (.ref 1), some (.int x1), some (.int x2), some (.int x3)], [], (mm L X I J)) = if (I 1 6) ≤ (I 1 5) then runI call iX7_numeral (78, [some (.ref 1), some (.int x1), some (.int x2), some (.int x3)], [], (mm L X I J)) else bnd (call nX7_byteAt [.ref 1, .int (I 1 5)] (mm L X I J)) (fun v m' => runI call iX7_numeral (37, [some (.ref 1), some (.int x1), some (.int x2), some (.int x3)], v.toList ++ [], m')) := by
  refine Eq.trans (st1 dX7_numeral_18 rfl rfl) ?_
  refine Eq.trans (getIm dX7_numeral_19 cp_7_22 ka_1 (.inl rfl)) ?_
  refine Eq.trans (st1 dX7_numeral_22 rfl rfl) ?_
  refine Eq.trans (getIm dX7_numeral_23 cp_7_25 ka_1 (.inl rfl)) ?_
  refine Eq.trans (ic_ge (tgt := 78) dX7_numeral_26 (by decide +kernel)) (ite_cong (fun _ => ?_) (fun _ => ?_))
  · rfl
  · refine Eq.trans (st1 dX7_numeral_29 rfl rfl) ?_
    refine Eq.trans (st1 dX7_numeral_30 rfl rfl) ?_
    refine Eq.trans (getIm dX7_numeral_31 cp_7_22 ka_1 (.inl rfl)) ?_
    exact iv0 dX7_numeral_34 rfl cp_7_31 rfl rfl (kd_ka ka_1) ka_1.1 (Nat.le_of_ble_eq_true rfl)
theorem q_X7_numeral_15 {call : CALL} {L X : Nat} {I : Nat → Nat → Int32} {J : Nat → Nat → Int64} {u0 : Option Value} {u1 : Option Value} {u2 : Option Value} {u3 : Option Value} {s0 : Int32} : runI call iX7_numeral (15, [u0, u1, u2, u3], [.int s0], (mm L X I J)) = gd (b01 s0) (some (.inl (some (.int s0)), (mm L X I J))) := by
  exact ret1g dX7_numeral_15 rfl
theorem q_X7_numeral_78 {call : CALL} {L X : Nat} {I : Nat → Nat → Int32} {J : Nat → Nat → Int64} {x1 : Int32} {x2 : Int32} {x3 : Int32} : runI call iX7_numeral (78, [some (.ref 1), some (.int x1), some (.int x2), some (.int x3)], [], (mm L X I J)) = bndN (call nX11_within [.int x3, .int x1, .int x2] (mm L X (up2 I 1 4 x3) J)) (fun v m' => runI call iX7_numeral (89, [some (.ref 1), some (.int x1), some (.int x2), some (.int x3)], v.toList ++ [], m')) := by
  refine Eq.trans (st1 dX7_numeral_78 rfl rfl) ?_
  refine Eq.trans (st1 dX7_numeral_79 rfl rfl) ?_
  refine Eq.trans (putIm dX7_numeral_80 cp_7_56 ka_1 rfl) ?_
  refine Eq.trans (st1 dX7_numeral_83 rfl rfl) ?_
  refine Eq.trans (st1 dX7_numeral_84 rfl rfl) ?_
  refine Eq.trans (st1 dX7_numeral_85 rfl rfl) ?_
  exact is3 dX7_numeral_86 cp_7_59 (Nat.le_of_ble_eq_true rfl) rfl rfl (Nat.le_of_ble_eq_true rfl)
theorem q_X7_numeral_37 {call : CALL} {L X : Nat} {I : Nat → Nat → Int32} {J : Nat → Nat → Int64} {x1 : Int32} {x2 : Int32} {x3 : Int32} {s0 : Int32} : runI call iX7_numeral (37, [some (.ref 1), some (.int x1), some (.int x2), some (.int x3)], [.int s0], (mm L X I J)) = bndN (call nX7_isDigit [.int s0] (mm L X I J)) (fun v m' => runI call iX7_numeral (40, [some (.ref 1), some (.int x1), some (.int x2), some (.int x3)], v.toList ++ [], m')) := by
  exact is2 dX7_numeral_37 cp_7_46 (Nat.le_of_ble_eq_true rfl) rfl rfl (Nat.le_of_ble_eq_true rfl)
theorem q_X7_numeral_89 {call : CALL} {L X : Nat} {I : Nat → Nat → Int32} {J : Nat → Nat → Int64} {u1 : Option Value} {u2 : Option Value} {u3 : Option Value} {s0 : Int32} : runI call iX7_numeral (89, [some (.ref 1), u1, u2, u3], [.int s0], (mm L X I J)) = if s0 = (nI 0) then bnd (call nX7_blame [.ref 1, .int (nI 2)] (mm L X I J)) (fun v m' => runI call iX7_numeral (97, [some (.ref 1), u1, u2, u3], v.toList ++ [], m')) else some (.inl (some (.int (nI 1))), (mm L X I J)) := by
  refine Eq.trans (if_ne (tgt := 100) dX7_numeral_89 (by decide +kernel)) (ite_cong (fun _ => ?_) (fun _ => ?_))
  · refine Eq.trans (st1 dX7_numeral_92 rfl rfl) ?_
    refine Eq.trans (xiconst dX7_numeral_93 ci_2) ?_
    exact iv0 dX7_numeral_94 rfl cp_7_42 rfl rfl (kd_ka ka_1) ka_1.1 (Nat.le_of_ble_eq_true rfl)
  · refine Eq.trans (xiconst dX7_numeral_100 ci_1) ?_
    refine Eq.trans (go_to (tgt := 105) dX7_numeral_101 (by decide +kernel)) ?_
    exact ret1 dX7_numeral_105 rfl (.inr rfl)
theorem q_X7_numeral_40 {call : CALL} {L X : Nat} {I : Nat → Nat → Int32} {J : Nat → Nat → Int64} {x1 : Int32} {x2 : Int32} {x3 : Int32} {s0 : Int32} : runI call iX7_numeral (40, [some (.ref 1), some (.int x1), some (.int x2), some (.int x3)], [.int s0], (mm L X I J)) = if s0 = (nI 0) then runI call iX7_numeral (78, [some (.ref 1), some (.int x1), some (.int x2), some (.int x3)], [], (mm L X I J)) else bnd (call nX7_byteAt [.ref 1, .int (I 1 5)] (mm L X I J)) (fun v m' => runI call iX7_numeral (57, [some (.ref 1), some (.int x1), some (.int x2), some (.int x3)], v.toList ++ [.int (x3 * (nI 10)), .int (nI 100000)], m')) := by
  refine Eq.trans (if_eq (tgt := 78) dX7_numeral_40 (by decide +kernel)) (ite_cong (fun _ => ?_) (fun _ => ?_))
  · rfl
  · refine Eq.trans (xldc1 dX7_numeral_43 cp_7_49 cn_100000) ?_
    refine Eq.trans (st1 dX7_numeral_45 rfl rfl) ?_
    refine Eq.trans (xbipush dX7_numeral_46 cb_10) ?_
    refine Eq.trans (st1 dX7_numeral_48 rfl rfl) ?_
    refine Eq.trans (st1 dX7_numeral_49 rfl rfl) ?_
    refine Eq.trans (st1 dX7_numeral_50 rfl rfl) ?_
    refine Eq.trans (getIm dX7_numeral_51 cp_7_22 ka_1 (.inl rfl)) ?_
    exact iv0 dX7_numeral_54 rfl cp_7_31 rfl rfl (kd_ka ka_1) ka_1.1 (Nat.le_of_ble_eq_true rfl)
theorem q_X7_numeral_97 {call : CALL} {L X : Nat} {I : Nat → Nat → Int32} {J : Nat → Nat → Int64} {u0 : Option Value} {u1 : Option Value} {u2 : Option Value} {u3 : Option Value} {s0 : Int32} : runI call iX7_numeral (97, [u0, u1, u2, u3], [.int s0], (mm L X I J)) = if s0 = (nI 0) then some (.inl (some (.int (nI 0))), (mm L X I J)) else some (.inl (some (.int (nI 1))), (mm L X I J)) := by
  refine Eq.trans (if_eq (tgt := 104) dX7_numeral_97 (by decide +kernel)) (ite_cong (fun _ => ?_) (fun _ => ?_))
  · refine Eq.trans (xiconst dX7_numeral_104 ci_0) ?_
    exact ret1 dX7_numeral_105 rfl (.inl rfl)
  · refine Eq.trans (xiconst dX7_numeral_100 ci_1) ?_
    refine Eq.trans (go_to (tgt := 105) dX7_numeral_101 (by decide +kernel)) ?_
    exact ret1 dX7_numeral_105 rfl (.inr rfl)
theorem q_X7_numeral_57 {call : CALL} {L X : Nat} {I : Nat → Nat → Int32} {J : Nat → Nat → Int64} {x1 : Int32} {x2 : Int32} {u3 : Option Value} {s0 : Int32} {s1 : Int32} {s2 : Int32} : runI call iX7_numeral (57, [some (.ref 1), some (.int x1), some (.int x2), u3], [.int s2, .int s1, .int s0], (mm L X I J)) = runI call iX7_numeral (18, [some (.ref 1), some (.int x1), some (.int x2), some (.int (if ((s1 + s2) - (nI 48)) < s0 then ((s1 + s2) - (nI 48)) else s0))], [], (mm L X (up2 I 1 5 ((I 1 5) + (nI 1))) J)) := by
  refine Eq.trans (st1 dX7_numeral_57 rfl rfl) ?_
  refine Eq.trans (xbipush dX7_numeral_58 cb_48) ?_
  refine Eq.trans (st1 dX7_numeral_60 rfl rfl) ?_
  refine Eq.trans (imin dX7_numeral_61 cp_7_50 (Nat.le_of_ble_eq_true rfl)) ?_
  refine Eq.trans (st1 dX7_numeral_64 rfl rfl) ?_
  refine Eq.trans (st1 dX7_numeral_65 rfl rfl) ?_
  refine Eq.trans (st1 dX7_numeral_66 rfl rfl) ?_
  refine Eq.trans (getIm dX7_numeral_67 cp_7_22 ka_1 (.inl rfl)) ?_
  refine Eq.trans (xiconst dX7_numeral_70 ci_1) ?_
  refine Eq.trans (st1 dX7_numeral_71 rfl rfl) ?_
  refine Eq.trans (putIm dX7_numeral_72 cp_7_22 ka_1 rfl) ?_
  refine Eq.trans (go_to (tgt := 18) dX7_numeral_75 (by decide +kernel)) ?_
  rfl
theorem q_X7_isDigit_0 {call : CALL} {L X : Nat} {I : Nat → Nat → Int32} {J : Nat → Nat → Int64} {x0 : Int32} : runI call iX7_isDigit (0, [some (.int x0)], [], (mm L X I J)) = if x0 < (nI 48) then some (.inl (some (.int (nI 0))), (mm L X I J)) else if (nI 57) < x0 then some (.inl (some (.int (nI 0))), (mm L X I J)) else some (.inl (some (.int (nI 1))), (mm L X I J)) := by
  refine Eq.trans (st1 dX7_isDigit_0 rfl rfl) ?_
  refine Eq.trans (xbipush dX7_isDigit_1 cb_48) ?_
  refine Eq.trans (ic_lt (tgt := 16) dX7_isDigit_3 (by decide +kernel)) (ite_cong (fun _ => ?_) (fun _ => ?_))
  · refine Eq.trans (xiconst dX7_isDigit_16 ci_0) ?_
    exact ret1 dX7_isDigit_17 rfl (.inl rfl)
  · refine Eq.trans (st1 dX7_isDigit_6 rfl rfl) ?_
    refine Eq.trans (xbipush dX7_isDigit_7 cb_57) ?_
    refine Eq.trans (ic_gt (tgt := 16) dX7_isDigit_9 (by decide +kernel)) (ite_cong (fun _ => ?_) (fun _ => ?_))
    · refine Eq.trans (xiconst dX7_isDigit_16 ci_0) ?_
      exact ret1 dX7_isDigit_17 rfl (.inl rfl)
    · refine Eq.trans (xiconst dX7_isDigit_12 ci_1) ?_
      refine Eq.trans (go_to (tgt := 17) dX7_isDigit_13 (by decide +kernel)) ?_
      exact ret1 dX7_isDigit_17 rfl (.inr rfl)
theorem q_X7_noneSuch_0 {call : CALL} {L X : Nat} {I : Nat → Nat → Int32} {J : Nat → Nat → Int64}  : runI call iX7_noneSuch (0, [some (.ref 1)], [], (mm L X I J)) = bnd (call nX7_blame [.ref 1, .int (nI 2)] (mm L X I J)) (fun v m' => runI call iX7_noneSuch (5, [some (.ref 1)], v.toList ++ [], m')) := by
  refine Eq.trans (st1 dX7_noneSuch_0 rfl rfl) ?_
  refine Eq.trans (xiconst dX7_noneSuch_1 ci_2) ?_
  exact iv0 dX7_noneSuch_2 rfl cp_7_42 rfl rfl (kd_ka ka_1) ka_1.1 (Nat.le_of_ble_eq_true rfl)
theorem q_X7_noneSuch_5 {call : CALL} {L X : Nat} {I : Nat → Nat → Int32} {J : Nat → Nat → Int64} {u0 : Option Value} {s0 : Int32} : runI call iX7_noneSuch (5, [u0], [.int s0], (mm L X I J)) = gd (b01 s0) (some (.inl (some (.int s0)), (mm L X I J))) := by
  exact ret1g dX7_noneSuch_5 rfl
theorem q_X7_sign_0 {call : CALL} {L X : Nat} {I : Nat → Nat → Int32} {J : Nat → Nat → Int64} {x1 : Int32} : runI call iX7_sign (0, [some (.ref 1), some (.int x1)], [], (mm L X I J)) = bnd (call nX7_peek [.ref 1] (mm L X I J)) (fun v m' => runI call iX7_sign (4, [some (.ref 1), some (.int x1)], v.toList ++ [], m')) := by
  refine Eq.trans (st1 dX7_sign_0 rfl rfl) ?_
  exact iv0 dX7_sign_1 rfl cp_7_38 rfl rfl (kd_ka ka_1) ka_1.1 (Nat.le_of_ble_eq_true rfl)
theorem q_X7_sign_4 {call : CALL} {L X : Nat} {I : Nat → Nat → Int32} {J : Nat → Nat → Int64} {x1 : Int32} {s0 : Int32} : runI call iX7_sign (4, [some (.ref 1), some (.int x1)], [.int s0], (mm L X I J)) = if s0 = x1 then some (.inl (some (.int (nI 1))), (mm L X (up2 I 1 5 ((I 1 5) + (nI 1))) J)) else bnd (call nX7_blame [.ref 1, .int (nI 1)] (mm L X I J)) (fun v m' => runI call iX7_sign (13, [some (.ref 1), some (.int x1)], v.toList ++ [], m')) := by
  refine Eq.trans (st1 dX7_sign_4 rfl rfl) ?_
  refine Eq.trans (ic_eq (tgt := 14) dX7_sign_5 (by decide +kernel)) (ite_cong (fun _ => ?_) (fun _ => ?_))
  · refine Eq.trans (st1 dX7_sign_14 rfl rfl) ?_
    refine Eq.trans (st1 dX7_sign_15 rfl rfl) ?_
    refine Eq.trans (getIm dX7_sign_16 cp_7_22 ka_1 (.inl rfl)) ?_
    refine Eq.trans (xiconst dX7_sign_19 ci_1) ?_
    refine Eq.trans (st1 dX7_sign_20 rfl rfl) ?_
    refine Eq.trans (putIm dX7_sign_21 cp_7_22 ka_1 rfl) ?_
    refine Eq.trans (xiconst dX7_sign_24 ci_1) ?_
    exact ret1 dX7_sign_25 rfl (.inr rfl)
  · refine Eq.trans (st1 dX7_sign_8 rfl rfl) ?_
    refine Eq.trans (xiconst dX7_sign_9 ci_1) ?_
    exact iv0 dX7_sign_10 rfl cp_7_42 rfl rfl (kd_ka ka_1) ka_1.1 (Nat.le_of_ble_eq_true rfl)
theorem q_X7_sign_13 {call : CALL} {L X : Nat} {I : Nat → Nat → Int32} {J : Nat → Nat → Int64} {u0 : Option Value} {u1 : Option Value} {s0 : Int32} : runI call iX7_sign (13, [u0, u1], [.int s0], (mm L X I J)) = gd (b01 s0) (some (.inl (some (.int s0)), (mm L X I J))) := by
  exact ret1g dX7_sign_13 rfl
theorem q_X7_ended_0 {call : CALL} {L X : Nat} {I : Nat → Nat → Int32} {J : Nat → Nat → Int64}  : runI call iX7_ended (0, [some (.ref 1)], [], (mm L X I J)) = bnd (call nX7_peek [.ref 1] (mm L X I J)) (fun v m' => runI call iX7_ended (4, [some (.ref 1)], v.toList ++ [], m')) := by
  refine Eq.trans (st1 dX7_ended_0 rfl rfl) ?_
  exact iv0 dX7_ended_1 rfl cp_7_38 rfl rfl (kd_ka ka_1) ka_1.1 (Nat.le_of_ble_eq_true rfl)
theorem q_X7_ended_4 {call : CALL} {L X : Nat} {I : Nat → Nat → Int32} {J : Nat → Nat → Int64} {s0 : Int32} : runI call iX7_ended (4, [some (.ref 1)], [.int s0], (mm L X I J)) = if s0 = (-1 : Int32) then some (.inl (some (.int (nI 1))), (mm L X I J)) else bnd (call nX7_blame [.ref 1, .int (nI 1)] (mm L X I J)) (fun v m' => runI call iX7_ended (13, [some (.ref 1)], v.toList ++ [], m')) := by
  refine Eq.trans (xiconst dX7_ended_4 ci_m1) ?_
  refine Eq.trans (ic_eq (tgt := 16) dX7_ended_5 (by decide +kernel)) (ite_cong (fun _ => ?_) (fun _ => ?_))
  · refine Eq.trans (xiconst dX7_ended_16 ci_1) ?_
    refine Eq.trans (go_to (tgt := 21) dX7_ended_17 (by decide +kernel)) ?_
    exact ret1 dX7_ended_21 rfl (.inr rfl)
  · refine Eq.trans (st1 dX7_ended_8 rfl rfl) ?_
    refine Eq.trans (xiconst dX7_ended_9 ci_1) ?_
    exact iv0 dX7_ended_10 rfl cp_7_42 rfl rfl (kd_ka ka_1) ka_1.1 (Nat.le_of_ble_eq_true rfl)
theorem q_X7_ended_13 {call : CALL} {L X : Nat} {I : Nat → Nat → Int32} {J : Nat → Nat → Int64} {u0 : Option Value} {s0 : Int32} : runI call iX7_ended (13, [u0], [.int s0], (mm L X I J)) = if s0 = (nI 0) then some (.inl (some (.int (nI 0))), (mm L X I J)) else some (.inl (some (.int (nI 1))), (mm L X I J)) := by
  refine Eq.trans (if_eq (tgt := 20) dX7_ended_13 (by decide +kernel)) (ite_cong (fun _ => ?_) (fun _ => ?_))
  · refine Eq.trans (xiconst dX7_ended_20 ci_0) ?_
    exact ret1 dX7_ended_21 rfl (.inl rfl)
  · refine Eq.trans (xiconst dX7_ended_16 ci_1) ?_
    refine Eq.trans (go_to (tgt := 21) dX7_ended_17 (by decide +kernel)) ?_
    exact ret1 dX7_ended_21 rfl (.inr rfl)
theorem q_X8_reachedBits_0 {call : CALL} {L X : Nat} {I : Nat → Nat → Int32} {J : Nat → Nat → Int64} {a1 : Nat} (h1 : oc3 a1) : runI call iX8_reachedBits (0, [some (.ref 52), some (.ref a1), none, none, none, none], [], (mm L X I J)) = if (I 3 2) = (nI 0) then some (.inl (some (.int (nI 0))), (mm L X I J)) else bnd (call nX8_arriving [.ref 52, .ref a1, .int (I a1 7)] (mm L X I J)) (fun v m' => runI call iX8_reachedBits (21, [some (.ref 52), some (.ref a1), none, none, none, none], v.toList ++ [], m')) := by
  refine Eq.trans (st1 dX8_reachedBits_0 rfl rfl) ?_
  refine Eq.trans (getRm dX8_reachedBits_1 cp_8_25 ka_52 rfl r_52_0) ?_
  refine Eq.trans (getIm dX8_reachedBits_4 cp_8_89 ka_3 (.inl rfl)) ?_
  refine Eq.trans (if_ne (tgt := 12) dX8_reachedBits_7 (by decide +kernel)) (ite_cong (fun _ => ?_) (fun _ => ?_))
  · refine Eq.trans (xiconst dX8_reachedBits_10 ci_0) ?_
    exact ret0 dX8_reachedBits_11 rfl
  · refine Eq.trans (st1 dX8_reachedBits_12 rfl rfl) ?_
    refine Eq.trans (st1 dX8_reachedBits_13 rfl rfl) ?_
    refine Eq.trans (st1 dX8_reachedBits_14 rfl rfl) ?_
    refine Eq.trans (getIm dX8_reachedBits_15 cp_8_92 (ks3_0 h1) (.inl rfl)) ?_
    exact iv0 dX8_reachedBits_18 rfl cp_8_95 rfl rfl (kd_ka ka_52) ka_52.1 (Nat.le_of_ble_eq_true rfl)
theorem q_X8_reachedBits_21 {call : CALL} {L X : Nat} {I : Nat → Nat → Int32} {J : Nat → Nat → Int64} {a1 : Nat} {u2 : Option Value} {u3 : Option Value} {u4 : Option Value} {u5 : Option Value} {s0 : Int32} (h1 : oc3 a1) : runI call iX8_reachedBits (21, [some (.ref 52), some (.ref a1), u2, u3, u4, u5], [.int s0], (mm L X I J)) = bnd (call nX3_longNow [.ref a1, .ref 3] (mm L X I J)) (fun v m' => runI call iX8_reachedBits (30, [some (.ref 52), some (.ref a1), some (.int s0), u3, u4, u5], v.toList ++ [], m')) := by
  refine Eq.trans (st1 dX8_reachedBits_21 rfl rfl) ?_
  refine Eq.trans (st1 dX8_reachedBits_22 rfl rfl) ?_
  refine Eq.trans (st1 dX8_reachedBits_23 rfl rfl) ?_
  refine Eq.trans (getRm dX8_reachedBits_24 cp_8_25 ka_52 rfl r_52_0) ?_
  exact iv0 dX8_reachedBits_27 rfl cp_8_99 rfl rfl (kd_ka (ks3_0 h1)) (ks3_0 h1).1 (Nat.le_of_ble_eq_true rfl)
theorem q_X8_reachedBits_30 {call : CALL} {L X : Nat} {I : Nat → Nat → Int32} {J : Nat → Nat → Int64} {u1 : Option Value} {x2 : Int32} {u3 : Option Value} {u4 : Option Value} {u5 : Option Value} {s0 : Int32} : runI call iX8_reachedBits (30, [some (.ref 52), u1, some (.int x2), u3, u4, u5], [.int s0], (mm L X I J)) = runI call iX8_reachedBits (37, [some (.ref 52), u1, some (.int x2), some (.int s0), some (.int (nI 0)), some (.int (nI 0))], [], (mm L X I J)) := by
  refine Eq.trans (st1 dX8_reachedBits_30 rfl rfl) ?_
  refine Eq.trans (xiconst dX8_reachedBits_31 ci_0) ?_
  refine Eq.trans (st1 dX8_reachedBits_32 rfl rfl) ?_
  refine Eq.trans (xiconst dX8_reachedBits_34 ci_0) ?_
  refine Eq.trans (st1 dX8_reachedBits_35 rfl rfl) ?_
  rfl
theorem q_X8_reachedBits_37 {call : CALL} {L X : Nat} {I : Nat → Nat → Int32} {J : Nat → Nat → Int64} {u1 : Option Value} {x2 : Int32} {x3 : Int32} {x4 : Int32} {x5 : Int32} : runI call iX8_reachedBits (37, [some (.ref 52), u1, some (.int x2), some (.int x3), some (.int x4), some (.int x5)], [], (mm L X I J)) = if (I 3 2) ≤ x5 then some (.inl (some (.int x4)), (mm L X I J)) else bnd (call nX1_reaches [.ref 3, .int x5, .int x3, .int x2] (mm L X I J)) (fun v m' => runI call iX8_reachedBits (60, [some (.ref 52), u1, some (.int x2), some (.int x3), some (.int x4), some (.int x5)], v.toList ++ [], m')) := by
  refine Eq.trans (st1 dX8_reachedBits_37 rfl rfl) ?_
  refine Eq.trans (st1 dX8_reachedBits_39 rfl rfl) ?_
  refine Eq.trans (getRm dX8_reachedBits_40 cp_8_25 ka_52 rfl r_52_0) ?_
  refine Eq.trans (getIm dX8_reachedBits_43 cp_8_89 ka_3 (.inl rfl)) ?_
  refine Eq.trans (ic_ge (tgt := 78) dX8_reachedBits_46 (by decide +kernel)) (ite_cong (fun _ => ?_) (fun _ => ?_))
  · refine Eq.trans (st1 dX8_reachedBits_78 rfl rfl) ?_
    exact ret0 dX8_reachedBits_80 rfl
  · refine Eq.trans (st1 dX8_reachedBits_49 rfl rfl) ?_
    refine Eq.trans (getRm dX8_reachedBits_50 cp_8_25 ka_52 rfl r_52_0) ?_
    refine Eq.trans (st1 dX8_reachedBits_53 rfl rfl) ?_
    refine Eq.trans (st1 dX8_reachedBits_55 rfl rfl) ?_
    refine Eq.trans (st1 dX8_reachedBits_56 rfl rfl) ?_
    exact iv0 dX8_reachedBits_57 rfl cp_8_103 rfl rfl (kd_ka ka_3) ka_3.1 (Nat.le_of_ble_eq_true rfl)
theorem q_X8_reachedBits_60 {call : CALL} {L X : Nat} {I : Nat → Nat → Int32} {J : Nat → Nat → Int64} {u1 : Option Value} {x2 : Int32} {x3 : Int32} {x4 : Int32} {x5 : Int32} {s0 : Int32} : runI call iX8_reachedBits (60, [some (.ref 52), u1, some (.int x2), some (.int x3), some (.int x4), some (.int x5)], [.int s0], (mm L X I J)) = if s0 = (nI 0) then runI call iX8_reachedBits (72, [some (.ref 52), u1, some (.int x2), some (.int x3), some (.int x4), some (.int x5)], [], (mm L X I J)) else runI call iX8_reachedBits (72, [some (.ref 52), u1, some (.int x2), some (.int x3), some (.int (x4 ||| ((nI 1) <<< (x5 &&& 31)))), some (.int x5)], [], (mm L X I J)) := by
  refine Eq.trans (if_eq (tgt := 72) dX8_reachedBits_60 (by decide +kernel)) (ite_cong (fun _ => ?_) (fun _ => ?_))
  · rfl
  · refine Eq.trans (st1 dX8_reachedBits_63 rfl rfl) ?_
    refine Eq.trans (xiconst dX8_reachedBits_65 ci_1) ?_
    refine Eq.trans (st1 dX8_reachedBits_66 rfl rfl) ?_
    refine Eq.trans (st1 dX8_reachedBits_68 rfl rfl) ?_
    refine Eq.trans (st1 dX8_reachedBits_69 rfl rfl) ?_
    refine Eq.trans (st1 dX8_reachedBits_70 rfl rfl) ?_
    rfl
theorem q_X8_reachedBits_72 {call : CALL} {L X : Nat} {I : Nat → Nat → Int32} {J : Nat → Nat → Int64} {u1 : Option Value} {x2 : Int32} {x3 : Int32} {x4 : Int32} {x5 : Int32} : runI call iX8_reachedBits (72, [some (.ref 52), u1, some (.int x2), some (.int x3), some (.int x4), some (.int x5)], [], (mm L X I J)) = runI call iX8_reachedBits (37, [some (.ref 52), u1, some (.int x2), some (.int x3), some (.int x4), some (.int (x5 + (nI 1)))], [], (mm L X I J)) := by
  refine Eq.trans (xinc2 dX8_reachedBits_72 ci_1 rfl (Nat.le_of_ble_eq_true rfl) rfl) ?_
  refine Eq.trans (go_to (tgt := 37) dX8_reachedBits_75 (by decide +kernel)) ?_
  rfl
theorem q_X8_arriving_0 {call : CALL} {L X : Nat} {I : Nat → Nat → Int32} {J : Nat → Nat → Int64} {a1 : Nat} {x2 : Int32} (h1 : oc3 a1) : runI call iX8_arriving (0, [some (.ref 52), some (.ref a1), some (.int x2), none, none], [], (mm L X I J)) = runI call iX8_arriving (5, [some (.ref 52), some (.ref a1), some (.int x2), some (.int x2), some (.int (nI 0))], [], (mm L X I J)) := by
  refine Eq.trans (st1 dX8_arriving_0 rfl rfl) ?_
  refine Eq.trans (st1 dX8_arriving_1 rfl rfl) ?_
  refine Eq.trans (xiconst dX8_arriving_2 ci_0) ?_
  refine Eq.trans (st1 dX8_arriving_3 rfl rfl) ?_
  rfl
theorem q_X8_arriving_5 {call : CALL} {L X : Nat} {I : Nat → Nat → Int32} {J : Nat → Nat → Int64} {a1 : Nat} {x2 : Int32} {x3 : Int32} {x4 : Int32} (h1 : oc3 a1) : runI call iX8_arriving (5, [some (.ref 52), some (.ref a1), some (.int x2), some (.int x3), some (.int x4)], [], (mm L X I J)) = if (I a1 5) ≤ x4 then some (.inl (some (.int x3)), (mm L X I J)) else if (nI 6) ≤ x4 then some (.inl (some (.int x3)), (mm L X I J)) else gd (inb x4 6) (bnd (call nX3_wayOf [.ref a1, .int (I (a1 + 1) (x4).toNatClampNeg)] (mm L X I J)) (fun v m' => runI call iX8_arriving (34, [some (.ref 52), some (.ref a1), some (.int x2), some (.int x3), some (.int x4)], v.toList ++ [.ref a1, .ref 52], m'))) := by
  refine Eq.trans (st1 dX8_arriving_5 rfl rfl) ?_
  refine Eq.trans (st1 dX8_arriving_7 rfl rfl) ?_
  refine Eq.trans (getIm dX8_arriving_8 cp_8_33 (ks3_0 h1) (.inl rfl)) ?_
  refine Eq.trans (ic_ge (tgt := 76) dX8_arriving_11 (by decide +kernel)) (ite_cong (fun _ => ?_) (fun _ => ?_))
  · refine Eq.trans (st1 dX8_arriving_76 rfl rfl) ?_
    exact ret0 dX8_arriving_77 rfl
  · refine Eq.trans (st1 dX8_arriving_14 rfl rfl) ?_
    refine Eq.trans (xbipush dX8_arriving_16 cb_6) ?_
    refine Eq.trans (ic_ge (tgt := 76) dX8_arriving_18 (by decide +kernel)) (ite_cong (fun _ => ?_) (fun _ => ?_))
    · refine Eq.trans (st1 dX8_arriving_76 rfl rfl) ?_
      exact ret0 dX8_arriving_77 rfl
    · refine Eq.trans (st1 dX8_arriving_21 rfl rfl) ?_
      refine Eq.trans (st1 dX8_arriving_22 rfl rfl) ?_
      refine Eq.trans (st1 dX8_arriving_23 rfl rfl) ?_
      refine Eq.trans (st1 dX8_arriving_24 rfl rfl) ?_
      refine Eq.trans (getRm dX8_arriving_25 cp_8_38 (ks3_0 h1) rfl (rs3_0 h1)) ?_
      refine Eq.trans (st1 dX8_arriving_28 rfl rfl) ?_
      refine Eq.trans (al1m dX8_arriving_30 (ks3_1 h1)) (gd_congr fun g1 => ?_)
      exact iv0 dX8_arriving_31 rfl cp_8_41 rfl rfl (kd_ka (ks3_0 h1)) (ks3_0 h1).1 (Nat.le_of_ble_eq_true rfl)
theorem q_X8_arriving_34 {call : CALL} {L X : Nat} {I : Nat → Nat → Int32} {J : Nat → Nat → Int64} {a1 : Nat} {x2 : Int32} {x3 : Int32} {x4 : Int32} {s2 : Int32} (h1 : oc3 a1) : runI call iX8_arriving (34, [some (.ref 52), some (.ref a1), some (.int x2), some (.int x3), some (.int x4)], [.int s2, .ref a1, .ref 52], (mm L X I J)) = bnd (call nX8_behindPiece [.ref 52, .ref a1, .int s2, .int x4, .int x3, .int x2] (mm L X I J)) (fun v m' => runI call iX8_arriving (41, [some (.ref 52), some (.ref a1), some (.int x2), some (.int x3), some (.int x4)], v.toList ++ [], m')) := by
  refine Eq.trans (st1 dX8_arriving_34 rfl rfl) ?_
  refine Eq.trans (st1 dX8_arriving_36 rfl rfl) ?_
  refine Eq.trans (st1 dX8_arriving_37 rfl rfl) ?_
  exact iv0 dX8_arriving_38 rfl cp_8_45 rfl rfl (kd_ka ka_52) ka_52.1 (Nat.le_of_ble_eq_true rfl)
theorem q_X8_arriving_41 {call : CALL} {L X : Nat} {I : Nat → Nat → Int32} {J : Nat → Nat → Int64} {a1 : Nat} {x2 : Int32} {u3 : Option Value} {x4 : Int32} {s0 : Int32} (h1 : oc3 a1) : runI call iX8_arriving (41, [some (.ref 52), some (.ref a1), some (.int x2), u3, some (.int x4)], [.int s0], (mm L X I J)) = if x4 = (I 52 5) then runI call iX8_arriving (62, [some (.ref 52), some (.ref a1), some (.int x2), some (.int (if (nI 0) < (s0 - (I 52 6)) then (s0 - (I 52 6)) else (nI 0))), some (.int x4)], [], (mm L X I J)) else runI call iX8_arriving (62, [some (.ref 52), some (.ref a1), some (.int x2), some (.int s0), some (.int x4)], [], (mm L X I J)) := by
  refine Eq.trans (st1 dX8_arriving_41 rfl rfl) ?_
  refine Eq.trans (st1 dX8_arriving_42 rfl rfl) ?_
  refine Eq.trans (st1 dX8_arriving_44 rfl rfl) ?_
  refine Eq.trans (getIm dX8_arriving_45 cp_8_21 ka_52 (.inl rfl)) ?_
  refine Eq.trans (ic_ne (tgt := 62) dX8_arriving_48 (by decide +kernel)) (ite_cong (fun _ => ?_) (fun _ => ?_))
  · refine Eq.trans (xiconst dX8_arriving_51 ci_0) ?_
    refine Eq.trans (st1 dX8_arriving_52 rfl rfl) ?_
    refine Eq.trans (st1 dX8_arriving_53 rfl rfl) ?_
    refine Eq.trans (getIm dX8_arriving_54 cp_8_49 ka_52 (.inl rfl)) ?_
    refine Eq.trans (st1 dX8_arriving_57 rfl rfl) ?_
    refine Eq.trans (imax dX8_arriving_58 cp_8_52 (Nat.le_of_ble_eq_true rfl)) ?_
    refine Eq.trans (st1 dX8_arriving_61 rfl rfl) ?_
    rfl
  · rfl
theorem q_X8_arriving_62 {call : CALL} {L X : Nat} {I : Nat → Nat → Int32} {J : Nat → Nat → Int64} {a1 : Nat} {x2 : Int32} {x3 : Int32} {x4 : Int32} (h1 : oc3 a1) : runI call iX8_arriving (62, [some (.ref 52), some (.ref a1), some (.int x2), some (.int x3), some (.int x4)], [], (mm L X I J)) = gd (inb x4 6) (runI call iX8_arriving (5, [some (.ref 52), some (.ref a1), some (.int x2), some (.int x3), some (.int (x4 + (nI 1)))], [], (mm L X (up2 I 53 (x4).toNatClampNeg x3) J))) := by
  refine Eq.trans (st1 dX8_arriving_62 rfl rfl) ?_
  refine Eq.trans (getRm dX8_arriving_63 cp_8_9 ka_52 rfl r_52_2) ?_
  refine Eq.trans (st1 dX8_arriving_66 rfl rfl) ?_
  refine Eq.trans (st1 dX8_arriving_68 rfl rfl) ?_
  refine Eq.trans (as1m dX8_arriving_69 ka_53) (gd_congr fun g1 => ?_)
  refine Eq.trans (xinc2 dX8_arriving_70 ci_1 rfl (Nat.le_of_ble_eq_true rfl) rfl) ?_
  refine Eq.trans (go_to (tgt := 5) dX8_arriving_73 (by decide +kernel)) ?_
  rfl
theorem q_X8_behindPiece_0 {call : CALL} {L X : Nat} {I : Nat → Nat → Int32} {J : Nat → Nat → Int64} {a1 : Nat} {x2 : Int32} {x3 : Int32} {x4 : Int32} {x5 : Int32} (h1 : oc3 a1) : runI call iX8_behindPiece (0, [some (.ref 52), some (.ref a1), some (.int x2), some (.int x3), some (.int x4), some (.int x5), none, none, none], [], (mm L X I J)) = bndN (call nX11_pick [.ref (a1 + 2), .int (x2 >>> ((nI 1) &&& 31))] (mm L X I J)) (fun v m' => runI call iX8_behindPiece (14, [some (.ref 52), some (.ref a1), some (.int x2), some (.int x3), some (.int x4), some (.int x5), some (.int (x2 >>> ((nI 1) &&& 31))), none, none], v.toList ++ [], m')) := by
  refine Eq.trans (st1 dX8_behindPiece_0 rfl rfl) ?_
  refine Eq.trans (xiconst dX8_behindPiece_1 ci_1) ?_
  refine Eq.trans (st1 dX8_behindPiece_2 rfl rfl) ?_
  refine Eq.trans (st1 dX8_behindPiece_3 rfl rfl) ?_
  refine Eq.trans (st1 dX8_behindPiece_5 rfl rfl) ?_
  refine Eq.trans (getRm dX8_behindPiece_6 cp_8_58 (ks3_0 h1) rfl (rs3_1 h1)) ?_
  refine Eq.trans (st1 dX8_behindPiece_9 rfl rfl) ?_
  exact is3 dX8_behindPiece_11 cp_8_61 (Nat.le_of_ble_eq_true rfl) rfl rfl (Nat.le_of_ble_eq_true rfl)
theorem q_X8_behindPiece_14 {call : CALL} {L X : Nat} {I : Nat → Nat → Int32} {J : Nat → Nat → Int64} {a1 : Nat} {x2 : Int32} {x3 : Int32} {x4 : Int32} {x5 : Int32} {x6 : Int32} {u7 : Option Value} {u8 : Option Value} {s0 : Int32} (h1 : oc3 a1) : runI call iX8_behindPiece (14, [some (.ref 52), some (.ref a1), some (.int x2), some (.int x3), some (.int x4), some (.int x5), some (.int x6), u7, u8], [.int s0], (mm L X I J)) = bndN (call nX11_pick [.ref 54, .int x3] (mm L X I J)) (fun v m' => runI call iX8_behindPiece (22, [some (.ref 52), some (.ref a1), some (.int x2), some (.int x3), some (.int x4), some (.int x5), some (.int x6), u7, u8], v.toList ++ [.int s0], m')) := by
  refine Eq.trans (st1 dX8_behindPiece_14 rfl rfl) ?_
  refine Eq.trans (getRm dX8_behindPiece_15 cp_8_15 ka_52 rfl r_52_3) ?_
  refine Eq.trans (st1 dX8_behindPiece_18 rfl rfl) ?_
  exact is3 dX8_behindPiece_19 cp_8_61 (Nat.le_of_ble_eq_true rfl) rfl rfl (Nat.le_of_ble_eq_true rfl)
theorem q_X8_behindPiece_22 {call : CALL} {L X : Nat} {I : Nat → Nat → Int32} {J : Nat → Nat → Int64} {a1 : Nat} {x2 : Int32} {x3 : Int32} {x4 : Int32} {x5 : Int32} {x6 : Int32} {u7 : Option Value} {u8 : Option Value} {s0 : Int32} {s1 : Int32} (h1 : oc3 a1) : runI call iX8_behindPiece (22, [some (.ref 52), some (.ref a1), some (.int x2), some (.int x3), some (.int x4), some (.int x5), some (.int x6), u7, u8], [.int s1, .int s0], (mm L X I J)) = bndN (call nX11_pick [.ref (a1 + 3), .int x6] (mm L X I J)) (fun v m' => runI call iX8_behindPiece (34, [some (.ref 52), some (.ref a1), some (.int x2), some (.int x3), some (.int x4), some (.int x5), some (.int x6), some (.int (s0 + s1)), u8], v.toList ++ [], m')) := by
  refine Eq.trans (st1 dX8_behindPiece_22 rfl rfl) ?_
  refine Eq.trans (st1 dX8_behindPiece_23 rfl rfl) ?_
  refine Eq.trans (st1 dX8_behindPiece_25 rfl rfl) ?_
  refine Eq.trans (getRm dX8_behindPiece_26 cp_8_65 (ks3_0 h1) rfl (rs3_2 h1)) ?_
  refine Eq.trans (st1 dX8_behindPiece_29 rfl rfl) ?_
  exact is3 dX8_behindPiece_31 cp_8_61 (Nat.le_of_ble_eq_true rfl) rfl rfl (Nat.le_of_ble_eq_true rfl)
theorem q_X8_behindPiece_34 {call : CALL} {L X : Nat} {I : Nat → Nat → Int32} {J : Nat → Nat → Int64} {u1 : Option Value} {x2 : Int32} {x3 : Int32} {x4 : Int32} {x5 : Int32} {x6 : Int32} {x7 : Int32} {u8 : Option Value} {s0 : Int32} : runI call iX8_behindPiece (34, [some (.ref 52), u1, some (.int x2), some (.int x3), some (.int x4), some (.int x5), some (.int x6), some (.int x7), u8], [.int s0], (mm L X I J)) = bndN (call nX11_pick [.ref 55, .int x3] (mm L X I J)) (fun v m' => runI call iX8_behindPiece (42, [some (.ref 52), u1, some (.int x2), some (.int x3), some (.int x4), some (.int x5), some (.int x6), some (.int x7), u8], v.toList ++ [.int s0], m')) := by
  refine Eq.trans (st1 dX8_behindPiece_34 rfl rfl) ?_
  refine Eq.trans (getRm dX8_behindPiece_35 cp_8_18 ka_52 rfl r_52_4) ?_
  refine Eq.trans (st1 dX8_behindPiece_38 rfl rfl) ?_
  exact is3 dX8_behindPiece_39 cp_8_61 (Nat.le_of_ble_eq_true rfl) rfl rfl (Nat.le_of_ble_eq_true rfl)
theorem q_X8_behindPiece_42 {call : CALL} {L X : Nat} {I : Nat → Nat → Int32} {J : Nat → Nat → Int64} {u1 : Option Value} {x2 : Int32} {x3 : Int32} {x4 : Int32} {x5 : Int32} {x6 : Int32} {x7 : Int32} {u8 : Option Value} {s0 : Int32} {s1 : Int32} : runI call iX8_behindPiece (42, [some (.ref 52), u1, some (.int x2), some (.int x3), some (.int x4), some (.int x5), some (.int x6), some (.int x7), u8], [.int s1, .int s0], (mm L X I J)) = bndN (call nX11_pick [.ref 5, .int x6] (mm L X I J)) (fun v m' => runI call iX8_behindPiece (61, [some (.ref 52), u1, some (.int x2), some (.int x3), some (.int x4), some (.int x5), some (.int x6), some (.int x7), some (.int (s0 + s1))], v.toList ++ [.ref 23], m')) := by
  refine Eq.trans (st1 dX8_behindPiece_42 rfl rfl) ?_
  refine Eq.trans (st1 dX8_behindPiece_43 rfl rfl) ?_
  refine Eq.trans (st1 dX8_behindPiece_45 rfl rfl) ?_
  refine Eq.trans (getRm dX8_behindPiece_46 cp_8_29 ka_52 rfl r_52_1) ?_
  refine Eq.trans (st1 dX8_behindPiece_49 rfl rfl) ?_
  refine Eq.trans (getRm dX8_behindPiece_50 cp_8_25 ka_52 rfl r_52_0) ?_
  refine Eq.trans (getRm dX8_behindPiece_53 cp_8_68 ka_3 rfl r_3_5) ?_
  refine Eq.trans (st1 dX8_behindPiece_56 rfl rfl) ?_
  exact is3 dX8_behindPiece_58 cp_8_61 (Nat.le_of_ble_eq_true rfl) rfl rfl (Nat.le_of_ble_eq_true rfl)
theorem q_X8_behindPiece_61 {call : CALL} {L X : Nat} {I : Nat → Nat → Int32} {J : Nat → Nat → Int64} {u1 : Option Value} {x2 : Int32} {x3 : Int32} {x4 : Int32} {x5 : Int32} {x6 : Int32} {x7 : Int32} {x8 : Int32} {s1 : Int32} : runI call iX8_behindPiece (61, [some (.ref 52), u1, some (.int x2), some (.int x3), some (.int x4), some (.int x5), some (.int x6), some (.int x7), some (.int x8)], [.int s1, .ref 23], (mm L X I J)) = bndN (call nX11_pick [.ref 4, .int x6] (mm L X I J)) (fun v m' => runI call iX8_behindPiece (73, [some (.ref 52), u1, some (.int x2), some (.int x3), some (.int x4), some (.int x5), some (.int x6), some (.int x7), some (.int x8)], v.toList ++ [.int s1, .ref 23], m')) := by
  refine Eq.trans (st1 dX8_behindPiece_61 rfl rfl) ?_
  refine Eq.trans (getRm dX8_behindPiece_62 cp_8_25 ka_52 rfl r_52_0) ?_
  refine Eq.trans (getRm dX8_behindPiece_65 cp_8_73 ka_3 rfl r_3_4) ?_
  refine Eq.trans (st1 dX8_behindPiece_68 rfl rfl) ?_
  exact is3 dX8_behindPiece_70 cp_8_61 (Nat.le_of_ble_eq_true rfl) rfl rfl (Nat.le_of_ble_eq_true rfl)
theorem q_X8_behindPiece_73 {call : CALL} {L X : Nat} {I : Nat → Nat → Int32} {J : Nat → Nat → Int64} {u1 : Option Value} {x2 : Int32} {x3 : Int32} {x4 : Int32} {x5 : Int32} {x6 : Int32} {x7 : Int32} {x8 : Int32} {s1 : Int32} {s2 : Int32} : runI call iX8_behindPiece (73, [some (.ref 52), u1, some (.int x2), some (.int x3), some (.int x4), some (.int x5), some (.int x6), some (.int x7), some (.int x8)], [.int s2, .int s1, .ref 23], (mm L X I J)) = bnd (call nX2_tellPiece [.ref 23, .int s1, .int s2, .int (x2 &&& (nI 1)), .int x6] (mm L X I J)) (fun v m' => runI call iX8_behindPiece (81, [some (.ref 52), u1, some (.int x2), some (.int x3), some (.int x4), some (.int x5), some (.int x6), some (.int x7), some (.int x8)], v.toList ++ [], m')) := by
  refine Eq.trans (st1 dX8_behindPiece_73 rfl rfl) ?_
  refine Eq.trans (xiconst dX8_behindPiece_74 ci_1) ?_
  refine Eq.trans (st1 dX8_behindPiece_75 rfl rfl) ?_
  refine Eq.trans (st1 dX8_behindPiece_76 rfl rfl) ?_
  exact iv0 dX8_behindPiece_78 rfl cp_8_76 rfl rfl (kd_ka ka_23) ka_23.1 (Nat.le_of_ble_eq_true rfl)
theorem q_X8_behindPiece_81 {call : CALL} {L X : Nat} {I : Nat → Nat → Int32} {J : Nat → Nat → Int64} {u1 : Option Value} {u2 : Option Value} {x3 : Int32} {x4 : Int32} {x5 : Int32} {u6 : Option Value} {x7 : Int32} {x8 : Int32} : runI call iX8_behindPiece (81, [some (.ref 52), u1, u2, some (.int x3), some (.int x4), some (.int x5), u6, some (.int x7), some (.int x8)], [], (mm L X I J)) = bnd (call nX2_tellNow [.ref 23, .int x4, .int x7, .int x8, .int x3, .int x5] (mm L X I J)) (fun v m' => runI call iX8_behindPiece (97, [some (.ref 52), u1, u2, some (.int x3), some (.int x4), some (.int x5), u6, some (.int x7), some (.int x8)], v.toList ++ [], m')) := by
  refine Eq.trans (st1 dX8_behindPiece_81 rfl rfl) ?_
  refine Eq.trans (getRm dX8_behindPiece_82 cp_8_29 ka_52 rfl r_52_1) ?_
  refine Eq.trans (st1 dX8_behindPiece_85 rfl rfl) ?_
  refine Eq.trans (st1 dX8_behindPiece_87 rfl rfl) ?_
  refine Eq.trans (st1 dX8_behindPiece_89 rfl rfl) ?_
  refine Eq.trans (st1 dX8_behindPiece_91 rfl rfl) ?_
  refine Eq.trans (st1 dX8_behindPiece_92 rfl rfl) ?_
  exact iv0 dX8_behindPiece_94 rfl cp_8_82 rfl rfl (kd_ka ka_23) ka_23.1 (Nat.le_of_ble_eq_true rfl)
theorem q_X8_behindPiece_97 {call : CALL} {L X : Nat} {I : Nat → Nat → Int32} {J : Nat → Nat → Int64} {u1 : Option Value} {u2 : Option Value} {u3 : Option Value} {u4 : Option Value} {u5 : Option Value} {u6 : Option Value} {u7 : Option Value} {u8 : Option Value} : runI call iX8_behindPiece (97, [some (.ref 52), u1, u2, u3, u4, u5, u6, u7, u8], [], (mm L X I J)) = bnd (call nX2_left [.ref 23] (mm L X I J)) (fun v m' => runI call iX8_behindPiece (104, [some (.ref 52), u1, u2, u3, u4, u5, u6, u7, u8], v.toList ++ [], m')) := by
  refine Eq.trans (st1 dX8_behindPiece_97 rfl rfl) ?_
  refine Eq.trans (getRm dX8_behindPiece_98 cp_8_29 ka_52 rfl r_52_1) ?_
  exact iv0 dX8_behindPiece_101 rfl cp_8_86 rfl rfl (kd_ka ka_23) ka_23.1 (Nat.le_of_ble_eq_true rfl)
theorem q_X8_behindPiece_104 {call : CALL} {L X : Nat} {I : Nat → Nat → Int32} {J : Nat → Nat → Int64} {u0 : Option Value} {u1 : Option Value} {u2 : Option Value} {u3 : Option Value} {u4 : Option Value} {u5 : Option Value} {u6 : Option Value} {u7 : Option Value} {u8 : Option Value} {s0 : Int32} : runI call iX8_behindPiece (104, [u0, u1, u2, u3, u4, u5, u6, u7, u8], [.int s0], (mm L X I J)) = some (.inl (some (.int s0)), (mm L X I J)) := by
  exact ret0 dX8_behindPiece_104 rfl
theorem q_X8_chanceOf_0 {call : CALL} {L X : Nat} {I : Nat → Nat → Int32} {J : Nat → Nat → Int64} {a1 : Nat} {x2 : Int32} {x3 : Int32} (h1 : oc3 a1) : runI call iX8_chanceOf (0, [some (.ref 52), some (.ref a1), some (.int x2), some (.int x3), none, none, none, none, none, none, none], [], (mm L X I J)) = bnd (call nX3_longNow [.ref a1, .ref 3] (mm L X I J)) (fun v m' => runI call iX8_chanceOf (8, [some (.ref 52), some (.ref a1), some (.int x2), some (.int x3), none, none, none, none, none, none, none], v.toList ++ [], m')) := by
  refine Eq.trans (st1 dX8_chanceOf_0 rfl rfl) ?_
  refine Eq.trans (st1 dX8_chanceOf_1 rfl rfl) ?_
  refine Eq.trans (getRm dX8_chanceOf_2 cp_8_25 ka_52 rfl r_52_0) ?_
  exact iv0 dX8_chanceOf_5 rfl cp_8_99 rfl rfl (kd_ka (ks3_0 h1)) (ks3_0 h1).1 (Nat.le_of_ble_eq_true rfl)
theorem q_X8_chanceOf_8 {call : CALL} {L X : Nat} {I : Nat → Nat → Int32} {J : Nat → Nat → Int64} {a1 : Nat} {x2 : Int32} {x3 : Int32} {u4 : Option Value} {u5 : Option Value} {u6 : Option Value} {u7 : Option Value} {u8 : Option Value} {u9 : Option Value} {u10 : Option Value} {s0 : Int32} (h1 : oc3 a1) : runI call iX8_chanceOf (8, [some (.ref 52), some (.ref a1), some (.int x2), some (.int x3), u4, u5, u6, u7, u8, u9, u10], [.int s0], (mm L X I J)) = runI call iX8_chanceOf (16, [some (.ref 52), some (.ref a1), some (.int x2), some (.int x3), some (.int s0), some (.long (lN 0)), none, some (.int (nI 0)), u8, u9, u10], [], (mm L X I J)) := by
  refine Eq.trans (st1 dX8_chanceOf_8 rfl rfl) ?_
  refine Eq.trans (st1 dX8_chanceOf_10 rfl rfl) ?_
  refine Eq.trans (st1 dX8_chanceOf_11 rfl rfl) ?_
  refine Eq.trans (xiconst dX8_chanceOf_13 ci_0) ?_
  refine Eq.trans (st1 dX8_chanceOf_14 rfl rfl) ?_
  rfl
theorem q_X8_chanceOf_16 {call : CALL} {L X : Nat} {I : Nat → Nat → Int32} {J : Nat → Nat → Int64} {a1 : Nat} {x2 : Int32} {x3 : Int32} {x4 : Int32} {y5 : Int64} {x7 : Int32} {u8 : Option Value} {u9 : Option Value} {u10 : Option Value} (h1 : oc3 a1) : runI call iX8_chanceOf (16, [some (.ref 52), some (.ref a1), some (.int x2), some (.int x3), some (.int x4), some (.long y5), none, some (.int x7), u8, u9, u10], [], (mm L X I J)) = if ((nI 1) <<< ((I a1 5) &&& 31)) ≤ x7 then bndN (call nJ7_fill_53178 [.ref 55, .int (nI 0)] (mm L X I J)) (fun v m' => runI call iX8_chanceOf (145, [some (.ref 52), some (.ref a1), some (.int x2), some (.int x3), some (.int x4), some (.long y5), none, some (.int x7), u8, u9, u10], v.toList ++ [], m')) else runI call iX8_chanceOf (33, [some (.ref 52), some (.ref a1), some (.int x2), some (.int x3), some (.int x4), some (.long y5), none, some (.int x7), some (.long (lN 1)), none, some (.int (nI 0))], [], (mm L X I J)) := by
  refine Eq.trans (st1 dX8_chanceOf_16 rfl rfl) ?_
  refine Eq.trans (xiconst dX8_chanceOf_18 ci_1) ?_
  refine Eq.trans (st1 dX8_chanceOf_19 rfl rfl) ?_
  refine Eq.trans (getIm dX8_chanceOf_20 cp_8_33 (ks3_0 h1) (.inl rfl)) ?_
  refine Eq.trans (st1 dX8_chanceOf_23 rfl rfl) ?_
  refine Eq.trans (ic_ge (tgt := 137) dX8_chanceOf_24 (by decide +kernel)) (ite_cong (fun _ => ?_) (fun _ => ?_))
  · refine Eq.trans (st1 dX8_chanceOf_137 rfl rfl) ?_
    refine Eq.trans (getRm dX8_chanceOf_138 cp_8_18 ka_52 rfl r_52_4) ?_
    refine Eq.trans (xiconst dX8_chanceOf_141 ci_0) ?_
    exact is2 dX8_chanceOf_142 cp_8_113 (Nat.le_of_ble_eq_true rfl) rfl rfl (Nat.le_of_ble_eq_true rfl)
  · refine Eq.trans (st1 dX8_chanceOf_27 rfl rfl) ?_
    refine Eq.trans (st1 dX8_chanceOf_28 rfl rfl) ?_
    refine Eq.trans (xiconst dX8_chanceOf_30 ci_0) ?_
    refine Eq.trans (st1 dX8_chanceOf_31 rfl rfl) ?_
    rfl
theorem q_X8_chanceOf_145 {call : CALL} {L X : Nat} {I : Nat → Nat → Int32} {J : Nat → Nat → Int64} {u0 : Option Value} {u1 : Option Value} {u2 : Option Value} {u3 : Option Value} {u4 : Option Value} {y5 : Int64} {u7 : Option Value} {u8 : Option Value} {u9 : Option Value} {u10 : Option Value} : runI call iX8_chanceOf (145, [u0, u1, u2, u3, u4, some (.long y5), none, u7, u8, u9, u10], [], (mm L X I J)) = some (.inl (some (.long y5)), (mm L X I J)) := by
  refine Eq.trans (st1 dX8_chanceOf_145 rfl rfl) ?_
  exact ret2 dX8_chanceOf_147 rfl
theorem q_X8_chanceOf_33 {call : CALL} {L X : Nat} {I : Nat → Nat → Int32} {J : Nat → Nat → Int64} {a1 : Nat} {x2 : Int32} {x3 : Int32} {x4 : Int32} {y5 : Int64} {x7 : Int32} {y8 : Int64} {x10 : Int32} (h1 : oc3 a1) : runI call iX8_chanceOf (33, [some (.ref 52), some (.ref a1), some (.int x2), some (.int x3), some (.int x4), some (.long y5), none, some (.int x7), some (.long y8), none, some (.int x10)], [], (mm L X I J)) = if (I a1 5) ≤ x10 then runI call iX8_chanceOf (95, [some (.ref 52), some (.ref a1), some (.int x2), some (.int x3), some (.int x4), some (.long y5), none, some (.int x7), some (.long y8), none, some (.int x10)], [], (mm L X I J)) else if (nI 6) ≤ x10 then runI call iX8_chanceOf (95, [some (.ref 52), some (.ref a1), some (.int x2), some (.int x3), some (.int x4), some (.long y5), none, some (.int x7), some (.long y8), none, some (.int x10)], [], (mm L X I J)) else bndN (call nX11_bit [.int x7, .int x10] (mm L X I J)) (fun v m' => runI call iX8_chanceOf (62, [some (.ref 52), some (.ref a1), some (.int x2), some (.int x3), some (.int x4), some (.long y5), none, some (.int x7), some (.long y8), none, some (.int x10)], v.toList ++ [.int x10, .ref 55], m')) := by
  refine Eq.trans (st1 dX8_chanceOf_33 rfl rfl) ?_
  refine Eq.trans (st1 dX8_chanceOf_35 rfl rfl) ?_
  refine Eq.trans (getIm dX8_chanceOf_36 cp_8_33 (ks3_0 h1) (.inl rfl)) ?_
  refine Eq.trans (ic_ge (tgt := 95) dX8_chanceOf_39 (by decide +kernel)) (ite_cong (fun _ => ?_) (fun _ => ?_))
  · rfl
  · refine Eq.trans (st1 dX8_chanceOf_42 rfl rfl) ?_
    refine Eq.trans (xbipush dX8_chanceOf_44 cb_6) ?_
    refine Eq.trans (ic_ge (tgt := 95) dX8_chanceOf_46 (by decide +kernel)) (ite_cong (fun _ => ?_) (fun _ => ?_))
    · rfl
    · refine Eq.trans (st1 dX8_chanceOf_49 rfl rfl) ?_
      refine Eq.trans (getRm dX8_chanceOf_50 cp_8_18 ka_52 rfl r_52_4) ?_
      refine Eq.trans (st1 dX8_chanceOf_53 rfl rfl) ?_
      refine Eq.trans (st1 dX8_chanceOf_55 rfl rfl) ?_
      refine Eq.trans (st1 dX8_chanceOf_57 rfl rfl) ?_
      exact is3 dX8_chanceOf_59 cp_8_110 (Nat.le_of_ble_eq_true rfl) rfl rfl (Nat.le_of_ble_eq_true rfl)
theorem q_X8_chanceOf_95 {call : CALL} {L X : Nat} {I : Nat → Nat → Int32} {J : Nat → Nat → Int64} {a1 : Nat} {x2 : Int32} {x3 : Int32} {x4 : Int32} {y5 : Int64} {x7 : Int32} {y8 : Int64} {u10 : Option Value} (h1 : oc3 a1) : runI call iX8_chanceOf (95, [some (.ref 52), some (.ref a1), some (.int x2), some (.int x3), some (.int x4), some (.long y5), none, some (.int x7), some (.long y8), none, u10], [], (mm L X I J)) = if (lg_cmp y8 (lN 0)) ≤ (nI 0) then runI call iX8_chanceOf (131, [some (.ref 52), some (.ref a1), some (.int x2), some (.int x3), some (.int x4), some (.long y5), none, some (.int x7), some (.long y8), none, u10], [], (mm L X I J)) else bnd (call nX8_arriving [.ref 52, .ref a1, .int (I a1 7)] (mm L X I J)) (fun v m' => runI call iX8_chanceOf (118, [some (.ref 52), some (.ref a1), some (.int x2), some (.int x3), some (.int x4), some (.long y5), none, some (.int x7), some (.long y8), none, u10], v.toList ++ [.int x4, .int x2, .ref 3], m')) := by
  refine Eq.trans (st1 dX8_chanceOf_95 rfl rfl) ?_
  refine Eq.trans (st1 dX8_chanceOf_97 rfl rfl) ?_
  refine Eq.trans (st1 dX8_chanceOf_98 rfl rfl) ?_
  refine Eq.trans (if_le (tgt := 131) dX8_chanceOf_99 (by decide +kernel)) (ite_cong (fun _ => ?_) (fun _ => ?_))
  · rfl
  · refine Eq.trans (st1 dX8_chanceOf_102 rfl rfl) ?_
    refine Eq.trans (getRm dX8_chanceOf_103 cp_8_25 ka_52 rfl r_52_0) ?_
    refine Eq.trans (st1 dX8_chanceOf_106 rfl rfl) ?_
    refine Eq.trans (st1 dX8_chanceOf_107 rfl rfl) ?_
    refine Eq.trans (st1 dX8_chanceOf_109 rfl rfl) ?_
    refine Eq.trans (st1 dX8_chanceOf_110 rfl rfl) ?_
    refine Eq.trans (st1 dX8_chanceOf_111 rfl rfl) ?_
    refine Eq.trans (getIm dX8_chanceOf_112 cp_8_92 (ks3_0 h1) (.inl rfl)) ?_
    exact iv0 dX8_chanceOf_115 rfl cp_8_95 rfl rfl (kd_ka ka_52) ka_52.1 (Nat.le_of_ble_eq_true rfl)
theorem q_X8_chanceOf_62 {call : CALL} {L X : Nat} {I : Nat → Nat → Int32} {J : Nat → Nat → Int64} {a1 : Nat} {x2 : Int32} {x3 : Int32} {x4 : Int32} {y5 : Int64} {x7 : Int32} {y8 : Int64} {x10 : Int32} {s1 : Int32} {s2 : Int32} (h1 : oc3 a1) : runI call iX8_chanceOf (62, [some (.ref 52), some (.ref a1), some (.int x2), some (.int x3), some (.int x4), some (.long y5), none, some (.int x7), some (.long y8), none, some (.int x10)], [.int s2, .int s1, .ref 55], (mm L X I J)) = gd (inb s1 6) (gd (inb x10 6) (if ((up2 I 55 (s1).toNatClampNeg s2) 55 (x10).toNatClampNeg) = (nI 1) then runI call iX8_chanceOf (86, [some (.ref 52), some (.ref a1), some (.int x2), some (.int x3), some (.int x4), some (.long y5), none, some (.int x7), some (.long y8), none, some (.int x10)], [.long (x3).toInt64, .long y8], (mm L X (up2 I 55 (s1).toNatClampNeg s2) J)) else runI call iX8_chanceOf (86, [some (.ref 52), some (.ref a1), some (.int x2), some (.int x3), some (.int x4), some (.long y5), none, some (.int x7), some (.long y8), none, some (.int x10)], [.long (((nI 16) - x3)).toInt64, .long y8], (mm L X (up2 I 55 (s1).toNatClampNeg s2) J)))) := by
  refine Eq.trans (as1m dX8_chanceOf_62 ka_55) (gd_congr fun g1 => ?_)
  refine Eq.trans (st1 dX8_chanceOf_63 rfl rfl) ?_
  refine Eq.trans (st1 dX8_chanceOf_65 rfl rfl) ?_
  refine Eq.trans (getRm dX8_chanceOf_66 cp_8_18 ka_52 rfl r_52_4) ?_
  refine Eq.trans (st1 dX8_chanceOf_69 rfl rfl) ?_
  refine Eq.trans (al1m dX8_chanceOf_71 ka_55) (gd_congr fun g2 => ?_)
  refine Eq.trans (xiconst dX8_chanceOf_72 ci_1) ?_
  refine Eq.trans (ic_ne (tgt := 81) dX8_chanceOf_73 (by decide +kernel)) (ite_cong (fun _ => ?_) (fun _ => ?_))
  · refine Eq.trans (st1 dX8_chanceOf_76 rfl rfl) ?_
    refine Eq.trans (st1 dX8_chanceOf_77 rfl rfl) ?_
    refine Eq.trans (go_to (tgt := 86) dX8_chanceOf_78 (by decide +kernel)) ?_
    rfl
  · refine Eq.trans (xbipush dX8_chanceOf_81 cb_16) ?_
    refine Eq.trans (st1 dX8_chanceOf_83 rfl rfl) ?_
    refine Eq.trans (st1 dX8_chanceOf_84 rfl rfl) ?_
    refine Eq.trans (st1 dX8_chanceOf_85 rfl rfl) ?_
    rfl
theorem q_X8_chanceOf_131 {call : CALL} {L X : Nat} {I : Nat → Nat → Int32} {J : Nat → Nat → Int64} {a1 : Nat} {x2 : Int32} {x3 : Int32} {x4 : Int32} {y5 : Int64} {x7 : Int32} {y8 : Int64} {u10 : Option Value} (h1 : oc3 a1) : runI call iX8_chanceOf (131, [some (.ref 52), some (.ref a1), some (.int x2), some (.int x3), some (.int x4), some (.long y5), none, some (.int x7), some (.long y8), none, u10], [], (mm L X I J)) = runI call iX8_chanceOf (16, [some (.ref 52), some (.ref a1), some (.int x2), some (.int x3), some (.int x4), some (.long y5), none, some (.int (x7 + (nI 1))), some (.long y8), none, u10], [], (mm L X I J)) := by
  refine Eq.trans (xinc2 dX8_chanceOf_131 ci_1 rfl (Nat.le_of_ble_eq_true rfl) rfl) ?_
  refine Eq.trans (go_to (tgt := 16) dX8_chanceOf_134 (by decide +kernel)) ?_
  rfl
theorem q_X8_chanceOf_118 {call : CALL} {L X : Nat} {I : Nat → Nat → Int32} {J : Nat → Nat → Int64} {a1 : Nat} {x2 : Int32} {x3 : Int32} {x4 : Int32} {y5 : Int64} {x7 : Int32} {y8 : Int64} {u10 : Option Value} {s1 : Int32} {s2 : Int32} {s3 : Int32} (h1 : oc3 a1) : runI call iX8_chanceOf (118, [some (.ref 52), some (.ref a1), some (.int x2), some (.int x3), some (.int x4), some (.long y5), none, some (.int x7), some (.long y8), none, u10], [.int s3, .int s2, .int s1, .ref 3], (mm L X I J)) = bnd (call nX1_reaches [.ref 3, .int s1, .int s2, .int s3] (mm L X I J)) (fun v m' => runI call iX8_chanceOf (121, [some (.ref 52), some (.ref a1), some (.int x2), some (.int x3), some (.int x4), some (.long y5), none, some (.int x7), some (.long y8), none, u10], v.toList ++ [], m')) := by
  exact iv0 dX8_chanceOf_118 rfl cp_8_103 rfl rfl (kd_ka ka_3) ka_3.1 (Nat.le_of_ble_eq_true rfl)
theorem q_X8_chanceOf_86 {call : CALL} {L X : Nat} {I : Nat → Nat → Int32} {J : Nat → Nat → Int64} {a1 : Nat} {x2 : Int32} {x3 : Int32} {x4 : Int32} {y5 : Int64} {x7 : Int32} {y8 : Int64} {x10 : Int32} {z0 : Int64} {z1 : Int64} (h1 : oc3 a1) : runI call iX8_chanceOf (86, [some (.ref 52), some (.ref a1), some (.int x2), some (.int x3), some (.int x4), some (.long y5), none, some (.int x7), some (.long y8), none, some (.int x10)], [.long z1, .long z0], (mm L X I J)) = runI call iX8_chanceOf (33, [some (.ref 52), some (.ref a1), some (.int x2), some (.int x3), some (.int x4), some (.long y5), none, some (.int x7), some (.long (z0 * z1)), none, some (.int (x10 + (nI 1)))], [], (mm L X I J)) := by
  refine Eq.trans (st1 dX8_chanceOf_86 rfl rfl) ?_
  refine Eq.trans (st1 dX8_chanceOf_87 rfl rfl) ?_
  refine Eq.trans (xinc2 dX8_chanceOf_89 ci_1 rfl (Nat.le_of_ble_eq_true rfl) rfl) ?_
  refine Eq.trans (go_to (tgt := 33) dX8_chanceOf_92 (by decide +kernel)) ?_
  rfl
theorem q_X8_chanceOf_16b {call : CALL} {L X : Nat} {I : Nat → Nat → Int32} {J : Nat → Nat → Int64} {a1 : Nat} {x2 : Int32} {x3 : Int32} {x4 : Int32} {y5 : Int64} {x7 : Int32} {y8 : Int64} {u10 : Option Value} (h1 : oc3 a1) : runI call iX8_chanceOf (16, [some (.ref 52), some (.ref a1), some (.int x2), some (.int x3), some (.int x4), some (.long y5), none, some (.int x7), some (.long y8), none, u10], [], (mm L X I J)) = if ((nI 1) <<< ((I a1 5) &&& 31)) ≤ x7 then bndN (call nJ7_fill_53178 [.ref 55, .int (nI 0)] (mm L X I J)) (fun v m' => runI call iX8_chanceOf (145, [some (.ref 52), some (.ref a1), some (.int x2), some (.int x3), some (.int x4), some (.long y5), none, some (.int x7), some (.long y8), none, u10], v.toList ++ [], m')) else runI call iX8_chanceOf (33, [some (.ref 52), some (.ref a1), some (.int x2), some (.int x3), some (.int x4), some (.long y5), none, some (.int x7), some (.long (lN 1)), none, some (.int (nI 0))], [], (mm L X I J)) := by
  refine Eq.trans (st1 dX8_chanceOf_16 rfl rfl) ?_
  refine Eq.trans (xiconst dX8_chanceOf_18 ci_1) ?_
  refine Eq.trans (st1 dX8_chanceOf_19 rfl rfl) ?_
  refine Eq.trans (getIm dX8_chanceOf_20 cp_8_33 (ks3_0 h1) (.inl rfl)) ?_
  refine Eq.trans (st1 dX8_chanceOf_23 rfl rfl) ?_
  refine Eq.trans (ic_ge (tgt := 137) dX8_chanceOf_24 (by decide +kernel)) (ite_cong (fun _ => ?_) (fun _ => ?_))
  · refine Eq.trans (st1 dX8_chanceOf_137 rfl rfl) ?_
    refine Eq.trans (getRm dX8_chanceOf_138 cp_8_18 ka_52 rfl r_52_4) ?_
    refine Eq.trans (xiconst dX8_chanceOf_141 ci_0) ?_
    exact is2 dX8_chanceOf_142 cp_8_113 (Nat.le_of_ble_eq_true rfl) rfl rfl (Nat.le_of_ble_eq_true rfl)
  · refine Eq.trans (st1 dX8_chanceOf_27 rfl rfl) ?_
    refine Eq.trans (st1 dX8_chanceOf_28 rfl rfl) ?_
    refine Eq.trans (xiconst dX8_chanceOf_30 ci_0) ?_
    refine Eq.trans (st1 dX8_chanceOf_31 rfl rfl) ?_
    rfl
theorem q_X8_chanceOf_121 {call : CALL} {L X : Nat} {I : Nat → Nat → Int32} {J : Nat → Nat → Int64} {a1 : Nat} {x2 : Int32} {x3 : Int32} {x4 : Int32} {y5 : Int64} {x7 : Int32} {y8 : Int64} {u10 : Option Value} {s0 : Int32} (h1 : oc3 a1) : runI call iX8_chanceOf (121, [some (.ref 52), some (.ref a1), some (.int x2), some (.int x3), some (.int x4), some (.long y5), none, some (.int x7), some (.long y8), none, u10], [.int s0], (mm L X I J)) = if s0 = (nI 0) then runI call iX8_chanceOf (131, [some (.ref 52), some (.ref a1), some (.int x2), some (.int x3), some (.int x4), some (.long y5), none, some (.int x7), some (.long y8), none, u10], [], (mm L X I J)) else runI call iX8_chanceOf (131, [some (.ref 52), some (.ref a1), some (.int x2), some (.int x3), some (.int x4), some (.long (y5 + y8)), none, some (.int x7), some (.long y8), none, u10], [], (mm L X I J)) := by
  refine Eq.trans (if_eq (tgt := 131) dX8_chanceOf_121 (by decide +kernel)) (ite_cong (fun _ => ?_) (fun _ => ?_))
  · rfl
  · refine Eq.trans (st1 dX8_chanceOf_124 rfl rfl) ?_
    refine Eq.trans (st1 dX8_chanceOf_126 rfl rfl) ?_
    refine Eq.trans (st1 dX8_chanceOf_128 rfl rfl) ?_
    refine Eq.trans (st1 dX8_chanceOf_129 rfl rfl) ?_
    rfl
theorem q_X8_chanceOf_145b {call : CALL} {L X : Nat} {I : Nat → Nat → Int32} {J : Nat → Nat → Int64} {u0 : Option Value} {u1 : Option Value} {u2 : Option Value} {u3 : Option Value} {u4 : Option Value} {y5 : Int64} {u7 : Option Value} {y8 : Int64} {u10 : Option Value} : runI call iX8_chanceOf (145, [u0, u1, u2, u3, u4, some (.long y5), none, u7, some (.long y8), none, u10], [], (mm L X I J)) = some (.inl (some (.long y5)), (mm L X I J)) := by
  refine Eq.trans (st1 dX8_chanceOf_145 rfl rfl) ?_
  exact ret2 dX8_chanceOf_147 rfl
