/-! EQUATIONS OF THE METHODS (written by gen_eq.py) -/
theorem q_X12_brief_0 {call : CALL} {L X : Nat} {I : Nat → Nat → Int32} {J : Nat → Nat → Int64} {x1 : Int32} : runI call iX12_brief (0, [some (.ref 72), some (.int x1)], [], (mm L X I J)) = bnd (call nX12_isFire [.ref 72, .int x1] (mm L X (up2 I 72 0 (nI 0)) J)) (fun v m' => runI call iX12_brief (11, [some (.ref 72), some (.int x1)], v.toList ++ [.ref 72], m')) := by
  refine Eq.trans (st1 dX12_brief_0 rfl rfl) ?_
  refine Eq.trans (xiconst dX12_brief_1 ci_0) ?_
  refine Eq.trans (putIm dX12_brief_2 cp_12_103 ka_72 rfl) ?_
  refine Eq.trans (st1 dX12_brief_5 rfl rfl) ?_
  refine Eq.trans (st1 dX12_brief_6 rfl rfl) ?_
  refine Eq.trans (st1 dX12_brief_7 rfl rfl) ?_
  exact iv0 dX12_brief_8 rfl cp_12_360 rfl rfl (kd_ka ka_72) ka_72.1 (Nat.le_of_ble_eq_true rfl)
theorem q_X12_brief_11 {call : CALL} {L X : Nat} {I : Nat → Nat → Int32} {J : Nat → Nat → Int64} {x1 : Int32} {s1 : Int32} : runI call iX12_brief (11, [some (.ref 72), some (.int x1)], [.int s1, .ref 72], (mm L X I J)) = if s1 = (nI 0) then runI call iX12_brief (19, [some (.ref 72), some (.int x1)], [.int (nI 1), .ref 72], (mm L X I J)) else runI call iX12_brief (19, [some (.ref 72), some (.int x1)], [.int (nI 0), .ref 72], (mm L X I J)) := by
  refine Eq.trans (if_ne (tgt := 18) dX12_brief_11 (by decide +kernel)) (ite_cong (fun _ => ?_) (fun _ => ?_))
  · refine Eq.trans (xiconst dX12_brief_14 ci_1) ?_
    refine Eq.trans (go_to (tgt := 19) dX12_brief_15 (by decide +kernel)) ?_
    rfl
  · refine Eq.trans (xiconst dX12_brief_18 ci_0) ?_
    rfl
theorem q_X12_brief_19 {call : CALL} {L X : Nat} {I : Nat → Nat → Int32} {J : Nat → Nat → Int64} {x1 : Int32} {s1 : Int32} : runI call iX12_brief (19, [some (.ref 72), some (.int x1)], [.int s1, .ref 72], (mm L X I J)) = bnd (call nX12_bad [.ref 72, .int s1, .int (nI 1), .int (nI 0)] (mm L X I J)) (fun v m' => runI call iX12_brief (24, [some (.ref 72), some (.int x1)], v.toList ++ [], m')) := by
  refine Eq.trans (xiconst dX12_brief_19 ci_1) ?_
  refine Eq.trans (xiconst dX12_brief_20 ci_0) ?_
  exact iv0 dX12_brief_21 rfl cp_12_182 rfl rfl (kd_ka ka_72) ka_72.1 (Nat.le_of_ble_eq_true rfl)
theorem q_X12_brief_24 {call : CALL} {L X : Nat} {I : Nat → Nat → Int32} {J : Nat → Nat → Int64} {x1 : Int32} {s0 : Int32} : runI call iX12_brief (24, [some (.ref 72), some (.int x1)], [.int s0], (mm L X I J)) = if s0 = (nI 0) then bnd (call nX12_briefs [.ref 72, .int x1] (mm L X I J)) (fun v m' => runI call iX12_brief (34, [some (.ref 72), some (.int x1)], v.toList ++ [], m')) else some (.inl (some (.int (nI 0))), (mm L X I J)) := by
  refine Eq.trans (if_eq (tgt := 29) dX12_brief_24 (by decide +kernel)) (ite_cong (fun _ => ?_) (fun _ => ?_))
  · refine Eq.trans (st1 dX12_brief_29 rfl rfl) ?_
    refine Eq.trans (st1 dX12_brief_30 rfl rfl) ?_
    exact iv0 dX12_brief_31 rfl cp_12_388 rfl rfl (kd_ka ka_72) ka_72.1 (Nat.le_of_ble_eq_true rfl)
  · refine Eq.trans (xiconst dX12_brief_27 ci_0) ?_
    exact ret0 dX12_brief_28 rfl
theorem q_X12_brief_34 {call : CALL} {L X : Nat} {I : Nat → Nat → Int32} {J : Nat → Nat → Int64} {u0 : Option Value} {u1 : Option Value} {s0 : Int32} : runI call iX12_brief (34, [u0, u1], [.int s0], (mm L X I J)) = some (.inl (some (.int s0)), (mm L X I J)) := by
  exact ret0 dX12_brief_34 rfl
theorem q_X12_briefs_0 {call : CALL} {L X : Nat} {I : Nat → Nat → Int32} {J : Nat → Nat → Int64} {x1 : Int32} : runI call iX12_briefs (0, [some (.ref 72), some (.int x1), none, none], [], (mm L X I J)) = runI call iX12_briefs (2, [some (.ref 72), some (.int x1), some (.int (nI 0)), none], [], (mm L X I J)) := by
  refine Eq.trans (xiconst dX12_briefs_0 ci_0) ?_
  refine Eq.trans (st1 dX12_briefs_1 rfl rfl) ?_
  rfl
theorem q_X12_briefs_2 {call : CALL} {L X : Nat} {I : Nat → Nat → Int32} {J : Nat → Nat → Int64} {x1 : Int32} {x2 : Int32} {u3 : Option Value} : runI call iX12_briefs (2, [some (.ref 72), some (.int x1), some (.int x2), u3], [], (mm L X I J)) = if (I 76 0) < x2 then some (.inl (some (.int (-1 : Int32))), (mm L X I J)) else runI call iX12_briefs (14, [some (.ref 72), some (.int x1), some (.int x2), some (.int (nI 0))], [], (mm L X I J)) := by
  refine Eq.trans (st1 dX12_briefs_2 rfl rfl) ?_
  refine Eq.trans (st1 dX12_briefs_3 rfl rfl) ?_
  refine Eq.trans (getRm dX12_briefs_4 cp_12_23 ka_72 rfl r_72_12) ?_
  refine Eq.trans (xiconst dX12_briefs_7 ci_0) ?_
  refine Eq.trans (al1c dX12_briefs_8 ka_76 (by decide +kernel) nc_0) ?_
  refine Eq.trans (ic_gt (tgt := 64) dX12_briefs_9 (by decide +kernel)) (ite_cong (fun _ => ?_) (fun _ => ?_))
  · refine Eq.trans (xiconst dX12_briefs_64 ci_m1) ?_
    exact ret0 dX12_briefs_65 rfl
  · refine Eq.trans (xiconst dX12_briefs_12 ci_0) ?_
    refine Eq.trans (st1 dX12_briefs_13 rfl rfl) ?_
    rfl
theorem q_X12_briefs_14 {call : CALL} {L X : Nat} {I : Nat → Nat → Int32} {J : Nat → Nat → Int64} {x1 : Int32} {x2 : Int32} {x3 : Int32} : runI call iX12_briefs (14, [some (.ref 72), some (.int x1), some (.int x2), some (.int x3)], [], (mm L X I J)) = if (nI 2816) ≤ x3 then bnd (call nX12_isBrief [.ref 72, .int x1, .int x2, .int (nI 0), .int (nI 0), .int (-1 : Int32), .int (I 533 29), .int (nI 0)] (mm L X I J)) (fun v m' => runI call iX12_briefs (53, [some (.ref 72), some (.int x1), some (.int x2), some (.int x3)], v.toList ++ [], m')) else gd (inb x3 2816) (runI call iX12_briefs (14, [some (.ref 72), some (.int x1), some (.int x2), some (.int (x3 + (nI 1)))], [], (mm L X (up2 I 623 (x3).toNatClampNeg (nI 0)) J))) := by
  refine Eq.trans (st1 dX12_briefs_14 rfl rfl) ?_
  refine Eq.trans (st1 dX12_briefs_15 rfl rfl) ?_
  refine Eq.trans (getRm dX12_briefs_16 cp_12_88 ka_72 rfl r_72_47) ?_
  refine Eq.trans (alen2 dX12_briefs_19 (kd_ka ka_623) (.inl ⟨ka_623.1, by decide⟩) cn_2816) ?_
  refine Eq.trans (ic_ge (tgt := 36) dX12_briefs_20 (by decide +kernel)) (ite_cong (fun _ => ?_) (fun _ => ?_))
  · refine Eq.trans (st1 dX12_briefs_36 rfl rfl) ?_
    refine Eq.trans (st1 dX12_briefs_37 rfl rfl) ?_
    refine Eq.trans (st1 dX12_briefs_38 rfl rfl) ?_
    refine Eq.trans (xiconst dX12_briefs_39 ci_0) ?_
    refine Eq.trans (xiconst dX12_briefs_40 ci_0) ?_
    refine Eq.trans (xiconst dX12_briefs_41 ci_m1) ?_
    refine Eq.trans (st1 dX12_briefs_42 rfl rfl) ?_
    refine Eq.trans (getRm dX12_briefs_43 cp_12_67 ka_72 rfl r_72_29) ?_
    refine Eq.trans (xbipush dX12_briefs_46 cb_29) ?_
    refine Eq.trans (al1c dX12_briefs_48 ka_533 (by decide +kernel) nc_29) ?_
    refine Eq.trans (xiconst dX12_briefs_49 ci_0) ?_
    exact iv0 dX12_briefs_50 rfl cp_12_384 rfl rfl (kd_ka ka_72) ka_72.1 (Nat.le_of_ble_eq_true rfl)
  · refine Eq.trans (st1 dX12_briefs_23 rfl rfl) ?_
    refine Eq.trans (getRm dX12_briefs_24 cp_12_88 ka_72 rfl r_72_47) ?_
    refine Eq.trans (st1 dX12_briefs_27 rfl rfl) ?_
    refine Eq.trans (xiconst dX12_briefs_28 ci_0) ?_
    refine Eq.trans (as1m dX12_briefs_29 ka_623) (gd_congr fun g1 => ?_)
    refine Eq.trans (xinc2 dX12_briefs_30 ci_1 rfl (Nat.le_of_ble_eq_true rfl) rfl) ?_
    refine Eq.trans (go_to (tgt := 14) dX12_briefs_33 (by decide +kernel)) ?_
    rfl
theorem q_X12_briefs_53 {call : CALL} {L X : Nat} {I : Nat → Nat → Int32} {J : Nat → Nat → Int64} {x1 : Int32} {x2 : Int32} {u3 : Option Value} {s0 : Int32} : runI call iX12_briefs (53, [some (.ref 72), some (.int x1), some (.int x2), u3], [.int s0], (mm L X I J)) = if s0 = (nI 0) then runI call iX12_briefs (2, [some (.ref 72), some (.int x1), some (.int (x2 + (nI 1))), u3], [], (mm L X I J)) else some (.inl (some (.int x2)), (mm L X I J)) := by
  refine Eq.trans (if_eq (tgt := 58) dX12_briefs_53 (by decide +kernel)) (ite_cong (fun _ => ?_) (fun _ => ?_))
  · refine Eq.trans (xinc2 dX12_briefs_58 ci_1 rfl (Nat.le_of_ble_eq_true rfl) rfl) ?_
    refine Eq.trans (go_to (tgt := 2) dX12_briefs_61 (by decide +kernel)) ?_
    rfl
  · refine Eq.trans (st1 dX12_briefs_56 rfl rfl) ?_
    exact ret0 dX12_briefs_57 rfl
theorem q_X12_isBrief_0 {call : CALL} {L X : Nat} {I : Nat → Nat → Int32} {J : Nat → Nat → Int64} {x1 : Int32} {x2 : Int32} {x3 : Int32} {x4 : Int32} {x5 : Int32} {x6 : Int32} {x7 : Int32} : runI call iX12_isBrief (0, [some (.ref 72), some (.int x1), some (.int x2), some (.int x3), some (.int x4), some (.int x5), some (.int x6), some (.int x7), none, none, none, none], [], (mm L X I J)) = if x3 = x2 then gd (inb x1 5) (if x7 < (I (109 + (x1).toNatClampNeg) 0) then some (.inl (some (.int (nI 0))), (mm L X I J)) else if x6 < (I (109 + (x1).toNatClampNeg) 1) then some (.inl (some (.int (nI 0))), (mm L X I J)) else some (.inl (some (.int (nI 1))), (mm L X I J))) else if x5 = (-1 : Int32) then runI call iX12_isBrief (60, [some (.ref 72), some (.int x1), some (.int x2), some (.int x3), some (.int x4), some (.int x5), some (.int x6), some (.int x7), none, none, none, none], [.int (nI 10)], (mm L X I J)) else bnd (call nX12_footOf [.ref 72, .int (x5 / (nI 2)), .int (x5 - x5 / (nI 2) * (nI 2))] (mm L X I J)) (fun v m' => runI call iX12_isBrief (60, [some (.ref 72), some (.int x1), some (.int x2), some (.int x3), some (.int x4), some (.int x5), some (.int x6), some (.int x7), none, none, none, none], v.toList ++ [], m')) := by
  refine Eq.trans (st1 dX12_isBrief_0 rfl rfl) ?_
  refine Eq.trans (st1 dX12_isBrief_1 rfl rfl) ?_
  refine Eq.trans (ic_ne (tgt := 37) dX12_isBrief_2 (by decide +kernel)) (ite_cong (fun _ => ?_) (fun _ => ?_))
  · refine Eq.trans (st1 dX12_isBrief_5 rfl rfl) ?_
    refine Eq.trans (st1 dX12_isBrief_7 rfl rfl) ?_
    refine Eq.trans (getRm dX12_isBrief_8 cp_12_43 ka_72 rfl r_72_18) ?_
    refine Eq.trans (st1 dX12_isBrief_11 rfl rfl) ?_
    refine Eq.trans (al4m dX12_isBrief_12 ka_108 rr_108) (gd_congr fun g1 => ?_)
    refine Eq.trans (xiconst dX12_isBrief_13 ci_0) ?_
    refine Eq.trans (al1c dX12_isBrief_14 (kr_108 (inb_lt g1)) (by decide +kernel) nc_0) ?_
    refine Eq.trans (ic_lt (tgt := 35) dX12_isBrief_15 (by decide +kernel)) (ite_cong (fun _ => ?_) (fun _ => ?_))
    · refine Eq.trans (xiconst dX12_isBrief_35 ci_0) ?_
      exact ret1 dX12_isBrief_36 rfl (.inl rfl)
    · refine Eq.trans (st1 dX12_isBrief_18 rfl rfl) ?_
      refine Eq.trans (st1 dX12_isBrief_20 rfl rfl) ?_
      refine Eq.trans (getRm dX12_isBrief_21 cp_12_43 ka_72 rfl r_72_18) ?_
      refine Eq.trans (st1 dX12_isBrief_24 rfl rfl) ?_
      refine Eq.trans (al4m dX12_isBrief_25 ka_108 rr_108) (Eq.trans (gd_t g1) ?_)
      refine Eq.trans (xiconst dX12_isBrief_26 ci_1) ?_
      refine Eq.trans (al1c dX12_isBrief_27 (kr_108 (inb_lt g1)) (by decide +kernel) nc_1) ?_
      refine Eq.trans (ic_lt (tgt := 35) dX12_isBrief_28 (by decide +kernel)) (ite_cong (fun _ => ?_) (fun _ => ?_))
      · refine Eq.trans (xiconst dX12_isBrief_35 ci_0) ?_
        exact ret1 dX12_isBrief_36 rfl (.inl rfl)
      · refine Eq.trans (xiconst dX12_isBrief_31 ci_1) ?_
        refine Eq.trans (go_to (tgt := 36) dX12_isBrief_32 (by decide +kernel)) ?_
        exact ret1 dX12_isBrief_36 rfl (.inr rfl)
  · refine Eq.trans (st1 dX12_isBrief_37 rfl rfl) ?_
    refine Eq.trans (xiconst dX12_isBrief_39 ci_m1) ?_
    refine Eq.trans (ic_ne (tgt := 48) dX12_isBrief_40 (by decide +kernel)) (ite_cong (fun _ => ?_) (fun _ => ?_))
    · refine Eq.trans (xbipush dX12_isBrief_43 cb_10) ?_
      refine Eq.trans (go_to (tgt := 60) dX12_isBrief_45 (by decide +kernel)) ?_
      rfl
    · refine Eq.trans (st1 dX12_isBrief_48 rfl rfl) ?_
      refine Eq.trans (st1 dX12_isBrief_49 rfl rfl) ?_
      refine Eq.trans (xiconst dX12_isBrief_51 ci_2) ?_
      refine Eq.trans (idv dX12_isBrief_52 (by decide +kernel)) ?_
      refine Eq.trans (st1 dX12_isBrief_53 rfl rfl) ?_
      refine Eq.trans (xiconst dX12_isBrief_55 ci_2) ?_
      refine Eq.trans (irm dX12_isBrief_56 (by decide +kernel)) ?_
      exact iv0 dX12_isBrief_57 rfl cp_12_272 rfl rfl (kd_ka ka_72) ka_72.1 (Nat.le_of_ble_eq_true rfl)
theorem q_X12_isBrief_60 {call : CALL} {L X : Nat} {I : Nat → Nat → Int32} {J : Nat → Nat → Int64} {x1 : Int32} {x2 : Int32} {x3 : Int32} {x4 : Int32} {x5 : Int32} {x6 : Int32} {x7 : Int32} {u8 : Option Value} {u9 : Option Value} {u10 : Option Value} {u11 : Option Value} {s0 : Int32} : runI call iX12_isBrief (60, [some (.ref 72), some (.int x1), some (.int x2), some (.int x3), some (.int x4), some (.int x5), some (.int x6), some (.int x7), u8, u9, u10, u11], [.int s0], (mm L X I J)) = gd (inb (((nI 4) * (((nI 11) * x4) + s0)) + (x6 / (nI 32))) 2816) (bndN (call nX12_has [.int (I 623 ((((nI 4) * (((nI 11) * x4) + s0)) + (x6 / (nI 32)))).toNatClampNeg), .int (x6 - x6 / (nI 32) * (nI 32))] (mm L X I J)) (fun v m' => runI call iX12_isBrief (95, [some (.ref 72), some (.int x1), some (.int x2), some (.int x3), some (.int x4), some (.int x5), some (.int x6), some (.int x7), some (.int s0), some (.int (((nI 4) * (((nI 11) * x4) + s0)) + (x6 / (nI 32)))), u10, u11], v.toList ++ [], m'))) := by
  refine Eq.trans (st1 dX12_isBrief_60 rfl rfl) ?_
  refine Eq.trans (xiconst dX12_isBrief_62 ci_4) ?_
  refine Eq.trans (xbipush dX12_isBrief_63 cb_11) ?_
  refine Eq.trans (st1 dX12_isBrief_65 rfl rfl) ?_
  refine Eq.trans (st1 dX12_isBrief_67 rfl rfl) ?_
  refine Eq.trans (st1 dX12_isBrief_68 rfl rfl) ?_
  refine Eq.trans (st1 dX12_isBrief_70 rfl rfl) ?_
  refine Eq.trans (st1 dX12_isBrief_71 rfl rfl) ?_
  refine Eq.trans (st1 dX12_isBrief_72 rfl rfl) ?_
  refine Eq.trans (xbipush dX12_isBrief_74 cb_32) ?_
  refine Eq.trans (idv dX12_isBrief_76 (by decide +kernel)) ?_
  refine Eq.trans (st1 dX12_isBrief_77 rfl rfl) ?_
  refine Eq.trans (st1 dX12_isBrief_78 rfl rfl) ?_
  refine Eq.trans (st1 dX12_isBrief_80 rfl rfl) ?_
  refine Eq.trans (getRm dX12_isBrief_81 cp_12_88 ka_72 rfl r_72_47) ?_
  refine Eq.trans (st1 dX12_isBrief_84 rfl rfl) ?_
  refine Eq.trans (al1m dX12_isBrief_86 ka_623) (gd_congr fun g1 => ?_)
  refine Eq.trans (st1 dX12_isBrief_87 rfl rfl) ?_
  refine Eq.trans (xbipush dX12_isBrief_89 cb_32) ?_
  refine Eq.trans (irm dX12_isBrief_91 (by decide +kernel)) ?_
  exact is2 dX12_isBrief_92 cp_12_366 (Nat.le_of_ble_eq_true rfl) rfl rfl (Nat.le_of_ble_eq_true rfl)
theorem q_X12_isBrief_95 {call : CALL} {L X : Nat} {I : Nat → Nat → Int32} {J : Nat → Nat → Int64} {x1 : Int32} {x2 : Int32} {x3 : Int32} {x4 : Int32} {x5 : Int32} {x6 : Int32} {x7 : Int32} {u8 : Option Value} {x9 : Int32} {u10 : Option Value} {u11 : Option Value} {s0 : Int32} : runI call iX12_isBrief (95, [some (.ref 72), some (.int x1), some (.int x2), some (.int x3), some (.int x4), some (.int x5), some (.int x6), some (.int x7), u8, some (.int x9), u10, u11], [.int s0], (mm L X I J)) = if s0 = (nI 0) then runI call iX12_isBrief (103, [some (.ref 72), some (.int x1), some (.int x2), some (.int x3), some (.int x4), some (.int x5), some (.int x6), some (.int x7), u8, some (.int x9), some (.int (nI 0)), u11], [], (mm L X I J)) else some (.inl (some (.int (nI 0))), (mm L X I J)) := by
  refine Eq.trans (if_eq (tgt := 100) dX12_isBrief_95 (by decide +kernel)) (ite_cong (fun _ => ?_) (fun _ => ?_))
  · refine Eq.trans (xiconst dX12_isBrief_100 ci_0) ?_
    refine Eq.trans (st1 dX12_isBrief_101 rfl rfl) ?_
    rfl
  · refine Eq.trans (xiconst dX12_isBrief_98 ci_0) ?_
    exact ret1 dX12_isBrief_99 rfl (.inl rfl)
theorem q_X12_isBrief_103 {call : CALL} {L X : Nat} {I : Nat → Nat → Int32} {J : Nat → Nat → Int64} {x1 : Int32} {x2 : Int32} {x3 : Int32} {x4 : Int32} {x5 : Int32} {x6 : Int32} {x7 : Int32} {u8 : Option Value} {x9 : Int32} {x10 : Int32} {u11 : Option Value} : runI call iX12_isBrief (103, [some (.ref 72), some (.int x1), some (.int x2), some (.int x3), some (.int x4), some (.int x5), some (.int x6), some (.int x7), u8, some (.int x9), some (.int x10), u11], [], (mm L X I J)) = if ((nI 2) * (I 76 0)) ≤ x10 then gd (inb x9 2816) (some (.inl (some (.int (nI 0))), (mm L X (up2 I 623 (x9).toNatClampNeg ((I 623 (x9).toNatClampNeg) ||| ((nI 1) <<< ((x6 - x6 / (nI 32) * (nI 32)) &&& 31)))) J))) else bndN (call nX12_has [.int x4, .int (x10 / (nI 2))] (mm L X I J)) (fun v m' => runI call iX12_isBrief (129, [some (.ref 72), some (.int x1), some (.int x2), some (.int x3), some (.int x4), some (.int x5), some (.int x6), some (.int x7), u8, some (.int x9), some (.int x10), some (.int (x10 / (nI 2)))], v.toList ++ [], m')) := by
  refine Eq.trans (st1 dX12_isBrief_103 rfl rfl) ?_
  refine Eq.trans (xiconst dX12_isBrief_105 ci_2) ?_
  refine Eq.trans (st1 dX12_isBrief_106 rfl rfl) ?_
  refine Eq.trans (getRm dX12_isBrief_107 cp_12_23 ka_72 rfl r_72_12) ?_
  refine Eq.trans (xiconst dX12_isBrief_110 ci_0) ?_
  refine Eq.trans (al1c dX12_isBrief_111 ka_76 (by decide +kernel) nc_0) ?_
  refine Eq.trans (st1 dX12_isBrief_112 rfl rfl) ?_
  refine Eq.trans (ic_ge (tgt := 212) dX12_isBrief_113 (by decide +kernel)) (ite_cong (fun _ => ?_) (fun _ => ?_))
  · refine Eq.trans (st1 dX12_isBrief_212 rfl rfl) ?_
    refine Eq.trans (getRm dX12_isBrief_213 cp_12_88 ka_72 rfl r_72_47) ?_
    refine Eq.trans (st1 dX12_isBrief_216 rfl rfl) ?_
    refine Eq.trans (st1 dX12_isBrief_218 rfl rfl) ?_
    refine Eq.trans (al1m dX12_isBrief_219 ka_623) (gd_congr fun g1 => ?_)
    refine Eq.trans (xiconst dX12_isBrief_220 ci_1) ?_
    refine Eq.trans (st1 dX12_isBrief_221 rfl rfl) ?_
    refine Eq.trans (xbipush dX12_isBrief_223 cb_32) ?_
    refine Eq.trans (irm dX12_isBrief_225 (by decide +kernel)) ?_
    refine Eq.trans (st1 dX12_isBrief_226 rfl rfl) ?_
    refine Eq.trans (st1 dX12_isBrief_227 rfl rfl) ?_
    refine Eq.trans (as1m dX12_isBrief_228 ka_623) (Eq.trans (gd_t g1) ?_)
    refine Eq.trans (xiconst dX12_isBrief_229 ci_0) ?_
    exact ret1 dX12_isBrief_230 rfl (.inl rfl)
  · refine Eq.trans (st1 dX12_isBrief_116 rfl rfl) ?_
    refine Eq.trans (xiconst dX12_isBrief_118 ci_2) ?_
    refine Eq.trans (idv dX12_isBrief_119 (by decide +kernel)) ?_
    refine Eq.trans (st1 dX12_isBrief_120 rfl rfl) ?_
    refine Eq.trans (st1 dX12_isBrief_122 rfl rfl) ?_
    refine Eq.trans (st1 dX12_isBrief_124 rfl rfl) ?_
    exact is2 dX12_isBrief_126 cp_12_366 (Nat.le_of_ble_eq_true rfl) rfl rfl (Nat.le_of_ble_eq_true rfl)
theorem q_X12_isBrief_129 {call : CALL} {L X : Nat} {I : Nat → Nat → Int32} {J : Nat → Nat → Int64} {x1 : Int32} {x2 : Int32} {x3 : Int32} {x4 : Int32} {x5 : Int32} {x6 : Int32} {x7 : Int32} {u8 : Option Value} {x9 : Int32} {x10 : Int32} {x11 : Int32} {s0 : Int32} : runI call iX12_isBrief (129, [some (.ref 72), some (.int x1), some (.int x2), some (.int x3), some (.int x4), some (.int x5), some (.int x6), some (.int x7), u8, some (.int x9), some (.int x10), some (.int x11)], [.int s0], (mm L X I J)) = if s0 = (nI 0) then bnd (call nX12_isNext [.ref 72, .int x5, .int x10] (mm L X I J)) (fun v m' => runI call iX12_isBrief (140, [some (.ref 72), some (.int x1), some (.int x2), some (.int x3), some (.int x4), some (.int x5), some (.int x6), some (.int x7), u8, some (.int x9), some (.int x10), some (.int x11)], v.toList ++ [], m')) else runI call iX12_isBrief (206, [some (.ref 72), some (.int x1), some (.int x2), some (.int x3), some (.int x4), some (.int x5), some (.int x6), some (.int x7), u8, some (.int x9), some (.int x10), some (.int x11)], [], (mm L X I J)) := by
  refine Eq.trans (if_ne (tgt := 206) dX12_isBrief_129 (by decide +kernel)) (ite_cong (fun _ => ?_) (fun _ => ?_))
  · refine Eq.trans (st1 dX12_isBrief_132 rfl rfl) ?_
    refine Eq.trans (st1 dX12_isBrief_133 rfl rfl) ?_
    refine Eq.trans (st1 dX12_isBrief_135 rfl rfl) ?_
    exact iv0 dX12_isBrief_137 rfl cp_12_369 rfl rfl (kd_ka ka_72) ka_72.1 (Nat.le_of_ble_eq_true rfl)
  · rfl
theorem q_X12_isBrief_206 {call : CALL} {L X : Nat} {I : Nat → Nat → Int32} {J : Nat → Nat → Int64} {x1 : Int32} {x2 : Int32} {x3 : Int32} {x4 : Int32} {x5 : Int32} {x6 : Int32} {x7 : Int32} {u8 : Option Value} {x9 : Int32} {x10 : Int32} {u11 : Option Value} : runI call iX12_isBrief (206, [some (.ref 72), some (.int x1), some (.int x2), some (.int x3), some (.int x4), some (.int x5), some (.int x6), some (.int x7), u8, some (.int x9), some (.int x10), u11], [], (mm L X I J)) = runI call iX12_isBrief (103, [some (.ref 72), some (.int x1), some (.int x2), some (.int x3), some (.int x4), some (.int x5), some (.int x6), some (.int x7), u8, some (.int x9), some (.int (x10 + (nI 1))), u11], [], (mm L X I J)) := by
  refine Eq.trans (xinc2 dX12_isBrief_206 ci_1 rfl (Nat.le_of_ble_eq_true rfl) rfl) ?_
  refine Eq.trans (go_to (tgt := 103) dX12_isBrief_209 (by decide +kernel)) ?_
  rfl
theorem q_X12_isBrief_140 {call : CALL} {L X : Nat} {I : Nat → Nat → Int32} {J : Nat → Nat → Int64} {x1 : Int32} {x2 : Int32} {x3 : Int32} {x4 : Int32} {x5 : Int32} {x6 : Int32} {x7 : Int32} {u8 : Option Value} {x9 : Int32} {x10 : Int32} {x11 : Int32} {s0 : Int32} : runI call iX12_isBrief (140, [some (.ref 72), some (.int x1), some (.int x2), some (.int x3), some (.int x4), some (.int x5), some (.int x6), some (.int x7), u8, some (.int x9), some (.int x10), some (.int x11)], [.int s0], (mm L X I J)) = if s0 = (nI 0) then runI call iX12_isBrief (206, [some (.ref 72), some (.int x1), some (.int x2), some (.int x3), some (.int x4), some (.int x5), some (.int x6), some (.int x7), u8, some (.int x9), some (.int x10), some (.int x11)], [], (mm L X I J)) else gd (inb x3 6) (bnd (call nX12_leftOf [.ref 72, .ref 533, .int x11, .int (x10 - x10 / (nI 2) * (nI 2)), .int x6, .int x3] (mm L X (up2 I 624 (x3).toNatClampNeg x10) J)) (fun v m' => runI call iX12_isBrief (186, [some (.ref 72), some (.int x1), some (.int x2), some (.int x3), some (.int x4), some (.int x5), some (.int x6), some (.int x7), u8, some (.int x9), some (.int x10), some (.int x11)], v.toList ++ [.int x10, .int (x4 ||| ((nI 1) <<< (x11 &&& 31))), .int (x3 + (nI 1)), .int x2, .int x1, .ref 72], m'))) := by
  refine Eq.trans (if_ne (tgt := 146) dX12_isBrief_140 (by decide +kernel)) (ite_cong (fun _ => ?_) (fun _ => ?_))
  · refine Eq.trans (go_to (tgt := 206) dX12_isBrief_143 (by decide +kernel)) ?_
    rfl
  · refine Eq.trans (st1 dX12_isBrief_146 rfl rfl) ?_
    refine Eq.trans (getRm dX12_isBrief_147 cp_12_91 ka_72 rfl r_72_48) ?_
    refine Eq.trans (st1 dX12_isBrief_150 rfl rfl) ?_
    refine Eq.trans (st1 dX12_isBrief_151 rfl rfl) ?_
    refine Eq.trans (as1m dX12_isBrief_153 ka_624) (gd_congr fun g1 => ?_)
    refine Eq.trans (st1 dX12_isBrief_154 rfl rfl) ?_
    refine Eq.trans (st1 dX12_isBrief_155 rfl rfl) ?_
    refine Eq.trans (st1 dX12_isBrief_156 rfl rfl) ?_
    refine Eq.trans (st1 dX12_isBrief_157 rfl rfl) ?_
    refine Eq.trans (xiconst dX12_isBrief_158 ci_1) ?_
    refine Eq.trans (st1 dX12_isBrief_159 rfl rfl) ?_
    refine Eq.trans (st1 dX12_isBrief_160 rfl rfl) ?_
    refine Eq.trans (xiconst dX12_isBrief_162 ci_1) ?_
    refine Eq.trans (st1 dX12_isBrief_163 rfl rfl) ?_
    refine Eq.trans (st1 dX12_isBrief_165 rfl rfl) ?_
    refine Eq.trans (st1 dX12_isBrief_166 rfl rfl) ?_
    refine Eq.trans (st1 dX12_isBrief_167 rfl rfl) ?_
    refine Eq.trans (st1 dX12_isBrief_169 rfl rfl) ?_
    refine Eq.trans (st1 dX12_isBrief_170 rfl rfl) ?_
    refine Eq.trans (getRm dX12_isBrief_171 cp_12_67 ka_72 rfl r_72_29) ?_
    refine Eq.trans (st1 dX12_isBrief_174 rfl rfl) ?_
    refine Eq.trans (st1 dX12_isBrief_176 rfl rfl) ?_
    refine Eq.trans (xiconst dX12_isBrief_178 ci_2) ?_
    refine Eq.trans (irm dX12_isBrief_179 (by decide +kernel)) ?_
    refine Eq.trans (st1 dX12_isBrief_180 rfl rfl) ?_
    refine Eq.trans (st1 dX12_isBrief_182 rfl rfl) ?_
    exact iv0 dX12_isBrief_183 rfl cp_12_289 rfl rfl (kd_ka ka_72) ka_72.1 (Nat.le_of_ble_eq_true rfl)
theorem q_X12_isBrief_186 {call : CALL} {L X : Nat} {I : Nat → Nat → Int32} {J : Nat → Nat → Int64} {x1 : Int32} {x2 : Int32} {x3 : Int32} {x4 : Int32} {x5 : Int32} {x6 : Int32} {x7 : Int32} {u8 : Option Value} {x9 : Int32} {x10 : Int32} {x11 : Int32} {s1 : Int32} {s2 : Int32} {s3 : Int32} {s4 : Int32} {s5 : Int32} {s6 : Int32} : runI call iX12_isBrief (186, [some (.ref 72), some (.int x1), some (.int x2), some (.int x3), some (.int x4), some (.int x5), some (.int x6), some (.int x7), u8, some (.int x9), some (.int x10), some (.int x11)], [.int s6, .int s5, .int s4, .int s3, .int s2, .int s1, .ref 72], (mm L X I J)) = gd (inb x11 6) (bnd (call nX12_isBrief [.ref 72, .int s1, .int s2, .int s3, .int s4, .int s5, .int s6, .int (x7 + (I (85 + (x11).toNatClampNeg) 0))] (mm L X I J)) (fun v m' => runI call iX12_isBrief (201, [some (.ref 72), some (.int x1), some (.int x2), some (.int x3), some (.int x4), some (.int x5), some (.int x6), some (.int x7), u8, some (.int x9), some (.int x10), some (.int x11)], v.toList ++ [], m'))) := by
  refine Eq.trans (st1 dX12_isBrief_186 rfl rfl) ?_
  refine Eq.trans (st1 dX12_isBrief_188 rfl rfl) ?_
  refine Eq.trans (getRm dX12_isBrief_189 cp_12_31 ka_72 rfl r_72_14) ?_
  refine Eq.trans (st1 dX12_isBrief_192 rfl rfl) ?_
  refine Eq.trans (al4m dX12_isBrief_194 ka_84 rr_84) (gd_congr fun g1 => ?_)
  refine Eq.trans (xiconst dX12_isBrief_195 ci_0) ?_
  refine Eq.trans (al1c dX12_isBrief_196 (kr_84 (inb_lt g1)) (by decide +kernel) nc_0) ?_
  refine Eq.trans (st1 dX12_isBrief_197 rfl rfl) ?_
  exact iv0 dX12_isBrief_198 rfl cp_12_384 rfl rfl (kd_ka ka_72) ka_72.1 (Nat.le_of_ble_eq_true rfl)
theorem q_X12_isBrief_201 {call : CALL} {L X : Nat} {I : Nat → Nat → Int32} {J : Nat → Nat → Int64} {x1 : Int32} {x2 : Int32} {x3 : Int32} {x4 : Int32} {x5 : Int32} {x6 : Int32} {x7 : Int32} {u8 : Option Value} {x9 : Int32} {x10 : Int32} {u11 : Option Value} {s0 : Int32} : runI call iX12_isBrief (201, [some (.ref 72), some (.int x1), some (.int x2), some (.int x3), some (.int x4), some (.int x5), some (.int x6), some (.int x7), u8, some (.int x9), some (.int x10), u11], [.int s0], (mm L X I J)) = if s0 = (nI 0) then runI call iX12_isBrief (206, [some (.ref 72), some (.int x1), some (.int x2), some (.int x3), some (.int x4), some (.int x5), some (.int x6), some (.int x7), u8, some (.int x9), some (.int x10), u11], [], (mm L X I J)) else some (.inl (some (.int (nI 1))), (mm L X I J)) := by
  refine Eq.trans (if_eq (tgt := 206) dX12_isBrief_201 (by decide +kernel)) (ite_cong (fun _ => ?_) (fun _ => ?_))
  · rfl
  · refine Eq.trans (xiconst dX12_isBrief_204 ci_1) ?_
    exact ret1 dX12_isBrief_205 rfl (.inr rfl)
theorem q_X12_briefly_0 {call : CALL} {L X : Nat} {I : Nat → Nat → Int32} {J : Nat → Nat → Int64} {x1 : Int32} {x2 : Int32} : runI call iX12_briefly (0, [some (.ref 72), some (.int x1), some (.int x2)], [], (mm L X I J)) = bnd (call nX12_isFire [.ref 72, .int x1] (mm L X (up2 I 72 0 (nI 0)) J)) (fun v m' => runI call iX12_briefly (11, [some (.ref 72), some (.int x1), some (.int x2)], v.toList ++ [.ref 72], m')) := by
  refine Eq.trans (st1 dX12_briefly_0 rfl rfl) ?_
  refine Eq.trans (xiconst dX12_briefly_1 ci_0) ?_
  refine Eq.trans (putIm dX12_briefly_2 cp_12_103 ka_72 rfl) ?_
  refine Eq.trans (st1 dX12_briefly_5 rfl rfl) ?_
  refine Eq.trans (st1 dX12_briefly_6 rfl rfl) ?_
  refine Eq.trans (st1 dX12_briefly_7 rfl rfl) ?_
  exact iv0 dX12_briefly_8 rfl cp_12_360 rfl rfl (kd_ka ka_72) ka_72.1 (Nat.le_of_ble_eq_true rfl)
theorem q_X12_briefly_11 {call : CALL} {L X : Nat} {I : Nat → Nat → Int32} {J : Nat → Nat → Int64} {x1 : Int32} {x2 : Int32} {s1 : Int32} : runI call iX12_briefly (11, [some (.ref 72), some (.int x1), some (.int x2)], [.int s1, .ref 72], (mm L X I J)) = if s1 = (nI 0) then runI call iX12_briefly (19, [some (.ref 72), some (.int x1), some (.int x2)], [.int (nI 1), .ref 72], (mm L X I J)) else runI call iX12_briefly (19, [some (.ref 72), some (.int x1), some (.int x2)], [.int (nI 0), .ref 72], (mm L X I J)) := by
  refine Eq.trans (if_ne (tgt := 18) dX12_briefly_11 (by decide +kernel)) (ite_cong (fun _ => ?_) (fun _ => ?_))
  · refine Eq.trans (xiconst dX12_briefly_14 ci_1) ?_
    refine Eq.trans (go_to (tgt := 19) dX12_briefly_15 (by decide +kernel)) ?_
    rfl
  · refine Eq.trans (xiconst dX12_briefly_18 ci_0) ?_
    rfl
theorem q_X12_briefly_19 {call : CALL} {L X : Nat} {I : Nat → Nat → Int32} {J : Nat → Nat → Int64} {x1 : Int32} {x2 : Int32} {s1 : Int32} : runI call iX12_briefly (19, [some (.ref 72), some (.int x1), some (.int x2)], [.int s1, .ref 72], (mm L X I J)) = bnd (call nX12_bad [.ref 72, .int s1, .int (nI 1), .int (nI 0)] (mm L X I J)) (fun v m' => runI call iX12_briefly (24, [some (.ref 72), some (.int x1), some (.int x2)], v.toList ++ [], m')) := by
  refine Eq.trans (xiconst dX12_briefly_19 ci_1) ?_
  refine Eq.trans (xiconst dX12_briefly_20 ci_0) ?_
  exact iv0 dX12_briefly_21 rfl cp_12_182 rfl rfl (kd_ka ka_72) ka_72.1 (Nat.le_of_ble_eq_true rfl)
theorem q_X12_briefly_24 {call : CALL} {L X : Nat} {I : Nat → Nat → Int32} {J : Nat → Nat → Int64} {x1 : Int32} {x2 : Int32} {s0 : Int32} : runI call iX12_briefly (24, [some (.ref 72), some (.int x1), some (.int x2)], [.int s0], (mm L X I J)) = if s0 = (nI 0) then if (nI 0) ≤ x2 then runI call iX12_briefly (37, [some (.ref 72), some (.int x1), some (.int x2)], [.int (nI 0), .ref 72], (mm L X I J)) else runI call iX12_briefly (37, [some (.ref 72), some (.int x1), some (.int x2)], [.int (nI 1), .ref 72], (mm L X I J)) else some (.inl (some (.int (nI 0))), (mm L X I J)) := by
  refine Eq.trans (if_ne (tgt := 45) dX12_briefly_24 (by decide +kernel)) (ite_cong (fun _ => ?_) (fun _ => ?_))
  · refine Eq.trans (st1 dX12_briefly_27 rfl rfl) ?_
    refine Eq.trans (st1 dX12_briefly_28 rfl rfl) ?_
    refine Eq.trans (if_ge (tgt := 36) dX12_briefly_29 (by decide +kernel)) (ite_cong (fun _ => ?_) (fun _ => ?_))
    · refine Eq.trans (xiconst dX12_briefly_36 ci_0) ?_
      rfl
    · refine Eq.trans (xiconst dX12_briefly_32 ci_1) ?_
      refine Eq.trans (go_to (tgt := 37) dX12_briefly_33 (by decide +kernel)) ?_
      rfl
  · refine Eq.trans (xiconst dX12_briefly_45 ci_0) ?_
    exact ret0 dX12_briefly_46 rfl
theorem q_X12_briefly_37 {call : CALL} {L X : Nat} {I : Nat → Nat → Int32} {J : Nat → Nat → Int64} {x1 : Int32} {x2 : Int32} {s1 : Int32} : runI call iX12_briefly (37, [some (.ref 72), some (.int x1), some (.int x2)], [.int s1, .ref 72], (mm L X I J)) = bnd (call nX12_bad [.ref 72, .int s1, .int (nI 2), .int (nI 1)] (mm L X I J)) (fun v m' => runI call iX12_briefly (42, [some (.ref 72), some (.int x1), some (.int x2)], v.toList ++ [], m')) := by
  refine Eq.trans (xiconst dX12_briefly_37 ci_2) ?_
  refine Eq.trans (xiconst dX12_briefly_38 ci_1) ?_
  exact iv0 dX12_briefly_39 rfl cp_12_182 rfl rfl (kd_ka ka_72) ka_72.1 (Nat.le_of_ble_eq_true rfl)
theorem q_X12_briefly_42 {call : CALL} {L X : Nat} {I : Nat → Nat → Int32} {J : Nat → Nat → Int64} {x1 : Int32} {x2 : Int32} {s0 : Int32} : runI call iX12_briefly (42, [some (.ref 72), some (.int x1), some (.int x2)], [.int s0], (mm L X I J)) = if s0 = (nI 0) then bnd (call nX12_briefs [.ref 72, .int x1] (mm L X I J)) (fun v m' => runI call iX12_briefly (53, [some (.ref 72), some (.int x1), some (.int x2)], v.toList ++ [.int x2], m')) else some (.inl (some (.int (nI 0))), (mm L X I J)) := by
  refine Eq.trans (if_eq (tgt := 47) dX12_briefly_42 (by decide +kernel)) (ite_cong (fun _ => ?_) (fun _ => ?_))
  · refine Eq.trans (st1 dX12_briefly_47 rfl rfl) ?_
    refine Eq.trans (st1 dX12_briefly_48 rfl rfl) ?_
    refine Eq.trans (st1 dX12_briefly_49 rfl rfl) ?_
    exact iv0 dX12_briefly_50 rfl cp_12_388 rfl rfl (kd_ka ka_72) ka_72.1 (Nat.le_of_ble_eq_true rfl)
  · refine Eq.trans (xiconst dX12_briefly_45 ci_0) ?_
    exact ret0 dX12_briefly_46 rfl
theorem q_X12_briefly_53 {call : CALL} {L X : Nat} {I : Nat → Nat → Int32} {J : Nat → Nat → Int64} {u1 : Option Value} {x2 : Int32} {s0 : Int32} {s1 : Int32} : runI call iX12_briefly (53, [some (.ref 72), u1, some (.int x2)], [.int s1, .int s0], (mm L X I J)) = if s1 ≤ s0 then some (.inl (some (.int (-1 : Int32))), (mm L X I J)) else gd (inb x2 6) (some (.inl (some (.int (I 624 (x2).toNatClampNeg))), (mm L X I J))) := by
  refine Eq.trans (ic_ge (tgt := 65) dX12_briefly_53 (by decide +kernel)) (ite_cong (fun _ => ?_) (fun _ => ?_))
  · refine Eq.trans (xiconst dX12_briefly_65 ci_m1) ?_
    exact ret0 dX12_briefly_66 rfl
  · refine Eq.trans (st1 dX12_briefly_56 rfl rfl) ?_
    refine Eq.trans (getRm dX12_briefly_57 cp_12_91 ka_72 rfl r_72_48) ?_
    refine Eq.trans (st1 dX12_briefly_60 rfl rfl) ?_
    refine Eq.trans (al1m dX12_briefly_61 ka_624) (gd_congr fun g1 => ?_)
    refine Eq.trans (go_to (tgt := 66) dX12_briefly_62 (by decide +kernel)) ?_
    exact ret0 dX12_briefly_66 rfl
theorem q_X12_leaks_0 {call : CALL} {L X : Nat} {I : Nat → Nat → Int32} {J : Nat → Nat → Int64} {x1 : Int32} : runI call iX12_leaks (0, [some (.ref 72), some (.int x1), none, none, none, none], [], (mm L X I J)) = bndN (call nX12_in [.int x1, .int (nI 0), .int (nI 1)] (mm L X (up2 I 72 0 (nI 0)) J)) (fun v m' => runI call iX12_leaks (12, [some (.ref 72), some (.int x1), none, none, none, none], v.toList ++ [.ref 72], m')) := by
  refine Eq.trans (st1 dX12_leaks_0 rfl rfl) ?_
  refine Eq.trans (xiconst dX12_leaks_1 ci_0) ?_
  refine Eq.trans (putIm dX12_leaks_2 cp_12_103 ka_72 rfl) ?_
  refine Eq.trans (st1 dX12_leaks_5 rfl rfl) ?_
  refine Eq.trans (st1 dX12_leaks_6 rfl rfl) ?_
  refine Eq.trans (xiconst dX12_leaks_7 ci_0) ?_
  refine Eq.trans (xiconst dX12_leaks_8 ci_1) ?_
  exact is2 dX12_leaks_9 cp_12_137 (Nat.le_of_ble_eq_true rfl) rfl rfl (Nat.le_of_ble_eq_true rfl)
theorem q_X12_leaks_12 {call : CALL} {L X : Nat} {I : Nat → Nat → Int32} {J : Nat → Nat → Int64} {x1 : Int32} {u2 : Option Value} {u3 : Option Value} {u4 : Option Value} {u5 : Option Value} {s1 : Int32} : runI call iX12_leaks (12, [some (.ref 72), some (.int x1), u2, u3, u4, u5], [.int s1, .ref 72], (mm L X I J)) = if s1 = (nI 0) then runI call iX12_leaks (20, [some (.ref 72), some (.int x1), u2, u3, u4, u5], [.int (nI 1), .ref 72], (mm L X I J)) else runI call iX12_leaks (20, [some (.ref 72), some (.int x1), u2, u3, u4, u5], [.int (nI 0), .ref 72], (mm L X I J)) := by
  refine Eq.trans (if_ne (tgt := 19) dX12_leaks_12 (by decide +kernel)) (ite_cong (fun _ => ?_) (fun _ => ?_))
  · refine Eq.trans (xiconst dX12_leaks_15 ci_1) ?_
    refine Eq.trans (go_to (tgt := 20) dX12_leaks_16 (by decide +kernel)) ?_
    rfl
  · refine Eq.trans (xiconst dX12_leaks_19 ci_0) ?_
    rfl
theorem q_X12_leaks_20 {call : CALL} {L X : Nat} {I : Nat → Nat → Int32} {J : Nat → Nat → Int64} {x1 : Int32} {u2 : Option Value} {u3 : Option Value} {u4 : Option Value} {u5 : Option Value} {s1 : Int32} : runI call iX12_leaks (20, [some (.ref 72), some (.int x1), u2, u3, u4, u5], [.int s1, .ref 72], (mm L X I J)) = bnd (call nX12_bad [.ref 72, .int s1, .int (nI 1), .int (nI 1)] (mm L X I J)) (fun v m' => runI call iX12_leaks (25, [some (.ref 72), some (.int x1), u2, u3, u4, u5], v.toList ++ [], m')) := by
  refine Eq.trans (xiconst dX12_leaks_20 ci_1) ?_
  refine Eq.trans (xiconst dX12_leaks_21 ci_1) ?_
  exact iv0 dX12_leaks_22 rfl cp_12_182 rfl rfl (kd_ka ka_72) ka_72.1 (Nat.le_of_ble_eq_true rfl)
theorem q_X12_leaks_25 {call : CALL} {L X : Nat} {I : Nat → Nat → Int32} {J : Nat → Nat → Int64} {x1 : Int32} {u2 : Option Value} {u3 : Option Value} {u4 : Option Value} {u5 : Option Value} {s0 : Int32} : runI call iX12_leaks (25, [some (.ref 72), some (.int x1), u2, u3, u4, u5], [.int s0], (mm L X I J)) = if s0 = (nI 0) then runI call iX12_leaks (37, [some (.ref 72), some (.int x1), some (.int (nI 0)), some (.int (-1 : Int32)), some (.int (nI 0)), u5], [], (mm L X I J)) else some (.inl (some (.int (nI 0))), (mm L X I J)) := by
  refine Eq.trans (if_eq (tgt := 30) dX12_leaks_25 (by decide +kernel)) (ite_cong (fun _ => ?_) (fun _ => ?_))
  · refine Eq.trans (xiconst dX12_leaks_30 ci_0) ?_
    refine Eq.trans (st1 dX12_leaks_31 rfl rfl) ?_
    refine Eq.trans (xiconst dX12_leaks_32 ci_m1) ?_
    refine Eq.trans (st1 dX12_leaks_33 rfl rfl) ?_
    refine Eq.trans (xiconst dX12_leaks_34 ci_0) ?_
    refine Eq.trans (st1 dX12_leaks_35 rfl rfl) ?_
    rfl
  · refine Eq.trans (xiconst dX12_leaks_28 ci_0) ?_
    exact ret0 dX12_leaks_29 rfl
theorem q_X12_leaks_37 {call : CALL} {L X : Nat} {I : Nat → Nat → Int32} {J : Nat → Nat → Int64} {x1 : Int32} {x2 : Int32} {x3 : Int32} {x4 : Int32} {u5 : Option Value} : runI call iX12_leaks (37, [some (.ref 72), some (.int x1), some (.int x2), some (.int x3), some (.int x4), u5], [], (mm L X I J)) = bndN (call nX12_manyIn [.ref 533] (mm L X I J)) (fun v m' => runI call iX12_leaks (46, [some (.ref 72), some (.int x1), some (.int x2), some (.int x3), some (.int x4), u5], v.toList ++ [.int x4], m')) := by
  refine Eq.trans (st1 dX12_leaks_37 rfl rfl) ?_
  refine Eq.trans (st1 dX12_leaks_39 rfl rfl) ?_
  refine Eq.trans (getRm dX12_leaks_40 cp_12_67 ka_72 rfl r_72_29) ?_
  exact is2 dX12_leaks_43 cp_12_264 (Nat.le_of_ble_eq_true rfl) rfl rfl (Nat.le_of_ble_eq_true rfl)
theorem q_X12_leaks_46 {call : CALL} {L X : Nat} {I : Nat → Nat → Int32} {J : Nat → Nat → Int64} {x1 : Int32} {x2 : Int32} {x3 : Int32} {x4 : Int32} {u5 : Option Value} {s0 : Int32} {s1 : Int32} : runI call iX12_leaks (46, [some (.ref 72), some (.int x1), some (.int x2), some (.int x3), some (.int x4), u5], [.int s1, .int s0], (mm L X I J)) = if s1 ≤ s0 then if x1 = (nI 0) then some (.inl (some (.int x2)), (mm L X I J)) else some (.inl (some (.int x3)), (mm L X I J)) else runI call iX12_leaks (52, [some (.ref 72), some (.int x1), some (.int x2), some (.int x3), some (.int x4), some (.int (nI 1))], [], (mm L X I J)) := by
  refine Eq.trans (ic_ge (tgt := 105) dX12_leaks_46 (by decide +kernel)) (ite_cong (fun _ => ?_) (fun _ => ?_))
  · refine Eq.trans (st1 dX12_leaks_105 rfl rfl) ?_
    refine Eq.trans (if_ne (tgt := 113) dX12_leaks_106 (by decide +kernel)) (ite_cong (fun _ => ?_) (fun _ => ?_))
    · refine Eq.trans (st1 dX12_leaks_109 rfl rfl) ?_
      refine Eq.trans (go_to (tgt := 114) dX12_leaks_110 (by decide +kernel)) ?_
      exact ret0 dX12_leaks_114 rfl
    · refine Eq.trans (st1 dX12_leaks_113 rfl rfl) ?_
      exact ret0 dX12_leaks_114 rfl
  · refine Eq.trans (xiconst dX12_leaks_49 ci_1) ?_
    refine Eq.trans (st1 dX12_leaks_50 rfl rfl) ?_
    rfl
theorem q_X12_leaks_52 {call : CALL} {L X : Nat} {I : Nat → Nat → Int32} {J : Nat → Nat → Int64} {x1 : Int32} {x2 : Int32} {x3 : Int32} {x4 : Int32} {x5 : Int32} : runI call iX12_leaks (52, [some (.ref 72), some (.int x1), some (.int x2), some (.int x3), some (.int x4), some (.int x5)], [], (mm L X I J)) = if (nI 30) < x5 then runI call iX12_leaks (37, [some (.ref 72), some (.int x1), some (.int x2), some (.int x3), some (.int (x4 + (nI 1))), some (.int x5)], [], (mm L X I J)) else bnd (call nX12_isLeak [.ref 72, .int x4, .int x5] (mm L X I J)) (fun v m' => runI call iX12_leaks (67, [some (.ref 72), some (.int x1), some (.int x2), some (.int x3), some (.int x4), some (.int x5)], v.toList ++ [], m')) := by
  refine Eq.trans (st1 dX12_leaks_52 rfl rfl) ?_
  refine Eq.trans (xbipush dX12_leaks_54 cb_30) ?_
  refine Eq.trans (ic_gt (tgt := 99) dX12_leaks_56 (by decide +kernel)) (ite_cong (fun _ => ?_) (fun _ => ?_))
  · refine Eq.trans (xinc2 dX12_leaks_99 ci_1 rfl (Nat.le_of_ble_eq_true rfl) rfl) ?_
    refine Eq.trans (go_to (tgt := 37) dX12_leaks_102 (by decide +kernel)) ?_
    rfl
  · refine Eq.trans (st1 dX12_leaks_59 rfl rfl) ?_
    refine Eq.trans (st1 dX12_leaks_60 rfl rfl) ?_
    refine Eq.trans (st1 dX12_leaks_62 rfl rfl) ?_
    exact iv0 dX12_leaks_64 rfl cp_12_391 rfl rfl (kd_ka ka_72) ka_72.1 (Nat.le_of_ble_eq_true rfl)
theorem q_X12_leaks_67 {call : CALL} {L X : Nat} {I : Nat → Nat → Int32} {J : Nat → Nat → Int64} {x1 : Int32} {x2 : Int32} {x3 : Int32} {x4 : Int32} {x5 : Int32} {s0 : Int32} : runI call iX12_leaks (67, [some (.ref 72), some (.int x1), some (.int x2), some (.int x3), some (.int x4), some (.int x5)], [.int s0], (mm L X I J)) = if s0 = (nI 0) then runI call iX12_leaks (93, [some (.ref 72), some (.int x1), some (.int x2), some (.int x3), some (.int x4), some (.int x5)], [], (mm L X I J)) else if x2 = (nI 0) then runI call iX12_leaks (89, [some (.ref 72), some (.int x1), some (.int x2), some (.int x3), some (.int x4), some (.int x5)], [.int (((nI 100) * x4) + x5)], (mm L X I J)) else runI call iX12_leaks (89, [some (.ref 72), some (.int x1), some (.int x2), some (.int x3), some (.int x4), some (.int x5)], [.int x3], (mm L X I J)) := by
  refine Eq.trans (if_ne (tgt := 73) dX12_leaks_67 (by decide +kernel)) (ite_cong (fun _ => ?_) (fun _ => ?_))
  · refine Eq.trans (go_to (tgt := 93) dX12_leaks_70 (by decide +kernel)) ?_
    rfl
  · refine Eq.trans (st1 dX12_leaks_73 rfl rfl) ?_
    refine Eq.trans (if_ne (tgt := 88) dX12_leaks_74 (by decide +kernel)) (ite_cong (fun _ => ?_) (fun _ => ?_))
    · refine Eq.trans (xbipush dX12_leaks_77 cb_100) ?_
      refine Eq.trans (st1 dX12_leaks_79 rfl rfl) ?_
      refine Eq.trans (st1 dX12_leaks_81 rfl rfl) ?_
      refine Eq.trans (st1 dX12_leaks_82 rfl rfl) ?_
      refine Eq.trans (st1 dX12_leaks_84 rfl rfl) ?_
      refine Eq.trans (go_to (tgt := 89) dX12_leaks_85 (by decide +kernel)) ?_
      rfl
    · refine Eq.trans (st1 dX12_leaks_88 rfl rfl) ?_
      rfl
theorem q_X12_leaks_89 {call : CALL} {L X : Nat} {I : Nat → Nat → Int32} {J : Nat → Nat → Int64} {x1 : Int32} {x2 : Int32} {u3 : Option Value} {x4 : Int32} {x5 : Int32} {s0 : Int32} : runI call iX12_leaks (89, [some (.ref 72), some (.int x1), some (.int x2), u3, some (.int x4), some (.int x5)], [.int s0], (mm L X I J)) = runI call iX12_leaks (93, [some (.ref 72), some (.int x1), some (.int (x2 + (nI 1))), some (.int s0), some (.int x4), some (.int x5)], [], (mm L X I J)) := by
  refine Eq.trans (st1 dX12_leaks_89 rfl rfl) ?_
  refine Eq.trans (xinc2 dX12_leaks_90 ci_1 rfl (Nat.le_of_ble_eq_true rfl) rfl) ?_
  rfl
theorem q_X12_leaks_93 {call : CALL} {L X : Nat} {I : Nat → Nat → Int32} {J : Nat → Nat → Int64} {x1 : Int32} {x2 : Int32} {x3 : Int32} {x4 : Int32} {x5 : Int32} : runI call iX12_leaks (93, [some (.ref 72), some (.int x1), some (.int x2), some (.int x3), some (.int x4), some (.int x5)], [], (mm L X I J)) = runI call iX12_leaks (52, [some (.ref 72), some (.int x1), some (.int x2), some (.int x3), some (.int x4), some (.int (x5 + (nI 1)))], [], (mm L X I J)) := by
  refine Eq.trans (xinc2 dX12_leaks_93 ci_1 rfl (Nat.le_of_ble_eq_true rfl) rfl) ?_
  refine Eq.trans (go_to (tgt := 52) dX12_leaks_96 (by decide +kernel)) ?_
  rfl
theorem q_X12_isLeak_0 {call : CALL} {L X : Nat} {I : Nat → Nat → Int32} {J : Nat → Nat → Int64} {x1 : Int32} {x2 : Int32} : runI call iX12_isLeak (0, [some (.ref 72), some (.int x1), some (.int x2), none], [], (mm L X I J)) = bnd (call nX12_runs [.ref 72, .ref 533, .int x1, .int x2] (mm L X I J)) (fun v m' => runI call iX12_isLeak (10, [some (.ref 72), some (.int x1), some (.int x2), none], v.toList ++ [], m')) := by
  refine Eq.trans (st1 dX12_isLeak_0 rfl rfl) ?_
  refine Eq.trans (st1 dX12_isLeak_1 rfl rfl) ?_
  refine Eq.trans (getRm dX12_isLeak_2 cp_12_67 ka_72 rfl r_72_29) ?_
  refine Eq.trans (st1 dX12_isLeak_5 rfl rfl) ?_
  refine Eq.trans (st1 dX12_isLeak_6 rfl rfl) ?_
  exact iv0 dX12_isLeak_7 rfl cp_12_293 rfl rfl (kd_ka ka_72) ka_72.1 (Nat.le_of_ble_eq_true rfl)
theorem q_X12_isLeak_10 {call : CALL} {L X : Nat} {I : Nat → Nat → Int32} {J : Nat → Nat → Int64} {u1 : Option Value} {u2 : Option Value} {u3 : Option Value} {s0 : Int32} (hu2 : okv u2 = true) : runI call iX12_isLeak (10, [some (.ref 72), u1, u2, u3], [.int s0], (mm L X I J)) = runI call iX12_isLeak (13, [some (.ref 72), u1, u2, some (.int (nI 0))], [], (mm L X I J)) := by
  refine Eq.trans (st1 dX12_isLeak_10 rfl rfl) ?_
  refine Eq.trans (xiconst dX12_isLeak_11 ci_0) ?_
  refine Eq.trans (xst1 (k := 3) dX12_isLeak_12 hu2 rfl) ?_
  rfl
theorem q_X12_isLeak_13 {call : CALL} {L X : Nat} {I : Nat → Nat → Int32} {J : Nat → Nat → Int64} {u1 : Option Value} {u2 : Option Value} {x3 : Int32} : runI call iX12_isLeak (13, [some (.ref 72), u1, u2, some (.int x3)], [], (mm L X I J)) = if (I 72 34) ≤ x3 then some (.inl (some (.int (nI 1))), (mm L X I J)) else gd (inb x3 6) (bndN (call nX12_manyIn [.ref 533] (mm L X I J)) (fun v m' => runI call iX12_isLeak (36, [some (.ref 72), u1, u2, some (.int x3)], v.toList ++ [.int (I (437 + (x3).toNatClampNeg) 0)], m'))) := by
  refine Eq.trans (st1 dX12_isLeak_13 rfl rfl) ?_
  refine Eq.trans (st1 dX12_isLeak_14 rfl rfl) ?_
  refine Eq.trans (getIm dX12_isLeak_15 cp_12_205 ka_72 (.inl rfl)) ?_
  refine Eq.trans (ic_ge (tgt := 71) dX12_isLeak_18 (by decide +kernel)) (ite_cong (fun _ => ?_) (fun _ => ?_))
  · refine Eq.trans (xiconst dX12_isLeak_71 ci_1) ?_
    exact ret1 dX12_isLeak_72 rfl (.inr rfl)
  · refine Eq.trans (st1 dX12_isLeak_21 rfl rfl) ?_
    refine Eq.trans (getRm dX12_isLeak_22 cp_12_52 ka_72 rfl r_72_23) ?_
    refine Eq.trans (st1 dX12_isLeak_25 rfl rfl) ?_
    refine Eq.trans (al4m dX12_isLeak_26 ka_436 rr_436) (gd_congr fun g1 => ?_)
    refine Eq.trans (xiconst dX12_isLeak_27 ci_0) ?_
    refine Eq.trans (al1c dX12_isLeak_28 (kr_436 (inb_lt g1)) (by decide +kernel) nc_0) ?_
    refine Eq.trans (st1 dX12_isLeak_29 rfl rfl) ?_
    refine Eq.trans (getRm dX12_isLeak_30 cp_12_67 ka_72 rfl r_72_29) ?_
    exact is2 dX12_isLeak_33 cp_12_264 (Nat.le_of_ble_eq_true rfl) rfl rfl (Nat.le_of_ble_eq_true rfl)
theorem q_X12_isLeak_36 {call : CALL} {L X : Nat} {I : Nat → Nat → Int32} {J : Nat → Nat → Int64} {u1 : Option Value} {u2 : Option Value} {x3 : Int32} {s0 : Int32} {s1 : Int32} (hu2 : okv u2 = true) : runI call iX12_isLeak (36, [some (.ref 72), u1, u2, some (.int x3)], [.int s1, .int s0], (mm L X I J)) = if s1 ≤ s0 then some (.inl (some (.int (nI 0))), (mm L X I J)) else gd (inb x3 6) (gd (inb (I (437 + (x3).toNatClampNeg) 0) 6) (if (I 535 ((I (437 + (x3).toNatClampNeg) 0)).toNatClampNeg) = (I (437 + (x3).toNatClampNeg) 1) then runI call iX12_isLeak (13, [some (.ref 72), u1, u2, some (.int (x3 + (nI 1)))], [], (mm L X I J)) else some (.inl (some (.int (nI 0))), (mm L X I J)))) := by
  refine Eq.trans (ic_ge (tgt := 63) dX12_isLeak_36 (by decide +kernel)) (ite_cong (fun _ => ?_) (fun _ => ?_))
  · refine Eq.trans (xiconst dX12_isLeak_63 ci_0) ?_
    exact ret1 dX12_isLeak_64 rfl (.inl rfl)
  · refine Eq.trans (st1 dX12_isLeak_39 rfl rfl) ?_
    refine Eq.trans (getRm dX12_isLeak_40 cp_12_73 ka_72 rfl r_72_31) ?_
    refine Eq.trans (st1 dX12_isLeak_43 rfl rfl) ?_
    refine Eq.trans (getRm dX12_isLeak_44 cp_12_52 ka_72 rfl r_72_23) ?_
    refine Eq.trans (st1 dX12_isLeak_47 rfl rfl) ?_
    refine Eq.trans (al4m dX12_isLeak_48 ka_436 rr_436) (gd_congr fun g1 => ?_)
    refine Eq.trans (xiconst dX12_isLeak_49 ci_0) ?_
    refine Eq.trans (al1c dX12_isLeak_50 (kr_436 (inb_lt g1)) (by decide +kernel) nc_0) ?_
    refine Eq.trans (al1m dX12_isLeak_51 ka_535) (gd_congr fun g2 => ?_)
    refine Eq.trans (st1 dX12_isLeak_52 rfl rfl) ?_
    refine Eq.trans (getRm dX12_isLeak_53 cp_12_52 ka_72 rfl r_72_23) ?_
    refine Eq.trans (st1 dX12_isLeak_56 rfl rfl) ?_
    refine Eq.trans (al4m dX12_isLeak_57 ka_436 rr_436) (Eq.trans (gd_t g1) ?_)
    refine Eq.trans (xiconst dX12_isLeak_58 ci_1) ?_
    refine Eq.trans (al1c dX12_isLeak_59 (kr_436 (inb_lt g1)) (by decide +kernel) nc_1) ?_
    refine Eq.trans (ic_eq (tgt := 65) dX12_isLeak_60 (by decide +kernel)) (ite_cong (fun _ => ?_) (fun _ => ?_))
    · refine Eq.trans (xinc2 dX12_isLeak_65 ci_1 rfl (Nat.le_of_ble_eq_true rfl) hu2) ?_
      refine Eq.trans (go_to (tgt := 13) dX12_isLeak_68 (by decide +kernel)) ?_
      rfl
    · refine Eq.trans (xiconst dX12_isLeak_63 ci_0) ?_
      exact ret1 dX12_isLeak_64 rfl (.inl rfl)
theorem q_X12_look_0 {call : CALL} {L X : Nat} {I : Nat → Nat → Int32} {J : Nat → Nat → Int64} {x1 : Int32} : runI call iX12_look (0, [some (.ref 72), some (.int x1), none, none, none, none, none, none], [], (mm L X I J)) = bndN (call nX12_in [.int x1, .int (nI 0), .int (nI 1)] (mm L X (up2 I 72 0 (nI 0)) J)) (fun v m' => runI call iX12_look (12, [some (.ref 72), some (.int x1), none, none, none, none, none, none], v.toList ++ [.ref 72], m')) := by
  refine Eq.trans (st1 dX12_look_0 rfl rfl) ?_
  refine Eq.trans (xiconst dX12_look_1 ci_0) ?_
  refine Eq.trans (putIm dX12_look_2 cp_12_103 ka_72 rfl) ?_
  refine Eq.trans (st1 dX12_look_5 rfl rfl) ?_
  refine Eq.trans (st1 dX12_look_6 rfl rfl) ?_
  refine Eq.trans (xiconst dX12_look_7 ci_0) ?_
  refine Eq.trans (xiconst dX12_look_8 ci_1) ?_
  exact is2 dX12_look_9 cp_12_137 (Nat.le_of_ble_eq_true rfl) rfl rfl (Nat.le_of_ble_eq_true rfl)
theorem q_X12_look_12 {call : CALL} {L X : Nat} {I : Nat → Nat → Int32} {J : Nat → Nat → Int64} {x1 : Int32} {u2 : Option Value} {u3 : Option Value} {u4 : Option Value} {u5 : Option Value} {u6 : Option Value} {u7 : Option Value} {s1 : Int32} : runI call iX12_look (12, [some (.ref 72), some (.int x1), u2, u3, u4, u5, u6, u7], [.int s1, .ref 72], (mm L X I J)) = if s1 = (nI 0) then runI call iX12_look (20, [some (.ref 72), some (.int x1), u2, u3, u4, u5, u6, u7], [.int (nI 1), .ref 72], (mm L X I J)) else runI call iX12_look (20, [some (.ref 72), some (.int x1), u2, u3, u4, u5, u6, u7], [.int (nI 0), .ref 72], (mm L X I J)) := by
  refine Eq.trans (if_ne (tgt := 19) dX12_look_12 (by decide +kernel)) (ite_cong (fun _ => ?_) (fun _ => ?_))
  · refine Eq.trans (xiconst dX12_look_15 ci_1) ?_
    refine Eq.trans (go_to (tgt := 20) dX12_look_16 (by decide +kernel)) ?_
    rfl
  · refine Eq.trans (xiconst dX12_look_19 ci_0) ?_
    rfl
theorem q_X12_look_20 {call : CALL} {L X : Nat} {I : Nat → Nat → Int32} {J : Nat → Nat → Int64} {x1 : Int32} {u2 : Option Value} {u3 : Option Value} {u4 : Option Value} {u5 : Option Value} {u6 : Option Value} {u7 : Option Value} {s1 : Int32} : runI call iX12_look (20, [some (.ref 72), some (.int x1), u2, u3, u4, u5, u6, u7], [.int s1, .ref 72], (mm L X I J)) = bnd (call nX12_bad [.ref 72, .int s1, .int (nI 1), .int (nI 1)] (mm L X I J)) (fun v m' => runI call iX12_look (25, [some (.ref 72), some (.int x1), u2, u3, u4, u5, u6, u7], v.toList ++ [], m')) := by
  refine Eq.trans (xiconst dX12_look_20 ci_1) ?_
  refine Eq.trans (xiconst dX12_look_21 ci_1) ?_
  exact iv0 dX12_look_22 rfl cp_12_182 rfl rfl (kd_ka ka_72) ka_72.1 (Nat.le_of_ble_eq_true rfl)
theorem q_X12_look_25 {call : CALL} {L X : Nat} {I : Nat → Nat → Int32} {J : Nat → Nat → Int64} {x1 : Int32} {u2 : Option Value} {u3 : Option Value} {u4 : Option Value} {u5 : Option Value} {u6 : Option Value} {u7 : Option Value} {s0 : Int32} : runI call iX12_look (25, [some (.ref 72), some (.int x1), u2, u3, u4, u5, u6, u7], [.int s0], (mm L X I J)) = if s0 = (nI 0) then bndN (call nX12_manyIn [.ref 533] (mm L X I J)) (fun v m' => runI call iX12_look (37, [some (.ref 72), some (.int x1), u2, u3, u4, u5, u6, u7], v.toList ++ [], m')) else some (.inl (some (.int (nI 0))), (mm L X I J)) := by
  refine Eq.trans (if_eq (tgt := 30) dX12_look_25 (by decide +kernel)) (ite_cong (fun _ => ?_) (fun _ => ?_))
  · refine Eq.trans (st1 dX12_look_30 rfl rfl) ?_
    refine Eq.trans (getRm dX12_look_31 cp_12_67 ka_72 rfl r_72_29) ?_
    exact is2 dX12_look_34 cp_12_264 (Nat.le_of_ble_eq_true rfl) rfl rfl (Nat.le_of_ble_eq_true rfl)
  · refine Eq.trans (xiconst dX12_look_28 ci_0) ?_
    exact ret0 dX12_look_29 rfl
theorem q_X12_look_37 {call : CALL} {L X : Nat} {I : Nat → Nat → Int32} {J : Nat → Nat → Int64} {x1 : Int32} {u2 : Option Value} {u3 : Option Value} {u4 : Option Value} {u5 : Option Value} {u6 : Option Value} {u7 : Option Value} {s0 : Int32} : runI call iX12_look (37, [some (.ref 72), some (.int x1), u2, u3, u4, u5, u6, u7], [.int s0], (mm L X I J)) = runI call iX12_look (46, [some (.ref 72), some (.int x1), some (.int s0), some (.int (-1 : Int32)), some (.int (-1 : Int32)), some (.int (nI 0)), u6, u7], [], (mm L X I J)) := by
  refine Eq.trans (st1 dX12_look_37 rfl rfl) ?_
  refine Eq.trans (xiconst dX12_look_38 ci_m1) ?_
  refine Eq.trans (st1 dX12_look_39 rfl rfl) ?_
  refine Eq.trans (xiconst dX12_look_40 ci_m1) ?_
  refine Eq.trans (st1 dX12_look_41 rfl rfl) ?_
  refine Eq.trans (xiconst dX12_look_43 ci_0) ?_
  refine Eq.trans (st1 dX12_look_44 rfl rfl) ?_
  rfl
theorem q_X12_look_46 {call : CALL} {L X : Nat} {I : Nat → Nat → Int32} {J : Nat → Nat → Int64} {x1 : Int32} {x2 : Int32} {x3 : Int32} {x4 : Int32} {x5 : Int32} {u6 : Option Value} {u7 : Option Value} : runI call iX12_look (46, [some (.ref 72), some (.int x1), some (.int x2), some (.int x3), some (.int x4), some (.int x5), u6, u7], [], (mm L X I J)) = if (nI 6) ≤ x5 then runI call iX12_look (89, [some (.ref 72), some (.int x1), some (.int x2), some (.int x3), some (.int x4), some (.int (nI 0)), u6, u7], [], (mm L X I J)) else runI call iX12_look (56, [some (.ref 72), some (.int x1), some (.int x2), some (.int x3), some (.int x4), some (.int x5), some (.int (nI 0)), u7], [], (mm L X I J)) := by
  refine Eq.trans (st1 dX12_look_46 rfl rfl) ?_
  refine Eq.trans (xbipush dX12_look_48 cb_6) ?_
  refine Eq.trans (ic_ge (tgt := 86) dX12_look_50 (by decide +kernel)) (ite_cong (fun _ => ?_) (fun _ => ?_))
  · refine Eq.trans (xiconst dX12_look_86 ci_0) ?_
    refine Eq.trans (st1 dX12_look_87 rfl rfl) ?_
    rfl
  · refine Eq.trans (xiconst dX12_look_53 ci_0) ?_
    refine Eq.trans (st1 dX12_look_54 rfl rfl) ?_
    rfl
theorem q_X12_look_89 {call : CALL} {L X : Nat} {I : Nat → Nat → Int32} {J : Nat → Nat → Int64} {x1 : Int32} {x2 : Int32} {x3 : Int32} {x4 : Int32} {x5 : Int32} {u6 : Option Value} {u7 : Option Value} : runI call iX12_look (89, [some (.ref 72), some (.int x1), some (.int x2), some (.int x3), some (.int x4), some (.int x5), u6, u7], [], (mm L X I J)) = if x2 ≤ x5 then runI call iX12_look (165, [some (.ref 72), some (.int x1), some (.int x2), some (.int x3), some (.int x4), some (.int (nI 0)), u6, u7], [], (mm L X I J)) else runI call iX12_look (98, [some (.ref 72), some (.int x1), some (.int x2), some (.int x3), some (.int x4), some (.int x5), some (.int (nI 1)), u7], [], (mm L X I J)) := by
  refine Eq.trans (st1 dX12_look_89 rfl rfl) ?_
  refine Eq.trans (st1 dX12_look_91 rfl rfl) ?_
  refine Eq.trans (ic_ge (tgt := 162) dX12_look_92 (by decide +kernel)) (ite_cong (fun _ => ?_) (fun _ => ?_))
  · refine Eq.trans (xiconst dX12_look_162 ci_0) ?_
    refine Eq.trans (st1 dX12_look_163 rfl rfl) ?_
    rfl
  · refine Eq.trans (xiconst dX12_look_95 ci_1) ?_
    refine Eq.trans (st1 dX12_look_96 rfl rfl) ?_
    rfl
theorem q_X12_look_56 {call : CALL} {L X : Nat} {I : Nat → Nat → Int32} {J : Nat → Nat → Int64} {x1 : Int32} {x2 : Int32} {x3 : Int32} {x4 : Int32} {x5 : Int32} {x6 : Int32} {u7 : Option Value} : runI call iX12_look (56, [some (.ref 72), some (.int x1), some (.int x2), some (.int x3), some (.int x4), some (.int x5), some (.int x6), u7], [], (mm L X I J)) = if (nI 99) < x6 then runI call iX12_look (46, [some (.ref 72), some (.int x1), some (.int x2), some (.int x3), some (.int x4), some (.int (x5 + (nI 1))), some (.int x6), u7], [], (mm L X I J)) else gd (inb x5 6) (gd (inb x6 100) (runI call iX12_look (56, [some (.ref 72), some (.int x1), some (.int x2), some (.int x3), some (.int x4), some (.int x5), some (.int (x6 + (nI 1))), u7], [], (mm L X (up2 I (626 + (x5).toNatClampNeg) (x6).toNatClampNeg (nI 0)) J)))) := by
  refine Eq.trans (st1 dX12_look_56 rfl rfl) ?_
  refine Eq.trans (xbipush dX12_look_58 cb_99) ?_
  refine Eq.trans (ic_gt (tgt := 80) dX12_look_60 (by decide +kernel)) (ite_cong (fun _ => ?_) (fun _ => ?_))
  · refine Eq.trans (xinc2 dX12_look_80 ci_1 rfl (Nat.le_of_ble_eq_true rfl) rfl) ?_
    refine Eq.trans (go_to (tgt := 46) dX12_look_83 (by decide +kernel)) ?_
    rfl
  · refine Eq.trans (st1 dX12_look_63 rfl rfl) ?_
    refine Eq.trans (getRm dX12_look_64 cp_12_94 ka_72 rfl r_72_49) ?_
    refine Eq.trans (st1 dX12_look_67 rfl rfl) ?_
    refine Eq.trans (al4m dX12_look_69 ka_625 rr_625) (gd_congr fun g1 => ?_)
    refine Eq.trans (st1 dX12_look_70 rfl rfl) ?_
    refine Eq.trans (xiconst dX12_look_72 ci_0) ?_
    refine Eq.trans (as1m dX12_look_73 (kr_625 (inb_lt g1))) (gd_congr fun g2 => ?_)
    refine Eq.trans (xinc2 dX12_look_74 ci_1 rfl (Nat.le_of_ble_eq_true rfl) rfl) ?_
    refine Eq.trans (go_to (tgt := 56) dX12_look_77 (by decide +kernel)) ?_
    rfl
theorem q_X12_look_165 {call : CALL} {L X : Nat} {I : Nat → Nat → Int32} {J : Nat → Nat → Int64} {x1 : Int32} {x2 : Int32} {x3 : Int32} {x4 : Int32} {x5 : Int32} {u6 : Option Value} {u7 : Option Value} : runI call iX12_look (165, [some (.ref 72), some (.int x1), some (.int x2), some (.int x3), some (.int x4), some (.int x5), u6, u7], [], (mm L X I J)) = if x2 ≤ x5 then if x1 = (nI 0) then some (.inl (some (.int x3)), (mm L X I J)) else some (.inl (some (.int x4)), (mm L X I J)) else bnd (call nX12_isTold [.ref 72, .int x5] (mm L X I J)) (fun v m' => runI call iX12_look (177, [some (.ref 72), some (.int x1), some (.int x2), some (.int x3), some (.int x4), some (.int x5), u6, u7], v.toList ++ [], m')) := by
  refine Eq.trans (st1 dX12_look_165 rfl rfl) ?_
  refine Eq.trans (st1 dX12_look_167 rfl rfl) ?_
  refine Eq.trans (ic_ge (tgt := 247) dX12_look_168 (by decide +kernel)) (ite_cong (fun _ => ?_) (fun _ => ?_))
  · refine Eq.trans (st1 dX12_look_247 rfl rfl) ?_
    refine Eq.trans (if_ne (tgt := 255) dX12_look_248 (by decide +kernel)) (ite_cong (fun _ => ?_) (fun _ => ?_))
    · refine Eq.trans (st1 dX12_look_251 rfl rfl) ?_
      refine Eq.trans (go_to (tgt := 257) dX12_look_252 (by decide +kernel)) ?_
      exact ret0 dX12_look_257 rfl
    · refine Eq.trans (st1 dX12_look_255 rfl rfl) ?_
      exact ret0 dX12_look_257 rfl
  · refine Eq.trans (st1 dX12_look_171 rfl rfl) ?_
    refine Eq.trans (st1 dX12_look_172 rfl rfl) ?_
    exact iv0 dX12_look_174 rfl cp_12_394 rfl rfl (kd_ka ka_72) ka_72.1 (Nat.le_of_ble_eq_true rfl)
theorem q_X12_look_98 {call : CALL} {L X : Nat} {I : Nat → Nat → Int32} {J : Nat → Nat → Int64} {x1 : Int32} {x2 : Int32} {x3 : Int32} {x4 : Int32} {x5 : Int32} {x6 : Int32} {u7 : Option Value} : runI call iX12_look (98, [some (.ref 72), some (.int x1), some (.int x2), some (.int x3), some (.int x4), some (.int x5), some (.int x6), u7], [], (mm L X I J)) = if (nI 30) < x6 then runI call iX12_look (89, [some (.ref 72), some (.int x1), some (.int x2), some (.int x3), some (.int x4), some (.int (x5 + (nI 1))), some (.int x6), u7], [], (mm L X I J)) else bnd (call nX12_isLeak [.ref 72, .int x5, .int x6] (mm L X I J)) (fun v m' => runI call iX12_look (113, [some (.ref 72), some (.int x1), some (.int x2), some (.int x3), some (.int x4), some (.int x5), some (.int x6), u7], v.toList ++ [], m')) := by
  refine Eq.trans (st1 dX12_look_98 rfl rfl) ?_
  refine Eq.trans (xbipush dX12_look_100 cb_30) ?_
  refine Eq.trans (ic_gt (tgt := 156) dX12_look_102 (by decide +kernel)) (ite_cong (fun _ => ?_) (fun _ => ?_))
  · refine Eq.trans (xinc2 dX12_look_156 ci_1 rfl (Nat.le_of_ble_eq_true rfl) rfl) ?_
    refine Eq.trans (go_to (tgt := 89) dX12_look_159 (by decide +kernel)) ?_
    rfl
  · refine Eq.trans (st1 dX12_look_105 rfl rfl) ?_
    refine Eq.trans (st1 dX12_look_106 rfl rfl) ?_
    refine Eq.trans (st1 dX12_look_108 rfl rfl) ?_
    exact iv0 dX12_look_110 rfl cp_12_391 rfl rfl (kd_ka ka_72) ka_72.1 (Nat.le_of_ble_eq_true rfl)
theorem q_X12_look_177 {call : CALL} {L X : Nat} {I : Nat → Nat → Int32} {J : Nat → Nat → Int64} {x1 : Int32} {x2 : Int32} {x3 : Int32} {x4 : Int32} {x5 : Int32} {u6 : Option Value} {u7 : Option Value} {s0 : Int32} : runI call iX12_look (177, [some (.ref 72), some (.int x1), some (.int x2), some (.int x3), some (.int x4), some (.int x5), u6, u7], [.int s0], (mm L X I J)) = if s0 = (nI 0) then runI call iX12_look (189, [some (.ref 72), some (.int x1), some (.int x2), some (.int x3), some (.int x4), some (.int x5), some (.int (nI 0)), some (.int (nI 0))], [], (mm L X I J)) else runI call iX12_look (241, [some (.ref 72), some (.int x1), some (.int x2), some (.int x3), some (.int x4), some (.int x5), u6, u7], [], (mm L X I J)) := by
  refine Eq.trans (if_eq (tgt := 183) dX12_look_177 (by decide +kernel)) (ite_cong (fun _ => ?_) (fun _ => ?_))
  · refine Eq.trans (xiconst dX12_look_183 ci_0) ?_
    refine Eq.trans (st1 dX12_look_184 rfl rfl) ?_
    refine Eq.trans (xiconst dX12_look_186 ci_0) ?_
    refine Eq.trans (st1 dX12_look_187 rfl rfl) ?_
    rfl
  · refine Eq.trans (go_to (tgt := 241) dX12_look_180 (by decide +kernel)) ?_
    rfl
theorem q_X12_look_113 {call : CALL} {L X : Nat} {I : Nat → Nat → Int32} {J : Nat → Nat → Int64} {x1 : Int32} {x2 : Int32} {x3 : Int32} {x4 : Int32} {x5 : Int32} {x6 : Int32} {u7 : Option Value} {s0 : Int32} : runI call iX12_look (113, [some (.ref 72), some (.int x1), some (.int x2), some (.int x3), some (.int x4), some (.int x5), some (.int x6), u7], [.int s0], (mm L X I J)) = if s0 = (nI 0) then runI call iX12_look (150, [some (.ref 72), some (.int x1), some (.int x2), some (.int x3), some (.int x4), some (.int x5), some (.int x6), u7], [], (mm L X I J)) else runI call iX12_look (119, [some (.ref 72), some (.int x1), some (.int x2), some (.int x3), some (.int x4), some (.int x5), some (.int x6), some (.int (nI 0))], [], (mm L X I J)) := by
  refine Eq.trans (if_eq (tgt := 150) dX12_look_113 (by decide +kernel)) (ite_cong (fun _ => ?_) (fun _ => ?_))
  · rfl
  · refine Eq.trans (xiconst dX12_look_116 ci_0) ?_
    refine Eq.trans (st1 dX12_look_117 rfl rfl) ?_
    rfl
theorem q_X12_look_189 {call : CALL} {L X : Nat} {I : Nat → Nat → Int32} {J : Nat → Nat → Int64} {x1 : Int32} {x2 : Int32} {x3 : Int32} {x4 : Int32} {x5 : Int32} {x6 : Int32} {x7 : Int32} : runI call iX12_look (189, [some (.ref 72), some (.int x1), some (.int x2), some (.int x3), some (.int x4), some (.int x5), some (.int x6), some (.int x7)], [], (mm L X I J)) = if (nI 99) < x7 then if x3 = (-1 : Int32) then runI call iX12_look (234, [some (.ref 72), some (.int x1), some (.int x2), some (.int x3), some (.int x4), some (.int x5), some (.int x6), some (.int x7)], [], (mm L X I J)) else if x6 < x4 then runI call iX12_look (234, [some (.ref 72), some (.int x1), some (.int x2), some (.int x3), some (.int x4), some (.int x5), some (.int x6), some (.int x7)], [], (mm L X I J)) else runI call iX12_look (241, [some (.ref 72), some (.int x1), some (.int x2), some (.int x3), some (.int x4), some (.int x5), some (.int x6), some (.int x7)], [], (mm L X I J)) else gd (inb x5 6) (gd (inb x7 100) (bndN (call nX12_more [.int x6, .int (I (626 + (x5).toNatClampNeg) (x7).toNatClampNeg)] (mm L X I J)) (fun v m' => runI call iX12_look (211, [some (.ref 72), some (.int x1), some (.int x2), some (.int x3), some (.int x4), some (.int x5), some (.int x6), some (.int x7)], v.toList ++ [], m')))) := by
  refine Eq.trans (st1 dX12_look_189 rfl rfl) ?_
  refine Eq.trans (xbipush dX12_look_191 cb_99) ?_
  refine Eq.trans (ic_gt (tgt := 219) dX12_look_193 (by decide +kernel)) (ite_cong (fun _ => ?_) (fun _ => ?_))
  · refine Eq.trans (st1 dX12_look_219 rfl rfl) ?_
    refine Eq.trans (xiconst dX12_look_220 ci_m1) ?_
    refine Eq.trans (ic_eq (tgt := 234) dX12_look_221 (by decide +kernel)) (ite_cong (fun _ => ?_) (fun _ => ?_))
    · rfl
    · refine Eq.trans (st1 dX12_look_224 rfl rfl) ?_
      refine Eq.trans (st1 dX12_look_226 rfl rfl) ?_
      refine Eq.trans (ic_lt (tgt := 234) dX12_look_228 (by decide +kernel)) (ite_cong (fun _ => ?_) (fun _ => ?_))
      · rfl
      · refine Eq.trans (go_to (tgt := 241) dX12_look_231 (by decide +kernel)) ?_
        rfl
  · refine Eq.trans (st1 dX12_look_196 rfl rfl) ?_
    refine Eq.trans (st1 dX12_look_198 rfl rfl) ?_
    refine Eq.trans (getRm dX12_look_199 cp_12_94 ka_72 rfl r_72_49) ?_
    refine Eq.trans (st1 dX12_look_202 rfl rfl) ?_
    refine Eq.trans (al4m dX12_look_204 ka_625 rr_625) (gd_congr fun g1 => ?_)
    refine Eq.trans (st1 dX12_look_205 rfl rfl) ?_
    refine Eq.trans (al1m dX12_look_207 (kr_625 (inb_lt g1))) (gd_congr fun g2 => ?_)
    exact is2 dX12_look_208 cp_12_248 (Nat.le_of_ble_eq_true rfl) rfl rfl (Nat.le_of_ble_eq_true rfl)
theorem q_X12_look_241 {call : CALL} {L X : Nat} {I : Nat → Nat → Int32} {J : Nat → Nat → Int64} {x1 : Int32} {x2 : Int32} {x3 : Int32} {x4 : Int32} {x5 : Int32} {u6 : Option Value} {u7 : Option Value} : runI call iX12_look (241, [some (.ref 72), some (.int x1), some (.int x2), some (.int x3), some (.int x4), some (.int x5), u6, u7], [], (mm L X I J)) = runI call iX12_look (165, [some (.ref 72), some (.int x1), some (.int x2), some (.int x3), some (.int x4), some (.int (x5 + (nI 1))), u6, u7], [], (mm L X I J)) := by
  refine Eq.trans (xinc2 dX12_look_241 ci_1 rfl (Nat.le_of_ble_eq_true rfl) rfl) ?_
  refine Eq.trans (go_to (tgt := 165) dX12_look_244 (by decide +kernel)) ?_
  rfl
theorem q_X12_look_150 {call : CALL} {L X : Nat} {I : Nat → Nat → Int32} {J : Nat → Nat → Int64} {x1 : Int32} {x2 : Int32} {x3 : Int32} {x4 : Int32} {x5 : Int32} {x6 : Int32} {u7 : Option Value} : runI call iX12_look (150, [some (.ref 72), some (.int x1), some (.int x2), some (.int x3), some (.int x4), some (.int x5), some (.int x6), u7], [], (mm L X I J)) = runI call iX12_look (98, [some (.ref 72), some (.int x1), some (.int x2), some (.int x3), some (.int x4), some (.int x5), some (.int (x6 + (nI 1))), u7], [], (mm L X I J)) := by
  refine Eq.trans (xinc2 dX12_look_150 ci_1 rfl (Nat.le_of_ble_eq_true rfl) rfl) ?_
  refine Eq.trans (go_to (tgt := 98) dX12_look_153 (by decide +kernel)) ?_
  rfl
theorem q_X12_look_119 {call : CALL} {L X : Nat} {I : Nat → Nat → Int32} {J : Nat → Nat → Int64} {x1 : Int32} {x2 : Int32} {x3 : Int32} {x4 : Int32} {x5 : Int32} {x6 : Int32} {x7 : Int32} : runI call iX12_look (119, [some (.ref 72), some (.int x1), some (.int x2), some (.int x3), some (.int x4), some (.int x5), some (.int x6), some (.int x7)], [], (mm L X I J)) = if x2 ≤ x7 then runI call iX12_look (150, [some (.ref 72), some (.int x1), some (.int x2), some (.int x3), some (.int x4), some (.int x5), some (.int x6), some (.int x7)], [], (mm L X I J)) else gd (inb x7 6) (gd (inb (I 535 (x7).toNatClampNeg) 100) (runI call iX12_look (119, [some (.ref 72), some (.int x1), some (.int x2), some (.int x3), some (.int x4), some (.int x5), some (.int x6), some (.int (x7 + (nI 1)))], [], (mm L X (up2 I (626 + (x7).toNatClampNeg) ((I 535 (x7).toNatClampNeg)).toNatClampNeg ((I (626 + (x7).toNatClampNeg) ((I 535 (x7).toNatClampNeg)).toNatClampNeg) + (nI 1))) J)))) := by
  refine Eq.trans (st1 dX12_look_119 rfl rfl) ?_
  refine Eq.trans (st1 dX12_look_121 rfl rfl) ?_
  refine Eq.trans (ic_ge (tgt := 150) dX12_look_122 (by decide +kernel)) (ite_cong (fun _ => ?_) (fun _ => ?_))
  · rfl
  · refine Eq.trans (st1 dX12_look_125 rfl rfl) ?_
    refine Eq.trans (getRm dX12_look_126 cp_12_94 ka_72 rfl r_72_49) ?_
    refine Eq.trans (st1 dX12_look_129 rfl rfl) ?_
    refine Eq.trans (al4m dX12_look_131 ka_625 rr_625) (gd_congr fun g1 => ?_)
    refine Eq.trans (st1 dX12_look_132 rfl rfl) ?_
    refine Eq.trans (getRm dX12_look_133 cp_12_73 ka_72 rfl r_72_31) ?_
    refine Eq.trans (st1 dX12_look_136 rfl rfl) ?_
    refine Eq.trans (al1m dX12_look_138 ka_535) (Eq.trans (gd_t g1) ?_)
    refine Eq.trans (st1 dX12_look_139 rfl rfl) ?_
    refine Eq.trans (al1m dX12_look_140 (kr_625 (inb_lt g1))) (gd_congr fun g2 => ?_)
    refine Eq.trans (xiconst dX12_look_141 ci_1) ?_
    refine Eq.trans (st1 dX12_look_142 rfl rfl) ?_
    refine Eq.trans (as1m dX12_look_143 (kr_625 (inb_lt g1))) (Eq.trans (gd_t g2) ?_)
    refine Eq.trans (xinc2 dX12_look_144 ci_1 rfl (Nat.le_of_ble_eq_true rfl) rfl) ?_
    refine Eq.trans (go_to (tgt := 119) dX12_look_147 (by decide +kernel)) ?_
    rfl
theorem q_X12_look_234 {call : CALL} {L X : Nat} {I : Nat → Nat → Int32} {J : Nat → Nat → Int64} {x1 : Int32} {x2 : Int32} {u3 : Option Value} {u4 : Option Value} {x5 : Int32} {x6 : Int32} {u7 : Option Value} : runI call iX12_look (234, [some (.ref 72), some (.int x1), some (.int x2), u3, u4, some (.int x5), some (.int x6), u7], [], (mm L X I J)) = runI call iX12_look (241, [some (.ref 72), some (.int x1), some (.int x2), some (.int x5), some (.int x6), some (.int x5), some (.int x6), u7], [], (mm L X I J)) := by
  refine Eq.trans (st1 dX12_look_234 rfl rfl) ?_
  refine Eq.trans (st1 dX12_look_236 rfl rfl) ?_
  refine Eq.trans (st1 dX12_look_237 rfl rfl) ?_
  refine Eq.trans (st1 dX12_look_239 rfl rfl) ?_
  rfl
theorem q_X12_look_211 {call : CALL} {L X : Nat} {I : Nat → Nat → Int32} {J : Nat → Nat → Int64} {x1 : Int32} {x2 : Int32} {x3 : Int32} {x4 : Int32} {x5 : Int32} {u6 : Option Value} {x7 : Int32} {s0 : Int32} : runI call iX12_look (211, [some (.ref 72), some (.int x1), some (.int x2), some (.int x3), some (.int x4), some (.int x5), u6, some (.int x7)], [.int s0], (mm L X I J)) = runI call iX12_look (189, [some (.ref 72), some (.int x1), some (.int x2), some (.int x3), some (.int x4), some (.int x5), some (.int s0), some (.int (x7 + (nI 1)))], [], (mm L X I J)) := by
  refine Eq.trans (st1 dX12_look_211 rfl rfl) ?_
  refine Eq.trans (xinc2 dX12_look_213 ci_1 rfl (Nat.le_of_ble_eq_true rfl) rfl) ?_
  refine Eq.trans (go_to (tgt := 189) dX12_look_216 (by decide +kernel)) ?_
  rfl
theorem q_X12_isTold_0 {call : CALL} {L X : Nat} {I : Nat → Nat → Int32} {J : Nat → Nat → Int64} {x1 : Int32} : runI call iX12_isTold (0, [some (.ref 72), some (.int x1), none], [], (mm L X I J)) = runI call iX12_isTold (2, [some (.ref 72), some (.int x1), some (.int (nI 0))], [], (mm L X I J)) := by
  refine Eq.trans (xiconst dX12_isTold_0 ci_0) ?_
  refine Eq.trans (st1 dX12_isTold_1 rfl rfl) ?_
  rfl
theorem q_X12_isTold_2 {call : CALL} {L X : Nat} {I : Nat → Nat → Int32} {J : Nat → Nat → Int64} {x1 : Int32} {x2 : Int32} : runI call iX12_isTold (2, [some (.ref 72), some (.int x1), some (.int x2)], [], (mm L X I J)) = if (I 72 34) ≤ x2 then some (.inl (some (.int (nI 0))), (mm L X I J)) else gd (inb x2 6) (if (I (437 + (x2).toNatClampNeg) 0) = x1 then some (.inl (some (.int (nI 1))), (mm L X I J)) else runI call iX12_isTold (2, [some (.ref 72), some (.int x1), some (.int (x2 + (nI 1)))], [], (mm L X I J))) := by
  refine Eq.trans (st1 dX12_isTold_2 rfl rfl) ?_
  refine Eq.trans (st1 dX12_isTold_3 rfl rfl) ?_
  refine Eq.trans (getIm dX12_isTold_4 cp_12_205 ka_72 (.inl rfl)) ?_
  refine Eq.trans (ic_ge (tgt := 30) dX12_isTold_7 (by decide +kernel)) (ite_cong (fun _ => ?_) (fun _ => ?_))
  · refine Eq.trans (xiconst dX12_isTold_30 ci_0) ?_
    exact ret1 dX12_isTold_31 rfl (.inl rfl)
  · refine Eq.trans (st1 dX12_isTold_10 rfl rfl) ?_
    refine Eq.trans (getRm dX12_isTold_11 cp_12_52 ka_72 rfl r_72_23) ?_
    refine Eq.trans (st1 dX12_isTold_14 rfl rfl) ?_
    refine Eq.trans (al4m dX12_isTold_15 ka_436 rr_436) (gd_congr fun g1 => ?_)
    refine Eq.trans (xiconst dX12_isTold_16 ci_0) ?_
    refine Eq.trans (al1c dX12_isTold_17 (kr_436 (inb_lt g1)) (by decide +kernel) nc_0) ?_
    refine Eq.trans (st1 dX12_isTold_18 rfl rfl) ?_
    refine Eq.trans (ic_ne (tgt := 24) dX12_isTold_19 (by decide +kernel)) (ite_cong (fun _ => ?_) (fun _ => ?_))
    · refine Eq.trans (xiconst dX12_isTold_22 ci_1) ?_
      exact ret1 dX12_isTold_23 rfl (.inr rfl)
    · refine Eq.trans (xinc2 dX12_isTold_24 ci_1 rfl (Nat.le_of_ble_eq_true rfl) rfl) ?_
      refine Eq.trans (go_to (tgt := 2) dX12_isTold_27 (by decide +kernel)) ?_
      rfl
theorem q_X12_wed_0 {call : CALL} {L X : Nat} {I : Nat → Nat → Int32} {J : Nat → Nat → Int64}  : runI call iX12_wed (0, [some (.ref 72)], [], (mm L X I J)) = bnd (call nX12_weds [.ref 72, .int (((nI 1) <<< (((up2 I 72 0 (nI 0)) 76 0) &&& 31)) - (nI 1))] (mm L X (up2 I 72 0 (nI 0)) J)) (fun v m' => runI call iX12_wed (19, [some (.ref 72)], v.toList ++ [], m')) := by
  refine Eq.trans (st1 dX12_wed_0 rfl rfl) ?_
  refine Eq.trans (xiconst dX12_wed_1 ci_0) ?_
  refine Eq.trans (putIm dX12_wed_2 cp_12_103 ka_72 rfl) ?_
  refine Eq.trans (st1 dX12_wed_5 rfl rfl) ?_
  refine Eq.trans (xiconst dX12_wed_6 ci_1) ?_
  refine Eq.trans (st1 dX12_wed_7 rfl rfl) ?_
  refine Eq.trans (getRm dX12_wed_8 cp_12_23 ka_72 rfl r_72_12) ?_
  refine Eq.trans (xiconst dX12_wed_11 ci_0) ?_
  refine Eq.trans (al1c dX12_wed_12 ka_76 (by decide +kernel) nc_0) ?_
  refine Eq.trans (st1 dX12_wed_13 rfl rfl) ?_
  refine Eq.trans (xiconst dX12_wed_14 ci_1) ?_
  refine Eq.trans (st1 dX12_wed_15 rfl rfl) ?_
  exact iv0 dX12_wed_16 rfl cp_12_397 rfl rfl (kd_ka ka_72) ka_72.1 (Nat.le_of_ble_eq_true rfl)
theorem q_X12_wed_19 {call : CALL} {L X : Nat} {I : Nat → Nat → Int32} {J : Nat → Nat → Int64} {u0 : Option Value} {s0 : Int32} : runI call iX12_wed (19, [u0], [.int s0], (mm L X I J)) = some (.inl (some (.int s0)), (mm L X I J)) := by
  exact ret0 dX12_wed_19 rfl
theorem q_X12_weds_0 {call : CALL} {L X : Nat} {I : Nat → Nat → Int32} {J : Nat → Nat → Int64} {x1 : Int32} : runI call iX12_weds (0, [some (.ref 72), some (.int x1), none, none, none, none], [], (mm L X I J)) = if x1 = (nI 0) then some (.inl (some (.int (nI 0))), (mm L X I J)) else runI call iX12_weds (10, [some (.ref 72), some (.int x1), some (.int (nI 0)), some (.int (nI 0)), none, none], [], (mm L X I J)) := by
  refine Eq.trans (xiconst dX12_weds_0 ci_0) ?_
  refine Eq.trans (st1 dX12_weds_1 rfl rfl) ?_
  refine Eq.trans (xiconst dX12_weds_2 ci_0) ?_
  refine Eq.trans (st1 dX12_weds_3 rfl rfl) ?_
  refine Eq.trans (st1 dX12_weds_4 rfl rfl) ?_
  refine Eq.trans (if_ne (tgt := 10) dX12_weds_5 (by decide +kernel)) (ite_cong (fun _ => ?_) (fun _ => ?_))
  · refine Eq.trans (xiconst dX12_weds_8 ci_0) ?_
    exact ret0 dX12_weds_9 rfl
  · rfl
theorem q_X12_weds_10 {call : CALL} {L X : Nat} {I : Nat → Nat → Int32} {J : Nat → Nat → Int64} {x1 : Int32} {x2 : Int32} {u3 : Option Value} {u4 : Option Value} {u5 : Option Value} : runI call iX12_weds (10, [some (.ref 72), some (.int x1), some (.int x2), u3, u4, u5], [], (mm L X I J)) = bndN (call nX12_has [.int x1, .int x2] (mm L X I J)) (fun v m' => runI call iX12_weds (15, [some (.ref 72), some (.int x1), some (.int x2), u3, u4, u5], v.toList ++ [], m')) := by
  refine Eq.trans (st1 dX12_weds_10 rfl rfl) ?_
  refine Eq.trans (st1 dX12_weds_11 rfl rfl) ?_
  exact is2 dX12_weds_12 cp_12_366 (Nat.le_of_ble_eq_true rfl) rfl rfl (Nat.le_of_ble_eq_true rfl)
theorem q_X12_weds_15 {call : CALL} {L X : Nat} {I : Nat → Nat → Int32} {J : Nat → Nat → Int64} {x1 : Int32} {x2 : Int32} {u3 : Option Value} {u4 : Option Value} {u5 : Option Value} {s0 : Int32} (hu3 : okv u3 = true) : runI call iX12_weds (15, [some (.ref 72), some (.int x1), some (.int x2), u3, u4, u5], [.int s0], (mm L X I J)) = if s0 = (nI 0) then runI call iX12_weds (10, [some (.ref 72), some (.int x1), some (.int (x2 + (nI 1))), u3, u4, u5], [], (mm L X I J)) else bnd (call nX12_weds [.ref 72, .int (x1 &&& (((nI 1) <<< (x2 &&& 31)) ^^^ (-1 : Int32)))] (mm L X I J)) (fun v m' => runI call iX12_weds (39, [some (.ref 72), some (.int x1), some (.int x2), u3, some (.int (x1 &&& (((nI 1) <<< (x2 &&& 31)) ^^^ (-1 : Int32)))), u5], v.toList ++ [], m')) := by
  refine Eq.trans (if_ne (tgt := 24) dX12_weds_15 (by decide +kernel)) (ite_cong (fun _ => ?_) (fun _ => ?_))
  · refine Eq.trans (xinc2 dX12_weds_18 ci_1 rfl (Nat.le_of_ble_eq_true rfl) rfl) ?_
    refine Eq.trans (go_to (tgt := 10) dX12_weds_21 (by decide +kernel)) ?_
    rfl
  · refine Eq.trans (st1 dX12_weds_24 rfl rfl) ?_
    refine Eq.trans (xiconst dX12_weds_25 ci_1) ?_
    refine Eq.trans (st1 dX12_weds_26 rfl rfl) ?_
    refine Eq.trans (st1 dX12_weds_27 rfl rfl) ?_
    refine Eq.trans (xiconst dX12_weds_28 ci_m1) ?_
    refine Eq.trans (st1 dX12_weds_29 rfl rfl) ?_
    refine Eq.trans (st1 dX12_weds_30 rfl rfl) ?_
    refine Eq.trans (xst2 (k := 4) dX12_weds_31 hu3 rfl) ?_
    refine Eq.trans (st1 dX12_weds_33 rfl rfl) ?_
    refine Eq.trans (st1 dX12_weds_34 rfl rfl) ?_
    exact iv0 dX12_weds_36 rfl cp_12_397 rfl rfl (kd_ka ka_72) ka_72.1 (Nat.le_of_ble_eq_true rfl)
theorem q_X12_weds_39 {call : CALL} {L X : Nat} {I : Nat → Nat → Int32} {J : Nat → Nat → Int64} {u1 : Option Value} {x2 : Int32} {u3 : Option Value} {x4 : Int32} {u5 : Option Value} {s0 : Int32} : runI call iX12_weds (39, [some (.ref 72), u1, some (.int x2), u3, some (.int x4), u5], [.int s0], (mm L X I J)) = runI call iX12_weds (45, [some (.ref 72), u1, some (.int x2), some (.int s0), some (.int x4), some (.int (x2 + (nI 1)))], [], (mm L X I J)) := by
  refine Eq.trans (st1 dX12_weds_39 rfl rfl) ?_
  refine Eq.trans (st1 dX12_weds_40 rfl rfl) ?_
  refine Eq.trans (xiconst dX12_weds_41 ci_1) ?_
  refine Eq.trans (st1 dX12_weds_42 rfl rfl) ?_
  refine Eq.trans (st1 dX12_weds_43 rfl rfl) ?_
  rfl
theorem q_X12_weds_45 {call : CALL} {L X : Nat} {I : Nat → Nat → Int32} {J : Nat → Nat → Int64} {u1 : Option Value} {x2 : Int32} {x3 : Int32} {x4 : Int32} {x5 : Int32} : runI call iX12_weds (45, [some (.ref 72), u1, some (.int x2), some (.int x3), some (.int x4), some (.int x5)], [], (mm L X I J)) = if (I 76 0) ≤ x5 then some (.inl (some (.int x3)), (mm L X I J)) else bndN (call nX12_has [.int x4, .int x5] (mm L X I J)) (fun v m' => runI call iX12_weds (63, [some (.ref 72), u1, some (.int x2), some (.int x3), some (.int x4), some (.int x5)], v.toList ++ [], m')) := by
  refine Eq.trans (st1 dX12_weds_45 rfl rfl) ?_
  refine Eq.trans (st1 dX12_weds_47 rfl rfl) ?_
  refine Eq.trans (getRm dX12_weds_48 cp_12_23 ka_72 rfl r_72_12) ?_
  refine Eq.trans (xiconst dX12_weds_51 ci_0) ?_
  refine Eq.trans (al1c dX12_weds_52 ka_76 (by decide +kernel) nc_0) ?_
  refine Eq.trans (ic_ge (tgt := 123) dX12_weds_53 (by decide +kernel)) (ite_cong (fun _ => ?_) (fun _ => ?_))
  · refine Eq.trans (st1 dX12_weds_123 rfl rfl) ?_
    exact ret0 dX12_weds_124 rfl
  · refine Eq.trans (st1 dX12_weds_56 rfl rfl) ?_
    refine Eq.trans (st1 dX12_weds_58 rfl rfl) ?_
    exact is2 dX12_weds_60 cp_12_366 (Nat.le_of_ble_eq_true rfl) rfl rfl (Nat.le_of_ble_eq_true rfl)
theorem q_X12_weds_63 {call : CALL} {L X : Nat} {I : Nat → Nat → Int32} {J : Nat → Nat → Int64} {u1 : Option Value} {x2 : Int32} {x3 : Int32} {x4 : Int32} {x5 : Int32} {s0 : Int32} : runI call iX12_weds (63, [some (.ref 72), u1, some (.int x2), some (.int x3), some (.int x4), some (.int x5)], [.int s0], (mm L X I J)) = if s0 = (nI 0) then runI call iX12_weds (117, [some (.ref 72), u1, some (.int x2), some (.int x3), some (.int x4), some (.int x5)], [], (mm L X I J)) else bnd (call nX12_isNext [.ref 72, .int ((nI 2) * x2), .int ((nI 2) * x5)] (mm L X I J)) (fun v m' => runI call iX12_weds (77, [some (.ref 72), u1, some (.int x2), some (.int x3), some (.int x4), some (.int x5)], v.toList ++ [], m')) := by
  refine Eq.trans (if_eq (tgt := 117) dX12_weds_63 (by decide +kernel)) (ite_cong (fun _ => ?_) (fun _ => ?_))
  · rfl
  · refine Eq.trans (st1 dX12_weds_66 rfl rfl) ?_
    refine Eq.trans (xiconst dX12_weds_67 ci_2) ?_
    refine Eq.trans (st1 dX12_weds_68 rfl rfl) ?_
    refine Eq.trans (st1 dX12_weds_69 rfl rfl) ?_
    refine Eq.trans (xiconst dX12_weds_70 ci_2) ?_
    refine Eq.trans (st1 dX12_weds_71 rfl rfl) ?_
    refine Eq.trans (st1 dX12_weds_73 rfl rfl) ?_
    exact iv0 dX12_weds_74 rfl cp_12_369 rfl rfl (kd_ka ka_72) ka_72.1 (Nat.le_of_ble_eq_true rfl)
theorem q_X12_weds_117 {call : CALL} {L X : Nat} {I : Nat → Nat → Int32} {J : Nat → Nat → Int64} {u1 : Option Value} {x2 : Int32} {x3 : Int32} {x4 : Int32} {x5 : Int32} : runI call iX12_weds (117, [some (.ref 72), u1, some (.int x2), some (.int x3), some (.int x4), some (.int x5)], [], (mm L X I J)) = runI call iX12_weds (45, [some (.ref 72), u1, some (.int x2), some (.int x3), some (.int x4), some (.int (x5 + (nI 1)))], [], (mm L X I J)) := by
  refine Eq.trans (xinc2 dX12_weds_117 ci_1 rfl (Nat.le_of_ble_eq_true rfl) rfl) ?_
  refine Eq.trans (go_to (tgt := 45) dX12_weds_120 (by decide +kernel)) ?_
  rfl
theorem q_X12_weds_77 {call : CALL} {L X : Nat} {I : Nat → Nat → Int32} {J : Nat → Nat → Int64} {u1 : Option Value} {x2 : Int32} {x3 : Int32} {x4 : Int32} {x5 : Int32} {s0 : Int32} : runI call iX12_weds (77, [some (.ref 72), u1, some (.int x2), some (.int x3), some (.int x4), some (.int x5)], [.int s0], (mm L X I J)) = if s0 = (nI 0) then bnd (call nX12_isNext [.ref 72, .int ((nI 2) * x5), .int ((nI 2) * x2)] (mm L X I J)) (fun v m' => runI call iX12_weds (91, [some (.ref 72), u1, some (.int x2), some (.int x3), some (.int x4), some (.int x5)], v.toList ++ [], m')) else runI call iX12_weds (97, [some (.ref 72), u1, some (.int x2), some (.int x3), some (.int x4), some (.int x5)], [], (mm L X I J)) := by
  refine Eq.trans (if_ne (tgt := 97) dX12_weds_77 (by decide +kernel)) (ite_cong (fun _ => ?_) (fun _ => ?_))
  · refine Eq.trans (st1 dX12_weds_80 rfl rfl) ?_
    refine Eq.trans (xiconst dX12_weds_81 ci_2) ?_
    refine Eq.trans (st1 dX12_weds_82 rfl rfl) ?_
    refine Eq.trans (st1 dX12_weds_84 rfl rfl) ?_
    refine Eq.trans (xiconst dX12_weds_85 ci_2) ?_
    refine Eq.trans (st1 dX12_weds_86 rfl rfl) ?_
    refine Eq.trans (st1 dX12_weds_87 rfl rfl) ?_
    exact iv0 dX12_weds_88 rfl cp_12_369 rfl rfl (kd_ka ka_72) ka_72.1 (Nat.le_of_ble_eq_true rfl)
  · rfl
theorem q_X12_weds_97 {call : CALL} {L X : Nat} {I : Nat → Nat → Int32} {J : Nat → Nat → Int64} {u1 : Option Value} {x2 : Int32} {x3 : Int32} {x4 : Int32} {x5 : Int32} : runI call iX12_weds (97, [some (.ref 72), u1, some (.int x2), some (.int x3), some (.int x4), some (.int x5)], [], (mm L X I J)) = bnd (call nX12_weds [.ref 72, .int (x4 &&& (((nI 1) <<< (x5 &&& 31)) ^^^ (-1 : Int32)))] (mm L X I J)) (fun v m' => runI call iX12_weds (112, [some (.ref 72), u1, some (.int x2), some (.int x3), some (.int x4), some (.int x5)], v.toList ++ [.int (nI 1), .int x3], m')) := by
  refine Eq.trans (st1 dX12_weds_97 rfl rfl) ?_
  refine Eq.trans (xiconst dX12_weds_98 ci_1) ?_
  refine Eq.trans (st1 dX12_weds_99 rfl rfl) ?_
  refine Eq.trans (st1 dX12_weds_100 rfl rfl) ?_
  refine Eq.trans (xiconst dX12_weds_102 ci_1) ?_
  refine Eq.trans (st1 dX12_weds_103 rfl rfl) ?_
  refine Eq.trans (st1 dX12_weds_105 rfl rfl) ?_
  refine Eq.trans (xiconst dX12_weds_106 ci_m1) ?_
  refine Eq.trans (st1 dX12_weds_107 rfl rfl) ?_
  refine Eq.trans (st1 dX12_weds_108 rfl rfl) ?_
  exact iv0 dX12_weds_109 rfl cp_12_397 rfl rfl (kd_ka ka_72) ka_72.1 (Nat.le_of_ble_eq_true rfl)
theorem q_X12_weds_91 {call : CALL} {L X : Nat} {I : Nat → Nat → Int32} {J : Nat → Nat → Int64} {u1 : Option Value} {x2 : Int32} {x3 : Int32} {x4 : Int32} {x5 : Int32} {s0 : Int32} : runI call iX12_weds (91, [some (.ref 72), u1, some (.int x2), some (.int x3), some (.int x4), some (.int x5)], [.int s0], (mm L X I J)) = if s0 = (nI 0) then runI call iX12_weds (117, [some (.ref 72), u1, some (.int x2), some (.int x3), some (.int x4), some (.int x5)], [], (mm L X I J)) else runI call iX12_weds (97, [some (.ref 72), u1, some (.int x2), some (.int x3), some (.int x4), some (.int x5)], [], (mm L X I J)) := by
  refine Eq.trans (if_ne (tgt := 97) dX12_weds_91 (by decide +kernel)) (ite_cong (fun _ => ?_) (fun _ => ?_))
  · refine Eq.trans (go_to (tgt := 117) dX12_weds_94 (by decide +kernel)) ?_
    rfl
  · rfl
theorem q_X12_weds_112 {call : CALL} {L X : Nat} {I : Nat → Nat → Int32} {J : Nat → Nat → Int64} {u1 : Option Value} {x2 : Int32} {u3 : Option Value} {x4 : Int32} {x5 : Int32} {s0 : Int32} {s1 : Int32} {s2 : Int32} : runI call iX12_weds (112, [some (.ref 72), u1, some (.int x2), u3, some (.int x4), some (.int x5)], [.int s2, .int s1, .int s0], (mm L X I J)) = bndN (call nX12_more [.int s0, .int (s1 + s2)] (mm L X I J)) (fun v m' => runI call iX12_weds (116, [some (.ref 72), u1, some (.int x2), u3, some (.int x4), some (.int x5)], v.toList ++ [], m')) := by
  refine Eq.trans (st1 dX12_weds_112 rfl rfl) ?_
  exact is2 dX12_weds_113 cp_12_248 (Nat.le_of_ble_eq_true rfl) rfl rfl (Nat.le_of_ble_eq_true rfl)
theorem q_X12_weds_116 {call : CALL} {L X : Nat} {I : Nat → Nat → Int32} {J : Nat → Nat → Int64} {u1 : Option Value} {x2 : Int32} {u3 : Option Value} {x4 : Int32} {x5 : Int32} {s0 : Int32} : runI call iX12_weds (116, [some (.ref 72), u1, some (.int x2), u3, some (.int x4), some (.int x5)], [.int s0], (mm L X I J)) = runI call iX12_weds (117, [some (.ref 72), u1, some (.int x2), some (.int s0), some (.int x4), some (.int x5)], [], (mm L X I J)) := by
  refine Eq.trans (st1 dX12_weds_116 rfl rfl) ?_
  rfl
theorem q_X12_sure_0 {call : CALL} {L X : Nat} {I : Nat → Nat → Int32} {J : Nat → Nat → Int64} {x1 : Int32} {x2 : Int32} {x3 : Int32} : runI call iX12_sure (0, [some (.ref 72), some (.int x1), some (.int x2), some (.int x3), none, none, none, none, none, none, none], [], (mm L X I J)) = bnd (call nX12_isFire [.ref 72, .int x1] (mm L X (up2 I 72 0 (nI 0)) J)) (fun v m' => runI call iX12_sure (11, [some (.ref 72), some (.int x1), some (.int x2), some (.int x3), none, none, none, none, none, none, none], v.toList ++ [.ref 72], m')) := by
  refine Eq.trans (st1 dX12_sure_0 rfl rfl) ?_
  refine Eq.trans (xiconst dX12_sure_1 ci_0) ?_
  refine Eq.trans (putIm dX12_sure_2 cp_12_103 ka_72 rfl) ?_
  refine Eq.trans (st1 dX12_sure_5 rfl rfl) ?_
  refine Eq.trans (st1 dX12_sure_6 rfl rfl) ?_
  refine Eq.trans (st1 dX12_sure_7 rfl rfl) ?_
  exact iv0 dX12_sure_8 rfl cp_12_360 rfl rfl (kd_ka ka_72) ka_72.1 (Nat.le_of_ble_eq_true rfl)
theorem q_X12_sure_11 {call : CALL} {L X : Nat} {I : Nat → Nat → Int32} {J : Nat → Nat → Int64} {x1 : Int32} {x2 : Int32} {x3 : Int32} {u4 : Option Value} {u5 : Option Value} {u6 : Option Value} {u7 : Option Value} {u8 : Option Value} {u9 : Option Value} {u10 : Option Value} {s1 : Int32} : runI call iX12_sure (11, [some (.ref 72), some (.int x1), some (.int x2), some (.int x3), u4, u5, u6, u7, u8, u9, u10], [.int s1, .ref 72], (mm L X I J)) = if s1 = (nI 0) then runI call iX12_sure (19, [some (.ref 72), some (.int x1), some (.int x2), some (.int x3), u4, u5, u6, u7, u8, u9, u10], [.int (nI 1), .ref 72], (mm L X I J)) else runI call iX12_sure (19, [some (.ref 72), some (.int x1), some (.int x2), some (.int x3), u4, u5, u6, u7, u8, u9, u10], [.int (nI 0), .ref 72], (mm L X I J)) := by
  refine Eq.trans (if_ne (tgt := 18) dX12_sure_11 (by decide +kernel)) (ite_cong (fun _ => ?_) (fun _ => ?_))
  · refine Eq.trans (xiconst dX12_sure_14 ci_1) ?_
    refine Eq.trans (go_to (tgt := 19) dX12_sure_15 (by decide +kernel)) ?_
    rfl
  · refine Eq.trans (xiconst dX12_sure_18 ci_0) ?_
    rfl
theorem q_X12_sure_19 {call : CALL} {L X : Nat} {I : Nat → Nat → Int32} {J : Nat → Nat → Int64} {x1 : Int32} {x2 : Int32} {x3 : Int32} {u4 : Option Value} {u5 : Option Value} {u6 : Option Value} {u7 : Option Value} {u8 : Option Value} {u9 : Option Value} {u10 : Option Value} {s1 : Int32} : runI call iX12_sure (19, [some (.ref 72), some (.int x1), some (.int x2), some (.int x3), u4, u5, u6, u7, u8, u9, u10], [.int s1, .ref 72], (mm L X I J)) = bnd (call nX12_bad [.ref 72, .int s1, .int (nI 1), .int (nI 0)] (mm L X I J)) (fun v m' => runI call iX12_sure (24, [some (.ref 72), some (.int x1), some (.int x2), some (.int x3), u4, u5, u6, u7, u8, u9, u10], v.toList ++ [], m')) := by
  refine Eq.trans (xiconst dX12_sure_19 ci_1) ?_
  refine Eq.trans (xiconst dX12_sure_20 ci_0) ?_
  exact iv0 dX12_sure_21 rfl cp_12_182 rfl rfl (kd_ka ka_72) ka_72.1 (Nat.le_of_ble_eq_true rfl)
theorem q_X12_sure_24 {call : CALL} {L X : Nat} {I : Nat → Nat → Int32} {J : Nat → Nat → Int64} {x1 : Int32} {x2 : Int32} {x3 : Int32} {u4 : Option Value} {u5 : Option Value} {u6 : Option Value} {u7 : Option Value} {u8 : Option Value} {u9 : Option Value} {u10 : Option Value} {s0 : Int32} : runI call iX12_sure (24, [some (.ref 72), some (.int x1), some (.int x2), some (.int x3), u4, u5, u6, u7, u8, u9, u10], [.int s0], (mm L X I J)) = if s0 = (nI 0) then bndN (call nX12_in [.int x2, .int (nI 0), .int (nI 16)] (mm L X I J)) (fun v m' => runI call iX12_sure (35, [some (.ref 72), some (.int x1), some (.int x2), some (.int x3), u4, u5, u6, u7, u8, u9, u10], v.toList ++ [.ref 72], m')) else runI call iX12_sure (60, [some (.ref 72), some (.int x1), some (.int x2), some (.int x3), u4, u5, u6, u7, u8, u9, u10], [], (mm L X I J)) := by
  refine Eq.trans (if_ne (tgt := 60) dX12_sure_24 (by decide +kernel)) (ite_cong (fun _ => ?_) (fun _ => ?_))
  · refine Eq.trans (st1 dX12_sure_27 rfl rfl) ?_
    refine Eq.trans (st1 dX12_sure_28 rfl rfl) ?_
    refine Eq.trans (xiconst dX12_sure_29 ci_0) ?_
    refine Eq.trans (xbipush dX12_sure_30 cb_16) ?_
    exact is2 dX12_sure_32 cp_12_137 (Nat.le_of_ble_eq_true rfl) rfl rfl (Nat.le_of_ble_eq_true rfl)
  · rfl
theorem q_X12_sure_60 {call : CALL} {L X : Nat} {I : Nat → Nat → Int32} {J : Nat → Nat → Int64} {u0 : Option Value} {u1 : Option Value} {u2 : Option Value} {u3 : Option Value} {u4 : Option Value} {u5 : Option Value} {u6 : Option Value} {u7 : Option Value} {u8 : Option Value} {u9 : Option Value} {u10 : Option Value} : runI call iX12_sure (60, [u0, u1, u2, u3, u4, u5, u6, u7, u8, u9, u10], [], (mm L X I J)) = some (.inl (some (.long (lN 0))), (mm L X I J)) := by
  refine Eq.trans (st1 dX12_sure_60 rfl rfl) ?_
  exact ret2 dX12_sure_61 rfl
theorem q_X12_sure_35 {call : CALL} {L X : Nat} {I : Nat → Nat → Int32} {J : Nat → Nat → Int64} {x1 : Int32} {x2 : Int32} {x3 : Int32} {u4 : Option Value} {u5 : Option Value} {u6 : Option Value} {u7 : Option Value} {u8 : Option Value} {u9 : Option Value} {u10 : Option Value} {s1 : Int32} : runI call iX12_sure (35, [some (.ref 72), some (.int x1), some (.int x2), some (.int x3), u4, u5, u6, u7, u8, u9, u10], [.int s1, .ref 72], (mm L X I J)) = if s1 = (nI 0) then runI call iX12_sure (47, [some (.ref 72), some (.int x1), some (.int x2), some (.int x3), u4, u5, u6, u7, u8, u9, u10], [.ref 72], (mm L X I J)) else bndN (call nX12_in [.int x3, .int (nI 0), .int (nI 1)] (mm L X I J)) (fun v m' => runI call iX12_sure (44, [some (.ref 72), some (.int x1), some (.int x2), some (.int x3), u4, u5, u6, u7, u8, u9, u10], v.toList ++ [.ref 72], m')) := by
  refine Eq.trans (if_eq (tgt := 47) dX12_sure_35 (by decide +kernel)) (ite_cong (fun _ => ?_) (fun _ => ?_))
  · rfl
  · refine Eq.trans (st1 dX12_sure_38 rfl rfl) ?_
    refine Eq.trans (xiconst dX12_sure_39 ci_0) ?_
    refine Eq.trans (xiconst dX12_sure_40 ci_1) ?_
    exact is2 dX12_sure_41 cp_12_137 (Nat.le_of_ble_eq_true rfl) rfl rfl (Nat.le_of_ble_eq_true rfl)
theorem q_X12_sure_47 {call : CALL} {L X : Nat} {I : Nat → Nat → Int32} {J : Nat → Nat → Int64} {x1 : Int32} {x2 : Int32} {x3 : Int32} {u4 : Option Value} {u5 : Option Value} {u6 : Option Value} {u7 : Option Value} {u8 : Option Value} {u9 : Option Value} {u10 : Option Value} : runI call iX12_sure (47, [some (.ref 72), some (.int x1), some (.int x2), some (.int x3), u4, u5, u6, u7, u8, u9, u10], [.ref 72], (mm L X I J)) = runI call iX12_sure (52, [some (.ref 72), some (.int x1), some (.int x2), some (.int x3), u4, u5, u6, u7, u8, u9, u10], [.int (nI 1), .ref 72], (mm L X I J)) := by
  refine Eq.trans (xiconst dX12_sure_47 ci_1) ?_
  refine Eq.trans (go_to (tgt := 52) dX12_sure_48 (by decide +kernel)) ?_
  rfl
theorem q_X12_sure_44 {call : CALL} {L X : Nat} {I : Nat → Nat → Int32} {J : Nat → Nat → Int64} {x1 : Int32} {x2 : Int32} {x3 : Int32} {u4 : Option Value} {u5 : Option Value} {u6 : Option Value} {u7 : Option Value} {u8 : Option Value} {u9 : Option Value} {u10 : Option Value} {s1 : Int32} : runI call iX12_sure (44, [some (.ref 72), some (.int x1), some (.int x2), some (.int x3), u4, u5, u6, u7, u8, u9, u10], [.int s1, .ref 72], (mm L X I J)) = if s1 = (nI 0) then runI call iX12_sure (47, [some (.ref 72), some (.int x1), some (.int x2), some (.int x3), u4, u5, u6, u7, u8, u9, u10], [.ref 72], (mm L X I J)) else runI call iX12_sure (52, [some (.ref 72), some (.int x1), some (.int x2), some (.int x3), u4, u5, u6, u7, u8, u9, u10], [.int (nI 0), .ref 72], (mm L X I J)) := by
  refine Eq.trans (if_ne (tgt := 51) dX12_sure_44 (by decide +kernel)) (ite_cong (fun _ => ?_) (fun _ => ?_))
  · rfl
  · refine Eq.trans (xiconst dX12_sure_51 ci_0) ?_
    rfl
theorem q_X12_sure_52 {call : CALL} {L X : Nat} {I : Nat → Nat → Int32} {J : Nat → Nat → Int64} {x1 : Int32} {x2 : Int32} {x3 : Int32} {u4 : Option Value} {u5 : Option Value} {u6 : Option Value} {u7 : Option Value} {u8 : Option Value} {u9 : Option Value} {u10 : Option Value} {s1 : Int32} : runI call iX12_sure (52, [some (.ref 72), some (.int x1), some (.int x2), some (.int x3), u4, u5, u6, u7, u8, u9, u10], [.int s1, .ref 72], (mm L X I J)) = bnd (call nX12_bad [.ref 72, .int s1, .int (nI 2), .int (nI 1)] (mm L X I J)) (fun v m' => runI call iX12_sure (57, [some (.ref 72), some (.int x1), some (.int x2), some (.int x3), u4, u5, u6, u7, u8, u9, u10], v.toList ++ [], m')) := by
  refine Eq.trans (xiconst dX12_sure_52 ci_2) ?_
  refine Eq.trans (xiconst dX12_sure_53 ci_1) ?_
  exact iv0 dX12_sure_54 rfl cp_12_182 rfl rfl (kd_ka ka_72) ka_72.1 (Nat.le_of_ble_eq_true rfl)
theorem q_X12_sure_57 {call : CALL} {L X : Nat} {I : Nat → Nat → Int32} {J : Nat → Nat → Int64} {x1 : Int32} {x2 : Int32} {x3 : Int32} {u4 : Option Value} {u5 : Option Value} {u6 : Option Value} {u7 : Option Value} {u8 : Option Value} {u9 : Option Value} {u10 : Option Value} {s0 : Int32} : runI call iX12_sure (57, [some (.ref 72), some (.int x1), some (.int x2), some (.int x3), u4, u5, u6, u7, u8, u9, u10], [.int s0], (mm L X I J)) = if s0 = (nI 0) then bndN (call nX12_manyIn [.ref 533] (mm L X I J)) (fun v m' => runI call iX12_sure (69, [some (.ref 72), some (.int x1), some (.int x2), some (.int x3), u4, u5, u6, u7, u8, u9, u10], v.toList ++ [], m')) else runI call iX12_sure (60, [some (.ref 72), some (.int x1), some (.int x2), some (.int x3), u4, u5, u6, u7, u8, u9, u10], [], (mm L X I J)) := by
  refine Eq.trans (if_eq (tgt := 62) dX12_sure_57 (by decide +kernel)) (ite_cong (fun _ => ?_) (fun _ => ?_))
  · refine Eq.trans (st1 dX12_sure_62 rfl rfl) ?_
    refine Eq.trans (getRm dX12_sure_63 cp_12_67 ka_72 rfl r_72_29) ?_
    exact is2 dX12_sure_66 cp_12_264 (Nat.le_of_ble_eq_true rfl) rfl rfl (Nat.le_of_ble_eq_true rfl)
  · rfl
theorem q_X12_sure_69 {call : CALL} {L X : Nat} {I : Nat → Nat → Int32} {J : Nat → Nat → Int64} {x1 : Int32} {x2 : Int32} {x3 : Int32} {u4 : Option Value} {u5 : Option Value} {u6 : Option Value} {u7 : Option Value} {u8 : Option Value} {u9 : Option Value} {u10 : Option Value} {s0 : Int32} : runI call iX12_sure (69, [some (.ref 72), some (.int x1), some (.int x2), some (.int x3), u4, u5, u6, u7, u8, u9, u10], [.int s0], (mm L X I J)) = runI call iX12_sure (77, [some (.ref 72), some (.int x1), some (.int x2), some (.int x3), some (.int s0), some (.long (lN 0)), none, some (.int (nI 0)), u8, u9, u10], [], (mm L X I J)) := by
  refine Eq.trans (st1 dX12_sure_69 rfl rfl) ?_
  refine Eq.trans (st1 dX12_sure_71 rfl rfl) ?_
  refine Eq.trans (st1 dX12_sure_72 rfl rfl) ?_
  refine Eq.trans (xiconst dX12_sure_74 ci_0) ?_
  refine Eq.trans (st1 dX12_sure_75 rfl rfl) ?_
  rfl
theorem q_X12_sure_77 {call : CALL} {L X : Nat} {I : Nat → Nat → Int32} {J : Nat → Nat → Int64} {x1 : Int32} {x2 : Int32} {x3 : Int32} {x4 : Int32} {y5 : Int64} {x7 : Int32} {u8 : Option Value} {u9 : Option Value} {u10 : Option Value} : runI call iX12_sure (77, [some (.ref 72), some (.int x1), some (.int x2), some (.int x3), some (.int x4), some (.long y5), none, some (.int x7), u8, u9, u10], [], (mm L X I J)) = if ((nI 1) <<< (x4 &&& 31)) ≤ x7 then bndN (call nX12_partOf [.long y5, .long ((lN 1) <<< ((((nI 4) * x4)).toInt64 &&& 63)), .int x3] (mm L X I J)) (fun v m' => runI call iX12_sure (217, [some (.ref 72), some (.int x1), some (.int x2), some (.int x3), some (.int x4), some (.long y5), none, some (.int x7), u8, u9, u10], v.toList ++ [], m')) else bndN (call nX12_copies [.ref 533, .ref 534] (mm L X I J)) (fun v m' => runI call iX12_sure (100, [some (.ref 72), some (.int x1), some (.int x2), some (.int x3), some (.int x4), some (.long y5), none, some (.int x7), some (.long (lN 1)), none, u10], v.toList ++ [], m')) := by
  refine Eq.trans (st1 dX12_sure_77 rfl rfl) ?_
  refine Eq.trans (xiconst dX12_sure_79 ci_1) ?_
  refine Eq.trans (st1 dX12_sure_80 rfl rfl) ?_
  refine Eq.trans (st1 dX12_sure_82 rfl rfl) ?_
  refine Eq.trans (ic_ge (tgt := 205) dX12_sure_83 (by decide +kernel)) (ite_cong (fun _ => ?_) (fun _ => ?_))
  · refine Eq.trans (st1 dX12_sure_205 rfl rfl) ?_
    refine Eq.trans (st1 dX12_sure_207 rfl rfl) ?_
    refine Eq.trans (xiconst dX12_sure_208 ci_4) ?_
    refine Eq.trans (st1 dX12_sure_209 rfl rfl) ?_
    refine Eq.trans (st1 dX12_sure_211 rfl rfl) ?_
    refine Eq.trans (st1 dX12_sure_212 rfl rfl) ?_
    refine Eq.trans (st1 dX12_sure_213 rfl rfl) ?_
    exact is2 dX12_sure_214 cp_12_400 (Nat.le_of_ble_eq_true rfl) rfl rfl (Nat.le_of_ble_eq_true rfl)
  · refine Eq.trans (st1 dX12_sure_86 rfl rfl) ?_
    refine Eq.trans (st1 dX12_sure_87 rfl rfl) ?_
    refine Eq.trans (st1 dX12_sure_89 rfl rfl) ?_
    refine Eq.trans (getRm dX12_sure_90 cp_12_67 ka_72 rfl r_72_29) ?_
    refine Eq.trans (st1 dX12_sure_93 rfl rfl) ?_
    refine Eq.trans (getRm dX12_sure_94 cp_12_70 ka_72 rfl r_72_30) ?_
    exact is2 dX12_sure_97 cp_12_347 (Nat.le_of_ble_eq_true rfl) rfl rfl (Nat.le_of_ble_eq_true rfl)
theorem q_X12_sure_217 {call : CALL} {L X : Nat} {I : Nat → Nat → Int32} {J : Nat → Nat → Int64} {u0 : Option Value} {u1 : Option Value} {u2 : Option Value} {u3 : Option Value} {u4 : Option Value} {y5 : Int64} {u7 : Option Value} {u8 : Option Value} {u9 : Option Value} {u10 : Option Value} {z0 : Int64} : runI call iX12_sure (217, [u0, u1, u2, u3, u4, some (.long y5), none, u7, u8, u9, u10], [.long z0], (mm L X I J)) = some (.inl (some (.long z0)), (mm L X I J)) := by
  exact ret2 dX12_sure_217 rfl
theorem q_X12_sure_100 {call : CALL} {L X : Nat} {I : Nat → Nat → Int32} {J : Nat → Nat → Int64} {x1 : Int32} {x2 : Int32} {x3 : Int32} {x4 : Int32} {y5 : Int64} {x7 : Int32} {y8 : Int64} {u10 : Option Value} : runI call iX12_sure (100, [some (.ref 72), some (.int x1), some (.int x2), some (.int x3), some (.int x4), some (.long y5), none, some (.int x7), some (.long y8), none, u10], [], (mm L X I J)) = runI call iX12_sure (103, [some (.ref 72), some (.int x1), some (.int x2), some (.int x3), some (.int x4), some (.long y5), none, some (.int x7), some (.long y8), none, some (.int (nI 0))], [], (mm L X I J)) := by
  refine Eq.trans (xiconst dX12_sure_100 ci_0) ?_
  refine Eq.trans (st1 dX12_sure_101 rfl rfl) ?_
  rfl
theorem q_X12_sure_103 {call : CALL} {L X : Nat} {I : Nat → Nat → Int32} {J : Nat → Nat → Int64} {x1 : Int32} {x2 : Int32} {x3 : Int32} {x4 : Int32} {y5 : Int64} {x7 : Int32} {y8 : Int64} {x10 : Int32} : runI call iX12_sure (103, [some (.ref 72), some (.int x1), some (.int x2), some (.int x3), some (.int x4), some (.long y5), none, some (.int x7), some (.long y8), none, some (.int x10)], [], (mm L X I J)) = if x4 ≤ x10 then bnd (call nX12_isReached [.ref 72, .ref 534, .int x1] (mm L X I J)) (fun v m' => runI call iX12_sure (187, [some (.ref 72), some (.int x1), some (.int x2), some (.int x3), some (.int x4), some (.long y5), none, some (.int x7), some (.long y8), none, some (.int x10)], v.toList ++ [.long y5], m')) else bndN (call nX12_has [.int x7, .int x10] (mm L X I J)) (fun v m' => runI call iX12_sure (119, [some (.ref 72), some (.int x1), some (.int x2), some (.int x3), some (.int x4), some (.long y5), none, some (.int x7), some (.long y8), none, some (.int x10)], v.toList ++ [.long y8], m')) := by
  refine Eq.trans (st1 dX12_sure_103 rfl rfl) ?_
  refine Eq.trans (st1 dX12_sure_105 rfl rfl) ?_
  refine Eq.trans (ic_ge (tgt := 176) dX12_sure_107 (by decide +kernel)) (ite_cong (fun _ => ?_) (fun _ => ?_))
  · refine Eq.trans (st1 dX12_sure_176 rfl rfl) ?_
    refine Eq.trans (st1 dX12_sure_178 rfl rfl) ?_
    refine Eq.trans (st1 dX12_sure_179 rfl rfl) ?_
    refine Eq.trans (getRm dX12_sure_180 cp_12_70 ka_72 rfl r_72_30) ?_
    refine Eq.trans (st1 dX12_sure_183 rfl rfl) ?_
    exact iv0 dX12_sure_184 rfl cp_12_303 rfl rfl (kd_ka ka_72) ka_72.1 (Nat.le_of_ble_eq_true rfl)
  · refine Eq.trans (st1 dX12_sure_110 rfl rfl) ?_
    refine Eq.trans (st1 dX12_sure_112 rfl rfl) ?_
    refine Eq.trans (st1 dX12_sure_114 rfl rfl) ?_
    exact is2 dX12_sure_116 cp_12_366 (Nat.le_of_ble_eq_true rfl) rfl rfl (Nat.le_of_ble_eq_true rfl)
theorem q_X12_sure_187 {call : CALL} {L X : Nat} {I : Nat → Nat → Int32} {J : Nat → Nat → Int64} {x1 : Int32} {x2 : Int32} {x3 : Int32} {x4 : Int32} {y5 : Int64} {x7 : Int32} {y8 : Int64} {u10 : Option Value} {z0 : Int64} {s1 : Int32} : runI call iX12_sure (187, [some (.ref 72), some (.int x1), some (.int x2), some (.int x3), some (.int x4), some (.long y5), none, some (.int x7), some (.long y8), none, u10], [.int s1, .long z0], (mm L X I J)) = if s1 = (nI 0) then runI call iX12_sure (196, [some (.ref 72), some (.int x1), some (.int x2), some (.int x3), some (.int x4), some (.long y5), none, some (.int x7), some (.long y8), none, u10], [.long (lN 0), .long z0], (mm L X I J)) else runI call iX12_sure (196, [some (.ref 72), some (.int x1), some (.int x2), some (.int x3), some (.int x4), some (.long y5), none, some (.int x7), some (.long y8), none, u10], [.long y8, .long z0], (mm L X I J)) := by
  refine Eq.trans (if_eq (tgt := 195) dX12_sure_187 (by decide +kernel)) (ite_cong (fun _ => ?_) (fun _ => ?_))
  · refine Eq.trans (st1 dX12_sure_195 rfl rfl) ?_
    rfl
  · refine Eq.trans (st1 dX12_sure_190 rfl rfl) ?_
    refine Eq.trans (go_to (tgt := 196) dX12_sure_192 (by decide +kernel)) ?_
    rfl
theorem q_X12_sure_119 {call : CALL} {L X : Nat} {I : Nat → Nat → Int32} {J : Nat → Nat → Int64} {x1 : Int32} {x2 : Int32} {x3 : Int32} {x4 : Int32} {y5 : Int64} {x7 : Int32} {y8 : Int64} {x10 : Int32} {z0 : Int64} {s1 : Int32} : runI call iX12_sure (119, [some (.ref 72), some (.int x1), some (.int x2), some (.int x3), some (.int x4), some (.long y5), none, some (.int x7), some (.long y8), none, some (.int x10)], [.int s1, .long z0], (mm L X I J)) = if s1 = (nI 0) then runI call iX12_sure (132, [some (.ref 72), some (.int x1), some (.int x2), some (.int x3), some (.int x4), some (.long y5), none, some (.int x7), some (.long y8), none, some (.int x10)], [.long (((nI 16) - x2)).toInt64, .long z0], (mm L X I J)) else runI call iX12_sure (132, [some (.ref 72), some (.int x1), some (.int x2), some (.int x3), some (.int x4), some (.long y5), none, some (.int x7), some (.long y8), none, some (.int x10)], [.long (x2).toInt64, .long z0], (mm L X I J)) := by
  refine Eq.trans (if_eq (tgt := 127) dX12_sure_119 (by decide +kernel)) (ite_cong (fun _ => ?_) (fun _ => ?_))
  · refine Eq.trans (xbipush dX12_sure_127 cb_16) ?_
    refine Eq.trans (st1 dX12_sure_129 rfl rfl) ?_
    refine Eq.trans (st1 dX12_sure_130 rfl rfl) ?_
    refine Eq.trans (st1 dX12_sure_131 rfl rfl) ?_
    rfl
  · refine Eq.trans (st1 dX12_sure_122 rfl rfl) ?_
    refine Eq.trans (st1 dX12_sure_123 rfl rfl) ?_
    refine Eq.trans (go_to (tgt := 132) dX12_sure_124 (by decide +kernel)) ?_
    rfl
theorem q_X12_sure_196 {call : CALL} {L X : Nat} {I : Nat → Nat → Int32} {J : Nat → Nat → Int64} {x1 : Int32} {x2 : Int32} {x3 : Int32} {x4 : Int32} {y5 : Int64} {x7 : Int32} {y8 : Int64} {u10 : Option Value} {z0 : Int64} {z1 : Int64} : runI call iX12_sure (196, [some (.ref 72), some (.int x1), some (.int x2), some (.int x3), some (.int x4), some (.long y5), none, some (.int x7), some (.long y8), none, u10], [.long z1, .long z0], (mm L X I J)) = runI call iX12_sure (77, [some (.ref 72), some (.int x1), some (.int x2), some (.int x3), some (.int x4), some (.long (z0 + z1)), none, some (.int (x7 + (nI 1))), some (.long y8), none, u10], [], (mm L X I J)) := by
  refine Eq.trans (st1 dX12_sure_196 rfl rfl) ?_
  refine Eq.trans (st1 dX12_sure_197 rfl rfl) ?_
  refine Eq.trans (xinc2 dX12_sure_199 ci_1 rfl (Nat.le_of_ble_eq_true rfl) rfl) ?_
  refine Eq.trans (go_to (tgt := 77) dX12_sure_202 (by decide +kernel)) ?_
  rfl
theorem q_X12_sure_132 {call : CALL} {L X : Nat} {I : Nat → Nat → Int32} {J : Nat → Nat → Int64} {x1 : Int32} {x2 : Int32} {x3 : Int32} {x4 : Int32} {y5 : Int64} {x7 : Int32} {y8 : Int64} {x10 : Int32} {z0 : Int64} {z1 : Int64} : runI call iX12_sure (132, [some (.ref 72), some (.int x1), some (.int x2), some (.int x3), some (.int x4), some (.long y5), none, some (.int x7), some (.long y8), none, some (.int x10)], [.long z1, .long z0], (mm L X I J)) = gd (inb ((nI 0) + x10) 31) (gd (inb ((nI 18) + (I 533 (((nI 0) + x10)).toNatClampNeg)) 31) (bndN (call nX12_has [.int x7, .int x10] (mm L X I J)) (fun v m' => runI call iX12_sure (160, [some (.ref 72), some (.int x1), some (.int x2), some (.int x3), some (.int x4), some (.long y5), none, some (.int x7), some (.long (z0 * z1)), none, some (.int x10)], v.toList ++ [.int (I 534 (((nI 18) + (I 533 (((nI 0) + x10)).toNatClampNeg))).toNatClampNeg), .int ((nI 18) + (I 533 (((nI 0) + x10)).toNatClampNeg)), .ref 534], m')))) := by
  refine Eq.trans (st1 dX12_sure_132 rfl rfl) ?_
  refine Eq.trans (st1 dX12_sure_133 rfl rfl) ?_
  refine Eq.trans (st1 dX12_sure_135 rfl rfl) ?_
  refine Eq.trans (getRm dX12_sure_136 cp_12_70 ka_72 rfl r_72_30) ?_
  refine Eq.trans (xbipush dX12_sure_139 cb_18) ?_
  refine Eq.trans (st1 dX12_sure_141 rfl rfl) ?_
  refine Eq.trans (getRm dX12_sure_142 cp_12_67 ka_72 rfl r_72_29) ?_
  refine Eq.trans (xiconst dX12_sure_145 ci_0) ?_
  refine Eq.trans (st1 dX12_sure_146 rfl rfl) ?_
  refine Eq.trans (st1 dX12_sure_148 rfl rfl) ?_
  refine Eq.trans (al1m dX12_sure_149 ka_533) (gd_congr fun g1 => ?_)
  refine Eq.trans (st1 dX12_sure_150 rfl rfl) ?_
  refine Eq.trans (st1 dX12_sure_151 rfl rfl) ?_
  refine Eq.trans (al1m dX12_sure_152 ka_534) (gd_congr fun g2 => ?_)
  refine Eq.trans (st1 dX12_sure_153 rfl rfl) ?_
  refine Eq.trans (st1 dX12_sure_155 rfl rfl) ?_
  exact is2 dX12_sure_157 cp_12_366 (Nat.le_of_ble_eq_true rfl) rfl rfl (Nat.le_of_ble_eq_true rfl)
theorem q_X12_sure_77b {call : CALL} {L X : Nat} {I : Nat → Nat → Int32} {J : Nat → Nat → Int64} {x1 : Int32} {x2 : Int32} {x3 : Int32} {x4 : Int32} {y5 : Int64} {x7 : Int32} {y8 : Int64} {u10 : Option Value} : runI call iX12_sure (77, [some (.ref 72), some (.int x1), some (.int x2), some (.int x3), some (.int x4), some (.long y5), none, some (.int x7), some (.long y8), none, u10], [], (mm L X I J)) = if ((nI 1) <<< (x4 &&& 31)) ≤ x7 then bndN (call nX12_partOf [.long y5, .long ((lN 1) <<< ((((nI 4) * x4)).toInt64 &&& 63)), .int x3] (mm L X I J)) (fun v m' => runI call iX12_sure (217, [some (.ref 72), some (.int x1), some (.int x2), some (.int x3), some (.int x4), some (.long y5), none, some (.int x7), some (.long y8), none, u10], v.toList ++ [], m')) else bndN (call nX12_copies [.ref 533, .ref 534] (mm L X I J)) (fun v m' => runI call iX12_sure (100, [some (.ref 72), some (.int x1), some (.int x2), some (.int x3), some (.int x4), some (.long y5), none, some (.int x7), some (.long (lN 1)), none, u10], v.toList ++ [], m')) := by
  refine Eq.trans (st1 dX12_sure_77 rfl rfl) ?_
  refine Eq.trans (xiconst dX12_sure_79 ci_1) ?_
  refine Eq.trans (st1 dX12_sure_80 rfl rfl) ?_
  refine Eq.trans (st1 dX12_sure_82 rfl rfl) ?_
  refine Eq.trans (ic_ge (tgt := 205) dX12_sure_83 (by decide +kernel)) (ite_cong (fun _ => ?_) (fun _ => ?_))
  · refine Eq.trans (st1 dX12_sure_205 rfl rfl) ?_
    refine Eq.trans (st1 dX12_sure_207 rfl rfl) ?_
    refine Eq.trans (xiconst dX12_sure_208 ci_4) ?_
    refine Eq.trans (st1 dX12_sure_209 rfl rfl) ?_
    refine Eq.trans (st1 dX12_sure_211 rfl rfl) ?_
    refine Eq.trans (st1 dX12_sure_212 rfl rfl) ?_
    refine Eq.trans (st1 dX12_sure_213 rfl rfl) ?_
    exact is2 dX12_sure_214 cp_12_400 (Nat.le_of_ble_eq_true rfl) rfl rfl (Nat.le_of_ble_eq_true rfl)
  · refine Eq.trans (st1 dX12_sure_86 rfl rfl) ?_
    refine Eq.trans (st1 dX12_sure_87 rfl rfl) ?_
    refine Eq.trans (st1 dX12_sure_89 rfl rfl) ?_
    refine Eq.trans (getRm dX12_sure_90 cp_12_67 ka_72 rfl r_72_29) ?_
    refine Eq.trans (st1 dX12_sure_93 rfl rfl) ?_
    refine Eq.trans (getRm dX12_sure_94 cp_12_70 ka_72 rfl r_72_30) ?_
    exact is2 dX12_sure_97 cp_12_347 (Nat.le_of_ble_eq_true rfl) rfl rfl (Nat.le_of_ble_eq_true rfl)
theorem q_X12_sure_160 {call : CALL} {L X : Nat} {I : Nat → Nat → Int32} {J : Nat → Nat → Int64} {x1 : Int32} {x2 : Int32} {x3 : Int32} {x4 : Int32} {y5 : Int64} {x7 : Int32} {y8 : Int64} {x10 : Int32} {s1 : Int32} {s2 : Int32} {s3 : Int32} : runI call iX12_sure (160, [some (.ref 72), some (.int x1), some (.int x2), some (.int x3), some (.int x4), some (.long y5), none, some (.int x7), some (.long y8), none, some (.int x10)], [.int s3, .int s2, .int s1, .ref 534], (mm L X I J)) = if s3 = (nI 0) then runI call iX12_sure (168, [some (.ref 72), some (.int x1), some (.int x2), some (.int x3), some (.int x4), some (.long y5), none, some (.int x7), some (.long y8), none, some (.int x10)], [.int (nI 0), .int s2, .int s1, .ref 534], (mm L X I J)) else runI call iX12_sure (168, [some (.ref 72), some (.int x1), some (.int x2), some (.int x3), some (.int x4), some (.long y5), none, some (.int x7), some (.long y8), none, some (.int x10)], [.int (nI 1), .int s2, .int s1, .ref 534], (mm L X I J)) := by
  refine Eq.trans (if_eq (tgt := 167) dX12_sure_160 (by decide +kernel)) (ite_cong (fun _ => ?_) (fun _ => ?_))
  · refine Eq.trans (xiconst dX12_sure_167 ci_0) ?_
    rfl
  · refine Eq.trans (xiconst dX12_sure_163 ci_1) ?_
    refine Eq.trans (go_to (tgt := 168) dX12_sure_164 (by decide +kernel)) ?_
    rfl
theorem q_X12_sure_217b {call : CALL} {L X : Nat} {I : Nat → Nat → Int32} {J : Nat → Nat → Int64} {u0 : Option Value} {u1 : Option Value} {u2 : Option Value} {u3 : Option Value} {u4 : Option Value} {y5 : Int64} {u7 : Option Value} {y8 : Int64} {u10 : Option Value} {z0 : Int64} : runI call iX12_sure (217, [u0, u1, u2, u3, u4, some (.long y5), none, u7, some (.long y8), none, u10], [.long z0], (mm L X I J)) = some (.inl (some (.long z0)), (mm L X I J)) := by
  exact ret2 dX12_sure_217 rfl
theorem q_X12_sure_168 {call : CALL} {L X : Nat} {I : Nat → Nat → Int32} {J : Nat → Nat → Int64} {x1 : Int32} {x2 : Int32} {x3 : Int32} {x4 : Int32} {y5 : Int64} {x7 : Int32} {y8 : Int64} {x10 : Int32} {s1 : Int32} {s2 : Int32} {s3 : Int32} : runI call iX12_sure (168, [some (.ref 72), some (.int x1), some (.int x2), some (.int x3), some (.int x4), some (.long y5), none, some (.int x7), some (.long y8), none, some (.int x10)], [.int s3, .int s2, .int s1, .ref 534], (mm L X I J)) = gd (inb s1 31) (runI call iX12_sure (103, [some (.ref 72), some (.int x1), some (.int x2), some (.int x3), some (.int x4), some (.long y5), none, some (.int x7), some (.long y8), none, some (.int (x10 + (nI 1)))], [], (mm L X (up2 I 534 (s1).toNatClampNeg (s2 + s3)) J))) := by
  refine Eq.trans (st1 dX12_sure_168 rfl rfl) ?_
  refine Eq.trans (as1m dX12_sure_169 ka_534) (gd_congr fun g1 => ?_)
  refine Eq.trans (xinc2 dX12_sure_170 ci_1 rfl (Nat.le_of_ble_eq_true rfl) rfl) ?_
  refine Eq.trans (go_to (tgt := 103) dX12_sure_173 (by decide +kernel)) ?_
  rfl
theorem q_X12_partOf_0 {call : CALL} {L X : Nat} {I : Nat → Nat → Int32} {J : Nat → Nat → Int64} {y0 : Int64} {y2 : Int64} {x4 : Int32} : runI call iX12_partOf (0, [some (.long y0), none, some (.long y2), none, some (.int x4), none, none, none, none, none, none], [], (mm L X I J)) = runI call iX12_partOf (6, [some (.long y0), none, some (.long y2), none, some (.int x4), some (.long y2), none, some (.long y0), none, none, none], [], (mm L X I J)) := by
  refine Eq.trans (st1 dX12_partOf_0 rfl rfl) ?_
  refine Eq.trans (st1 dX12_partOf_1 rfl rfl) ?_
  refine Eq.trans (st1 dX12_partOf_3 rfl rfl) ?_
  refine Eq.trans (st1 dX12_partOf_4 rfl rfl) ?_
  rfl
theorem q_X12_partOf_6 {call : CALL} {L X : Nat} {I : Nat → Nat → Int32} {J : Nat → Nat → Int64} {y0 : Int64} {y2 : Int64} {x4 : Int32} {y5 : Int64} {y7 : Int64} {u9 : Option Value} {u10 : Option Value} : runI call iX12_partOf (6, [some (.long y0), none, some (.long y2), none, some (.int x4), some (.long y5), none, some (.long y7), none, u9, u10], [], (mm L X I J)) = if (lg_cmp y7 (lN 0)) = (nI 0) then if x4 = (nI 0) then gd (nzl y5) (some (.inl (some (.long (y0 / y5))), (mm L X I J))) else gd (nzl y5) (some (.inl (some (.long (y2 / y5))), (mm L X I J))) else gd (nzl y7) (runI call iX12_partOf (6, [some (.long y0), none, some (.long y2), none, some (.int x4), some (.long y7), none, some (.long (y5 - y5 / y7 * y7)), none, some (.long (y5 - y5 / y7 * y7)), none], [], (mm L X I J))) := by
  refine Eq.trans (st1 dX12_partOf_6 rfl rfl) ?_
  refine Eq.trans (st1 dX12_partOf_8 rfl rfl) ?_
  refine Eq.trans (st1 dX12_partOf_9 rfl rfl) ?_
  refine Eq.trans (if_eq (tgt := 31) dX12_partOf_10 (by decide +kernel)) (ite_cong (fun _ => ?_) (fun _ => ?_))
  · refine Eq.trans (st1 dX12_partOf_31 rfl rfl) ?_
    refine Eq.trans (if_ne (tgt := 43) dX12_partOf_33 (by decide +kernel)) (ite_cong (fun _ => ?_) (fun _ => ?_))
    · refine Eq.trans (st1 dX12_partOf_36 rfl rfl) ?_
      refine Eq.trans (st1 dX12_partOf_37 rfl rfl) ?_
      refine Eq.trans (ldvg dX12_partOf_39) (gd_congr fun g2 => ?_)
      refine Eq.trans (go_to (tgt := 47) dX12_partOf_40 (by decide +kernel)) ?_
      exact ret2 dX12_partOf_47 rfl
    · refine Eq.trans (st1 dX12_partOf_43 rfl rfl) ?_
      refine Eq.trans (st1 dX12_partOf_44 rfl rfl) ?_
      refine Eq.trans (ldvg dX12_partOf_46) (gd_congr fun g1 => ?_)
      exact ret2 dX12_partOf_47 rfl
  · refine Eq.trans (st1 dX12_partOf_13 rfl rfl) ?_
    refine Eq.trans (st1 dX12_partOf_15 rfl rfl) ?_
    refine Eq.trans (lrmg dX12_partOf_17) (gd_congr fun g3 => ?_)
    refine Eq.trans (st1 dX12_partOf_18 rfl rfl) ?_
    refine Eq.trans (st1 dX12_partOf_20 rfl rfl) ?_
    refine Eq.trans (st1 dX12_partOf_22 rfl rfl) ?_
    refine Eq.trans (st1 dX12_partOf_24 rfl rfl) ?_
    refine Eq.trans (st1 dX12_partOf_26 rfl rfl) ?_
    refine Eq.trans (go_to (tgt := 6) dX12_partOf_28 (by decide +kernel)) ?_
    rfl
theorem q_X12_partOf_6b {call : CALL} {L X : Nat} {I : Nat → Nat → Int32} {J : Nat → Nat → Int64} {y0 : Int64} {y2 : Int64} {x4 : Int32} {y5 : Int64} {y7 : Int64} {y9 : Int64} : runI call iX12_partOf (6, [some (.long y0), none, some (.long y2), none, some (.int x4), some (.long y5), none, some (.long y7), none, some (.long y9), none], [], (mm L X I J)) = if (lg_cmp y7 (lN 0)) = (nI 0) then if x4 = (nI 0) then gd (nzl y5) (some (.inl (some (.long (y0 / y5))), (mm L X I J))) else gd (nzl y5) (some (.inl (some (.long (y2 / y5))), (mm L X I J))) else gd (nzl y7) (runI call iX12_partOf (6, [some (.long y0), none, some (.long y2), none, some (.int x4), some (.long y7), none, some (.long (y5 - y5 / y7 * y7)), none, some (.long (y5 - y5 / y7 * y7)), none], [], (mm L X I J))) := by
  refine Eq.trans (st1 dX12_partOf_6 rfl rfl) ?_
  refine Eq.trans (st1 dX12_partOf_8 rfl rfl) ?_
  refine Eq.trans (st1 dX12_partOf_9 rfl rfl) ?_
  refine Eq.trans (if_eq (tgt := 31) dX12_partOf_10 (by decide +kernel)) (ite_cong (fun _ => ?_) (fun _ => ?_))
  · refine Eq.trans (st1 dX12_partOf_31 rfl rfl) ?_
    refine Eq.trans (if_ne (tgt := 43) dX12_partOf_33 (by decide +kernel)) (ite_cong (fun _ => ?_) (fun _ => ?_))
    · refine Eq.trans (st1 dX12_partOf_36 rfl rfl) ?_
      refine Eq.trans (st1 dX12_partOf_37 rfl rfl) ?_
      refine Eq.trans (ldvg dX12_partOf_39) (gd_congr fun g2 => ?_)
      refine Eq.trans (go_to (tgt := 47) dX12_partOf_40 (by decide +kernel)) ?_
      exact ret2 dX12_partOf_47 rfl
    · refine Eq.trans (st1 dX12_partOf_43 rfl rfl) ?_
      refine Eq.trans (st1 dX12_partOf_44 rfl rfl) ?_
      refine Eq.trans (ldvg dX12_partOf_46) (gd_congr fun g1 => ?_)
      exact ret2 dX12_partOf_47 rfl
  · refine Eq.trans (st1 dX12_partOf_13 rfl rfl) ?_
    refine Eq.trans (st1 dX12_partOf_15 rfl rfl) ?_
    refine Eq.trans (lrmg dX12_partOf_17) (gd_congr fun g3 => ?_)
    refine Eq.trans (st1 dX12_partOf_18 rfl rfl) ?_
    refine Eq.trans (st1 dX12_partOf_20 rfl rfl) ?_
    refine Eq.trans (st1 dX12_partOf_22 rfl rfl) ?_
    refine Eq.trans (st1 dX12_partOf_24 rfl rfl) ?_
    refine Eq.trans (st1 dX12_partOf_26 rfl rfl) ?_
    refine Eq.trans (go_to (tgt := 6) dX12_partOf_28 (by decide +kernel)) ?_
    rfl
theorem q_X12_street_0 {call : CALL} {L X : Nat} {I : Nat → Nat → Int32} {J : Nat → Nat → Int64} {x1 : Int32} {x2 : Int32} {x3 : Int32} : runI call iX12_street (0, [some (.ref 72), some (.int x1), some (.int x2), some (.int x3), none, none, none, none, none], [], (mm L X I J)) = bndN (call nX12_in [.int x1, .int (nI 0), .int (nI 99)] (mm L X (up2 I 72 0 (nI 0)) J)) (fun v m' => runI call iX12_street (13, [some (.ref 72), some (.int x1), some (.int x2), some (.int x3), none, none, none, none, none], v.toList ++ [.ref 72], m')) := by
  refine Eq.trans (st1 dX12_street_0 rfl rfl) ?_
  refine Eq.trans (xiconst dX12_street_1 ci_0) ?_
  refine Eq.trans (putIm dX12_street_2 cp_12_103 ka_72 rfl) ?_
  refine Eq.trans (st1 dX12_street_5 rfl rfl) ?_
  refine Eq.trans (st1 dX12_street_6 rfl rfl) ?_
  refine Eq.trans (xiconst dX12_street_7 ci_0) ?_
  refine Eq.trans (xbipush dX12_street_8 cb_99) ?_
  exact is2 dX12_street_10 cp_12_137 (Nat.le_of_ble_eq_true rfl) rfl rfl (Nat.le_of_ble_eq_true rfl)
theorem q_X12_street_13 {call : CALL} {L X : Nat} {I : Nat → Nat → Int32} {J : Nat → Nat → Int64} {x1 : Int32} {x2 : Int32} {x3 : Int32} {u4 : Option Value} {u5 : Option Value} {u6 : Option Value} {u7 : Option Value} {u8 : Option Value} {s1 : Int32} : runI call iX12_street (13, [some (.ref 72), some (.int x1), some (.int x2), some (.int x3), u4, u5, u6, u7, u8], [.int s1, .ref 72], (mm L X I J)) = if s1 = (nI 0) then runI call iX12_street (35, [some (.ref 72), some (.int x1), some (.int x2), some (.int x3), u4, u5, u6, u7, u8], [.ref 72], (mm L X I J)) else bndN (call nX12_in [.int x2, .int (nI 0), .int (nI 9)] (mm L X I J)) (fun v m' => runI call iX12_street (23, [some (.ref 72), some (.int x1), some (.int x2), some (.int x3), u4, u5, u6, u7, u8], v.toList ++ [.ref 72], m')) := by
  refine Eq.trans (if_eq (tgt := 35) dX12_street_13 (by decide +kernel)) (ite_cong (fun _ => ?_) (fun _ => ?_))
  · rfl
  · refine Eq.trans (st1 dX12_street_16 rfl rfl) ?_
    refine Eq.trans (xiconst dX12_street_17 ci_0) ?_
    refine Eq.trans (xbipush dX12_street_18 cb_9) ?_
    exact is2 dX12_street_20 cp_12_137 (Nat.le_of_ble_eq_true rfl) rfl rfl (Nat.le_of_ble_eq_true rfl)
theorem q_X12_street_35 {call : CALL} {L X : Nat} {I : Nat → Nat → Int32} {J : Nat → Nat → Int64} {x1 : Int32} {x2 : Int32} {x3 : Int32} {u4 : Option Value} {u5 : Option Value} {u6 : Option Value} {u7 : Option Value} {u8 : Option Value} : runI call iX12_street (35, [some (.ref 72), some (.int x1), some (.int x2), some (.int x3), u4, u5, u6, u7, u8], [.ref 72], (mm L X I J)) = runI call iX12_street (40, [some (.ref 72), some (.int x1), some (.int x2), some (.int x3), u4, u5, u6, u7, u8], [.int (nI 1), .ref 72], (mm L X I J)) := by
  refine Eq.trans (xiconst dX12_street_35 ci_1) ?_
  refine Eq.trans (go_to (tgt := 40) dX12_street_36 (by decide +kernel)) ?_
  rfl
theorem q_X12_street_23 {call : CALL} {L X : Nat} {I : Nat → Nat → Int32} {J : Nat → Nat → Int64} {x1 : Int32} {x2 : Int32} {x3 : Int32} {u4 : Option Value} {u5 : Option Value} {u6 : Option Value} {u7 : Option Value} {u8 : Option Value} {s1 : Int32} : runI call iX12_street (23, [some (.ref 72), some (.int x1), some (.int x2), some (.int x3), u4, u5, u6, u7, u8], [.int s1, .ref 72], (mm L X I J)) = if s1 = (nI 0) then runI call iX12_street (35, [some (.ref 72), some (.int x1), some (.int x2), some (.int x3), u4, u5, u6, u7, u8], [.ref 72], (mm L X I J)) else bndN (call nX12_in [.int x3, .int (nI 0), .int (nI 2)] (mm L X I J)) (fun v m' => runI call iX12_street (32, [some (.ref 72), some (.int x1), some (.int x2), some (.int x3), u4, u5, u6, u7, u8], v.toList ++ [.ref 72], m')) := by
  refine Eq.trans (if_eq (tgt := 35) dX12_street_23 (by decide +kernel)) (ite_cong (fun _ => ?_) (fun _ => ?_))
  · rfl
  · refine Eq.trans (st1 dX12_street_26 rfl rfl) ?_
    refine Eq.trans (xiconst dX12_street_27 ci_0) ?_
    refine Eq.trans (xiconst dX12_street_28 ci_2) ?_
    exact is2 dX12_street_29 cp_12_137 (Nat.le_of_ble_eq_true rfl) rfl rfl (Nat.le_of_ble_eq_true rfl)
theorem q_X12_street_40 {call : CALL} {L X : Nat} {I : Nat → Nat → Int32} {J : Nat → Nat → Int64} {x1 : Int32} {x2 : Int32} {x3 : Int32} {u4 : Option Value} {u5 : Option Value} {u6 : Option Value} {u7 : Option Value} {u8 : Option Value} {s1 : Int32} : runI call iX12_street (40, [some (.ref 72), some (.int x1), some (.int x2), some (.int x3), u4, u5, u6, u7, u8], [.int s1, .ref 72], (mm L X I J)) = bnd (call nX12_bad [.ref 72, .int s1, .int (nI 1), .int (nI 1)] (mm L X I J)) (fun v m' => runI call iX12_street (45, [some (.ref 72), some (.int x1), some (.int x2), some (.int x3), u4, u5, u6, u7, u8], v.toList ++ [], m')) := by
  refine Eq.trans (xiconst dX12_street_40 ci_1) ?_
  refine Eq.trans (xiconst dX12_street_41 ci_1) ?_
  exact iv0 dX12_street_42 rfl cp_12_182 rfl rfl (kd_ka ka_72) ka_72.1 (Nat.le_of_ble_eq_true rfl)
theorem q_X12_street_32 {call : CALL} {L X : Nat} {I : Nat → Nat → Int32} {J : Nat → Nat → Int64} {x1 : Int32} {x2 : Int32} {x3 : Int32} {u4 : Option Value} {u5 : Option Value} {u6 : Option Value} {u7 : Option Value} {u8 : Option Value} {s1 : Int32} : runI call iX12_street (32, [some (.ref 72), some (.int x1), some (.int x2), some (.int x3), u4, u5, u6, u7, u8], [.int s1, .ref 72], (mm L X I J)) = if s1 = (nI 0) then runI call iX12_street (35, [some (.ref 72), some (.int x1), some (.int x2), some (.int x3), u4, u5, u6, u7, u8], [.ref 72], (mm L X I J)) else runI call iX12_street (40, [some (.ref 72), some (.int x1), some (.int x2), some (.int x3), u4, u5, u6, u7, u8], [.int (nI 0), .ref 72], (mm L X I J)) := by
  refine Eq.trans (if_ne (tgt := 39) dX12_street_32 (by decide +kernel)) (ite_cong (fun _ => ?_) (fun _ => ?_))
  · rfl
  · refine Eq.trans (xiconst dX12_street_39 ci_0) ?_
    rfl
theorem q_X12_street_45 {call : CALL} {L X : Nat} {I : Nat → Nat → Int32} {J : Nat → Nat → Int64} {x1 : Int32} {x2 : Int32} {x3 : Int32} {u4 : Option Value} {u5 : Option Value} {u6 : Option Value} {u7 : Option Value} {u8 : Option Value} {s0 : Int32} : runI call iX12_street (45, [some (.ref 72), some (.int x1), some (.int x2), some (.int x3), u4, u5, u6, u7, u8], [.int s0], (mm L X I J)) = if s0 = (nI 0) then runI call iX12_street (62, [some (.ref 72), some (.int x1), some (.int x2), some (.int x3), some (.int (nI 0)), some (.int (-1 : Int32)), some (.int (nI 0)), some (.int (nI 0)), u8], [], (mm L X I J)) else some (.inl (some (.int (nI 0))), (mm L X I J)) := by
  refine Eq.trans (if_eq (tgt := 50) dX12_street_45 (by decide +kernel)) (ite_cong (fun _ => ?_) (fun _ => ?_))
  · refine Eq.trans (xiconst dX12_street_50 ci_0) ?_
    refine Eq.trans (st1 dX12_street_51 rfl rfl) ?_
    refine Eq.trans (xiconst dX12_street_53 ci_m1) ?_
    refine Eq.trans (st1 dX12_street_54 rfl rfl) ?_
    refine Eq.trans (xiconst dX12_street_56 ci_0) ?_
    refine Eq.trans (st1 dX12_street_57 rfl rfl) ?_
    refine Eq.trans (xiconst dX12_street_59 ci_0) ?_
    refine Eq.trans (st1 dX12_street_60 rfl rfl) ?_
    rfl
  · refine Eq.trans (xiconst dX12_street_48 ci_0) ?_
    exact ret0 dX12_street_49 rfl
theorem q_X12_street_62 {call : CALL} {L X : Nat} {I : Nat → Nat → Int32} {J : Nat → Nat → Int64} {x1 : Int32} {x2 : Int32} {x3 : Int32} {x4 : Int32} {x5 : Int32} {x6 : Int32} {x7 : Int32} {u8 : Option Value} : runI call iX12_street (62, [some (.ref 72), some (.int x1), some (.int x2), some (.int x3), some (.int x4), some (.int x5), some (.int x6), some (.int x7), u8], [], (mm L X I J)) = if (nI 8) < x7 then if x3 = (nI 0) then some (.inl (some (.int x4)), (mm L X I J)) else if x3 = (nI 1) then some (.inl (some (.int x5)), (mm L X I J)) else some (.inl (some (.int x6)), (mm L X I J)) else runI call iX12_street (72, [some (.ref 72), some (.int x1), some (.int x2), some (.int x3), some (.int x4), some (.int x5), some (.int x6), some (.int x7), some (.int (nI 0))], [], (mm L X I J)) := by
  refine Eq.trans (st1 dX12_street_62 rfl rfl) ?_
  refine Eq.trans (xbipush dX12_street_64 cb_8) ?_
  refine Eq.trans (ic_gt (tgt := 182) dX12_street_66 (by decide +kernel)) (ite_cong (fun _ => ?_) (fun _ => ?_))
  · refine Eq.trans (st1 dX12_street_182 rfl rfl) ?_
    refine Eq.trans (if_ne (tgt := 191) dX12_street_183 (by decide +kernel)) (ite_cong (fun _ => ?_) (fun _ => ?_))
    · refine Eq.trans (st1 dX12_street_186 rfl rfl) ?_
      refine Eq.trans (go_to (tgt := 203) dX12_street_188 (by decide +kernel)) ?_
      exact ret0 dX12_street_203 rfl
    · refine Eq.trans (st1 dX12_street_191 rfl rfl) ?_
      refine Eq.trans (xiconst dX12_street_192 ci_1) ?_
      refine Eq.trans (ic_ne (tgt := 201) dX12_street_193 (by decide +kernel)) (ite_cong (fun _ => ?_) (fun _ => ?_))
      · refine Eq.trans (st1 dX12_street_196 rfl rfl) ?_
        refine Eq.trans (go_to (tgt := 203) dX12_street_198 (by decide +kernel)) ?_
        exact ret0 dX12_street_203 rfl
      · refine Eq.trans (st1 dX12_street_201 rfl rfl) ?_
        exact ret0 dX12_street_203 rfl
  · refine Eq.trans (xiconst dX12_street_69 ci_0) ?_
    refine Eq.trans (st1 dX12_street_70 rfl rfl) ?_
    rfl
theorem q_X12_street_72 {call : CALL} {L X : Nat} {I : Nat → Nat → Int32} {J : Nat → Nat → Int64} {x1 : Int32} {x2 : Int32} {x3 : Int32} {x4 : Int32} {x5 : Int32} {x6 : Int32} {x7 : Int32} {x8 : Int32} : runI call iX12_street (72, [some (.ref 72), some (.int x1), some (.int x2), some (.int x3), some (.int x4), some (.int x5), some (.int x6), some (.int x7), some (.int x8)], [], (mm L X I J)) = if (nI 8) < x8 then runI call iX12_street (62, [some (.ref 72), some (.int x1), some (.int x2), some (.int x3), some (.int x4), some (.int x5), some (.int x6), some (.int (x7 + (nI 1))), some (.int x8)], [], (mm L X I J)) else bnd (call nX12_isChoice [.ref 72, .int x7, .int (nI 0)] (mm L X I J)) (fun v m' => runI call iX12_street (86, [some (.ref 72), some (.int x1), some (.int x2), some (.int x3), some (.int x4), some (.int x5), some (.int x6), some (.int x7), some (.int x8)], v.toList ++ [], m')) := by
  refine Eq.trans (st1 dX12_street_72 rfl rfl) ?_
  refine Eq.trans (xbipush dX12_street_74 cb_8) ?_
  refine Eq.trans (ic_gt (tgt := 176) dX12_street_76 (by decide +kernel)) (ite_cong (fun _ => ?_) (fun _ => ?_))
  · refine Eq.trans (xinc2 dX12_street_176 ci_1 rfl (Nat.le_of_ble_eq_true rfl) rfl) ?_
    refine Eq.trans (go_to (tgt := 62) dX12_street_179 (by decide +kernel)) ?_
    rfl
  · refine Eq.trans (st1 dX12_street_79 rfl rfl) ?_
    refine Eq.trans (st1 dX12_street_80 rfl rfl) ?_
    refine Eq.trans (xiconst dX12_street_82 ci_0) ?_
    exact iv0 dX12_street_83 rfl cp_12_407 rfl rfl (kd_ka ka_72) ka_72.1 (Nat.le_of_ble_eq_true rfl)
theorem q_X12_street_86 {call : CALL} {L X : Nat} {I : Nat → Nat → Int32} {J : Nat → Nat → Int64} {x1 : Int32} {x2 : Int32} {x3 : Int32} {x4 : Int32} {x5 : Int32} {x6 : Int32} {x7 : Int32} {x8 : Int32} {s0 : Int32} : runI call iX12_street (86, [some (.ref 72), some (.int x1), some (.int x2), some (.int x3), some (.int x4), some (.int x5), some (.int x6), some (.int x7), some (.int x8)], [.int s0], (mm L X I J)) = if s0 = (nI 0) then runI call iX12_street (170, [some (.ref 72), some (.int x1), some (.int x2), some (.int x3), some (.int x4), some (.int x5), some (.int x6), some (.int x7), some (.int x8)], [], (mm L X I J)) else bnd (call nX12_isChoice [.ref 72, .int x8, .int (nI 1)] (mm L X I J)) (fun v m' => runI call iX12_street (96, [some (.ref 72), some (.int x1), some (.int x2), some (.int x3), some (.int x4), some (.int x5), some (.int x6), some (.int x7), some (.int x8)], v.toList ++ [], m')) := by
  refine Eq.trans (if_eq (tgt := 170) dX12_street_86 (by decide +kernel)) (ite_cong (fun _ => ?_) (fun _ => ?_))
  · rfl
  · refine Eq.trans (st1 dX12_street_89 rfl rfl) ?_
    refine Eq.trans (st1 dX12_street_90 rfl rfl) ?_
    refine Eq.trans (xiconst dX12_street_92 ci_1) ?_
    exact iv0 dX12_street_93 rfl cp_12_407 rfl rfl (kd_ka ka_72) ka_72.1 (Nat.le_of_ble_eq_true rfl)
theorem q_X12_street_170 {call : CALL} {L X : Nat} {I : Nat → Nat → Int32} {J : Nat → Nat → Int64} {x1 : Int32} {x2 : Int32} {x3 : Int32} {x4 : Int32} {x5 : Int32} {x6 : Int32} {x7 : Int32} {x8 : Int32} : runI call iX12_street (170, [some (.ref 72), some (.int x1), some (.int x2), some (.int x3), some (.int x4), some (.int x5), some (.int x6), some (.int x7), some (.int x8)], [], (mm L X I J)) = runI call iX12_street (72, [some (.ref 72), some (.int x1), some (.int x2), some (.int x3), some (.int x4), some (.int x5), some (.int x6), some (.int x7), some (.int (x8 + (nI 1)))], [], (mm L X I J)) := by
  refine Eq.trans (xinc2 dX12_street_170 ci_1 rfl (Nat.le_of_ble_eq_true rfl) rfl) ?_
  refine Eq.trans (go_to (tgt := 72) dX12_street_173 (by decide +kernel)) ?_
  rfl
theorem q_X12_street_96 {call : CALL} {L X : Nat} {I : Nat → Nat → Int32} {J : Nat → Nat → Int64} {x1 : Int32} {x2 : Int32} {x3 : Int32} {x4 : Int32} {x5 : Int32} {x6 : Int32} {x7 : Int32} {x8 : Int32} {s0 : Int32} : runI call iX12_street (96, [some (.ref 72), some (.int x1), some (.int x2), some (.int x3), some (.int x4), some (.int x5), some (.int x6), some (.int x7), some (.int x8)], [.int s0], (mm L X I J)) = if s0 = (nI 0) then runI call iX12_street (170, [some (.ref 72), some (.int x1), some (.int x2), some (.int x3), some (.int x4), some (.int x5), some (.int x6), some (.int x7), some (.int x8)], [], (mm L X I J)) else bnd (call nX12_isRest [.ref 72, .int x7, .int x8, .int x1, .int x2] (mm L X I J)) (fun v m' => runI call iX12_street (109, [some (.ref 72), some (.int x1), some (.int x2), some (.int x3), some (.int x4), some (.int x5), some (.int x6), some (.int x7), some (.int x8)], v.toList ++ [], m')) := by
  refine Eq.trans (if_eq (tgt := 170) dX12_street_96 (by decide +kernel)) (ite_cong (fun _ => ?_) (fun _ => ?_))
  · rfl
  · refine Eq.trans (st1 dX12_street_99 rfl rfl) ?_
    refine Eq.trans (st1 dX12_street_100 rfl rfl) ?_
    refine Eq.trans (st1 dX12_street_102 rfl rfl) ?_
    refine Eq.trans (st1 dX12_street_104 rfl rfl) ?_
    refine Eq.trans (st1 dX12_street_105 rfl rfl) ?_
    exact iv0 dX12_street_106 rfl cp_12_418 rfl rfl (kd_ka ka_72) ka_72.1 (Nat.le_of_ble_eq_true rfl)
theorem q_X12_street_109 {call : CALL} {L X : Nat} {I : Nat → Nat → Int32} {J : Nat → Nat → Int64} {x1 : Int32} {x2 : Int32} {x3 : Int32} {x4 : Int32} {x5 : Int32} {x6 : Int32} {x7 : Int32} {x8 : Int32} {s0 : Int32} : runI call iX12_street (109, [some (.ref 72), some (.int x1), some (.int x2), some (.int x3), some (.int x4), some (.int x5), some (.int x6), some (.int x7), some (.int x8)], [.int s0], (mm L X I J)) = if s0 = (nI 0) then runI call iX12_street (170, [some (.ref 72), some (.int x1), some (.int x2), some (.int x3), some (.int x4), some (.int x5), some (.int x6), some (.int x7), some (.int x8)], [], (mm L X I J)) else if x4 = (nI 0) then bnd (call nX12_streetHas [.ref 72, .int x7, .int x8, .int x1, .int x2] (mm L X I J)) (fun v m' => runI call iX12_street (130, [some (.ref 72), some (.int x1), some (.int x2), some (.int x3), some (.int x4), some (.int x5), some (.int x6), some (.int x7), some (.int x8)], v.toList ++ [], m')) else runI call iX12_street (145, [some (.ref 72), some (.int x1), some (.int x2), some (.int x3), some (.int x4), some (.int x5), some (.int x6), some (.int x7), some (.int x8)], [.int x6], (mm L X I J)) := by
  refine Eq.trans (if_ne (tgt := 115) dX12_street_109 (by decide +kernel)) (ite_cong (fun _ => ?_) (fun _ => ?_))
  · refine Eq.trans (go_to (tgt := 170) dX12_street_112 (by decide +kernel)) ?_
    rfl
  · refine Eq.trans (st1 dX12_street_115 rfl rfl) ?_
    refine Eq.trans (if_ne (tgt := 143) dX12_street_117 (by decide +kernel)) (ite_cong (fun _ => ?_) (fun _ => ?_))
    · refine Eq.trans (st1 dX12_street_120 rfl rfl) ?_
      refine Eq.trans (st1 dX12_street_121 rfl rfl) ?_
      refine Eq.trans (st1 dX12_street_123 rfl rfl) ?_
      refine Eq.trans (st1 dX12_street_125 rfl rfl) ?_
      refine Eq.trans (st1 dX12_street_126 rfl rfl) ?_
      exact iv0 dX12_street_127 rfl cp_12_411 rfl rfl (kd_ka ka_72) ka_72.1 (Nat.le_of_ble_eq_true rfl)
    · refine Eq.trans (st1 dX12_street_143 rfl rfl) ?_
      rfl
theorem q_X12_street_145 {call : CALL} {L X : Nat} {I : Nat → Nat → Int32} {J : Nat → Nat → Int64} {x1 : Int32} {x2 : Int32} {x3 : Int32} {x4 : Int32} {x5 : Int32} {u6 : Option Value} {x7 : Int32} {x8 : Int32} {s0 : Int32} : runI call iX12_street (145, [some (.ref 72), some (.int x1), some (.int x2), some (.int x3), some (.int x4), some (.int x5), u6, some (.int x7), some (.int x8)], [.int s0], (mm L X I J)) = if x4 = (nI 0) then runI call iX12_street (165, [some (.ref 72), some (.int x1), some (.int x2), some (.int x3), some (.int x4), some (.int x5), some (.int s0), some (.int x7), some (.int x8)], [.int (((nI 10) * x7) + x8)], (mm L X I J)) else runI call iX12_street (165, [some (.ref 72), some (.int x1), some (.int x2), some (.int x3), some (.int x4), some (.int x5), some (.int s0), some (.int x7), some (.int x8)], [.int x5], (mm L X I J)) := by
  refine Eq.trans (st1 dX12_street_145 rfl rfl) ?_
  refine Eq.trans (st1 dX12_street_147 rfl rfl) ?_
  refine Eq.trans (if_ne (tgt := 163) dX12_street_149 (by decide +kernel)) (ite_cong (fun _ => ?_) (fun _ => ?_))
  · refine Eq.trans (xbipush dX12_street_152 cb_10) ?_
    refine Eq.trans (st1 dX12_street_154 rfl rfl) ?_
    refine Eq.trans (st1 dX12_street_156 rfl rfl) ?_
    refine Eq.trans (st1 dX12_street_157 rfl rfl) ?_
    refine Eq.trans (st1 dX12_street_159 rfl rfl) ?_
    refine Eq.trans (go_to (tgt := 165) dX12_street_160 (by decide +kernel)) ?_
    rfl
  · refine Eq.trans (st1 dX12_street_163 rfl rfl) ?_
    rfl
theorem q_X12_street_130 {call : CALL} {L X : Nat} {I : Nat → Nat → Int32} {J : Nat → Nat → Int64} {x1 : Int32} {x2 : Int32} {x3 : Int32} {x4 : Int32} {x5 : Int32} {u6 : Option Value} {x7 : Int32} {x8 : Int32} {s0 : Int32} : runI call iX12_street (130, [some (.ref 72), some (.int x1), some (.int x2), some (.int x3), some (.int x4), some (.int x5), u6, some (.int x7), some (.int x8)], [.int s0], (mm L X I J)) = bnd (call nX12_houseHas [.ref 72, .int x7, .int x8, .int x2] (mm L X I J)) (fun v m' => runI call iX12_street (139, [some (.ref 72), some (.int x1), some (.int x2), some (.int x3), some (.int x4), some (.int x5), u6, some (.int x7), some (.int x8)], v.toList ++ [.int s0], m')) := by
  refine Eq.trans (st1 dX12_street_130 rfl rfl) ?_
  refine Eq.trans (st1 dX12_street_131 rfl rfl) ?_
  refine Eq.trans (st1 dX12_street_133 rfl rfl) ?_
  refine Eq.trans (st1 dX12_street_135 rfl rfl) ?_
  exact iv0 dX12_street_136 rfl cp_12_415 rfl rfl (kd_ka ka_72) ka_72.1 (Nat.le_of_ble_eq_true rfl)
theorem q_X12_street_165 {call : CALL} {L X : Nat} {I : Nat → Nat → Int32} {J : Nat → Nat → Int64} {x1 : Int32} {x2 : Int32} {x3 : Int32} {x4 : Int32} {u5 : Option Value} {x6 : Int32} {x7 : Int32} {x8 : Int32} {s0 : Int32} : runI call iX12_street (165, [some (.ref 72), some (.int x1), some (.int x2), some (.int x3), some (.int x4), u5, some (.int x6), some (.int x7), some (.int x8)], [.int s0], (mm L X I J)) = runI call iX12_street (170, [some (.ref 72), some (.int x1), some (.int x2), some (.int x3), some (.int (x4 + (nI 1))), some (.int s0), some (.int x6), some (.int x7), some (.int x8)], [], (mm L X I J)) := by
  refine Eq.trans (st1 dX12_street_165 rfl rfl) ?_
  refine Eq.trans (xinc2 dX12_street_167 ci_1 rfl (Nat.le_of_ble_eq_true rfl) rfl) ?_
  rfl
theorem q_X12_street_139 {call : CALL} {L X : Nat} {I : Nat → Nat → Int32} {J : Nat → Nat → Int64} {x1 : Int32} {x2 : Int32} {x3 : Int32} {x4 : Int32} {x5 : Int32} {u6 : Option Value} {x7 : Int32} {x8 : Int32} {s0 : Int32} {s1 : Int32} : runI call iX12_street (139, [some (.ref 72), some (.int x1), some (.int x2), some (.int x3), some (.int x4), some (.int x5), u6, some (.int x7), some (.int x8)], [.int s1, .int s0], (mm L X I J)) = runI call iX12_street (145, [some (.ref 72), some (.int x1), some (.int x2), some (.int x3), some (.int x4), some (.int x5), u6, some (.int x7), some (.int x8)], [.int (s0 + s1)], (mm L X I J)) := by
  refine Eq.trans (st1 dX12_street_139 rfl rfl) ?_
  refine Eq.trans (go_to (tgt := 145) dX12_street_140 (by decide +kernel)) ?_
  rfl
theorem q_X12_isChoice_0 {call : CALL} {L X : Nat} {I : Nat → Nat → Int32} {J : Nat → Nat → Int64} {x1 : Int32} {x2 : Int32} : runI call iX12_isChoice (0, [some (.ref 72), some (.int x1), some (.int x2)], [], (mm L X I J)) = if x1 = (nI 8) then some (.inl (some (.int (nI 1))), (mm L X I J)) else bndN (call nX12_manyIn [.ref 533] (mm L X I J)) (fun v m' => runI call iX12_isChoice (14, [some (.ref 72), some (.int x1), some (.int x2)], v.toList ++ [.int x1], m')) := by
  refine Eq.trans (st1 dX12_isChoice_0 rfl rfl) ?_
  refine Eq.trans (xbipush dX12_isChoice_1 cb_8) ?_
  refine Eq.trans (ic_eq (tgt := 40) dX12_isChoice_3 (by decide +kernel)) (ite_cong (fun _ => ?_) (fun _ => ?_))
  · refine Eq.trans (xiconst dX12_isChoice_40 ci_1) ?_
    refine Eq.trans (go_to (tgt := 45) dX12_isChoice_41 (by decide +kernel)) ?_
    exact ret1 dX12_isChoice_45 rfl (.inr rfl)
  · refine Eq.trans (st1 dX12_isChoice_6 rfl rfl) ?_
    refine Eq.trans (st1 dX12_isChoice_7 rfl rfl) ?_
    refine Eq.trans (getRm dX12_isChoice_8 cp_12_67 ka_72 rfl r_72_29) ?_
    exact is2 dX12_isChoice_11 cp_12_264 (Nat.le_of_ble_eq_true rfl) rfl rfl (Nat.le_of_ble_eq_true rfl)
theorem q_X12_isChoice_14 {call : CALL} {L X : Nat} {I : Nat → Nat → Int32} {J : Nat → Nat → Int64} {x1 : Int32} {x2 : Int32} {s0 : Int32} {s1 : Int32} : runI call iX12_isChoice (14, [some (.ref 72), some (.int x1), some (.int x2)], [.int s1, .int s0], (mm L X I J)) = if s1 ≤ s0 then some (.inl (some (.int (nI 0))), (mm L X I J)) else if x2 = (nI 0) then some (.inl (some (.int (nI 1))), (mm L X I J)) else gd (inb ((nI 0) + x1) 31) (gd (inb ((nI 12) + (I 533 (((nI 0) + x1)).toNatClampNeg)) 31) (if (I 533 (((nI 12) + (I 533 (((nI 0) + x1)).toNatClampNeg))).toNatClampNeg) ≤ (nI 0) then some (.inl (some (.int (nI 0))), (mm L X I J)) else some (.inl (some (.int (nI 1))), (mm L X I J)))) := by
  refine Eq.trans (ic_ge (tgt := 44) dX12_isChoice_14 (by decide +kernel)) (ite_cong (fun _ => ?_) (fun _ => ?_))
  · refine Eq.trans (xiconst dX12_isChoice_44 ci_0) ?_
    exact ret1 dX12_isChoice_45 rfl (.inl rfl)
  · refine Eq.trans (st1 dX12_isChoice_17 rfl rfl) ?_
    refine Eq.trans (if_eq (tgt := 40) dX12_isChoice_18 (by decide +kernel)) (ite_cong (fun _ => ?_) (fun _ => ?_))
    · refine Eq.trans (xiconst dX12_isChoice_40 ci_1) ?_
      refine Eq.trans (go_to (tgt := 45) dX12_isChoice_41 (by decide +kernel)) ?_
      exact ret1 dX12_isChoice_45 rfl (.inr rfl)
    · refine Eq.trans (st1 dX12_isChoice_21 rfl rfl) ?_
      refine Eq.trans (getRm dX12_isChoice_22 cp_12_67 ka_72 rfl r_72_29) ?_
      refine Eq.trans (xbipush dX12_isChoice_25 cb_12) ?_
      refine Eq.trans (st1 dX12_isChoice_27 rfl rfl) ?_
      refine Eq.trans (getRm dX12_isChoice_28 cp_12_67 ka_72 rfl r_72_29) ?_
      refine Eq.trans (xiconst dX12_isChoice_31 ci_0) ?_
      refine Eq.trans (st1 dX12_isChoice_32 rfl rfl) ?_
      refine Eq.trans (st1 dX12_isChoice_33 rfl rfl) ?_
      refine Eq.trans (al1m dX12_isChoice_34 ka_533) (gd_congr fun g1 => ?_)
      refine Eq.trans (st1 dX12_isChoice_35 rfl rfl) ?_
      refine Eq.trans (al1m dX12_isChoice_36 ka_533) (gd_congr fun g2 => ?_)
      refine Eq.trans (if_le (tgt := 44) dX12_isChoice_37 (by decide +kernel)) (ite_cong (fun _ => ?_) (fun _ => ?_))
      · refine Eq.trans (xiconst dX12_isChoice_44 ci_0) ?_
        exact ret1 dX12_isChoice_45 rfl (.inl rfl)
      · refine Eq.trans (xiconst dX12_isChoice_40 ci_1) ?_
        refine Eq.trans (go_to (tgt := 45) dX12_isChoice_41 (by decide +kernel)) ?_
        exact ret1 dX12_isChoice_45 rfl (.inr rfl)
theorem q_X12_isRest_0 {call : CALL} {L X : Nat} {I : Nat → Nat → Int32} {J : Nat → Nat → Int64} {x1 : Int32} {x2 : Int32} {x3 : Int32} {x4 : Int32} : runI call iX12_isRest (0, [some (.ref 72), some (.int x1), some (.int x2), some (.int x3), some (.int x4), none], [], (mm L X I J)) = runI call iX12_isRest (3, [some (.ref 72), some (.int x1), some (.int x2), some (.int x3), some (.int x4), some (.int (nI 0))], [], (mm L X I J)) := by
  refine Eq.trans (xiconst dX12_isRest_0 ci_0) ?_
  refine Eq.trans (st1 dX12_isRest_1 rfl rfl) ?_
  rfl
theorem q_X12_isRest_3 {call : CALL} {L X : Nat} {I : Nat → Nat → Int32} {J : Nat → Nat → Int64} {x1 : Int32} {x2 : Int32} {x3 : Int32} {x4 : Int32} {x5 : Int32} : runI call iX12_isRest (3, [some (.ref 72), some (.int x1), some (.int x2), some (.int x3), some (.int x4), some (.int x5)], [], (mm L X I J)) = if (nI 8) < x5 then some (.inl (some (.int (nI 1))), (mm L X I J)) else bnd (call nX12_isChoice [.ref 72, .int x5, .int (nI 0)] (mm L X I J)) (fun v m' => runI call iX12_isRest (17, [some (.ref 72), some (.int x1), some (.int x2), some (.int x3), some (.int x4), some (.int x5)], v.toList ++ [], m')) := by
  refine Eq.trans (st1 dX12_isRest_3 rfl rfl) ?_
  refine Eq.trans (xbipush dX12_isRest_5 cb_8) ?_
  refine Eq.trans (ic_gt (tgt := 82) dX12_isRest_7 (by decide +kernel)) (ite_cong (fun _ => ?_) (fun _ => ?_))
  · refine Eq.trans (xiconst dX12_isRest_82 ci_1) ?_
    exact ret1 dX12_isRest_83 rfl (.inr rfl)
  · refine Eq.trans (st1 dX12_isRest_10 rfl rfl) ?_
    refine Eq.trans (st1 dX12_isRest_11 rfl rfl) ?_
    refine Eq.trans (xiconst dX12_isRest_13 ci_0) ?_
    exact iv0 dX12_isRest_14 rfl cp_12_407 rfl rfl (kd_ka ka_72) ka_72.1 (Nat.le_of_ble_eq_true rfl)
theorem q_X12_isRest_17 {call : CALL} {L X : Nat} {I : Nat → Nat → Int32} {J : Nat → Nat → Int64} {x1 : Int32} {x2 : Int32} {x3 : Int32} {x4 : Int32} {x5 : Int32} {s0 : Int32} : runI call iX12_isRest (17, [some (.ref 72), some (.int x1), some (.int x2), some (.int x3), some (.int x4), some (.int x5)], [.int s0], (mm L X I J)) = if s0 = (nI 0) then runI call iX12_isRest (44, [some (.ref 72), some (.int x1), some (.int x2), some (.int x3), some (.int x4), some (.int x5)], [], (mm L X I J)) else bnd (call nX12_streetHas [.ref 72, .int x5, .int x2, .int x3, .int x4] (mm L X I J)) (fun v m' => runI call iX12_isRest (30, [some (.ref 72), some (.int x1), some (.int x2), some (.int x3), some (.int x4), some (.int x5)], v.toList ++ [], m')) := by
  refine Eq.trans (if_eq (tgt := 44) dX12_isRest_17 (by decide +kernel)) (ite_cong (fun _ => ?_) (fun _ => ?_))
  · rfl
  · refine Eq.trans (st1 dX12_isRest_20 rfl rfl) ?_
    refine Eq.trans (st1 dX12_isRest_21 rfl rfl) ?_
    refine Eq.trans (st1 dX12_isRest_23 rfl rfl) ?_
    refine Eq.trans (st1 dX12_isRest_24 rfl rfl) ?_
    refine Eq.trans (st1 dX12_isRest_25 rfl rfl) ?_
    exact iv0 dX12_isRest_27 rfl cp_12_411 rfl rfl (kd_ka ka_72) ka_72.1 (Nat.le_of_ble_eq_true rfl)
theorem q_X12_isRest_44 {call : CALL} {L X : Nat} {I : Nat → Nat → Int32} {J : Nat → Nat → Int64} {x1 : Int32} {x2 : Int32} {x3 : Int32} {x4 : Int32} {x5 : Int32} : runI call iX12_isRest (44, [some (.ref 72), some (.int x1), some (.int x2), some (.int x3), some (.int x4), some (.int x5)], [], (mm L X I J)) = bnd (call nX12_isChoice [.ref 72, .int x5, .int (nI 1)] (mm L X I J)) (fun v m' => runI call iX12_isRest (51, [some (.ref 72), some (.int x1), some (.int x2), some (.int x3), some (.int x4), some (.int x5)], v.toList ++ [], m')) := by
  refine Eq.trans (st1 dX12_isRest_44 rfl rfl) ?_
  refine Eq.trans (st1 dX12_isRest_45 rfl rfl) ?_
  refine Eq.trans (xiconst dX12_isRest_47 ci_1) ?_
  exact iv0 dX12_isRest_48 rfl cp_12_407 rfl rfl (kd_ka ka_72) ka_72.1 (Nat.le_of_ble_eq_true rfl)
theorem q_X12_isRest_30 {call : CALL} {L X : Nat} {I : Nat → Nat → Int32} {J : Nat → Nat → Int64} {x1 : Int32} {x2 : Int32} {x3 : Int32} {x4 : Int32} {x5 : Int32} {s0 : Int32} : runI call iX12_isRest (30, [some (.ref 72), some (.int x1), some (.int x2), some (.int x3), some (.int x4), some (.int x5)], [.int s0], (mm L X I J)) = bnd (call nX12_streetHas [.ref 72, .int x1, .int x2, .int x3, .int x4] (mm L X I J)) (fun v m' => runI call iX12_isRest (39, [some (.ref 72), some (.int x1), some (.int x2), some (.int x3), some (.int x4), some (.int x5)], v.toList ++ [.int s0], m')) := by
  refine Eq.trans (st1 dX12_isRest_30 rfl rfl) ?_
  refine Eq.trans (st1 dX12_isRest_31 rfl rfl) ?_
  refine Eq.trans (st1 dX12_isRest_32 rfl rfl) ?_
  refine Eq.trans (st1 dX12_isRest_33 rfl rfl) ?_
  refine Eq.trans (st1 dX12_isRest_34 rfl rfl) ?_
  exact iv0 dX12_isRest_36 rfl cp_12_411 rfl rfl (kd_ka ka_72) ka_72.1 (Nat.le_of_ble_eq_true rfl)
theorem q_X12_isRest_51 {call : CALL} {L X : Nat} {I : Nat → Nat → Int32} {J : Nat → Nat → Int64} {x1 : Int32} {x2 : Int32} {x3 : Int32} {x4 : Int32} {x5 : Int32} {s0 : Int32} : runI call iX12_isRest (51, [some (.ref 72), some (.int x1), some (.int x2), some (.int x3), some (.int x4), some (.int x5)], [.int s0], (mm L X I J)) = if s0 = (nI 0) then runI call iX12_isRest (76, [some (.ref 72), some (.int x1), some (.int x2), some (.int x3), some (.int x4), some (.int x5)], [], (mm L X I J)) else bnd (call nX12_houseHas [.ref 72, .int x1, .int x5, .int x4] (mm L X I J)) (fun v m' => runI call iX12_isRest (63, [some (.ref 72), some (.int x1), some (.int x2), some (.int x3), some (.int x4), some (.int x5)], v.toList ++ [], m')) := by
  refine Eq.trans (if_eq (tgt := 76) dX12_isRest_51 (by decide +kernel)) (ite_cong (fun _ => ?_) (fun _ => ?_))
  · rfl
  · refine Eq.trans (st1 dX12_isRest_54 rfl rfl) ?_
    refine Eq.trans (st1 dX12_isRest_55 rfl rfl) ?_
    refine Eq.trans (st1 dX12_isRest_56 rfl rfl) ?_
    refine Eq.trans (st1 dX12_isRest_58 rfl rfl) ?_
    exact iv0 dX12_isRest_60 rfl cp_12_415 rfl rfl (kd_ka ka_72) ka_72.1 (Nat.le_of_ble_eq_true rfl)
theorem q_X12_isRest_39 {call : CALL} {L X : Nat} {I : Nat → Nat → Int32} {J : Nat → Nat → Int64} {x1 : Int32} {x2 : Int32} {x3 : Int32} {x4 : Int32} {x5 : Int32} {s0 : Int32} {s1 : Int32} : runI call iX12_isRest (39, [some (.ref 72), some (.int x1), some (.int x2), some (.int x3), some (.int x4), some (.int x5)], [.int s1, .int s0], (mm L X I J)) = if s0 ≤ s1 then runI call iX12_isRest (44, [some (.ref 72), some (.int x1), some (.int x2), some (.int x3), some (.int x4), some (.int x5)], [], (mm L X I J)) else some (.inl (some (.int (nI 0))), (mm L X I J)) := by
  refine Eq.trans (ic_le (tgt := 44) dX12_isRest_39 (by decide +kernel)) (ite_cong (fun _ => ?_) (fun _ => ?_))
  · rfl
  · refine Eq.trans (xiconst dX12_isRest_42 ci_0) ?_
    exact ret1 dX12_isRest_43 rfl (.inl rfl)
theorem q_X12_isRest_76 {call : CALL} {L X : Nat} {I : Nat → Nat → Int32} {J : Nat → Nat → Int64} {x1 : Int32} {x2 : Int32} {x3 : Int32} {x4 : Int32} {x5 : Int32} : runI call iX12_isRest (76, [some (.ref 72), some (.int x1), some (.int x2), some (.int x3), some (.int x4), some (.int x5)], [], (mm L X I J)) = runI call iX12_isRest (3, [some (.ref 72), some (.int x1), some (.int x2), some (.int x3), some (.int x4), some (.int (x5 + (nI 1)))], [], (mm L X I J)) := by
  refine Eq.trans (xinc2 dX12_isRest_76 ci_1 rfl (Nat.le_of_ble_eq_true rfl) rfl) ?_
  refine Eq.trans (go_to (tgt := 3) dX12_isRest_79 (by decide +kernel)) ?_
  rfl
theorem q_X12_isRest_63 {call : CALL} {L X : Nat} {I : Nat → Nat → Int32} {J : Nat → Nat → Int64} {x1 : Int32} {x2 : Int32} {x3 : Int32} {x4 : Int32} {x5 : Int32} {s0 : Int32} : runI call iX12_isRest (63, [some (.ref 72), some (.int x1), some (.int x2), some (.int x3), some (.int x4), some (.int x5)], [.int s0], (mm L X I J)) = bnd (call nX12_houseHas [.ref 72, .int x1, .int x2, .int x4] (mm L X I J)) (fun v m' => runI call iX12_isRest (71, [some (.ref 72), some (.int x1), some (.int x2), some (.int x3), some (.int x4), some (.int x5)], v.toList ++ [.int s0], m')) := by
  refine Eq.trans (st1 dX12_isRest_63 rfl rfl) ?_
  refine Eq.trans (st1 dX12_isRest_64 rfl rfl) ?_
  refine Eq.trans (st1 dX12_isRest_65 rfl rfl) ?_
  refine Eq.trans (st1 dX12_isRest_66 rfl rfl) ?_
  exact iv0 dX12_isRest_68 rfl cp_12_415 rfl rfl (kd_ka ka_72) ka_72.1 (Nat.le_of_ble_eq_true rfl)
theorem q_X12_isRest_71 {call : CALL} {L X : Nat} {I : Nat → Nat → Int32} {J : Nat → Nat → Int64} {x1 : Int32} {x2 : Int32} {x3 : Int32} {x4 : Int32} {x5 : Int32} {s0 : Int32} {s1 : Int32} : runI call iX12_isRest (71, [some (.ref 72), some (.int x1), some (.int x2), some (.int x3), some (.int x4), some (.int x5)], [.int s1, .int s0], (mm L X I J)) = if s0 ≤ s1 then runI call iX12_isRest (76, [some (.ref 72), some (.int x1), some (.int x2), some (.int x3), some (.int x4), some (.int x5)], [], (mm L X I J)) else some (.inl (some (.int (nI 0))), (mm L X I J)) := by
  refine Eq.trans (ic_le (tgt := 76) dX12_isRest_71 (by decide +kernel)) (ite_cong (fun _ => ?_) (fun _ => ?_))
  · rfl
  · refine Eq.trans (xiconst dX12_isRest_74 ci_0) ?_
    exact ret1 dX12_isRest_75 rfl (.inl rfl)
theorem q_X12_streetHas_0 {call : CALL} {L X : Nat} {I : Nat → Nat → Int32} {J : Nat → Nat → Int64} {x1 : Int32} {x2 : Int32} {x3 : Int32} {x4 : Int32} : runI call iX12_streetHas (0, [some (.ref 72), some (.int x1), some (.int x2), some (.int x3), some (.int x4)], [], (mm L X I J)) = bnd (call nX12_comes [.ref 72, .int x1, .int x2] (mm L X I J)) (fun v m' => runI call iX12_streetHas (7, [some (.ref 72), some (.int x1), some (.int x2), some (.int x3), some (.int x4)], v.toList ++ [.int x3], m')) := by
  refine Eq.trans (st1 dX12_streetHas_0 rfl rfl) ?_
  refine Eq.trans (st1 dX12_streetHas_1 rfl rfl) ?_
  refine Eq.trans (st1 dX12_streetHas_2 rfl rfl) ?_
  refine Eq.trans (st1 dX12_streetHas_3 rfl rfl) ?_
  exact iv0 dX12_streetHas_4 rfl cp_12_404 rfl rfl (kd_ka ka_72) ka_72.1 (Nat.le_of_ble_eq_true rfl)
theorem q_X12_streetHas_7 {call : CALL} {L X : Nat} {I : Nat → Nat → Int32} {J : Nat → Nat → Int64} {u0 : Option Value} {x1 : Int32} {u2 : Option Value} {u3 : Option Value} {x4 : Int32} {s0 : Int32} {s1 : Int32} : runI call iX12_streetHas (7, [u0, some (.int x1), u2, u3, some (.int x4)], [.int s1, .int s0], (mm L X I J)) = if x1 = (nI 8) then runI call iX12_streetHas (20, [u0, some (.int x1), u2, u3, some (.int x4)], [.int (nI 0), .int (s0 - s1)], (mm L X I J)) else runI call iX12_streetHas (20, [u0, some (.int x1), u2, u3, some (.int x4)], [.int x4, .int (s0 - s1)], (mm L X I J)) := by
  refine Eq.trans (st1 dX12_streetHas_7 rfl rfl) ?_
  refine Eq.trans (st1 dX12_streetHas_8 rfl rfl) ?_
  refine Eq.trans (xbipush dX12_streetHas_9 cb_8) ?_
  refine Eq.trans (ic_ne (tgt := 18) dX12_streetHas_11 (by decide +kernel)) (ite_cong (fun _ => ?_) (fun _ => ?_))
  · refine Eq.trans (xiconst dX12_streetHas_14 ci_0) ?_
    refine Eq.trans (go_to (tgt := 20) dX12_streetHas_15 (by decide +kernel)) ?_
    rfl
  · refine Eq.trans (st1 dX12_streetHas_18 rfl rfl) ?_
    rfl
theorem q_X12_streetHas_20 {call : CALL} {L X : Nat} {I : Nat → Nat → Int32} {J : Nat → Nat → Int64} {u0 : Option Value} {u1 : Option Value} {u2 : Option Value} {u3 : Option Value} {u4 : Option Value} {s0 : Int32} {s1 : Int32} : runI call iX12_streetHas (20, [u0, u1, u2, u3, u4], [.int s1, .int s0], (mm L X I J)) = some (.inl (some (.int (s0 - s1))), (mm L X I J)) := by
  refine Eq.trans (st1 dX12_streetHas_20 rfl rfl) ?_
  exact ret0 dX12_streetHas_21 rfl
theorem q_X12_comes_0 {call : CALL} {L X : Nat} {I : Nat → Nat → Int32} {J : Nat → Nat → Int64} {x1 : Int32} {x2 : Int32} : runI call iX12_comes (0, [some (.ref 72), some (.int x1), some (.int x2)], [], (mm L X I J)) = bndN (call nX12_copies [.ref 533, .ref 534] (mm L X I J)) (fun v m' => runI call iX12_comes (11, [some (.ref 72), some (.int x1), some (.int x2)], v.toList ++ [], m')) := by
  refine Eq.trans (st1 dX12_comes_0 rfl rfl) ?_
  refine Eq.trans (getRm dX12_comes_1 cp_12_67 ka_72 rfl r_72_29) ?_
  refine Eq.trans (st1 dX12_comes_4 rfl rfl) ?_
  refine Eq.trans (getRm dX12_comes_5 cp_12_70 ka_72 rfl r_72_30) ?_
  exact is2 dX12_comes_8 cp_12_347 (Nat.le_of_ble_eq_true rfl) rfl rfl (Nat.le_of_ble_eq_true rfl)
theorem q_X12_comes_11 {call : CALL} {L X : Nat} {I : Nat → Nat → Int32} {J : Nat → Nat → Int64} {x1 : Int32} {x2 : Int32} : runI call iX12_comes (11, [some (.ref 72), some (.int x1), some (.int x2)], [], (mm L X I J)) = if x1 = (nI 8) then runI call iX12_comes (37, [some (.ref 72), some (.int x1), some (.int x2)], [], (mm L X I J)) else gd (inb ((nI 0) + x1) 31) (gd (inb ((nI 12) + (I 533 (((nI 0) + x1)).toNatClampNeg)) 31) (runI call iX12_comes (37, [some (.ref 72), some (.int x1), some (.int x2)], [], (mm L X (up2 I 534 (((nI 12) + (I 533 (((nI 0) + x1)).toNatClampNeg))).toNatClampNeg ((I 534 (((nI 12) + (I 533 (((nI 0) + x1)).toNatClampNeg))).toNatClampNeg) + (nI 1))) J)))) := by
  refine Eq.trans (st1 dX12_comes_11 rfl rfl) ?_
  refine Eq.trans (xbipush dX12_comes_12 cb_8) ?_
  refine Eq.trans (ic_eq (tgt := 37) dX12_comes_14 (by decide +kernel)) (ite_cong (fun _ => ?_) (fun _ => ?_))
  · rfl
  · refine Eq.trans (st1 dX12_comes_17 rfl rfl) ?_
    refine Eq.trans (getRm dX12_comes_18 cp_12_70 ka_72 rfl r_72_30) ?_
    refine Eq.trans (xbipush dX12_comes_21 cb_12) ?_
    refine Eq.trans (st1 dX12_comes_23 rfl rfl) ?_
    refine Eq.trans (getRm dX12_comes_24 cp_12_67 ka_72 rfl r_72_29) ?_
    refine Eq.trans (xiconst dX12_comes_27 ci_0) ?_
    refine Eq.trans (st1 dX12_comes_28 rfl rfl) ?_
    refine Eq.trans (st1 dX12_comes_29 rfl rfl) ?_
    refine Eq.trans (al1m dX12_comes_30 ka_533) (gd_congr fun g1 => ?_)
    refine Eq.trans (st1 dX12_comes_31 rfl rfl) ?_
    refine Eq.trans (st1 dX12_comes_32 rfl rfl) ?_
    refine Eq.trans (al1m dX12_comes_33 ka_534) (gd_congr fun g2 => ?_)
    refine Eq.trans (xiconst dX12_comes_34 ci_1) ?_
    refine Eq.trans (st1 dX12_comes_35 rfl rfl) ?_
    refine Eq.trans (as1m dX12_comes_36 ka_534) (Eq.trans (gd_t g2) ?_)
    rfl
theorem q_X12_comes_37 {call : CALL} {L X : Nat} {I : Nat → Nat → Int32} {J : Nat → Nat → Int64} {u1 : Option Value} {x2 : Int32} : runI call iX12_comes (37, [some (.ref 72), u1, some (.int x2)], [], (mm L X I J)) = if x2 = (nI 8) then runI call iX12_comes (63, [some (.ref 72), u1, some (.int x2)], [], (mm L X I J)) else gd (inb ((nI 0) + x2) 31) (gd (inb ((nI 12) + (I 533 (((nI 0) + x2)).toNatClampNeg)) 31) (runI call iX12_comes (63, [some (.ref 72), u1, some (.int x2)], [], (mm L X (up2 I 534 (((nI 12) + (I 533 (((nI 0) + x2)).toNatClampNeg))).toNatClampNeg ((I 534 (((nI 12) + (I 533 (((nI 0) + x2)).toNatClampNeg))).toNatClampNeg) - (nI 1))) J)))) := by
  refine Eq.trans (st1 dX12_comes_37 rfl rfl) ?_
  refine Eq.trans (xbipush dX12_comes_38 cb_8) ?_
  refine Eq.trans (ic_eq (tgt := 63) dX12_comes_40 (by decide +kernel)) (ite_cong (fun _ => ?_) (fun _ => ?_))
  · rfl
  · refine Eq.trans (st1 dX12_comes_43 rfl rfl) ?_
    refine Eq.trans (getRm dX12_comes_44 cp_12_70 ka_72 rfl r_72_30) ?_
    refine Eq.trans (xbipush dX12_comes_47 cb_12) ?_
    refine Eq.trans (st1 dX12_comes_49 rfl rfl) ?_
    refine Eq.trans (getRm dX12_comes_50 cp_12_67 ka_72 rfl r_72_29) ?_
    refine Eq.trans (xiconst dX12_comes_53 ci_0) ?_
    refine Eq.trans (st1 dX12_comes_54 rfl rfl) ?_
    refine Eq.trans (st1 dX12_comes_55 rfl rfl) ?_
    refine Eq.trans (al1m dX12_comes_56 ka_533) (gd_congr fun g1 => ?_)
    refine Eq.trans (st1 dX12_comes_57 rfl rfl) ?_
    refine Eq.trans (st1 dX12_comes_58 rfl rfl) ?_
    refine Eq.trans (al1m dX12_comes_59 ka_534) (gd_congr fun g2 => ?_)
    refine Eq.trans (xiconst dX12_comes_60 ci_1) ?_
    refine Eq.trans (st1 dX12_comes_61 rfl rfl) ?_
    refine Eq.trans (as1m dX12_comes_62 ka_534) (Eq.trans (gd_t g2) ?_)
    rfl
theorem q_X12_comes_63 {call : CALL} {L X : Nat} {I : Nat → Nat → Int32} {J : Nat → Nat → Int64} {u1 : Option Value} {u2 : Option Value} : runI call iX12_comes (63, [some (.ref 72), u1, u2], [], (mm L X I J)) = bnd (call nX12_arrives [.ref 72, .ref 534] (mm L X I J)) (fun v m' => runI call iX12_comes (71, [some (.ref 72), u1, u2], v.toList ++ [], m')) := by
  refine Eq.trans (st1 dX12_comes_63 rfl rfl) ?_
  refine Eq.trans (st1 dX12_comes_64 rfl rfl) ?_
  refine Eq.trans (getRm dX12_comes_65 cp_12_70 ka_72 rfl r_72_30) ?_
  exact iv0 dX12_comes_68 rfl cp_12_300 rfl rfl (kd_ka ka_72) ka_72.1 (Nat.le_of_ble_eq_true rfl)
theorem q_X12_comes_71 {call : CALL} {L X : Nat} {I : Nat → Nat → Int32} {J : Nat → Nat → Int64} {u0 : Option Value} {u1 : Option Value} {u2 : Option Value} {s0 : Int32} : runI call iX12_comes (71, [u0, u1, u2], [.int s0], (mm L X I J)) = some (.inl (some (.int s0)), (mm L X I J)) := by
  exact ret0 dX12_comes_71 rfl
