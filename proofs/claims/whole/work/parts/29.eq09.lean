/-! EQUATIONS OF THE METHODS (written by gen_eq.py) -/
theorem q_X12_houseHas_0 {call : CALL} {L X : Nat} {I : Nat → Nat → Int32} {J : Nat → Nat → Int64} {x1 : Int32} {x2 : Int32} {x3 : Int32} : runI call iX12_houseHas (0, [some (.ref 72), some (.int x1), some (.int x2), some (.int x3)], [], (mm L X I J)) = bnd (call nX12_comes [.ref 72, .int x1, .int x2] (mm L X I J)) (fun v m' => runI call iX12_houseHas (6, [some (.ref 72), some (.int x1), some (.int x2), some (.int x3)], v.toList ++ [], m')) := by
  refine Eq.trans (st1 dX12_houseHas_0 rfl rfl) ?_
  refine Eq.trans (st1 dX12_houseHas_1 rfl rfl) ?_
  refine Eq.trans (st1 dX12_houseHas_2 rfl rfl) ?_
  exact iv0 dX12_houseHas_3 rfl cp_12_404 rfl rfl (kd_ka ka_72) ka_72.1 (Nat.le_of_ble_eq_true rfl)
theorem q_X12_houseHas_6 {call : CALL} {L X : Nat} {I : Nat → Nat → Int32} {J : Nat → Nat → Int64} {u0 : Option Value} {u1 : Option Value} {x2 : Int32} {x3 : Int32} {s0 : Int32} : runI call iX12_houseHas (6, [u0, u1, some (.int x2), some (.int x3)], [.int s0], (mm L X I J)) = if x2 = (nI 8) then runI call iX12_houseHas (17, [u0, u1, some (.int x2), some (.int x3)], [.int (nI 0), .int s0], (mm L X I J)) else runI call iX12_houseHas (17, [u0, u1, some (.int x2), some (.int x3)], [.int x3, .int s0], (mm L X I J)) := by
  refine Eq.trans (st1 dX12_houseHas_6 rfl rfl) ?_
  refine Eq.trans (xbipush dX12_houseHas_7 cb_8) ?_
  refine Eq.trans (ic_ne (tgt := 16) dX12_houseHas_9 (by decide +kernel)) (ite_cong (fun _ => ?_) (fun _ => ?_))
  · refine Eq.trans (xiconst dX12_houseHas_12 ci_0) ?_
    refine Eq.trans (go_to (tgt := 17) dX12_houseHas_13 (by decide +kernel)) ?_
    rfl
  · refine Eq.trans (st1 dX12_houseHas_16 rfl rfl) ?_
    rfl
theorem q_X12_houseHas_17 {call : CALL} {L X : Nat} {I : Nat → Nat → Int32} {J : Nat → Nat → Int64} {u0 : Option Value} {u1 : Option Value} {u2 : Option Value} {u3 : Option Value} {s0 : Int32} {s1 : Int32} : runI call iX12_houseHas (17, [u0, u1, u2, u3], [.int s1, .int s0], (mm L X I J)) = some (.inl (some (.int (s0 - s1))), (mm L X I J)) := by
  refine Eq.trans (st1 dX12_houseHas_17 rfl rfl) ?_
  exact ret0 dX12_houseHas_18 rfl
theorem q_X12_share_0 {call : CALL} {L X : Nat} {I : Nat → Nat → Int32} {J : Nat → Nat → Int64} {x1 : Int32} {x2 : Int32} {x3 : Int32} : runI call iX12_share (0, [some (.ref 72), some (.int x1), some (.int x2), some (.int x3), none], [], (mm L X I J)) = bnd (call nX12_isFire [.ref 72, .int x1] (mm L X (up2 I 72 0 (nI 0)) J)) (fun v m' => runI call iX12_share (11, [some (.ref 72), some (.int x1), some (.int x2), some (.int x3), none], v.toList ++ [.ref 72], m')) := by
  refine Eq.trans (st1 dX12_share_0 rfl rfl) ?_
  refine Eq.trans (xiconst dX12_share_1 ci_0) ?_
  refine Eq.trans (putIm dX12_share_2 cp_12_103 ka_72 rfl) ?_
  refine Eq.trans (st1 dX12_share_5 rfl rfl) ?_
  refine Eq.trans (st1 dX12_share_6 rfl rfl) ?_
  refine Eq.trans (st1 dX12_share_7 rfl rfl) ?_
  exact iv0 dX12_share_8 rfl cp_12_360 rfl rfl (kd_ka ka_72) ka_72.1 (Nat.le_of_ble_eq_true rfl)
theorem q_X12_share_11 {call : CALL} {L X : Nat} {I : Nat → Nat → Int32} {J : Nat → Nat → Int64} {x1 : Int32} {x2 : Int32} {x3 : Int32} {u4 : Option Value} {s1 : Int32} : runI call iX12_share (11, [some (.ref 72), some (.int x1), some (.int x2), some (.int x3), u4], [.int s1, .ref 72], (mm L X I J)) = if s1 = (nI 0) then runI call iX12_share (19, [some (.ref 72), some (.int x1), some (.int x2), some (.int x3), u4], [.int (nI 1), .ref 72], (mm L X I J)) else runI call iX12_share (19, [some (.ref 72), some (.int x1), some (.int x2), some (.int x3), u4], [.int (nI 0), .ref 72], (mm L X I J)) := by
  refine Eq.trans (if_ne (tgt := 18) dX12_share_11 (by decide +kernel)) (ite_cong (fun _ => ?_) (fun _ => ?_))
  · refine Eq.trans (xiconst dX12_share_14 ci_1) ?_
    refine Eq.trans (go_to (tgt := 19) dX12_share_15 (by decide +kernel)) ?_
    rfl
  · refine Eq.trans (xiconst dX12_share_18 ci_0) ?_
    rfl
theorem q_X12_share_19 {call : CALL} {L X : Nat} {I : Nat → Nat → Int32} {J : Nat → Nat → Int64} {x1 : Int32} {x2 : Int32} {x3 : Int32} {u4 : Option Value} {s1 : Int32} : runI call iX12_share (19, [some (.ref 72), some (.int x1), some (.int x2), some (.int x3), u4], [.int s1, .ref 72], (mm L X I J)) = bnd (call nX12_bad [.ref 72, .int s1, .int (nI 1), .int (nI 0)] (mm L X I J)) (fun v m' => runI call iX12_share (24, [some (.ref 72), some (.int x1), some (.int x2), some (.int x3), u4], v.toList ++ [], m')) := by
  refine Eq.trans (xiconst dX12_share_19 ci_1) ?_
  refine Eq.trans (xiconst dX12_share_20 ci_0) ?_
  exact iv0 dX12_share_21 rfl cp_12_182 rfl rfl (kd_ka ka_72) ka_72.1 (Nat.le_of_ble_eq_true rfl)
theorem q_X12_share_24 {call : CALL} {L X : Nat} {I : Nat → Nat → Int32} {J : Nat → Nat → Int64} {x1 : Int32} {x2 : Int32} {x3 : Int32} {u4 : Option Value} {s0 : Int32} : runI call iX12_share (24, [some (.ref 72), some (.int x1), some (.int x2), some (.int x3), u4], [.int s0], (mm L X I J)) = if s0 = (nI 0) then bndN (call nX12_in [.int x2, .int (nI 0), .int (((nI 1) <<< ((I 76 2) &&& 31)) - (nI 1))] (mm L X I J)) (fun v m' => runI call iX12_share (43, [some (.ref 72), some (.int x1), some (.int x2), some (.int x3), u4], v.toList ++ [.ref 72], m')) else some (.inl (some (.int (nI 0))), (mm L X I J)) := by
  refine Eq.trans (if_ne (tgt := 70) dX12_share_24 (by decide +kernel)) (ite_cong (fun _ => ?_) (fun _ => ?_))
  · refine Eq.trans (st1 dX12_share_27 rfl rfl) ?_
    refine Eq.trans (st1 dX12_share_28 rfl rfl) ?_
    refine Eq.trans (xiconst dX12_share_29 ci_0) ?_
    refine Eq.trans (xiconst dX12_share_30 ci_1) ?_
    refine Eq.trans (st1 dX12_share_31 rfl rfl) ?_
    refine Eq.trans (getRm dX12_share_32 cp_12_23 ka_72 rfl r_72_12) ?_
    refine Eq.trans (xiconst dX12_share_35 ci_2) ?_
    refine Eq.trans (al1c dX12_share_36 ka_76 (by decide +kernel) nc_2) ?_
    refine Eq.trans (st1 dX12_share_37 rfl rfl) ?_
    refine Eq.trans (xiconst dX12_share_38 ci_1) ?_
    refine Eq.trans (st1 dX12_share_39 rfl rfl) ?_
    exact is2 dX12_share_40 cp_12_137 (Nat.le_of_ble_eq_true rfl) rfl rfl (Nat.le_of_ble_eq_true rfl)
  · refine Eq.trans (xiconst dX12_share_70 ci_0) ?_
    exact ret0 dX12_share_71 rfl
theorem q_X12_share_43 {call : CALL} {L X : Nat} {I : Nat → Nat → Int32} {J : Nat → Nat → Int64} {x1 : Int32} {x2 : Int32} {x3 : Int32} {u4 : Option Value} {s1 : Int32} : runI call iX12_share (43, [some (.ref 72), some (.int x1), some (.int x2), some (.int x3), u4], [.int s1, .ref 72], (mm L X I J)) = if s1 = (nI 0) then runI call iX12_share (57, [some (.ref 72), some (.int x1), some (.int x2), some (.int x3), u4], [.ref 72], (mm L X I J)) else bndN (call nX12_in [.int x3, .int (nI 0), .int (nI 999)] (mm L X I J)) (fun v m' => runI call iX12_share (54, [some (.ref 72), some (.int x1), some (.int x2), some (.int x3), u4], v.toList ++ [.ref 72], m')) := by
  refine Eq.trans (if_eq (tgt := 57) dX12_share_43 (by decide +kernel)) (ite_cong (fun _ => ?_) (fun _ => ?_))
  · rfl
  · refine Eq.trans (st1 dX12_share_46 rfl rfl) ?_
    refine Eq.trans (xiconst dX12_share_47 ci_0) ?_
    refine Eq.trans (xsipush dX12_share_48 cs_999) ?_
    exact is2 dX12_share_51 cp_12_137 (Nat.le_of_ble_eq_true rfl) rfl rfl (Nat.le_of_ble_eq_true rfl)
theorem q_X12_share_57 {call : CALL} {L X : Nat} {I : Nat → Nat → Int32} {J : Nat → Nat → Int64} {x1 : Int32} {x2 : Int32} {x3 : Int32} {u4 : Option Value} : runI call iX12_share (57, [some (.ref 72), some (.int x1), some (.int x2), some (.int x3), u4], [.ref 72], (mm L X I J)) = runI call iX12_share (62, [some (.ref 72), some (.int x1), some (.int x2), some (.int x3), u4], [.int (nI 1), .ref 72], (mm L X I J)) := by
  refine Eq.trans (xiconst dX12_share_57 ci_1) ?_
  refine Eq.trans (go_to (tgt := 62) dX12_share_58 (by decide +kernel)) ?_
  rfl
theorem q_X12_share_54 {call : CALL} {L X : Nat} {I : Nat → Nat → Int32} {J : Nat → Nat → Int64} {x1 : Int32} {x2 : Int32} {x3 : Int32} {u4 : Option Value} {s1 : Int32} : runI call iX12_share (54, [some (.ref 72), some (.int x1), some (.int x2), some (.int x3), u4], [.int s1, .ref 72], (mm L X I J)) = if s1 = (nI 0) then runI call iX12_share (57, [some (.ref 72), some (.int x1), some (.int x2), some (.int x3), u4], [.ref 72], (mm L X I J)) else runI call iX12_share (62, [some (.ref 72), some (.int x1), some (.int x2), some (.int x3), u4], [.int (nI 0), .ref 72], (mm L X I J)) := by
  refine Eq.trans (if_ne (tgt := 61) dX12_share_54 (by decide +kernel)) (ite_cong (fun _ => ?_) (fun _ => ?_))
  · rfl
  · refine Eq.trans (xiconst dX12_share_61 ci_0) ?_
    rfl
theorem q_X12_share_62 {call : CALL} {L X : Nat} {I : Nat → Nat → Int32} {J : Nat → Nat → Int64} {x1 : Int32} {x2 : Int32} {x3 : Int32} {u4 : Option Value} {s1 : Int32} : runI call iX12_share (62, [some (.ref 72), some (.int x1), some (.int x2), some (.int x3), u4], [.int s1, .ref 72], (mm L X I J)) = bnd (call nX12_bad [.ref 72, .int s1, .int (nI 2), .int (nI 1)] (mm L X I J)) (fun v m' => runI call iX12_share (67, [some (.ref 72), some (.int x1), some (.int x2), some (.int x3), u4], v.toList ++ [], m')) := by
  refine Eq.trans (xiconst dX12_share_62 ci_2) ?_
  refine Eq.trans (xiconst dX12_share_63 ci_1) ?_
  exact iv0 dX12_share_64 rfl cp_12_182 rfl rfl (kd_ka ka_72) ka_72.1 (Nat.le_of_ble_eq_true rfl)
theorem q_X12_share_67 {call : CALL} {L X : Nat} {I : Nat → Nat → Int32} {J : Nat → Nat → Int64} {x1 : Int32} {x2 : Int32} {x3 : Int32} {u4 : Option Value} {s0 : Int32} : runI call iX12_share (67, [some (.ref 72), some (.int x1), some (.int x2), some (.int x3), u4], [.int s0], (mm L X I J)) = if s0 = (nI 0) then runI call iX12_share (75, [some (.ref 72), some (.int x1), some (.int x2), some (.int x3), some (.int (nI 0))], [], (mm L X I J)) else some (.inl (some (.int (nI 0))), (mm L X I J)) := by
  refine Eq.trans (if_eq (tgt := 72) dX12_share_67 (by decide +kernel)) (ite_cong (fun _ => ?_) (fun _ => ?_))
  · refine Eq.trans (xiconst dX12_share_72 ci_0) ?_
    refine Eq.trans (st1 dX12_share_73 rfl rfl) ?_
    rfl
  · refine Eq.trans (xiconst dX12_share_70 ci_0) ?_
    exact ret0 dX12_share_71 rfl
theorem q_X12_share_75 {call : CALL} {L X : Nat} {I : Nat → Nat → Int32} {J : Nat → Nat → Int64} {x1 : Int32} {x2 : Int32} {x3 : Int32} {x4 : Int32} : runI call iX12_share (75, [some (.ref 72), some (.int x1), some (.int x2), some (.int x3), some (.int x4)], [], (mm L X I J)) = if (nI 99) ≤ x4 then runI call iX12_share (101, [some (.ref 72), some (.int x1), some (.int x2), some (.int x3), some (.int x4)], [], (mm L X I J)) else bnd (call nX12_givenBy [.ref 72, .int x2, .int (x4 + (nI 1))] (mm L X I J)) (fun v m' => runI call iX12_share (91, [some (.ref 72), some (.int x1), some (.int x2), some (.int x3), some (.int x4)], v.toList ++ [], m')) := by
  refine Eq.trans (st1 dX12_share_75 rfl rfl) ?_
  refine Eq.trans (xbipush dX12_share_77 cb_99) ?_
  refine Eq.trans (ic_ge (tgt := 101) dX12_share_79 (by decide +kernel)) (ite_cong (fun _ => ?_) (fun _ => ?_))
  · rfl
  · refine Eq.trans (st1 dX12_share_82 rfl rfl) ?_
    refine Eq.trans (st1 dX12_share_83 rfl rfl) ?_
    refine Eq.trans (st1 dX12_share_84 rfl rfl) ?_
    refine Eq.trans (xiconst dX12_share_86 ci_1) ?_
    refine Eq.trans (st1 dX12_share_87 rfl rfl) ?_
    exact iv0 dX12_share_88 rfl cp_12_422 rfl rfl (kd_ka ka_72) ka_72.1 (Nat.le_of_ble_eq_true rfl)
theorem q_X12_share_101 {call : CALL} {L X : Nat} {I : Nat → Nat → Int32} {J : Nat → Nat → Int64} {x1 : Int32} {x2 : Int32} {u3 : Option Value} {x4 : Int32} : runI call iX12_share (101, [some (.ref 72), some (.int x1), some (.int x2), u3, some (.int x4)], [], (mm L X I J)) = bndN (call nX12_has [.int x2, .int x1] (mm L X I J)) (fun v m' => runI call iX12_share (106, [some (.ref 72), some (.int x1), some (.int x2), u3, some (.int x4)], v.toList ++ [], m')) := by
  refine Eq.trans (st1 dX12_share_101 rfl rfl) ?_
  refine Eq.trans (st1 dX12_share_102 rfl rfl) ?_
  exact is2 dX12_share_103 cp_12_366 (Nat.le_of_ble_eq_true rfl) rfl rfl (Nat.le_of_ble_eq_true rfl)
theorem q_X12_share_91 {call : CALL} {L X : Nat} {I : Nat → Nat → Int32} {J : Nat → Nat → Int64} {x1 : Int32} {x2 : Int32} {x3 : Int32} {x4 : Int32} {s0 : Int32} : runI call iX12_share (91, [some (.ref 72), some (.int x1), some (.int x2), some (.int x3), some (.int x4)], [.int s0], (mm L X I J)) = if x3 < s0 then runI call iX12_share (101, [some (.ref 72), some (.int x1), some (.int x2), some (.int x3), some (.int x4)], [], (mm L X I J)) else runI call iX12_share (75, [some (.ref 72), some (.int x1), some (.int x2), some (.int x3), some (.int (x4 + (nI 1)))], [], (mm L X I J)) := by
  refine Eq.trans (st1 dX12_share_91 rfl rfl) ?_
  refine Eq.trans (ic_gt (tgt := 101) dX12_share_92 (by decide +kernel)) (ite_cong (fun _ => ?_) (fun _ => ?_))
  · rfl
  · refine Eq.trans (xinc2 dX12_share_95 ci_1 rfl (Nat.le_of_ble_eq_true rfl) rfl) ?_
    refine Eq.trans (go_to (tgt := 75) dX12_share_98 (by decide +kernel)) ?_
    rfl
theorem q_X12_share_106 {call : CALL} {L X : Nat} {I : Nat → Nat → Int32} {J : Nat → Nat → Int64} {x1 : Int32} {u2 : Option Value} {u3 : Option Value} {x4 : Int32} {s0 : Int32} : runI call iX12_share (106, [some (.ref 72), some (.int x1), u2, u3, some (.int x4)], [.int s0], (mm L X I J)) = if s0 = (nI 0) then some (.inl (some (.int (nI 0))), (mm L X I J)) else gd (inb x1 5) (bndN (call nX12_less [.int x4, .int (I (109 + (x1).toNatClampNeg) 1)] (mm L X I J)) (fun v m' => runI call iX12_share (122, [some (.ref 72), some (.int x1), u2, u3, some (.int x4)], v.toList ++ [], m'))) := by
  refine Eq.trans (if_eq (tgt := 125) dX12_share_106 (by decide +kernel)) (ite_cong (fun _ => ?_) (fun _ => ?_))
  · refine Eq.trans (xiconst dX12_share_125 ci_0) ?_
    exact ret0 dX12_share_126 rfl
  · refine Eq.trans (st1 dX12_share_109 rfl rfl) ?_
    refine Eq.trans (st1 dX12_share_111 rfl rfl) ?_
    refine Eq.trans (getRm dX12_share_112 cp_12_43 ka_72 rfl r_72_18) ?_
    refine Eq.trans (st1 dX12_share_115 rfl rfl) ?_
    refine Eq.trans (al4m dX12_share_116 ka_108 rr_108) (gd_congr fun g1 => ?_)
    refine Eq.trans (xiconst dX12_share_117 ci_1) ?_
    refine Eq.trans (al1c dX12_share_118 (kr_108 (inb_lt g1)) (by decide +kernel) nc_1) ?_
    exact is2 dX12_share_119 cp_12_245 (Nat.le_of_ble_eq_true rfl) rfl rfl (Nat.le_of_ble_eq_true rfl)
theorem q_X12_share_122 {call : CALL} {L X : Nat} {I : Nat → Nat → Int32} {J : Nat → Nat → Int64} {u0 : Option Value} {u1 : Option Value} {u2 : Option Value} {u3 : Option Value} {u4 : Option Value} {s0 : Int32} : runI call iX12_share (122, [u0, u1, u2, u3, u4], [.int s0], (mm L X I J)) = some (.inl (some (.int s0)), (mm L X I J)) := by
  refine Eq.trans (go_to (tgt := 126) dX12_share_122 (by decide +kernel)) ?_
  exact ret0 dX12_share_126 rfl
theorem q_X12_givenBy_0 {call : CALL} {L X : Nat} {I : Nat → Nat → Int32} {J : Nat → Nat → Int64} {x1 : Int32} {x2 : Int32} : runI call iX12_givenBy (0, [some (.ref 72), some (.int x1), some (.int x2), none, none], [], (mm L X I J)) = runI call iX12_givenBy (5, [some (.ref 72), some (.int x1), some (.int x2), some (.int (nI 0)), some (.int (nI 0))], [], (mm L X I J)) := by
  refine Eq.trans (xiconst dX12_givenBy_0 ci_0) ?_
  refine Eq.trans (st1 dX12_givenBy_1 rfl rfl) ?_
  refine Eq.trans (xiconst dX12_givenBy_2 ci_0) ?_
  refine Eq.trans (st1 dX12_givenBy_3 rfl rfl) ?_
  rfl
theorem q_X12_givenBy_5 {call : CALL} {L X : Nat} {I : Nat → Nat → Int32} {J : Nat → Nat → Int64} {x1 : Int32} {x2 : Int32} {x3 : Int32} {x4 : Int32} : runI call iX12_givenBy (5, [some (.ref 72), some (.int x1), some (.int x2), some (.int x3), some (.int x4)], [], (mm L X I J)) = if (I 76 2) ≤ x4 then some (.inl (some (.int x3)), (mm L X I J)) else bndN (call nX12_has [.int x1, .int x4] (mm L X I J)) (fun v m' => runI call iX12_givenBy (23, [some (.ref 72), some (.int x1), some (.int x2), some (.int x3), some (.int x4)], v.toList ++ [.int x3], m')) := by
  refine Eq.trans (st1 dX12_givenBy_5 rfl rfl) ?_
  refine Eq.trans (st1 dX12_givenBy_7 rfl rfl) ?_
  refine Eq.trans (getRm dX12_givenBy_8 cp_12_23 ka_72 rfl r_72_12) ?_
  refine Eq.trans (xiconst dX12_givenBy_11 ci_2) ?_
  refine Eq.trans (al1c dX12_givenBy_12 ka_76 (by decide +kernel) nc_2) ?_
  refine Eq.trans (ic_ge (tgt := 51) dX12_givenBy_13 (by decide +kernel)) (ite_cong (fun _ => ?_) (fun _ => ?_))
  · refine Eq.trans (st1 dX12_givenBy_51 rfl rfl) ?_
    exact ret0 dX12_givenBy_52 rfl
  · refine Eq.trans (st1 dX12_givenBy_16 rfl rfl) ?_
    refine Eq.trans (st1 dX12_givenBy_17 rfl rfl) ?_
    refine Eq.trans (st1 dX12_givenBy_18 rfl rfl) ?_
    exact is2 dX12_givenBy_20 cp_12_366 (Nat.le_of_ble_eq_true rfl) rfl rfl (Nat.le_of_ble_eq_true rfl)
theorem q_X12_givenBy_23 {call : CALL} {L X : Nat} {I : Nat → Nat → Int32} {J : Nat → Nat → Int64} {x1 : Int32} {x2 : Int32} {u3 : Option Value} {x4 : Int32} {s0 : Int32} {s1 : Int32} : runI call iX12_givenBy (23, [some (.ref 72), some (.int x1), some (.int x2), u3, some (.int x4)], [.int s1, .int s0], (mm L X I J)) = if s1 = (nI 0) then runI call iX12_givenBy (43, [some (.ref 72), some (.int x1), some (.int x2), u3, some (.int x4)], [.int (nI 0), .int s0], (mm L X I J)) else gd (inb x4 5) (bndN (call nX12_less [.int x2, .int (I (109 + (x4).toNatClampNeg) 1)] (mm L X I J)) (fun v m' => runI call iX12_givenBy (39, [some (.ref 72), some (.int x1), some (.int x2), u3, some (.int x4)], v.toList ++ [.int s0], m'))) := by
  refine Eq.trans (if_eq (tgt := 42) dX12_givenBy_23 (by decide +kernel)) (ite_cong (fun _ => ?_) (fun _ => ?_))
  · refine Eq.trans (xiconst dX12_givenBy_42 ci_0) ?_
    rfl
  · refine Eq.trans (st1 dX12_givenBy_26 rfl rfl) ?_
    refine Eq.trans (st1 dX12_givenBy_27 rfl rfl) ?_
    refine Eq.trans (getRm dX12_givenBy_28 cp_12_43 ka_72 rfl r_72_18) ?_
    refine Eq.trans (st1 dX12_givenBy_31 rfl rfl) ?_
    refine Eq.trans (al4m dX12_givenBy_33 ka_108 rr_108) (gd_congr fun g1 => ?_)
    refine Eq.trans (xiconst dX12_givenBy_34 ci_1) ?_
    refine Eq.trans (al1c dX12_givenBy_35 (kr_108 (inb_lt g1)) (by decide +kernel) nc_1) ?_
    exact is2 dX12_givenBy_36 cp_12_245 (Nat.le_of_ble_eq_true rfl) rfl rfl (Nat.le_of_ble_eq_true rfl)
theorem q_X12_givenBy_43 {call : CALL} {L X : Nat} {I : Nat → Nat → Int32} {J : Nat → Nat → Int64} {x1 : Int32} {x2 : Int32} {u3 : Option Value} {x4 : Int32} {s0 : Int32} {s1 : Int32} : runI call iX12_givenBy (43, [some (.ref 72), some (.int x1), some (.int x2), u3, some (.int x4)], [.int s1, .int s0], (mm L X I J)) = runI call iX12_givenBy (5, [some (.ref 72), some (.int x1), some (.int x2), some (.int (s0 + s1)), some (.int (x4 + (nI 1)))], [], (mm L X I J)) := by
  refine Eq.trans (st1 dX12_givenBy_43 rfl rfl) ?_
  refine Eq.trans (st1 dX12_givenBy_44 rfl rfl) ?_
  refine Eq.trans (xinc2 dX12_givenBy_45 ci_1 rfl (Nat.le_of_ble_eq_true rfl) rfl) ?_
  refine Eq.trans (go_to (tgt := 5) dX12_givenBy_48 (by decide +kernel)) ?_
  rfl
theorem q_X12_givenBy_39 {call : CALL} {L X : Nat} {I : Nat → Nat → Int32} {J : Nat → Nat → Int64} {x1 : Int32} {x2 : Int32} {u3 : Option Value} {x4 : Int32} {s0 : Int32} {s1 : Int32} : runI call iX12_givenBy (39, [some (.ref 72), some (.int x1), some (.int x2), u3, some (.int x4)], [.int s1, .int s0], (mm L X I J)) = runI call iX12_givenBy (43, [some (.ref 72), some (.int x1), some (.int x2), u3, some (.int x4)], [.int s1, .int s0], (mm L X I J)) := by
  refine Eq.trans (go_to (tgt := 43) dX12_givenBy_39 (by decide +kernel)) ?_
  rfl
theorem q_X12_next_0 {call : CALL} {L X : Nat} {I : Nat → Nat → Int32} {J : Nat → Nat → Int64} {x1 : Int32} : runI call iX12_next (0, [some (.ref 72), some (.int x1), none, none], [], (mm L X I J)) = bndN (call nX12_in [.int x1, .int (nI 0), .int (nI 1)] (mm L X (up2 I 72 0 (nI 0)) J)) (fun v m' => runI call iX12_next (12, [some (.ref 72), some (.int x1), none, none], v.toList ++ [.ref 72], m')) := by
  refine Eq.trans (st1 dX12_next_0 rfl rfl) ?_
  refine Eq.trans (xiconst dX12_next_1 ci_0) ?_
  refine Eq.trans (putIm dX12_next_2 cp_12_103 ka_72 rfl) ?_
  refine Eq.trans (st1 dX12_next_5 rfl rfl) ?_
  refine Eq.trans (st1 dX12_next_6 rfl rfl) ?_
  refine Eq.trans (xiconst dX12_next_7 ci_0) ?_
  refine Eq.trans (xiconst dX12_next_8 ci_1) ?_
  exact is2 dX12_next_9 cp_12_137 (Nat.le_of_ble_eq_true rfl) rfl rfl (Nat.le_of_ble_eq_true rfl)
theorem q_X12_next_12 {call : CALL} {L X : Nat} {I : Nat → Nat → Int32} {J : Nat → Nat → Int64} {x1 : Int32} {u2 : Option Value} {u3 : Option Value} {s1 : Int32} : runI call iX12_next (12, [some (.ref 72), some (.int x1), u2, u3], [.int s1, .ref 72], (mm L X I J)) = if s1 = (nI 0) then runI call iX12_next (20, [some (.ref 72), some (.int x1), u2, u3], [.int (nI 1), .ref 72], (mm L X I J)) else runI call iX12_next (20, [some (.ref 72), some (.int x1), u2, u3], [.int (nI 0), .ref 72], (mm L X I J)) := by
  refine Eq.trans (if_ne (tgt := 19) dX12_next_12 (by decide +kernel)) (ite_cong (fun _ => ?_) (fun _ => ?_))
  · refine Eq.trans (xiconst dX12_next_15 ci_1) ?_
    refine Eq.trans (go_to (tgt := 20) dX12_next_16 (by decide +kernel)) ?_
    rfl
  · refine Eq.trans (xiconst dX12_next_19 ci_0) ?_
    rfl
theorem q_X12_next_20 {call : CALL} {L X : Nat} {I : Nat → Nat → Int32} {J : Nat → Nat → Int64} {x1 : Int32} {u2 : Option Value} {u3 : Option Value} {s1 : Int32} : runI call iX12_next (20, [some (.ref 72), some (.int x1), u2, u3], [.int s1, .ref 72], (mm L X I J)) = bnd (call nX12_bad [.ref 72, .int s1, .int (nI 1), .int (nI 1)] (mm L X I J)) (fun v m' => runI call iX12_next (25, [some (.ref 72), some (.int x1), u2, u3], v.toList ++ [], m')) := by
  refine Eq.trans (xiconst dX12_next_20 ci_1) ?_
  refine Eq.trans (xiconst dX12_next_21 ci_1) ?_
  exact iv0 dX12_next_22 rfl cp_12_182 rfl rfl (kd_ka ka_72) ka_72.1 (Nat.le_of_ble_eq_true rfl)
theorem q_X12_next_25 {call : CALL} {L X : Nat} {I : Nat → Nat → Int32} {J : Nat → Nat → Int64} {x1 : Int32} {u2 : Option Value} {u3 : Option Value} {s0 : Int32} : runI call iX12_next (25, [some (.ref 72), some (.int x1), u2, u3], [.int s0], (mm L X I J)) = if s0 = (nI 0) then runI call iX12_next (34, [some (.ref 72), some (.int x1), some (.int (nI 0)), some (.int (nI 0))], [], (mm L X I J)) else some (.inl (some (.int (nI 0))), (mm L X I J)) := by
  refine Eq.trans (if_eq (tgt := 30) dX12_next_25 (by decide +kernel)) (ite_cong (fun _ => ?_) (fun _ => ?_))
  · refine Eq.trans (xiconst dX12_next_30 ci_0) ?_
    refine Eq.trans (st1 dX12_next_31 rfl rfl) ?_
    refine Eq.trans (xiconst dX12_next_32 ci_0) ?_
    refine Eq.trans (st1 dX12_next_33 rfl rfl) ?_
    rfl
  · refine Eq.trans (xiconst dX12_next_28 ci_0) ?_
    exact ret0 dX12_next_29 rfl
theorem q_X12_next_34 {call : CALL} {L X : Nat} {I : Nat → Nat → Int32} {J : Nat → Nat → Int64} {x1 : Int32} {x2 : Int32} {x3 : Int32} : runI call iX12_next (34, [some (.ref 72), some (.int x1), some (.int x2), some (.int x3)], [], (mm L X I J)) = if (I 76 0) ≤ x3 then some (.inl (some (.int x2)), (mm L X I J)) else if x1 = (nI 0) then gd (inb ((nI 6) + x3) 31) (runI call iX12_next (78, [some (.ref 72), some (.int x1), some (.int x2), some (.int x3)], [.int (I 533 (((nI 6) + x3)).toNatClampNeg), .int x3, .ref 533, .ref 72, .int x2], (mm L X I J))) else gd (inb ((nI 6) + x3) 31) (runI call iX12_next (78, [some (.ref 72), some (.int x1), some (.int x2), some (.int x3)], [.int ((nI 1) - (I 533 (((nI 6) + x3)).toNatClampNeg)), .int x3, .ref 533, .ref 72, .int x2], (mm L X I J))) := by
  refine Eq.trans (st1 dX12_next_34 rfl rfl) ?_
  refine Eq.trans (st1 dX12_next_35 rfl rfl) ?_
  refine Eq.trans (getRm dX12_next_36 cp_12_23 ka_72 rfl r_72_12) ?_
  refine Eq.trans (xiconst dX12_next_39 ci_0) ?_
  refine Eq.trans (al1c dX12_next_40 ka_76 (by decide +kernel) nc_0) ?_
  refine Eq.trans (ic_ge (tgt := 99) dX12_next_41 (by decide +kernel)) (ite_cong (fun _ => ?_) (fun _ => ?_))
  · refine Eq.trans (st1 dX12_next_99 rfl rfl) ?_
    exact ret0 dX12_next_100 rfl
  · refine Eq.trans (st1 dX12_next_44 rfl rfl) ?_
    refine Eq.trans (st1 dX12_next_45 rfl rfl) ?_
    refine Eq.trans (st1 dX12_next_46 rfl rfl) ?_
    refine Eq.trans (getRm dX12_next_47 cp_12_67 ka_72 rfl r_72_29) ?_
    refine Eq.trans (st1 dX12_next_50 rfl rfl) ?_
    refine Eq.trans (st1 dX12_next_51 rfl rfl) ?_
    refine Eq.trans (if_ne (tgt := 67) dX12_next_52 (by decide +kernel)) (ite_cong (fun _ => ?_) (fun _ => ?_))
    · refine Eq.trans (st1 dX12_next_55 rfl rfl) ?_
      refine Eq.trans (getRm dX12_next_56 cp_12_67 ka_72 rfl r_72_29) ?_
      refine Eq.trans (xbipush dX12_next_59 cb_6) ?_
      refine Eq.trans (st1 dX12_next_61 rfl rfl) ?_
      refine Eq.trans (st1 dX12_next_62 rfl rfl) ?_
      refine Eq.trans (al1m dX12_next_63 ka_533) (gd_congr fun g2 => ?_)
      refine Eq.trans (go_to (tgt := 78) dX12_next_64 (by decide +kernel)) ?_
      rfl
    · refine Eq.trans (xiconst dX12_next_67 ci_1) ?_
      refine Eq.trans (st1 dX12_next_68 rfl rfl) ?_
      refine Eq.trans (getRm dX12_next_69 cp_12_67 ka_72 rfl r_72_29) ?_
      refine Eq.trans (xbipush dX12_next_72 cb_6) ?_
      refine Eq.trans (st1 dX12_next_74 rfl rfl) ?_
      refine Eq.trans (st1 dX12_next_75 rfl rfl) ?_
      refine Eq.trans (al1m dX12_next_76 ka_533) (gd_congr fun g1 => ?_)
      refine Eq.trans (st1 dX12_next_77 rfl rfl) ?_
      rfl
theorem q_X12_next_78 {call : CALL} {L X : Nat} {I : Nat → Nat → Int32} {J : Nat → Nat → Int64} {x1 : Int32} {u2 : Option Value} {x3 : Int32} {s0 : Int32} {s3 : Int32} {s4 : Int32} : runI call iX12_next (78, [some (.ref 72), some (.int x1), u2, some (.int x3)], [.int s4, .int s3, .ref 533, .ref 72, .int s0], (mm L X I J)) = bnd (call nX12_canLay [.ref 72, .ref 533, .int s3, .int s4] (mm L X I J)) (fun v m' => runI call iX12_next (81, [some (.ref 72), some (.int x1), u2, some (.int x3)], v.toList ++ [.int s0], m')) := by
  exact iv0 dX12_next_78 rfl cp_12_310 rfl rfl (kd_ka ka_72) ka_72.1 (Nat.le_of_ble_eq_true rfl)
theorem q_X12_next_81 {call : CALL} {L X : Nat} {I : Nat → Nat → Int32} {J : Nat → Nat → Int64} {x1 : Int32} {u2 : Option Value} {x3 : Int32} {s0 : Int32} {s1 : Int32} : runI call iX12_next (81, [some (.ref 72), some (.int x1), u2, some (.int x3)], [.int s1, .int s0], (mm L X I J)) = if s1 = (nI 0) then runI call iX12_next (91, [some (.ref 72), some (.int x1), u2, some (.int x3)], [.int (nI 0), .int s0], (mm L X I J)) else runI call iX12_next (91, [some (.ref 72), some (.int x1), u2, some (.int x3)], [.int ((nI 1) <<< (x3 &&& 31)), .int s0], (mm L X I J)) := by
  refine Eq.trans (if_eq (tgt := 90) dX12_next_81 (by decide +kernel)) (ite_cong (fun _ => ?_) (fun _ => ?_))
  · refine Eq.trans (xiconst dX12_next_90 ci_0) ?_
    rfl
  · refine Eq.trans (xiconst dX12_next_84 ci_1) ?_
    refine Eq.trans (st1 dX12_next_85 rfl rfl) ?_
    refine Eq.trans (st1 dX12_next_86 rfl rfl) ?_
    refine Eq.trans (go_to (tgt := 91) dX12_next_87 (by decide +kernel)) ?_
    rfl
theorem q_X12_next_91 {call : CALL} {L X : Nat} {I : Nat → Nat → Int32} {J : Nat → Nat → Int64} {x1 : Int32} {u2 : Option Value} {x3 : Int32} {s0 : Int32} {s1 : Int32} : runI call iX12_next (91, [some (.ref 72), some (.int x1), u2, some (.int x3)], [.int s1, .int s0], (mm L X I J)) = runI call iX12_next (34, [some (.ref 72), some (.int x1), some (.int (s0 ||| s1)), some (.int (x3 + (nI 1)))], [], (mm L X I J)) := by
  refine Eq.trans (st1 dX12_next_91 rfl rfl) ?_
  refine Eq.trans (st1 dX12_next_92 rfl rfl) ?_
  refine Eq.trans (xinc2 dX12_next_93 ci_1 rfl (Nat.le_of_ble_eq_true rfl) rfl) ?_
  refine Eq.trans (go_to (tgt := 34) dX12_next_96 (by decide +kernel)) ?_
  rfl
theorem q_X12_worst_0 {call : CALL} {L X : Nat} {I : Nat → Nat → Int32} {J : Nat → Nat → Int64} {x1 : Int32} : runI call iX12_worst (0, [some (.ref 72), some (.int x1), none, none, none, none], [], (mm L X I J)) = bndN (call nX12_in [.int x1, .int (nI 0), .int (nI 1)] (mm L X (up2 I 72 0 (nI 0)) J)) (fun v m' => runI call iX12_worst (12, [some (.ref 72), some (.int x1), none, none, none, none], v.toList ++ [.ref 72], m')) := by
  refine Eq.trans (st1 dX12_worst_0 rfl rfl) ?_
  refine Eq.trans (xiconst dX12_worst_1 ci_0) ?_
  refine Eq.trans (putIm dX12_worst_2 cp_12_103 ka_72 rfl) ?_
  refine Eq.trans (st1 dX12_worst_5 rfl rfl) ?_
  refine Eq.trans (st1 dX12_worst_6 rfl rfl) ?_
  refine Eq.trans (xiconst dX12_worst_7 ci_0) ?_
  refine Eq.trans (xiconst dX12_worst_8 ci_1) ?_
  exact is2 dX12_worst_9 cp_12_137 (Nat.le_of_ble_eq_true rfl) rfl rfl (Nat.le_of_ble_eq_true rfl)
theorem q_X12_worst_12 {call : CALL} {L X : Nat} {I : Nat → Nat → Int32} {J : Nat → Nat → Int64} {x1 : Int32} {u2 : Option Value} {u3 : Option Value} {u4 : Option Value} {u5 : Option Value} {s1 : Int32} : runI call iX12_worst (12, [some (.ref 72), some (.int x1), u2, u3, u4, u5], [.int s1, .ref 72], (mm L X I J)) = if s1 = (nI 0) then runI call iX12_worst (20, [some (.ref 72), some (.int x1), u2, u3, u4, u5], [.int (nI 1), .ref 72], (mm L X I J)) else runI call iX12_worst (20, [some (.ref 72), some (.int x1), u2, u3, u4, u5], [.int (nI 0), .ref 72], (mm L X I J)) := by
  refine Eq.trans (if_ne (tgt := 19) dX12_worst_12 (by decide +kernel)) (ite_cong (fun _ => ?_) (fun _ => ?_))
  · refine Eq.trans (xiconst dX12_worst_15 ci_1) ?_
    refine Eq.trans (go_to (tgt := 20) dX12_worst_16 (by decide +kernel)) ?_
    rfl
  · refine Eq.trans (xiconst dX12_worst_19 ci_0) ?_
    rfl
theorem q_X12_worst_20 {call : CALL} {L X : Nat} {I : Nat → Nat → Int32} {J : Nat → Nat → Int64} {x1 : Int32} {u2 : Option Value} {u3 : Option Value} {u4 : Option Value} {u5 : Option Value} {s1 : Int32} : runI call iX12_worst (20, [some (.ref 72), some (.int x1), u2, u3, u4, u5], [.int s1, .ref 72], (mm L X I J)) = bnd (call nX12_bad [.ref 72, .int s1, .int (nI 1), .int (nI 1)] (mm L X I J)) (fun v m' => runI call iX12_worst (25, [some (.ref 72), some (.int x1), u2, u3, u4, u5], v.toList ++ [], m')) := by
  refine Eq.trans (xiconst dX12_worst_20 ci_1) ?_
  refine Eq.trans (xiconst dX12_worst_21 ci_1) ?_
  exact iv0 dX12_worst_22 rfl cp_12_182 rfl rfl (kd_ka ka_72) ka_72.1 (Nat.le_of_ble_eq_true rfl)
theorem q_X12_worst_25 {call : CALL} {L X : Nat} {I : Nat → Nat → Int32} {J : Nat → Nat → Int64} {x1 : Int32} {u2 : Option Value} {u3 : Option Value} {u4 : Option Value} {u5 : Option Value} {s0 : Int32} : runI call iX12_worst (25, [some (.ref 72), some (.int x1), u2, u3, u4, u5], [.int s0], (mm L X I J)) = if s0 = (nI 0) then bnd (call nX12_arrives [.ref 72, .ref 533] (mm L X I J)) (fun v m' => runI call iX12_worst (42, [some (.ref 72), some (.int x1), some (.int (-1 : Int32)), some (.int (nI 0)), u4, u5], v.toList ++ [], m')) else some (.inl (some (.int (nI 0))), (mm L X I J)) := by
  refine Eq.trans (if_eq (tgt := 30) dX12_worst_25 (by decide +kernel)) (ite_cong (fun _ => ?_) (fun _ => ?_))
  · refine Eq.trans (xiconst dX12_worst_30 ci_m1) ?_
    refine Eq.trans (st1 dX12_worst_31 rfl rfl) ?_
    refine Eq.trans (xiconst dX12_worst_32 ci_0) ?_
    refine Eq.trans (st1 dX12_worst_33 rfl rfl) ?_
    refine Eq.trans (st1 dX12_worst_34 rfl rfl) ?_
    refine Eq.trans (st1 dX12_worst_35 rfl rfl) ?_
    refine Eq.trans (getRm dX12_worst_36 cp_12_67 ka_72 rfl r_72_29) ?_
    exact iv0 dX12_worst_39 rfl cp_12_300 rfl rfl (kd_ka ka_72) ka_72.1 (Nat.le_of_ble_eq_true rfl)
  · refine Eq.trans (xiconst dX12_worst_28 ci_0) ?_
    exact ret0 dX12_worst_29 rfl
theorem q_X12_worst_42 {call : CALL} {L X : Nat} {I : Nat → Nat → Int32} {J : Nat → Nat → Int64} {x1 : Int32} {x2 : Int32} {x3 : Int32} {u4 : Option Value} {u5 : Option Value} {s0 : Int32} : runI call iX12_worst (42, [some (.ref 72), some (.int x1), some (.int x2), some (.int x3), u4, u5], [.int s0], (mm L X I J)) = runI call iX12_worst (46, [some (.ref 72), some (.int x1), some (.int x2), some (.int x3), some (.int (nI 0)), u5], [], (mm L X I J)) := by
  refine Eq.trans (st1 dX12_worst_42 rfl rfl) ?_
  refine Eq.trans (xiconst dX12_worst_43 ci_0) ?_
  refine Eq.trans (st1 dX12_worst_44 rfl rfl) ?_
  rfl
theorem q_X12_worst_46 {call : CALL} {L X : Nat} {I : Nat → Nat → Int32} {J : Nat → Nat → Int64} {x1 : Int32} {x2 : Int32} {x3 : Int32} {x4 : Int32} {u5 : Option Value} : runI call iX12_worst (46, [some (.ref 72), some (.int x1), some (.int x2), some (.int x3), some (.int x4), u5], [], (mm L X I J)) = bndN (call nX12_manyIn [.ref 533] (mm L X I J)) (fun v m' => runI call iX12_worst (55, [some (.ref 72), some (.int x1), some (.int x2), some (.int x3), some (.int x4), u5], v.toList ++ [.int x4], m')) := by
  refine Eq.trans (st1 dX12_worst_46 rfl rfl) ?_
  refine Eq.trans (st1 dX12_worst_48 rfl rfl) ?_
  refine Eq.trans (getRm dX12_worst_49 cp_12_67 ka_72 rfl r_72_29) ?_
  exact is2 dX12_worst_52 cp_12_264 (Nat.le_of_ble_eq_true rfl) rfl rfl (Nat.le_of_ble_eq_true rfl)
theorem q_X12_worst_55 {call : CALL} {L X : Nat} {I : Nat → Nat → Int32} {J : Nat → Nat → Int64} {x1 : Int32} {x2 : Int32} {x3 : Int32} {x4 : Int32} {u5 : Option Value} {s0 : Int32} {s1 : Int32} : runI call iX12_worst (55, [some (.ref 72), some (.int x1), some (.int x2), some (.int x3), some (.int x4), u5], [.int s1, .int s0], (mm L X I J)) = if s1 ≤ s0 then if x1 = (nI 0) then some (.inl (some (.int x2)), (mm L X I J)) else some (.inl (some (.int x3)), (mm L X I J)) else if x4 = (nI 0) then runI call iX12_worst (82, [some (.ref 72), some (.int x1), some (.int x2), some (.int x3), some (.int x4), u5], [.int (I 533 29)], (mm L X I J)) else gd (inb (x4 - (nI 1)) 6) (runI call iX12_worst (82, [some (.ref 72), some (.int x1), some (.int x2), some (.int x3), some (.int x4), u5], [.int (I 535 ((x4 - (nI 1))).toNatClampNeg)], (mm L X I J))) := by
  refine Eq.trans (ic_ge (tgt := 118) dX12_worst_55 (by decide +kernel)) (ite_cong (fun _ => ?_) (fun _ => ?_))
  · refine Eq.trans (st1 dX12_worst_118 rfl rfl) ?_
    refine Eq.trans (if_ne (tgt := 126) dX12_worst_119 (by decide +kernel)) (ite_cong (fun _ => ?_) (fun _ => ?_))
    · refine Eq.trans (st1 dX12_worst_122 rfl rfl) ?_
      refine Eq.trans (go_to (tgt := 127) dX12_worst_123 (by decide +kernel)) ?_
      exact ret0 dX12_worst_127 rfl
    · refine Eq.trans (st1 dX12_worst_126 rfl rfl) ?_
      exact ret0 dX12_worst_127 rfl
  · refine Eq.trans (st1 dX12_worst_58 rfl rfl) ?_
    refine Eq.trans (if_ne (tgt := 73) dX12_worst_60 (by decide +kernel)) (ite_cong (fun _ => ?_) (fun _ => ?_))
    · refine Eq.trans (st1 dX12_worst_63 rfl rfl) ?_
      refine Eq.trans (getRm dX12_worst_64 cp_12_67 ka_72 rfl r_72_29) ?_
      refine Eq.trans (xbipush dX12_worst_67 cb_29) ?_
      refine Eq.trans (al1c dX12_worst_69 ka_533 (by decide +kernel) nc_29) ?_
      refine Eq.trans (go_to (tgt := 82) dX12_worst_70 (by decide +kernel)) ?_
      rfl
    · refine Eq.trans (st1 dX12_worst_73 rfl rfl) ?_
      refine Eq.trans (getRm dX12_worst_74 cp_12_73 ka_72 rfl r_72_31) ?_
      refine Eq.trans (st1 dX12_worst_77 rfl rfl) ?_
      refine Eq.trans (xiconst dX12_worst_79 ci_1) ?_
      refine Eq.trans (st1 dX12_worst_80 rfl rfl) ?_
      refine Eq.trans (al1m dX12_worst_81 ka_535) (gd_congr fun g1 => ?_)
      rfl
theorem q_X12_worst_82 {call : CALL} {L X : Nat} {I : Nat → Nat → Int32} {J : Nat → Nat → Int64} {x1 : Int32} {x2 : Int32} {x3 : Int32} {x4 : Int32} {u5 : Option Value} {s0 : Int32} : runI call iX12_worst (82, [some (.ref 72), some (.int x1), some (.int x2), some (.int x3), some (.int x4), u5], [.int s0], (mm L X I J)) = gd (inb x4 6) (if x2 = (-1 : Int32) then runI call iX12_worst (106, [some (.ref 72), some (.int x1), some (.int x2), some (.int x3), some (.int x4), some (.int (s0 - (I 535 (x4).toNatClampNeg)))], [], (mm L X I J)) else if x3 < (s0 - (I 535 (x4).toNatClampNeg)) then runI call iX12_worst (106, [some (.ref 72), some (.int x1), some (.int x2), some (.int x3), some (.int x4), some (.int (s0 - (I 535 (x4).toNatClampNeg)))], [], (mm L X I J)) else runI call iX12_worst (112, [some (.ref 72), some (.int x1), some (.int x2), some (.int x3), some (.int x4), some (.int (s0 - (I 535 (x4).toNatClampNeg)))], [], (mm L X I J))) := by
  refine Eq.trans (st1 dX12_worst_82 rfl rfl) ?_
  refine Eq.trans (getRm dX12_worst_83 cp_12_73 ka_72 rfl r_72_31) ?_
  refine Eq.trans (st1 dX12_worst_86 rfl rfl) ?_
  refine Eq.trans (al1m dX12_worst_88 ka_535) (gd_congr fun g1 => ?_)
  refine Eq.trans (st1 dX12_worst_89 rfl rfl) ?_
  refine Eq.trans (st1 dX12_worst_90 rfl rfl) ?_
  refine Eq.trans (st1 dX12_worst_92 rfl rfl) ?_
  refine Eq.trans (xiconst dX12_worst_93 ci_m1) ?_
  refine Eq.trans (ic_eq (tgt := 106) dX12_worst_94 (by decide +kernel)) (ite_cong (fun _ => ?_) (fun _ => ?_))
  · rfl
  · refine Eq.trans (st1 dX12_worst_97 rfl rfl) ?_
    refine Eq.trans (st1 dX12_worst_99 rfl rfl) ?_
    refine Eq.trans (ic_gt (tgt := 106) dX12_worst_100 (by decide +kernel)) (ite_cong (fun _ => ?_) (fun _ => ?_))
    · rfl
    · refine Eq.trans (go_to (tgt := 112) dX12_worst_103 (by decide +kernel)) ?_
      rfl
theorem q_X12_worst_106 {call : CALL} {L X : Nat} {I : Nat → Nat → Int32} {J : Nat → Nat → Int64} {x1 : Int32} {u2 : Option Value} {u3 : Option Value} {x4 : Int32} {x5 : Int32} : runI call iX12_worst (106, [some (.ref 72), some (.int x1), u2, u3, some (.int x4), some (.int x5)], [], (mm L X I J)) = runI call iX12_worst (112, [some (.ref 72), some (.int x1), some (.int x4), some (.int x5), some (.int x4), some (.int x5)], [], (mm L X I J)) := by
  refine Eq.trans (st1 dX12_worst_106 rfl rfl) ?_
  refine Eq.trans (st1 dX12_worst_108 rfl rfl) ?_
  refine Eq.trans (st1 dX12_worst_109 rfl rfl) ?_
  refine Eq.trans (st1 dX12_worst_111 rfl rfl) ?_
  rfl
theorem q_X12_worst_112 {call : CALL} {L X : Nat} {I : Nat → Nat → Int32} {J : Nat → Nat → Int64} {x1 : Int32} {x2 : Int32} {x3 : Int32} {x4 : Int32} {u5 : Option Value} : runI call iX12_worst (112, [some (.ref 72), some (.int x1), some (.int x2), some (.int x3), some (.int x4), u5], [], (mm L X I J)) = runI call iX12_worst (46, [some (.ref 72), some (.int x1), some (.int x2), some (.int x3), some (.int (x4 + (nI 1))), u5], [], (mm L X I J)) := by
  refine Eq.trans (xinc2 dX12_worst_112 ci_1 rfl (Nat.le_of_ble_eq_true rfl) rfl) ?_
  refine Eq.trans (go_to (tgt := 46) dX12_worst_115 (by decide +kernel)) ?_
  rfl
theorem q_X12_needed_0 {call : CALL} {L X : Nat} {I : Nat → Nat → Int32} {J : Nat → Nat → Int64} {x1 : Int32} : runI call iX12_needed (0, [some (.ref 72), some (.int x1), none], [], (mm L X I J)) = bnd (call nX12_isFire [.ref 72, .int x1] (mm L X (up2 I 72 0 (nI 0)) J)) (fun v m' => runI call iX12_needed (11, [some (.ref 72), some (.int x1), none], v.toList ++ [.ref 72], m')) := by
  refine Eq.trans (st1 dX12_needed_0 rfl rfl) ?_
  refine Eq.trans (xiconst dX12_needed_1 ci_0) ?_
  refine Eq.trans (putIm dX12_needed_2 cp_12_103 ka_72 rfl) ?_
  refine Eq.trans (st1 dX12_needed_5 rfl rfl) ?_
  refine Eq.trans (st1 dX12_needed_6 rfl rfl) ?_
  refine Eq.trans (st1 dX12_needed_7 rfl rfl) ?_
  exact iv0 dX12_needed_8 rfl cp_12_360 rfl rfl (kd_ka ka_72) ka_72.1 (Nat.le_of_ble_eq_true rfl)
theorem q_X12_needed_11 {call : CALL} {L X : Nat} {I : Nat → Nat → Int32} {J : Nat → Nat → Int64} {x1 : Int32} {u2 : Option Value} {s1 : Int32} : runI call iX12_needed (11, [some (.ref 72), some (.int x1), u2], [.int s1, .ref 72], (mm L X I J)) = if s1 = (nI 0) then runI call iX12_needed (19, [some (.ref 72), some (.int x1), u2], [.int (nI 1), .ref 72], (mm L X I J)) else runI call iX12_needed (19, [some (.ref 72), some (.int x1), u2], [.int (nI 0), .ref 72], (mm L X I J)) := by
  refine Eq.trans (if_ne (tgt := 18) dX12_needed_11 (by decide +kernel)) (ite_cong (fun _ => ?_) (fun _ => ?_))
  · refine Eq.trans (xiconst dX12_needed_14 ci_1) ?_
    refine Eq.trans (go_to (tgt := 19) dX12_needed_15 (by decide +kernel)) ?_
    rfl
  · refine Eq.trans (xiconst dX12_needed_18 ci_0) ?_
    rfl
theorem q_X12_needed_19 {call : CALL} {L X : Nat} {I : Nat → Nat → Int32} {J : Nat → Nat → Int64} {x1 : Int32} {u2 : Option Value} {s1 : Int32} : runI call iX12_needed (19, [some (.ref 72), some (.int x1), u2], [.int s1, .ref 72], (mm L X I J)) = bnd (call nX12_bad [.ref 72, .int s1, .int (nI 1), .int (nI 0)] (mm L X I J)) (fun v m' => runI call iX12_needed (24, [some (.ref 72), some (.int x1), u2], v.toList ++ [], m')) := by
  refine Eq.trans (xiconst dX12_needed_19 ci_1) ?_
  refine Eq.trans (xiconst dX12_needed_20 ci_0) ?_
  exact iv0 dX12_needed_21 rfl cp_12_182 rfl rfl (kd_ka ka_72) ka_72.1 (Nat.le_of_ble_eq_true rfl)
theorem q_X12_needed_24 {call : CALL} {L X : Nat} {I : Nat → Nat → Int32} {J : Nat → Nat → Int64} {x1 : Int32} {u2 : Option Value} {s0 : Int32} : runI call iX12_needed (24, [some (.ref 72), some (.int x1), u2], [.int s0], (mm L X I J)) = if s0 = (nI 0) then bndN (call nX12_copies [.ref 533, .ref 534] (mm L X I J)) (fun v m' => runI call iX12_needed (40, [some (.ref 72), some (.int x1), u2], v.toList ++ [], m')) else some (.inl (some (.int (nI 0))), (mm L X I J)) := by
  refine Eq.trans (if_eq (tgt := 29) dX12_needed_24 (by decide +kernel)) (ite_cong (fun _ => ?_) (fun _ => ?_))
  · refine Eq.trans (st1 dX12_needed_29 rfl rfl) ?_
    refine Eq.trans (getRm dX12_needed_30 cp_12_67 ka_72 rfl r_72_29) ?_
    refine Eq.trans (st1 dX12_needed_33 rfl rfl) ?_
    refine Eq.trans (getRm dX12_needed_34 cp_12_70 ka_72 rfl r_72_30) ?_
    exact is2 dX12_needed_37 cp_12_347 (Nat.le_of_ble_eq_true rfl) rfl rfl (Nat.le_of_ble_eq_true rfl)
  · refine Eq.trans (xiconst dX12_needed_27 ci_0) ?_
    exact ret0 dX12_needed_28 rfl
theorem q_X12_needed_40 {call : CALL} {L X : Nat} {I : Nat → Nat → Int32} {J : Nat → Nat → Int64} {x1 : Int32} {u2 : Option Value} : runI call iX12_needed (40, [some (.ref 72), some (.int x1), u2], [], (mm L X I J)) = runI call iX12_needed (42, [some (.ref 72), some (.int x1), some (.int (nI 0))], [], (mm L X I J)) := by
  refine Eq.trans (xiconst dX12_needed_40 ci_0) ?_
  refine Eq.trans (st1 dX12_needed_41 rfl rfl) ?_
  rfl
theorem q_X12_needed_42 {call : CALL} {L X : Nat} {I : Nat → Nat → Int32} {J : Nat → Nat → Int64} {x1 : Int32} {x2 : Int32} : runI call iX12_needed (42, [some (.ref 72), some (.int x1), some (.int x2)], [], (mm L X I J)) = if (nI 99) < x2 then some (.inl (some (.int (-1 : Int32))), (mm L X I J)) else bnd (call nX12_isReached [.ref 72, .ref 534, .int x1] (mm L X (up2 I 534 29 x2) J)) (fun v m' => runI call iX12_needed (65, [some (.ref 72), some (.int x1), some (.int x2)], v.toList ++ [], m')) := by
  refine Eq.trans (st1 dX12_needed_42 rfl rfl) ?_
  refine Eq.trans (xbipush dX12_needed_43 cb_99) ?_
  refine Eq.trans (ic_gt (tgt := 76) dX12_needed_45 (by decide +kernel)) (ite_cong (fun _ => ?_) (fun _ => ?_))
  · refine Eq.trans (xiconst dX12_needed_76 ci_m1) ?_
    exact ret0 dX12_needed_77 rfl
  · refine Eq.trans (st1 dX12_needed_48 rfl rfl) ?_
    refine Eq.trans (getRm dX12_needed_49 cp_12_70 ka_72 rfl r_72_30) ?_
    refine Eq.trans (xbipush dX12_needed_52 cb_29) ?_
    refine Eq.trans (st1 dX12_needed_54 rfl rfl) ?_
    refine Eq.trans (as1c dX12_needed_55 ka_534 (by decide +kernel) nc_29) ?_
    refine Eq.trans (st1 dX12_needed_56 rfl rfl) ?_
    refine Eq.trans (st1 dX12_needed_57 rfl rfl) ?_
    refine Eq.trans (getRm dX12_needed_58 cp_12_70 ka_72 rfl r_72_30) ?_
    refine Eq.trans (st1 dX12_needed_61 rfl rfl) ?_
    exact iv0 dX12_needed_62 rfl cp_12_303 rfl rfl (kd_ka ka_72) ka_72.1 (Nat.le_of_ble_eq_true rfl)
theorem q_X12_needed_65 {call : CALL} {L X : Nat} {I : Nat → Nat → Int32} {J : Nat → Nat → Int64} {x1 : Int32} {x2 : Int32} {s0 : Int32} : runI call iX12_needed (65, [some (.ref 72), some (.int x1), some (.int x2)], [.int s0], (mm L X I J)) = if s0 = (nI 0) then runI call iX12_needed (42, [some (.ref 72), some (.int x1), some (.int (x2 + (nI 1)))], [], (mm L X I J)) else some (.inl (some (.int x2)), (mm L X I J)) := by
  refine Eq.trans (if_eq (tgt := 70) dX12_needed_65 (by decide +kernel)) (ite_cong (fun _ => ?_) (fun _ => ?_))
  · refine Eq.trans (xinc2 dX12_needed_70 ci_1 rfl (Nat.le_of_ble_eq_true rfl) rfl) ?_
    refine Eq.trans (go_to (tgt := 42) dX12_needed_73 (by decide +kernel)) ?_
    rfl
  · refine Eq.trans (st1 dX12_needed_68 rfl rfl) ?_
    exact ret0 dX12_needed_69 rfl
theorem q_X12_kin_0 {call : CALL} {L X : Nat} {I : Nat → Nat → Int32} {J : Nat → Nat → Int64} {x1 : Int32} : runI call iX12_kin (0, [some (.ref 72), some (.int x1), none, none], [], (mm L X I J)) = bndN (call nX12_isThread [.int x1] (mm L X (up2 I 72 0 (nI 0)) J)) (fun v m' => runI call iX12_kin (10, [some (.ref 72), some (.int x1), none, none], v.toList ++ [.ref 72], m')) := by
  refine Eq.trans (st1 dX12_kin_0 rfl rfl) ?_
  refine Eq.trans (xiconst dX12_kin_1 ci_0) ?_
  refine Eq.trans (putIm dX12_kin_2 cp_12_103 ka_72 rfl) ?_
  refine Eq.trans (st1 dX12_kin_5 rfl rfl) ?_
  refine Eq.trans (st1 dX12_kin_6 rfl rfl) ?_
  exact is2 dX12_kin_7 cp_12_363 (Nat.le_of_ble_eq_true rfl) rfl rfl (Nat.le_of_ble_eq_true rfl)
theorem q_X12_kin_10 {call : CALL} {L X : Nat} {I : Nat → Nat → Int32} {J : Nat → Nat → Int64} {x1 : Int32} {u2 : Option Value} {u3 : Option Value} {s1 : Int32} : runI call iX12_kin (10, [some (.ref 72), some (.int x1), u2, u3], [.int s1, .ref 72], (mm L X I J)) = if s1 = (nI 0) then runI call iX12_kin (18, [some (.ref 72), some (.int x1), u2, u3], [.int (nI 1), .ref 72], (mm L X I J)) else runI call iX12_kin (18, [some (.ref 72), some (.int x1), u2, u3], [.int (nI 0), .ref 72], (mm L X I J)) := by
  refine Eq.trans (if_ne (tgt := 17) dX12_kin_10 (by decide +kernel)) (ite_cong (fun _ => ?_) (fun _ => ?_))
  · refine Eq.trans (xiconst dX12_kin_13 ci_1) ?_
    refine Eq.trans (go_to (tgt := 18) dX12_kin_14 (by decide +kernel)) ?_
    rfl
  · refine Eq.trans (xiconst dX12_kin_17 ci_0) ?_
    rfl
theorem q_X12_kin_18 {call : CALL} {L X : Nat} {I : Nat → Nat → Int32} {J : Nat → Nat → Int64} {x1 : Int32} {u2 : Option Value} {u3 : Option Value} {s1 : Int32} : runI call iX12_kin (18, [some (.ref 72), some (.int x1), u2, u3], [.int s1, .ref 72], (mm L X I J)) = bnd (call nX12_bad [.ref 72, .int s1, .int (nI 1), .int (nI 1)] (mm L X I J)) (fun v m' => runI call iX12_kin (23, [some (.ref 72), some (.int x1), u2, u3], v.toList ++ [], m')) := by
  refine Eq.trans (xiconst dX12_kin_18 ci_1) ?_
  refine Eq.trans (xiconst dX12_kin_19 ci_1) ?_
  exact iv0 dX12_kin_20 rfl cp_12_182 rfl rfl (kd_ka ka_72) ka_72.1 (Nat.le_of_ble_eq_true rfl)
theorem q_X12_kin_23 {call : CALL} {L X : Nat} {I : Nat → Nat → Int32} {J : Nat → Nat → Int64} {x1 : Int32} {u2 : Option Value} {u3 : Option Value} {s0 : Int32} : runI call iX12_kin (23, [some (.ref 72), some (.int x1), u2, u3], [.int s0], (mm L X I J)) = if s0 = (nI 0) then runI call iX12_kin (32, [some (.ref 72), some (.int x1), some (.int (nI 0)), some (.int (nI 0))], [], (mm L X I J)) else some (.inl (some (.int (nI 0))), (mm L X I J)) := by
  refine Eq.trans (if_eq (tgt := 28) dX12_kin_23 (by decide +kernel)) (ite_cong (fun _ => ?_) (fun _ => ?_))
  · refine Eq.trans (xiconst dX12_kin_28 ci_0) ?_
    refine Eq.trans (st1 dX12_kin_29 rfl rfl) ?_
    refine Eq.trans (xiconst dX12_kin_30 ci_0) ?_
    refine Eq.trans (st1 dX12_kin_31 rfl rfl) ?_
    rfl
  · refine Eq.trans (xiconst dX12_kin_26 ci_0) ?_
    exact ret0 dX12_kin_27 rfl
theorem q_X12_kin_32 {call : CALL} {L X : Nat} {I : Nat → Nat → Int32} {J : Nat → Nat → Int64} {x1 : Int32} {x2 : Int32} {x3 : Int32} : runI call iX12_kin (32, [some (.ref 72), some (.int x1), some (.int x2), some (.int x3)], [], (mm L X I J)) = if (nI 10) ≤ x3 then some (.inl (some (.int x2)), (mm L X I J)) else bnd (call nX12_isJoined [.ref 72, .int x1, .int x3] (mm L X I J)) (fun v m' => runI call iX12_kin (45, [some (.ref 72), some (.int x1), some (.int x2), some (.int x3)], v.toList ++ [.int x2], m')) := by
  refine Eq.trans (st1 dX12_kin_32 rfl rfl) ?_
  refine Eq.trans (xbipush dX12_kin_33 cb_10) ?_
  refine Eq.trans (ic_ge (tgt := 63) dX12_kin_35 (by decide +kernel)) (ite_cong (fun _ => ?_) (fun _ => ?_))
  · refine Eq.trans (st1 dX12_kin_63 rfl rfl) ?_
    exact ret0 dX12_kin_64 rfl
  · refine Eq.trans (st1 dX12_kin_38 rfl rfl) ?_
    refine Eq.trans (st1 dX12_kin_39 rfl rfl) ?_
    refine Eq.trans (st1 dX12_kin_40 rfl rfl) ?_
    refine Eq.trans (st1 dX12_kin_41 rfl rfl) ?_
    exact iv0 dX12_kin_42 rfl cp_12_278 rfl rfl (kd_ka ka_72) ka_72.1 (Nat.le_of_ble_eq_true rfl)
theorem q_X12_kin_45 {call : CALL} {L X : Nat} {I : Nat → Nat → Int32} {J : Nat → Nat → Int64} {x1 : Int32} {u2 : Option Value} {x3 : Int32} {s0 : Int32} {s1 : Int32} : runI call iX12_kin (45, [some (.ref 72), some (.int x1), u2, some (.int x3)], [.int s1, .int s0], (mm L X I J)) = if s1 = (nI 0) then runI call iX12_kin (55, [some (.ref 72), some (.int x1), u2, some (.int x3)], [.int (nI 0), .int s0], (mm L X I J)) else runI call iX12_kin (55, [some (.ref 72), some (.int x1), u2, some (.int x3)], [.int ((nI 1) <<< (x3 &&& 31)), .int s0], (mm L X I J)) := by
  refine Eq.trans (if_eq (tgt := 54) dX12_kin_45 (by decide +kernel)) (ite_cong (fun _ => ?_) (fun _ => ?_))
  · refine Eq.trans (xiconst dX12_kin_54 ci_0) ?_
    rfl
  · refine Eq.trans (xiconst dX12_kin_48 ci_1) ?_
    refine Eq.trans (st1 dX12_kin_49 rfl rfl) ?_
    refine Eq.trans (st1 dX12_kin_50 rfl rfl) ?_
    refine Eq.trans (go_to (tgt := 55) dX12_kin_51 (by decide +kernel)) ?_
    rfl
theorem q_X12_kin_55 {call : CALL} {L X : Nat} {I : Nat → Nat → Int32} {J : Nat → Nat → Int64} {x1 : Int32} {u2 : Option Value} {x3 : Int32} {s0 : Int32} {s1 : Int32} : runI call iX12_kin (55, [some (.ref 72), some (.int x1), u2, some (.int x3)], [.int s1, .int s0], (mm L X I J)) = runI call iX12_kin (32, [some (.ref 72), some (.int x1), some (.int (s0 ||| s1)), some (.int (x3 + (nI 1)))], [], (mm L X I J)) := by
  refine Eq.trans (st1 dX12_kin_55 rfl rfl) ?_
  refine Eq.trans (st1 dX12_kin_56 rfl rfl) ?_
  refine Eq.trans (xinc2 dX12_kin_57 ci_1 rfl (Nat.le_of_ble_eq_true rfl) rfl) ?_
  refine Eq.trans (go_to (tgt := 32) dX12_kin_60 (by decide +kernel)) ?_
  rfl
theorem q_X12_year_0 {call : CALL} {L X : Nat} {I : Nat → Nat → Int32} {J : Nat → Nat → Int64} {x1 : Int32} {x2 : Int32} {x3 : Int32} {x4 : Int32} : runI call iX12_year (0, [some (.ref 72), some (.int x1), some (.int x2), some (.int x3), some (.int x4), none, none], [], (mm L X I J)) = bndN (call nX12_isYear [.int x2, .int x3] (mm L X (up2 I 72 0 (nI 0)) J)) (fun v m' => runI call iX12_year (11, [some (.ref 72), some (.int x1), some (.int x2), some (.int x3), some (.int x4), none, none], v.toList ++ [.ref 72], m')) := by
  refine Eq.trans (st1 dX12_year_0 rfl rfl) ?_
  refine Eq.trans (xiconst dX12_year_1 ci_0) ?_
  refine Eq.trans (putIm dX12_year_2 cp_12_103 ka_72 rfl) ?_
  refine Eq.trans (st1 dX12_year_5 rfl rfl) ?_
  refine Eq.trans (st1 dX12_year_6 rfl rfl) ?_
  refine Eq.trans (st1 dX12_year_7 rfl rfl) ?_
  exact is2 dX12_year_8 cp_12_436 (Nat.le_of_ble_eq_true rfl) rfl rfl (Nat.le_of_ble_eq_true rfl)
theorem q_X12_year_11 {call : CALL} {L X : Nat} {I : Nat → Nat → Int32} {J : Nat → Nat → Int64} {x1 : Int32} {x2 : Int32} {x3 : Int32} {x4 : Int32} {u5 : Option Value} {u6 : Option Value} {s1 : Int32} : runI call iX12_year (11, [some (.ref 72), some (.int x1), some (.int x2), some (.int x3), some (.int x4), u5, u6], [.int s1, .ref 72], (mm L X I J)) = if s1 = (nI 0) then runI call iX12_year (24, [some (.ref 72), some (.int x1), some (.int x2), some (.int x3), some (.int x4), u5, u6], [.ref 72], (mm L X I J)) else bndN (call nX12_in [.int x4, .int (nI 0), .int (nI 3)] (mm L X I J)) (fun v m' => runI call iX12_year (21, [some (.ref 72), some (.int x1), some (.int x2), some (.int x3), some (.int x4), u5, u6], v.toList ++ [.ref 72], m')) := by
  refine Eq.trans (if_eq (tgt := 24) dX12_year_11 (by decide +kernel)) (ite_cong (fun _ => ?_) (fun _ => ?_))
  · rfl
  · refine Eq.trans (st1 dX12_year_14 rfl rfl) ?_
    refine Eq.trans (xiconst dX12_year_16 ci_0) ?_
    refine Eq.trans (xiconst dX12_year_17 ci_3) ?_
    exact is2 dX12_year_18 cp_12_137 (Nat.le_of_ble_eq_true rfl) rfl rfl (Nat.le_of_ble_eq_true rfl)
theorem q_X12_year_24 {call : CALL} {L X : Nat} {I : Nat → Nat → Int32} {J : Nat → Nat → Int64} {x1 : Int32} {x2 : Int32} {x3 : Int32} {x4 : Int32} {u5 : Option Value} {u6 : Option Value} : runI call iX12_year (24, [some (.ref 72), some (.int x1), some (.int x2), some (.int x3), some (.int x4), u5, u6], [.ref 72], (mm L X I J)) = runI call iX12_year (29, [some (.ref 72), some (.int x1), some (.int x2), some (.int x3), some (.int x4), u5, u6], [.int (nI 1), .ref 72], (mm L X I J)) := by
  refine Eq.trans (xiconst dX12_year_24 ci_1) ?_
  refine Eq.trans (go_to (tgt := 29) dX12_year_25 (by decide +kernel)) ?_
  rfl
theorem q_X12_year_21 {call : CALL} {L X : Nat} {I : Nat → Nat → Int32} {J : Nat → Nat → Int64} {x1 : Int32} {x2 : Int32} {x3 : Int32} {x4 : Int32} {u5 : Option Value} {u6 : Option Value} {s1 : Int32} : runI call iX12_year (21, [some (.ref 72), some (.int x1), some (.int x2), some (.int x3), some (.int x4), u5, u6], [.int s1, .ref 72], (mm L X I J)) = if s1 = (nI 0) then runI call iX12_year (24, [some (.ref 72), some (.int x1), some (.int x2), some (.int x3), some (.int x4), u5, u6], [.ref 72], (mm L X I J)) else runI call iX12_year (29, [some (.ref 72), some (.int x1), some (.int x2), some (.int x3), some (.int x4), u5, u6], [.int (nI 0), .ref 72], (mm L X I J)) := by
  refine Eq.trans (if_ne (tgt := 28) dX12_year_21 (by decide +kernel)) (ite_cong (fun _ => ?_) (fun _ => ?_))
  · rfl
  · refine Eq.trans (xiconst dX12_year_28 ci_0) ?_
    rfl
theorem q_X12_year_29 {call : CALL} {L X : Nat} {I : Nat → Nat → Int32} {J : Nat → Nat → Int64} {x1 : Int32} {x2 : Int32} {x3 : Int32} {x4 : Int32} {u5 : Option Value} {u6 : Option Value} {s1 : Int32} : runI call iX12_year (29, [some (.ref 72), some (.int x1), some (.int x2), some (.int x3), some (.int x4), u5, u6], [.int s1, .ref 72], (mm L X I J)) = bnd (call nX12_bad [.ref 72, .int s1, .int (nI 1), .int (nI 1)] (mm L X I J)) (fun v m' => runI call iX12_year (34, [some (.ref 72), some (.int x1), some (.int x2), some (.int x3), some (.int x4), u5, u6], v.toList ++ [], m')) := by
  refine Eq.trans (xiconst dX12_year_29 ci_1) ?_
  refine Eq.trans (xiconst dX12_year_30 ci_1) ?_
  exact iv0 dX12_year_31 rfl cp_12_182 rfl rfl (kd_ka ka_72) ka_72.1 (Nat.le_of_ble_eq_true rfl)
theorem q_X12_year_34 {call : CALL} {L X : Nat} {I : Nat → Nat → Int32} {J : Nat → Nat → Int64} {x1 : Int32} {x2 : Int32} {x3 : Int32} {x4 : Int32} {u5 : Option Value} {u6 : Option Value} {s0 : Int32} : runI call iX12_year (34, [some (.ref 72), some (.int x1), some (.int x2), some (.int x3), some (.int x4), u5, u6], [.int s0], (mm L X I J)) = if s0 = (nI 0) then bnd (call nX12_yearBy [.ref 72, .int x1, .int x2, .int x3] (mm L X I J)) (fun v m' => runI call iX12_year (46, [some (.ref 72), some (.int x1), some (.int x2), some (.int x3), some (.int x4), u5, u6], v.toList ++ [], m')) else some (.inl (some (.int (nI 0))), (mm L X I J)) := by
  refine Eq.trans (if_eq (tgt := 39) dX12_year_34 (by decide +kernel)) (ite_cong (fun _ => ?_) (fun _ => ?_))
  · refine Eq.trans (st1 dX12_year_39 rfl rfl) ?_
    refine Eq.trans (st1 dX12_year_40 rfl rfl) ?_
    refine Eq.trans (st1 dX12_year_41 rfl rfl) ?_
    refine Eq.trans (st1 dX12_year_42 rfl rfl) ?_
    exact iv0 dX12_year_43 rfl cp_12_439 rfl rfl (kd_ka ka_72) ka_72.1 (Nat.le_of_ble_eq_true rfl)
  · refine Eq.trans (xiconst dX12_year_37 ci_0) ?_
    exact ret0 dX12_year_38 rfl
theorem q_X12_year_46 {call : CALL} {L X : Nat} {I : Nat → Nat → Int32} {J : Nat → Nat → Int64} {u1 : Option Value} {u2 : Option Value} {u3 : Option Value} {x4 : Int32} {u5 : Option Value} {u6 : Option Value} : runI call iX12_year (46, [some (.ref 72), u1, u2, u3, some (.int x4), u5, u6], [], (mm L X I J)) = runI call iX12_year (52, [some (.ref 72), u1, u2, u3, some (.int x4), some (.int (nI 0)), some (.int (nI 0))], [], (mm L X I J)) := by
  refine Eq.trans (xiconst dX12_year_46 ci_0) ?_
  refine Eq.trans (st1 dX12_year_47 rfl rfl) ?_
  refine Eq.trans (xiconst dX12_year_49 ci_0) ?_
  refine Eq.trans (st1 dX12_year_50 rfl rfl) ?_
  rfl
theorem q_X12_year_52 {call : CALL} {L X : Nat} {I : Nat → Nat → Int32} {J : Nat → Nat → Int64} {u1 : Option Value} {u2 : Option Value} {u3 : Option Value} {x4 : Int32} {x5 : Int32} {x6 : Int32} : runI call iX12_year (52, [some (.ref 72), u1, u2, u3, some (.int x4), some (.int x5), some (.int x6)], [], (mm L X I J)) = if (I 76 0) ≤ x6 then runI call iX12_year (86, [some (.ref 72), u1, u2, u3, some (.int x4), some (.int x5), some (.int x6)], [.int x4], (mm L X I J)) else gd (inb ((nI 18) + x6) 31) (runI call iX12_year (52, [some (.ref 72), u1, u2, u3, some (.int x4), some (.int (x5 + (I 534 (((nI 18) + x6)).toNatClampNeg))), some (.int (x6 + (nI 1)))], [], (mm L X I J))) := by
  refine Eq.trans (st1 dX12_year_52 rfl rfl) ?_
  refine Eq.trans (st1 dX12_year_54 rfl rfl) ?_
  refine Eq.trans (getRm dX12_year_55 cp_12_23 ka_72 rfl r_72_12) ?_
  refine Eq.trans (xiconst dX12_year_58 ci_0) ?_
  refine Eq.trans (al1c dX12_year_59 ka_76 (by decide +kernel) nc_0) ?_
  refine Eq.trans (ic_ge (tgt := 84) dX12_year_60 (by decide +kernel)) (ite_cong (fun _ => ?_) (fun _ => ?_))
  · refine Eq.trans (st1 dX12_year_84 rfl rfl) ?_
    rfl
  · refine Eq.trans (st1 dX12_year_63 rfl rfl) ?_
    refine Eq.trans (st1 dX12_year_65 rfl rfl) ?_
    refine Eq.trans (getRm dX12_year_66 cp_12_70 ka_72 rfl r_72_30) ?_
    refine Eq.trans (xbipush dX12_year_69 cb_18) ?_
    refine Eq.trans (st1 dX12_year_71 rfl rfl) ?_
    refine Eq.trans (st1 dX12_year_73 rfl rfl) ?_
    refine Eq.trans (al1m dX12_year_74 ka_534) (gd_congr fun g1 => ?_)
    refine Eq.trans (st1 dX12_year_75 rfl rfl) ?_
    refine Eq.trans (st1 dX12_year_76 rfl rfl) ?_
    refine Eq.trans (xinc2 dX12_year_78 ci_1 rfl (Nat.le_of_ble_eq_true rfl) rfl) ?_
    refine Eq.trans (go_to (tgt := 52) dX12_year_81 (by decide +kernel)) ?_
    rfl
theorem q_X12_year_86 {call : CALL} {L X : Nat} {I : Nat → Nat → Int32} {J : Nat → Nat → Int64} {u1 : Option Value} {u2 : Option Value} {u3 : Option Value} {u4 : Option Value} {x5 : Int32} {u6 : Option Value} {s0 : Int32} : runI call iX12_year (86, [some (.ref 72), u1, u2, u3, u4, some (.int x5), u6], [.int s0], (mm L X I J)) = if s0 = (nI 0) then runI call iX12_year (112, [some (.ref 72), u1, u2, u3, u4, some (.int x5), u6], [], (mm L X I J)) else if s0 = (nI 1) then runI call iX12_year (117, [some (.ref 72), u1, u2, u3, u4, some (.int x5), u6], [], (mm L X I J)) else if s0 = (nI 2) then runI call iX12_year (126, [some (.ref 72), u1, u2, u3, u4, some (.int x5), u6], [], (mm L X I J)) else runI call iX12_year (135, [some (.ref 72), u1, u2, u3, u4, some (.int x5), u6], [], (mm L X I J)) := by
  refine ite_cong2 (fun e0 => sw_t dX12_year_86 (by rw [e0]; decide +kernel)) (fun e0 => ?_)
  refine ite_cong2 (fun e1 => sw_t dX12_year_86 (by rw [e1]; decide +kernel)) (fun e1 => ?_)
  refine ite_cong2 (fun e2 => sw_t dX12_year_86 (by rw [e2]; decide +kernel)) (fun e2 => ?_)
  exact sw_t dX12_year_86 (swT_dflt (vs := [(0 : Int), (1 : Int), (2 : Int)]) (by decide +kernel) (fun v hv => by simp only [List.mem_cons, List.not_mem_nil, or_false] at hv; rcases hv with rfl | rfl | rfl <;> first | exact ne_toInt (by decide +kernel) e0 | exact ne_toInt (by decide +kernel) e1 | exact ne_toInt (by decide +kernel) e2))
theorem q_X12_year_112 {call : CALL} {L X : Nat} {I : Nat → Nat → Int32} {J : Nat → Nat → Int64} {u1 : Option Value} {u2 : Option Value} {u3 : Option Value} {u4 : Option Value} {u5 : Option Value} {u6 : Option Value} : runI call iX12_year (112, [some (.ref 72), u1, u2, u3, u4, u5, u6], [], (mm L X I J)) = some (.inl (some (.int (I 72 40))), (mm L X I J)) := by
  refine Eq.trans (st1 dX12_year_112 rfl rfl) ?_
  refine Eq.trans (getIm dX12_year_113 cp_12_307 ka_72 (.inl rfl)) ?_
  exact ret0 dX12_year_116 rfl
theorem q_X12_year_117 {call : CALL} {L X : Nat} {I : Nat → Nat → Int32} {J : Nat → Nat → Int64} {u1 : Option Value} {u2 : Option Value} {u3 : Option Value} {u4 : Option Value} {u5 : Option Value} {u6 : Option Value} : runI call iX12_year (117, [some (.ref 72), u1, u2, u3, u4, u5, u6], [], (mm L X I J)) = bnd (call nX12_liesIn [.ref 72, .ref 534] (mm L X I J)) (fun v m' => runI call iX12_year (125, [some (.ref 72), u1, u2, u3, u4, u5, u6], v.toList ++ [], m')) := by
  refine Eq.trans (st1 dX12_year_117 rfl rfl) ?_
  refine Eq.trans (st1 dX12_year_118 rfl rfl) ?_
  refine Eq.trans (getRm dX12_year_119 cp_12_70 ka_72 rfl r_72_30) ?_
  exact iv0 dX12_year_122 rfl cp_12_351 rfl rfl (kd_ka ka_72) ka_72.1 (Nat.le_of_ble_eq_true rfl)
theorem q_X12_year_126 {call : CALL} {L X : Nat} {I : Nat → Nat → Int32} {J : Nat → Nat → Int64} {u1 : Option Value} {u2 : Option Value} {u3 : Option Value} {u4 : Option Value} {u5 : Option Value} {u6 : Option Value} : runI call iX12_year (126, [some (.ref 72), u1, u2, u3, u4, u5, u6], [], (mm L X I J)) = bnd (call nX12_arrives [.ref 72, .ref 534] (mm L X I J)) (fun v m' => runI call iX12_year (134, [some (.ref 72), u1, u2, u3, u4, u5, u6], v.toList ++ [], m')) := by
  refine Eq.trans (st1 dX12_year_126 rfl rfl) ?_
  refine Eq.trans (st1 dX12_year_127 rfl rfl) ?_
  refine Eq.trans (getRm dX12_year_128 cp_12_70 ka_72 rfl r_72_30) ?_
  exact iv0 dX12_year_131 rfl cp_12_300 rfl rfl (kd_ka ka_72) ka_72.1 (Nat.le_of_ble_eq_true rfl)
theorem q_X12_year_135 {call : CALL} {L X : Nat} {I : Nat → Nat → Int32} {J : Nat → Nat → Int64} {u0 : Option Value} {u1 : Option Value} {u2 : Option Value} {u3 : Option Value} {u4 : Option Value} {x5 : Int32} {u6 : Option Value} : runI call iX12_year (135, [u0, u1, u2, u3, u4, some (.int x5), u6], [], (mm L X I J)) = some (.inl (some (.int x5)), (mm L X I J)) := by
  refine Eq.trans (st1 dX12_year_135 rfl rfl) ?_
  exact ret0 dX12_year_137 rfl
theorem q_X12_year_125 {call : CALL} {L X : Nat} {I : Nat → Nat → Int32} {J : Nat → Nat → Int64} {u0 : Option Value} {u1 : Option Value} {u2 : Option Value} {u3 : Option Value} {u4 : Option Value} {u5 : Option Value} {u6 : Option Value} {s0 : Int32} : runI call iX12_year (125, [u0, u1, u2, u3, u4, u5, u6], [.int s0], (mm L X I J)) = some (.inl (some (.int s0)), (mm L X I J)) := by
  exact ret0 dX12_year_125 rfl
theorem q_X12_year_134 {call : CALL} {L X : Nat} {I : Nat → Nat → Int32} {J : Nat → Nat → Int64} {u0 : Option Value} {u1 : Option Value} {u2 : Option Value} {u3 : Option Value} {u4 : Option Value} {u5 : Option Value} {u6 : Option Value} {s0 : Int32} : runI call iX12_year (134, [u0, u1, u2, u3, u4, u5, u6], [.int s0], (mm L X I J)) = some (.inl (some (.int s0)), (mm L X I J)) := by
  exact ret0 dX12_year_134 rfl
theorem q_X12_isYear_0 {call : CALL} {L X : Nat} {I : Nat → Nat → Int32} {J : Nat → Nat → Int64} {x0 : Int32} {x1 : Int32} : runI call iX12_isYear (0, [some (.int x0), some (.int x1)], [], (mm L X I J)) = bndN (call nX12_in [.int x0, .int (nI 1), .int (nI 96)] (mm L X I J)) (fun v m' => runI call iX12_isYear (7, [some (.int x0), some (.int x1)], v.toList ++ [], m')) := by
  refine Eq.trans (st1 dX12_isYear_0 rfl rfl) ?_
  refine Eq.trans (xiconst dX12_isYear_1 ci_1) ?_
  refine Eq.trans (xbipush dX12_isYear_2 cb_96) ?_
  exact is2 dX12_isYear_4 cp_12_137 (Nat.le_of_ble_eq_true rfl) rfl rfl (Nat.le_of_ble_eq_true rfl)
theorem q_X12_isYear_7 {call : CALL} {L X : Nat} {I : Nat → Nat → Int32} {J : Nat → Nat → Int64} {u0 : Option Value} {x1 : Int32} {s0 : Int32} : runI call iX12_isYear (7, [u0, some (.int x1)], [.int s0], (mm L X I J)) = if s0 = (nI 0) then some (.inl (some (.int (nI 0))), (mm L X I J)) else bndN (call nX12_in [.int x1, .int (nI 0), .int (nI 16)] (mm L X I J)) (fun v m' => runI call iX12_isYear (17, [u0, some (.int x1)], v.toList ++ [], m')) := by
  refine Eq.trans (if_eq (tgt := 24) dX12_isYear_7 (by decide +kernel)) (ite_cong (fun _ => ?_) (fun _ => ?_))
  · refine Eq.trans (xiconst dX12_isYear_24 ci_0) ?_
    exact ret1 dX12_isYear_25 rfl (.inl rfl)
  · refine Eq.trans (st1 dX12_isYear_10 rfl rfl) ?_
    refine Eq.trans (xiconst dX12_isYear_11 ci_0) ?_
    refine Eq.trans (xbipush dX12_isYear_12 cb_16) ?_
    exact is2 dX12_isYear_14 cp_12_137 (Nat.le_of_ble_eq_true rfl) rfl rfl (Nat.le_of_ble_eq_true rfl)
theorem q_X12_isYear_17 {call : CALL} {L X : Nat} {I : Nat → Nat → Int32} {J : Nat → Nat → Int64} {u0 : Option Value} {u1 : Option Value} {s0 : Int32} : runI call iX12_isYear (17, [u0, u1], [.int s0], (mm L X I J)) = if s0 = (nI 0) then some (.inl (some (.int (nI 0))), (mm L X I J)) else some (.inl (some (.int (nI 1))), (mm L X I J)) := by
  refine Eq.trans (if_eq (tgt := 24) dX12_isYear_17 (by decide +kernel)) (ite_cong (fun _ => ?_) (fun _ => ?_))
  · refine Eq.trans (xiconst dX12_isYear_24 ci_0) ?_
    exact ret1 dX12_isYear_25 rfl (.inl rfl)
  · refine Eq.trans (xiconst dX12_isYear_20 ci_1) ?_
    refine Eq.trans (go_to (tgt := 25) dX12_isYear_21 (by decide +kernel)) ?_
    exact ret1 dX12_isYear_25 rfl (.inr rfl)
theorem q_X12_yearBy_0 {call : CALL} {L X : Nat} {I : Nat → Nat → Int32} {J : Nat → Nat → Int64} {x1 : Int32} {x2 : Int32} {x3 : Int32} : runI call iX12_yearBy (0, [some (.ref 72), some (.int x1), some (.int x2), some (.int x3), none, none], [], (mm L X I J)) = bndN (call nX12_copies [.ref 533, .ref 534] (mm L X I J)) (fun v m' => runI call iX12_yearBy (11, [some (.ref 72), some (.int x1), some (.int x2), some (.int x3), none, none], v.toList ++ [], m')) := by
  refine Eq.trans (st1 dX12_yearBy_0 rfl rfl) ?_
  refine Eq.trans (getRm dX12_yearBy_1 cp_12_67 ka_72 rfl r_72_29) ?_
  refine Eq.trans (st1 dX12_yearBy_4 rfl rfl) ?_
  refine Eq.trans (getRm dX12_yearBy_5 cp_12_70 ka_72 rfl r_72_30) ?_
  exact is2 dX12_yearBy_8 cp_12_347 (Nat.le_of_ble_eq_true rfl) rfl rfl (Nat.le_of_ble_eq_true rfl)
theorem q_X12_yearBy_11 {call : CALL} {L X : Nat} {I : Nat → Nat → Int32} {J : Nat → Nat → Int64} {x1 : Int32} {x2 : Int32} {x3 : Int32} {u4 : Option Value} {u5 : Option Value} : runI call iX12_yearBy (11, [some (.ref 72), some (.int x1), some (.int x2), some (.int x3), u4, u5], [], (mm L X I J)) = runI call iX12_yearBy (24, [some (.ref 72), some (.int x1), some (.int x2), some (.int x3), some (.int (nI 0)), u5], [], (mm L X (up2 (up2 I 72 50 x1) 72 40 (nI 0)) J)) := by
  refine Eq.trans (st1 dX12_yearBy_11 rfl rfl) ?_
  refine Eq.trans (st1 dX12_yearBy_12 rfl rfl) ?_
  refine Eq.trans (putIm dX12_yearBy_13 cp_12_425 ka_72 rfl) ?_
  refine Eq.trans (st1 dX12_yearBy_16 rfl rfl) ?_
  refine Eq.trans (xiconst dX12_yearBy_17 ci_0) ?_
  refine Eq.trans (putIm dX12_yearBy_18 cp_12_307 ka_72 rfl) ?_
  refine Eq.trans (xiconst dX12_yearBy_21 ci_0) ?_
  refine Eq.trans (st1 dX12_yearBy_22 rfl rfl) ?_
  rfl
theorem q_X12_yearBy_24 {call : CALL} {L X : Nat} {I : Nat → Nat → Int32} {J : Nat → Nat → Int64} {u1 : Option Value} {x2 : Int32} {x3 : Int32} {x4 : Int32} {u5 : Option Value} : runI call iX12_yearBy (24, [some (.ref 72), u1, some (.int x2), some (.int x3), some (.int x4), u5], [], (mm L X I J)) = if x2 ≤ x4 then some (.inl none, (mm L X I J)) else if (I 76 0) ≤ (nI 0) then runI call iX12_yearBy (84, [some (.ref 72), u1, some (.int x2), some (.int x3), some (.int x4), u5], [], (mm L X I J)) else bnd (call nX12_draw [.ref 72, .int (I 76 0)] (mm L X I J)) (fun v m' => runI call iX12_yearBy (49, [some (.ref 72), u1, some (.int x2), some (.int x3), some (.int x4), u5], v.toList ++ [], m')) := by
  refine Eq.trans (st1 dX12_yearBy_24 rfl rfl) ?_
  refine Eq.trans (st1 dX12_yearBy_26 rfl rfl) ?_
  refine Eq.trans (ic_ge (tgt := 98) dX12_yearBy_27 (by decide +kernel)) (ite_cong (fun _ => ?_) (fun _ => ?_))
  · exact ret3 dX12_yearBy_98 (.inl rfl)
  · refine Eq.trans (st1 dX12_yearBy_30 rfl rfl) ?_
    refine Eq.trans (getRm dX12_yearBy_31 cp_12_23 ka_72 rfl r_72_12) ?_
    refine Eq.trans (xiconst dX12_yearBy_34 ci_0) ?_
    refine Eq.trans (al1c dX12_yearBy_35 ka_76 (by decide +kernel) nc_0) ?_
    refine Eq.trans (if_le (tgt := 84) dX12_yearBy_36 (by decide +kernel)) (ite_cong (fun _ => ?_) (fun _ => ?_))
    · rfl
    · refine Eq.trans (st1 dX12_yearBy_39 rfl rfl) ?_
      refine Eq.trans (st1 dX12_yearBy_40 rfl rfl) ?_
      refine Eq.trans (getRm dX12_yearBy_41 cp_12_23 ka_72 rfl r_72_12) ?_
      refine Eq.trans (xiconst dX12_yearBy_44 ci_0) ?_
      refine Eq.trans (al1c dX12_yearBy_45 ka_76 (by decide +kernel) nc_0) ?_
      exact iv0 dX12_yearBy_46 rfl cp_12_429 rfl rfl (kd_ka ka_72) ka_72.1 (Nat.le_of_ble_eq_true rfl)
theorem q_X12_yearBy_84 {call : CALL} {L X : Nat} {I : Nat → Nat → Int32} {J : Nat → Nat → Int64} {u1 : Option Value} {x2 : Int32} {x3 : Int32} {x4 : Int32} {u5 : Option Value} : runI call iX12_yearBy (84, [some (.ref 72), u1, some (.int x2), some (.int x3), some (.int x4), u5], [], (mm L X I J)) = bnd (call nX12_hourEnds [.ref 72, .ref 534] (mm L X I J)) (fun v m' => runI call iX12_yearBy (92, [some (.ref 72), u1, some (.int x2), some (.int x3), some (.int x4), u5], v.toList ++ [], m')) := by
  refine Eq.trans (st1 dX12_yearBy_84 rfl rfl) ?_
  refine Eq.trans (st1 dX12_yearBy_85 rfl rfl) ?_
  refine Eq.trans (getRm dX12_yearBy_86 cp_12_70 ka_72 rfl r_72_30) ?_
  exact iv0 dX12_yearBy_89 rfl cp_12_330 rfl rfl (kd_ka ka_72) ka_72.1 (Nat.le_of_ble_eq_true rfl)
theorem q_X12_yearBy_49 {call : CALL} {L X : Nat} {I : Nat → Nat → Int32} {J : Nat → Nat → Int64} {u1 : Option Value} {x2 : Int32} {x3 : Int32} {x4 : Int32} {u5 : Option Value} {s0 : Int32} : runI call iX12_yearBy (49, [some (.ref 72), u1, some (.int x2), some (.int x3), some (.int x4), u5], [.int s0], (mm L X I J)) = bnd (call nX12_draw [.ref 72, .int (nI 4)] (mm L X I J)) (fun v m' => runI call iX12_yearBy (63, [some (.ref 72), u1, some (.int x2), some (.int x3), some (.int x4), some (.int s0)], v.toList ++ [.int s0, .ref 534, .ref 72], m')) := by
  refine Eq.trans (st1 dX12_yearBy_49 rfl rfl) ?_
  refine Eq.trans (st1 dX12_yearBy_51 rfl rfl) ?_
  refine Eq.trans (st1 dX12_yearBy_52 rfl rfl) ?_
  refine Eq.trans (getRm dX12_yearBy_53 cp_12_70 ka_72 rfl r_72_30) ?_
  refine Eq.trans (st1 dX12_yearBy_56 rfl rfl) ?_
  refine Eq.trans (st1 dX12_yearBy_58 rfl rfl) ?_
  refine Eq.trans (xiconst dX12_yearBy_59 ci_4) ?_
  exact iv0 dX12_yearBy_60 rfl cp_12_429 rfl rfl (kd_ka ka_72) ka_72.1 (Nat.le_of_ble_eq_true rfl)
theorem q_X12_yearBy_92 {call : CALL} {L X : Nat} {I : Nat → Nat → Int32} {J : Nat → Nat → Int64} {u1 : Option Value} {x2 : Int32} {x3 : Int32} {x4 : Int32} {u5 : Option Value} : runI call iX12_yearBy (92, [some (.ref 72), u1, some (.int x2), some (.int x3), some (.int x4), u5], [], (mm L X I J)) = runI call iX12_yearBy (24, [some (.ref 72), u1, some (.int x2), some (.int x3), some (.int (x4 + (nI 1))), u5], [], (mm L X I J)) := by
  refine Eq.trans (xinc2 dX12_yearBy_92 ci_1 rfl (Nat.le_of_ble_eq_true rfl) rfl) ?_
  refine Eq.trans (go_to (tgt := 24) dX12_yearBy_95 (by decide +kernel)) ?_
  rfl
theorem q_X12_yearBy_63 {call : CALL} {L X : Nat} {I : Nat → Nat → Int32} {J : Nat → Nat → Int64} {u1 : Option Value} {x2 : Int32} {x3 : Int32} {x4 : Int32} {u5 : Option Value} {s2 : Int32} {s3 : Int32} : runI call iX12_yearBy (63, [some (.ref 72), u1, some (.int x2), some (.int x3), some (.int x4), u5], [.int s3, .int s2, .ref 534, .ref 72], (mm L X I J)) = bnd (call nX12_acts [.ref 72, .ref 534, .int s2, .int s3] (mm L X I J)) (fun v m' => runI call iX12_yearBy (66, [some (.ref 72), u1, some (.int x2), some (.int x3), some (.int x4), u5], v.toList ++ [], m')) := by
  exact iv0 dX12_yearBy_63 rfl cp_12_432 rfl rfl (kd_ka ka_72) ka_72.1 (Nat.le_of_ble_eq_true rfl)
theorem q_X12_yearBy_66 {call : CALL} {L X : Nat} {I : Nat → Nat → Int32} {J : Nat → Nat → Int64} {u1 : Option Value} {x2 : Int32} {x3 : Int32} {x4 : Int32} {u5 : Option Value} : runI call iX12_yearBy (66, [some (.ref 72), u1, some (.int x2), some (.int x3), some (.int x4), u5], [], (mm L X I J)) = bnd (call nX12_draw [.ref 72, .int (nI 16)] (mm L X I J)) (fun v m' => runI call iX12_yearBy (72, [some (.ref 72), u1, some (.int x2), some (.int x3), some (.int x4), u5], v.toList ++ [], m')) := by
  refine Eq.trans (st1 dX12_yearBy_66 rfl rfl) ?_
  refine Eq.trans (xbipush dX12_yearBy_67 cb_16) ?_
  exact iv0 dX12_yearBy_69 rfl cp_12_429 rfl rfl (kd_ka ka_72) ka_72.1 (Nat.le_of_ble_eq_true rfl)
theorem q_X12_yearBy_72 {call : CALL} {L X : Nat} {I : Nat → Nat → Int32} {J : Nat → Nat → Int64} {u1 : Option Value} {x2 : Int32} {x3 : Int32} {x4 : Int32} {u5 : Option Value} {s0 : Int32} : runI call iX12_yearBy (72, [some (.ref 72), u1, some (.int x2), some (.int x3), some (.int x4), u5], [.int s0], (mm L X I J)) = if x3 ≤ s0 then runI call iX12_yearBy (84, [some (.ref 72), u1, some (.int x2), some (.int x3), some (.int x4), u5], [], (mm L X I J)) else bndN (call nX12_lifts [.ref 534] (mm L X I J)) (fun v m' => runI call iX12_yearBy (83, [some (.ref 72), u1, some (.int x2), some (.int x3), some (.int x4), u5], v.toList ++ [], m')) := by
  refine Eq.trans (st1 dX12_yearBy_72 rfl rfl) ?_
  refine Eq.trans (ic_ge (tgt := 84) dX12_yearBy_73 (by decide +kernel)) (ite_cong (fun _ => ?_) (fun _ => ?_))
  · rfl
  · refine Eq.trans (st1 dX12_yearBy_76 rfl rfl) ?_
    refine Eq.trans (getRm dX12_yearBy_77 cp_12_70 ka_72 rfl r_72_30) ?_
    exact is2 dX12_yearBy_80 cp_12_320 (Nat.le_of_ble_eq_true rfl) rfl rfl (Nat.le_of_ble_eq_true rfl)
theorem q_X12_yearBy_83 {call : CALL} {L X : Nat} {I : Nat → Nat → Int32} {J : Nat → Nat → Int64} {u1 : Option Value} {x2 : Int32} {x3 : Int32} {x4 : Int32} {u5 : Option Value} {s0 : Int32} : runI call iX12_yearBy (83, [some (.ref 72), u1, some (.int x2), some (.int x3), some (.int x4), u5], [.int s0], (mm L X I J)) = runI call iX12_yearBy (84, [some (.ref 72), u1, some (.int x2), some (.int x3), some (.int x4), u5], [], (mm L X I J)) := by
  refine Eq.trans (st1 dX12_yearBy_83 rfl rfl) ?_
  rfl
theorem q_X12_draw_0 {call : CALL} {L X : Nat} {I : Nat → Nat → Int32} {J : Nat → Nat → Int64} {x1 : Int32} : runI call iX12_draw (0, [some (.ref 72), some (.int x1)], [], (mm L X I J)) = gd (nz x1) (some (.inl (some (.int (((((up2 I 72 50 (((I 72 50) * (nI 1103515245)) + (nI 12345))) 72 50) >>> ((nI 16) &&& 31)) &&& (nI 32767)) - ((((up2 I 72 50 (((I 72 50) * (nI 1103515245)) + (nI 12345))) 72 50) >>> ((nI 16) &&& 31)) &&& (nI 32767)) / x1 * x1))), (mm L X (up2 I 72 50 (((I 72 50) * (nI 1103515245)) + (nI 12345))) J))) := by
  refine Eq.trans (st1 dX12_draw_0 rfl rfl) ?_
  refine Eq.trans (st1 dX12_draw_1 rfl rfl) ?_
  refine Eq.trans (getIm dX12_draw_2 cp_12_425 ka_72 (.inl rfl)) ?_
  refine Eq.trans (xldc2 dX12_draw_5 cp_12_428 cn_1103515245) ?_
  refine Eq.trans (st1 dX12_draw_8 rfl rfl) ?_
  refine Eq.trans (xsipush dX12_draw_9 cs_12345) ?_
  refine Eq.trans (st1 dX12_draw_12 rfl rfl) ?_
  refine Eq.trans (putIm dX12_draw_13 cp_12_425 ka_72 rfl) ?_
  refine Eq.trans (st1 dX12_draw_16 rfl rfl) ?_
  refine Eq.trans (getIm dX12_draw_17 cp_12_425 ka_72 (.inl rfl)) ?_
  refine Eq.trans (xbipush dX12_draw_20 cb_16) ?_
  refine Eq.trans (st1 dX12_draw_22 rfl rfl) ?_
  refine Eq.trans (xsipush dX12_draw_23 cs_32767) ?_
  refine Eq.trans (st1 dX12_draw_26 rfl rfl) ?_
  refine Eq.trans (st1 dX12_draw_27 rfl rfl) ?_
  refine Eq.trans (irmg dX12_draw_28) (gd_congr fun g1 => ?_)
  exact ret0 dX12_draw_29 rfl
theorem q_X12_acts_0 {call : CALL} {L X : Nat} {I : Nat → Nat → Int32} {J : Nat → Nat → Int64} {r1 : Nat} {n1 : Nat} {x2 : Int32} {x3 : Int32} (k1 : ka r1 1 n1) : runI call iX12_acts (0, [some (.ref 72), some (.ref r1), some (.int x2), some (.int x3)], [], (mm L X I J)) = runI call iX12_acts (1, [some (.ref 72), some (.ref r1), some (.int x2), some (.int x3)], [.int x3], (mm L X I J)) := by
  refine Eq.trans (st1 dX12_acts_0 rfl rfl) ?_
  rfl
theorem q_X12_acts_1 {call : CALL} {L X : Nat} {I : Nat → Nat → Int32} {J : Nat → Nat → Int64} {r1 : Nat} {n1 : Nat} {x2 : Int32} {x3 : Int32} {s0 : Int32} (k1 : ka r1 1 n1) : runI call iX12_acts (1, [some (.ref 72), some (.ref r1), some (.int x2), some (.int x3)], [.int s0], (mm L X I J)) = if s0 = (nI 0) then runI call iX12_acts (28, [some (.ref 72), some (.ref r1), some (.int x2), some (.int x3)], [], (mm L X I J)) else if s0 = (nI 1) then runI call iX12_acts (38, [some (.ref 72), some (.ref r1), some (.int x2), some (.int x3)], [], (mm L X I J)) else runI call iX12_acts (48, [some (.ref 72), some (.ref r1), some (.int x2), some (.int x3)], [], (mm L X I J)) := by
  refine ite_cong2 (fun e0 => sw_l dX12_acts_1 (by rw [e0]; decide +kernel)) (fun e0 => ?_)
  refine ite_cong2 (fun e1 => sw_l dX12_acts_1 (by rw [e1]; decide +kernel)) (fun e1 => ?_)
  exact sw_l dX12_acts_1 (swL_dflt2 (vs := [(0 : Int), (1 : Int)]) (by decide +kernel) (by decide +kernel) (by decide +kernel) (fun v hv => by simp only [List.mem_cons, List.not_mem_nil, or_false] at hv; rcases hv with rfl | rfl <;> first | exact ne_toInt (by decide +kernel) e0 | exact ne_toInt (by decide +kernel) e1))
theorem q_X12_acts_28 {call : CALL} {L X : Nat} {I : Nat → Nat → Int32} {J : Nat → Nat → Int64} {r1 : Nat} {n1 : Nat} {x2 : Int32} {u3 : Option Value} (k1 : ka r1 1 n1) : runI call iX12_acts (28, [some (.ref 72), some (.ref r1), some (.int x2), u3], [], (mm L X I J)) = bnd (call nX12_laysOne [.ref 72, .ref r1, .int x2] (mm L X I J)) (fun v m' => runI call iX12_acts (34, [some (.ref 72), some (.ref r1), some (.int x2), u3], v.toList ++ [], m')) := by
  refine Eq.trans (st1 dX12_acts_28 rfl rfl) ?_
  refine Eq.trans (st1 dX12_acts_29 rfl rfl) ?_
  refine Eq.trans (st1 dX12_acts_30 rfl rfl) ?_
  exact iv0 dX12_acts_31 rfl cp_12_317 rfl rfl (kd_ka ka_72) ka_72.1 (Nat.le_of_ble_eq_true rfl)
theorem q_X12_acts_38 {call : CALL} {L X : Nat} {I : Nat → Nat → Int32} {J : Nat → Nat → Int64} {r1 : Nat} {n1 : Nat} {x2 : Int32} {u3 : Option Value} (k1 : ka r1 1 n1) : runI call iX12_acts (38, [some (.ref 72), some (.ref r1), some (.int x2), u3], [], (mm L X I J)) = bnd (call nX12_turns [.ref 72, .ref r1, .int x2] (mm L X I J)) (fun v m' => runI call iX12_acts (44, [some (.ref 72), some (.ref r1), some (.int x2), u3], v.toList ++ [], m')) := by
  refine Eq.trans (st1 dX12_acts_38 rfl rfl) ?_
  refine Eq.trans (st1 dX12_acts_39 rfl rfl) ?_
  refine Eq.trans (st1 dX12_acts_40 rfl rfl) ?_
  exact iv0 dX12_acts_41 rfl cp_12_314 rfl rfl (kd_ka ka_72) ka_72.1 (Nat.le_of_ble_eq_true rfl)
theorem q_X12_acts_48 {call : CALL} {L X : Nat} {I : Nat → Nat → Int32} {J : Nat → Nat → Int64} {u0 : Option Value} {r1 : Nat} {n1 : Nat} {x2 : Int32} {x3 : Int32} (k1 : ka r1 1 n1) : runI call iX12_acts (48, [u0, some (.ref r1), some (.int x2), some (.int x3)], [], (mm L X I J)) = if x3 = (nI 2) then runI call iX12_acts (60, [u0, some (.ref r1), some (.int x2), some (.int x3)], [.int (nI 1), .int x2, .ref r1], (mm L X I J)) else runI call iX12_acts (60, [u0, some (.ref r1), some (.int x2), some (.int x3)], [.int (-1 : Int32), .int x2, .ref r1], (mm L X I J)) := by
  refine Eq.trans (st1 dX12_acts_48 rfl rfl) ?_
  refine Eq.trans (st1 dX12_acts_49 rfl rfl) ?_
  refine Eq.trans (st1 dX12_acts_50 rfl rfl) ?_
  refine Eq.trans (xiconst dX12_acts_51 ci_2) ?_
  refine Eq.trans (ic_ne (tgt := 59) dX12_acts_52 (by decide +kernel)) (ite_cong (fun _ => ?_) (fun _ => ?_))
  · refine Eq.trans (xiconst dX12_acts_55 ci_1) ?_
    refine Eq.trans (go_to (tgt := 60) dX12_acts_56 (by decide +kernel)) ?_
    rfl
  · refine Eq.trans (xiconst dX12_acts_59 ci_m1) ?_
    rfl
theorem q_X12_acts_34 {call : CALL} {L X : Nat} {I : Nat → Nat → Int32} {J : Nat → Nat → Int64} {u0 : Option Value} {u1 : Option Value} {u2 : Option Value} {u3 : Option Value} {s0 : Int32} : runI call iX12_acts (34, [u0, u1, u2, u3], [.int s0], (mm L X I J)) = some (.inl none, (mm L X I J)) := by
  refine Eq.trans (st1 dX12_acts_34 rfl rfl) ?_
  refine Eq.trans (go_to (tgt := 64) dX12_acts_35 (by decide +kernel)) ?_
  exact ret3 dX12_acts_64 (.inl rfl)
theorem q_X12_acts_44 {call : CALL} {L X : Nat} {I : Nat → Nat → Int32} {J : Nat → Nat → Int64} {u0 : Option Value} {u1 : Option Value} {u2 : Option Value} {u3 : Option Value} {s0 : Int32} : runI call iX12_acts (44, [u0, u1, u2, u3], [.int s0], (mm L X I J)) = some (.inl none, (mm L X I J)) := by
  refine Eq.trans (st1 dX12_acts_44 rfl rfl) ?_
  refine Eq.trans (go_to (tgt := 64) dX12_acts_45 (by decide +kernel)) ?_
  exact ret3 dX12_acts_64 (.inl rfl)
theorem q_X12_acts_60 {call : CALL} {L X : Nat} {I : Nat → Nat → Int32} {J : Nat → Nat → Int64} {u0 : Option Value} {u1 : Option Value} {u2 : Option Value} {u3 : Option Value} {r1 : Nat} {n1 : Nat} {s1 : Int32} {s2 : Int32} (k1 : ka r1 1 n1) : runI call iX12_acts (60, [u0, u1, u2, u3], [.int s2, .int s1, .ref r1], (mm L X I J)) = bndN (call nX12_bursts [.ref r1, .int s1, .int s2] (mm L X I J)) (fun v m' => runI call iX12_acts (63, [u0, u1, u2, u3], v.toList ++ [], m')) := by
  exact is2 dX12_acts_60 cp_12_327 (Nat.le_of_ble_eq_true rfl) rfl rfl (Nat.le_of_ble_eq_true rfl)
theorem q_X12_acts_63 {call : CALL} {L X : Nat} {I : Nat → Nat → Int32} {J : Nat → Nat → Int64} {u0 : Option Value} {u1 : Option Value} {u2 : Option Value} {u3 : Option Value} {s0 : Int32} : runI call iX12_acts (63, [u0, u1, u2, u3], [.int s0], (mm L X I J)) = some (.inl none, (mm L X I J)) := by
  refine Eq.trans (st1 dX12_acts_63 rfl rfl) ?_
  exact ret3 dX12_acts_64 (.inl rfl)
theorem q_X12_span_0 {call : CALL} {L X : Nat} {I : Nat → Nat → Int32} {J : Nat → Nat → Int64} {x1 : Int32} {x2 : Int32} {x3 : Int32} {x4 : Int32} {x5 : Int32} {x6 : Int32} : runI call iX12_span (0, [some (.ref 72), some (.int x1), some (.int x2), some (.int x3), some (.int x4), some (.int x5), some (.int x6), none, none, none, none, none], [], (mm L X I J)) = bndN (call nX12_in [.int x2, .int (nI 1), .int (nI 20)] (mm L X (up2 I 72 0 (nI 0)) J)) (fun v m' => runI call iX12_span (13, [some (.ref 72), some (.int x1), some (.int x2), some (.int x3), some (.int x4), some (.int x5), some (.int x6), none, none, none, none, none], v.toList ++ [.ref 72], m')) := by
  refine Eq.trans (st1 dX12_span_0 rfl rfl) ?_
  refine Eq.trans (xiconst dX12_span_1 ci_0) ?_
  refine Eq.trans (putIm dX12_span_2 cp_12_103 ka_72 rfl) ?_
  refine Eq.trans (st1 dX12_span_5 rfl rfl) ?_
  refine Eq.trans (st1 dX12_span_6 rfl rfl) ?_
  refine Eq.trans (xiconst dX12_span_7 ci_1) ?_
  refine Eq.trans (xbipush dX12_span_8 cb_20) ?_
  exact is2 dX12_span_10 cp_12_137 (Nat.le_of_ble_eq_true rfl) rfl rfl (Nat.le_of_ble_eq_true rfl)
theorem q_X12_span_13 {call : CALL} {L X : Nat} {I : Nat → Nat → Int32} {J : Nat → Nat → Int64} {x1 : Int32} {x2 : Int32} {x3 : Int32} {x4 : Int32} {x5 : Int32} {x6 : Int32} {u7 : Option Value} {u8 : Option Value} {u9 : Option Value} {u10 : Option Value} {u11 : Option Value} {s1 : Int32} : runI call iX12_span (13, [some (.ref 72), some (.int x1), some (.int x2), some (.int x3), some (.int x4), some (.int x5), some (.int x6), u7, u8, u9, u10, u11], [.int s1, .ref 72], (mm L X I J)) = if s1 = (nI 0) then runI call iX12_span (44, [some (.ref 72), some (.int x1), some (.int x2), some (.int x3), some (.int x4), some (.int x5), some (.int x6), u7, u8, u9, u10, u11], [.ref 72], (mm L X I J)) else bndN (call nX12_isYear [.int x3, .int x4] (mm L X I J)) (fun v m' => runI call iX12_span (22, [some (.ref 72), some (.int x1), some (.int x2), some (.int x3), some (.int x4), some (.int x5), some (.int x6), u7, u8, u9, u10, u11], v.toList ++ [.ref 72], m')) := by
  refine Eq.trans (if_eq (tgt := 44) dX12_span_13 (by decide +kernel)) (ite_cong (fun _ => ?_) (fun _ => ?_))
  · rfl
  · refine Eq.trans (st1 dX12_span_16 rfl rfl) ?_
    refine Eq.trans (st1 dX12_span_17 rfl rfl) ?_
    exact is2 dX12_span_19 cp_12_436 (Nat.le_of_ble_eq_true rfl) rfl rfl (Nat.le_of_ble_eq_true rfl)
theorem q_X12_span_44 {call : CALL} {L X : Nat} {I : Nat → Nat → Int32} {J : Nat → Nat → Int64} {x1 : Int32} {x2 : Int32} {x3 : Int32} {x4 : Int32} {x5 : Int32} {x6 : Int32} {u7 : Option Value} {u8 : Option Value} {u9 : Option Value} {u10 : Option Value} {u11 : Option Value} : runI call iX12_span (44, [some (.ref 72), some (.int x1), some (.int x2), some (.int x3), some (.int x4), some (.int x5), some (.int x6), u7, u8, u9, u10, u11], [.ref 72], (mm L X I J)) = runI call iX12_span (49, [some (.ref 72), some (.int x1), some (.int x2), some (.int x3), some (.int x4), some (.int x5), some (.int x6), u7, u8, u9, u10, u11], [.int (nI 1), .ref 72], (mm L X I J)) := by
  refine Eq.trans (xiconst dX12_span_44 ci_1) ?_
  refine Eq.trans (go_to (tgt := 49) dX12_span_45 (by decide +kernel)) ?_
  rfl
theorem q_X12_span_22 {call : CALL} {L X : Nat} {I : Nat → Nat → Int32} {J : Nat → Nat → Int64} {x1 : Int32} {x2 : Int32} {x3 : Int32} {x4 : Int32} {x5 : Int32} {x6 : Int32} {u7 : Option Value} {u8 : Option Value} {u9 : Option Value} {u10 : Option Value} {u11 : Option Value} {s1 : Int32} : runI call iX12_span (22, [some (.ref 72), some (.int x1), some (.int x2), some (.int x3), some (.int x4), some (.int x5), some (.int x6), u7, u8, u9, u10, u11], [.int s1, .ref 72], (mm L X I J)) = if s1 = (nI 0) then runI call iX12_span (44, [some (.ref 72), some (.int x1), some (.int x2), some (.int x3), some (.int x4), some (.int x5), some (.int x6), u7, u8, u9, u10, u11], [.ref 72], (mm L X I J)) else bndN (call nX12_in [.int x5, .int (nI 0), .int (nI 2)] (mm L X I J)) (fun v m' => runI call iX12_span (32, [some (.ref 72), some (.int x1), some (.int x2), some (.int x3), some (.int x4), some (.int x5), some (.int x6), u7, u8, u9, u10, u11], v.toList ++ [.ref 72], m')) := by
  refine Eq.trans (if_eq (tgt := 44) dX12_span_22 (by decide +kernel)) (ite_cong (fun _ => ?_) (fun _ => ?_))
  · rfl
  · refine Eq.trans (st1 dX12_span_25 rfl rfl) ?_
    refine Eq.trans (xiconst dX12_span_27 ci_0) ?_
    refine Eq.trans (xiconst dX12_span_28 ci_2) ?_
    exact is2 dX12_span_29 cp_12_137 (Nat.le_of_ble_eq_true rfl) rfl rfl (Nat.le_of_ble_eq_true rfl)
theorem q_X12_span_49 {call : CALL} {L X : Nat} {I : Nat → Nat → Int32} {J : Nat → Nat → Int64} {x1 : Int32} {x2 : Int32} {x3 : Int32} {x4 : Int32} {x5 : Int32} {x6 : Int32} {u7 : Option Value} {u8 : Option Value} {u9 : Option Value} {u10 : Option Value} {u11 : Option Value} {s1 : Int32} : runI call iX12_span (49, [some (.ref 72), some (.int x1), some (.int x2), some (.int x3), some (.int x4), some (.int x5), some (.int x6), u7, u8, u9, u10, u11], [.int s1, .ref 72], (mm L X I J)) = bnd (call nX12_bad [.ref 72, .int s1, .int (nI 1), .int (nI 1)] (mm L X I J)) (fun v m' => runI call iX12_span (54, [some (.ref 72), some (.int x1), some (.int x2), some (.int x3), some (.int x4), some (.int x5), some (.int x6), u7, u8, u9, u10, u11], v.toList ++ [], m')) := by
  refine Eq.trans (xiconst dX12_span_49 ci_1) ?_
  refine Eq.trans (xiconst dX12_span_50 ci_1) ?_
  exact iv0 dX12_span_51 rfl cp_12_182 rfl rfl (kd_ka ka_72) ka_72.1 (Nat.le_of_ble_eq_true rfl)
theorem q_X12_span_32 {call : CALL} {L X : Nat} {I : Nat → Nat → Int32} {J : Nat → Nat → Int64} {x1 : Int32} {x2 : Int32} {x3 : Int32} {x4 : Int32} {x5 : Int32} {x6 : Int32} {u7 : Option Value} {u8 : Option Value} {u9 : Option Value} {u10 : Option Value} {u11 : Option Value} {s1 : Int32} : runI call iX12_span (32, [some (.ref 72), some (.int x1), some (.int x2), some (.int x3), some (.int x4), some (.int x5), some (.int x6), u7, u8, u9, u10, u11], [.int s1, .ref 72], (mm L X I J)) = if s1 = (nI 0) then runI call iX12_span (44, [some (.ref 72), some (.int x1), some (.int x2), some (.int x3), some (.int x4), some (.int x5), some (.int x6), u7, u8, u9, u10, u11], [.ref 72], (mm L X I J)) else bnd (call nX12_isFire [.ref 72, .int x6] (mm L X I J)) (fun v m' => runI call iX12_span (41, [some (.ref 72), some (.int x1), some (.int x2), some (.int x3), some (.int x4), some (.int x5), some (.int x6), u7, u8, u9, u10, u11], v.toList ++ [.ref 72], m')) := by
  refine Eq.trans (if_eq (tgt := 44) dX12_span_32 (by decide +kernel)) (ite_cong (fun _ => ?_) (fun _ => ?_))
  · rfl
  · refine Eq.trans (st1 dX12_span_35 rfl rfl) ?_
    refine Eq.trans (st1 dX12_span_36 rfl rfl) ?_
    exact iv0 dX12_span_38 rfl cp_12_360 rfl rfl (kd_ka ka_72) ka_72.1 (Nat.le_of_ble_eq_true rfl)
theorem q_X12_span_54 {call : CALL} {L X : Nat} {I : Nat → Nat → Int32} {J : Nat → Nat → Int64} {x1 : Int32} {x2 : Int32} {x3 : Int32} {x4 : Int32} {x5 : Int32} {x6 : Int32} {u7 : Option Value} {u8 : Option Value} {u9 : Option Value} {u10 : Option Value} {u11 : Option Value} {s0 : Int32} : runI call iX12_span (54, [some (.ref 72), some (.int x1), some (.int x2), some (.int x3), some (.int x4), some (.int x5), some (.int x6), u7, u8, u9, u10, u11], [.int s0], (mm L X I J)) = if s0 = (nI 0) then runI call iX12_span (71, [some (.ref 72), some (.int x1), some (.int x2), some (.int x3), some (.int x4), some (.int x5), some (.int x6), some (.int (-1 : Int32)), some (.int (nI 0)), some (.int (nI 0)), some (.int (nI 0)), u11], [], (mm L X I J)) else some (.inl (some (.int (nI 0))), (mm L X I J)) := by
  refine Eq.trans (if_eq (tgt := 59) dX12_span_54 (by decide +kernel)) (ite_cong (fun _ => ?_) (fun _ => ?_))
  · refine Eq.trans (xiconst dX12_span_59 ci_m1) ?_
    refine Eq.trans (st1 dX12_span_60 rfl rfl) ?_
    refine Eq.trans (xiconst dX12_span_62 ci_0) ?_
    refine Eq.trans (st1 dX12_span_63 rfl rfl) ?_
    refine Eq.trans (xiconst dX12_span_65 ci_0) ?_
    refine Eq.trans (st1 dX12_span_66 rfl rfl) ?_
    refine Eq.trans (xiconst dX12_span_68 ci_0) ?_
    refine Eq.trans (st1 dX12_span_69 rfl rfl) ?_
    rfl
  · refine Eq.trans (xiconst dX12_span_57 ci_0) ?_
    exact ret0 dX12_span_58 rfl
theorem q_X12_span_41 {call : CALL} {L X : Nat} {I : Nat → Nat → Int32} {J : Nat → Nat → Int64} {x1 : Int32} {x2 : Int32} {x3 : Int32} {x4 : Int32} {x5 : Int32} {x6 : Int32} {u7 : Option Value} {u8 : Option Value} {u9 : Option Value} {u10 : Option Value} {u11 : Option Value} {s1 : Int32} : runI call iX12_span (41, [some (.ref 72), some (.int x1), some (.int x2), some (.int x3), some (.int x4), some (.int x5), some (.int x6), u7, u8, u9, u10, u11], [.int s1, .ref 72], (mm L X I J)) = if s1 = (nI 0) then runI call iX12_span (44, [some (.ref 72), some (.int x1), some (.int x2), some (.int x3), some (.int x4), some (.int x5), some (.int x6), u7, u8, u9, u10, u11], [.ref 72], (mm L X I J)) else runI call iX12_span (49, [some (.ref 72), some (.int x1), some (.int x2), some (.int x3), some (.int x4), some (.int x5), some (.int x6), u7, u8, u9, u10, u11], [.int (nI 0), .ref 72], (mm L X I J)) := by
  refine Eq.trans (if_ne (tgt := 48) dX12_span_41 (by decide +kernel)) (ite_cong (fun _ => ?_) (fun _ => ?_))
  · rfl
  · refine Eq.trans (xiconst dX12_span_48 ci_0) ?_
    rfl
theorem q_X12_span_71 {call : CALL} {L X : Nat} {I : Nat → Nat → Int32} {J : Nat → Nat → Int64} {x1 : Int32} {x2 : Int32} {x3 : Int32} {x4 : Int32} {x5 : Int32} {x6 : Int32} {x7 : Int32} {x8 : Int32} {x9 : Int32} {x10 : Int32} {u11 : Option Value} : runI call iX12_span (71, [some (.ref 72), some (.int x1), some (.int x2), some (.int x3), some (.int x4), some (.int x5), some (.int x6), some (.int x7), some (.int x8), some (.int x9), some (.int x10), u11], [], (mm L X I J)) = if x2 ≤ x10 then if x5 = (nI 0) then some (.inl (some (.int x7)), (mm L X I J)) else if x5 = (nI 1) then some (.inl (some (.int x8)), (mm L X I J)) else some (.inl (some (.int x9)), (mm L X I J)) else bnd (call nX12_yearBy [.ref 72, .int (x1 + x10), .int x3, .int x4] (mm L X I J)) (fun v m' => runI call iX12_span (88, [some (.ref 72), some (.int x1), some (.int x2), some (.int x3), some (.int x4), some (.int x5), some (.int x6), some (.int x7), some (.int x8), some (.int x9), some (.int x10), u11], v.toList ++ [], m')) := by
  refine Eq.trans (st1 dX12_span_71 rfl rfl) ?_
  refine Eq.trans (st1 dX12_span_73 rfl rfl) ?_
  refine Eq.trans (ic_ge (tgt := 158) dX12_span_74 (by decide +kernel)) (ite_cong (fun _ => ?_) (fun _ => ?_))
  · refine Eq.trans (st1 dX12_span_158 rfl rfl) ?_
    refine Eq.trans (if_ne (tgt := 168) dX12_span_160 (by decide +kernel)) (ite_cong (fun _ => ?_) (fun _ => ?_))
    · refine Eq.trans (st1 dX12_span_163 rfl rfl) ?_
      refine Eq.trans (go_to (tgt := 181) dX12_span_165 (by decide +kernel)) ?_
      exact ret0 dX12_span_181 rfl
    · refine Eq.trans (st1 dX12_span_168 rfl rfl) ?_
      refine Eq.trans (xiconst dX12_span_170 ci_1) ?_
      refine Eq.trans (ic_ne (tgt := 179) dX12_span_171 (by decide +kernel)) (ite_cong (fun _ => ?_) (fun _ => ?_))
      · refine Eq.trans (st1 dX12_span_174 rfl rfl) ?_
        refine Eq.trans (go_to (tgt := 181) dX12_span_176 (by decide +kernel)) ?_
        exact ret0 dX12_span_181 rfl
      · refine Eq.trans (st1 dX12_span_179 rfl rfl) ?_
        exact ret0 dX12_span_181 rfl
  · refine Eq.trans (st1 dX12_span_77 rfl rfl) ?_
    refine Eq.trans (st1 dX12_span_78 rfl rfl) ?_
    refine Eq.trans (st1 dX12_span_79 rfl rfl) ?_
    refine Eq.trans (st1 dX12_span_81 rfl rfl) ?_
    refine Eq.trans (st1 dX12_span_82 rfl rfl) ?_
    refine Eq.trans (st1 dX12_span_83 rfl rfl) ?_
    exact iv0 dX12_span_85 rfl cp_12_439 rfl rfl (kd_ka ka_72) ka_72.1 (Nat.le_of_ble_eq_true rfl)
theorem q_X12_span_88 {call : CALL} {L X : Nat} {I : Nat → Nat → Int32} {J : Nat → Nat → Int64} {x1 : Int32} {x2 : Int32} {x3 : Int32} {x4 : Int32} {x5 : Int32} {x6 : Int32} {x7 : Int32} {x8 : Int32} {x9 : Int32} {x10 : Int32} {u11 : Option Value} : runI call iX12_span (88, [some (.ref 72), some (.int x1), some (.int x2), some (.int x3), some (.int x4), some (.int x5), some (.int x6), some (.int x7), some (.int x8), some (.int x9), some (.int x10), u11], [], (mm L X I J)) = bndN (call nX12_manyIn [.ref 534] (mm L X I J)) (fun v m' => runI call iX12_span (95, [some (.ref 72), some (.int x1), some (.int x2), some (.int x3), some (.int x4), some (.int x5), some (.int x6), some (.int x7), some (.int x8), some (.int x9), some (.int x10), u11], v.toList ++ [], m')) := by
  refine Eq.trans (st1 dX12_span_88 rfl rfl) ?_
  refine Eq.trans (getRm dX12_span_89 cp_12_70 ka_72 rfl r_72_30) ?_
  exact is2 dX12_span_92 cp_12_264 (Nat.le_of_ble_eq_true rfl) rfl rfl (Nat.le_of_ble_eq_true rfl)
theorem q_X12_span_95 {call : CALL} {L X : Nat} {I : Nat → Nat → Int32} {J : Nat → Nat → Int64} {x1 : Int32} {x2 : Int32} {x3 : Int32} {x4 : Int32} {x5 : Int32} {x6 : Int32} {x7 : Int32} {x8 : Int32} {x9 : Int32} {x10 : Int32} {u11 : Option Value} {s0 : Int32} : runI call iX12_span (95, [some (.ref 72), some (.int x1), some (.int x2), some (.int x3), some (.int x4), some (.int x5), some (.int x6), some (.int x7), some (.int x8), some (.int x9), some (.int x10), u11], [.int s0], (mm L X I J)) = if x7 = (-1 : Int32) then runI call iX12_span (115, [some (.ref 72), some (.int x1), some (.int x2), some (.int x3), some (.int x4), some (.int x5), some (.int x6), some (.int x7), some (.int x8), some (.int x9), some (.int x10), some (.int s0)], [.int s0], (mm L X I J)) else bndN (call nX12_less [.int x7, .int s0] (mm L X I J)) (fun v m' => runI call iX12_span (115, [some (.ref 72), some (.int x1), some (.int x2), some (.int x3), some (.int x4), some (.int x5), some (.int x6), some (.int x7), some (.int x8), some (.int x9), some (.int x10), some (.int s0)], v.toList ++ [], m')) := by
  refine Eq.trans (st1 dX12_span_95 rfl rfl) ?_
  refine Eq.trans (st1 dX12_span_97 rfl rfl) ?_
  refine Eq.trans (xiconst dX12_span_99 ci_m1) ?_
  refine Eq.trans (ic_ne (tgt := 108) dX12_span_100 (by decide +kernel)) (ite_cong (fun _ => ?_) (fun _ => ?_))
  · refine Eq.trans (st1 dX12_span_103 rfl rfl) ?_
    refine Eq.trans (go_to (tgt := 115) dX12_span_105 (by decide +kernel)) ?_
    rfl
  · refine Eq.trans (st1 dX12_span_108 rfl rfl) ?_
    refine Eq.trans (st1 dX12_span_110 rfl rfl) ?_
    exact is2 dX12_span_112 cp_12_245 (Nat.le_of_ble_eq_true rfl) rfl rfl (Nat.le_of_ble_eq_true rfl)
theorem q_X12_span_115 {call : CALL} {L X : Nat} {I : Nat → Nat → Int32} {J : Nat → Nat → Int64} {x1 : Int32} {x2 : Int32} {x3 : Int32} {x4 : Int32} {x5 : Int32} {x6 : Int32} {u7 : Option Value} {x8 : Int32} {x9 : Int32} {x10 : Int32} {x11 : Int32} {s0 : Int32} : runI call iX12_span (115, [some (.ref 72), some (.int x1), some (.int x2), some (.int x3), some (.int x4), some (.int x5), some (.int x6), u7, some (.int x8), some (.int x9), some (.int x10), some (.int x11)], [.int s0], (mm L X I J)) = bndN (call nX12_more [.int x8, .int x11] (mm L X I J)) (fun v m' => runI call iX12_span (124, [some (.ref 72), some (.int x1), some (.int x2), some (.int x3), some (.int x4), some (.int x5), some (.int x6), some (.int s0), some (.int x8), some (.int x9), some (.int x10), some (.int x11)], v.toList ++ [], m')) := by
  refine Eq.trans (st1 dX12_span_115 rfl rfl) ?_
  refine Eq.trans (st1 dX12_span_117 rfl rfl) ?_
  refine Eq.trans (st1 dX12_span_119 rfl rfl) ?_
  exact is2 dX12_span_121 cp_12_248 (Nat.le_of_ble_eq_true rfl) rfl rfl (Nat.le_of_ble_eq_true rfl)
theorem q_X12_span_124 {call : CALL} {L X : Nat} {I : Nat → Nat → Int32} {J : Nat → Nat → Int64} {x1 : Int32} {x2 : Int32} {x3 : Int32} {x4 : Int32} {x5 : Int32} {x6 : Int32} {x7 : Int32} {u8 : Option Value} {x9 : Int32} {x10 : Int32} {u11 : Option Value} {s0 : Int32} : runI call iX12_span (124, [some (.ref 72), some (.int x1), some (.int x2), some (.int x3), some (.int x4), some (.int x5), some (.int x6), some (.int x7), u8, some (.int x9), some (.int x10), u11], [.int s0], (mm L X I J)) = bnd (call nX12_outIn [.ref 72, .ref 534] (mm L X I J)) (fun v m' => runI call iX12_span (136, [some (.ref 72), some (.int x1), some (.int x2), some (.int x3), some (.int x4), some (.int x5), some (.int x6), some (.int x7), some (.int s0), some (.int x9), some (.int x10), u11], v.toList ++ [.int x9], m')) := by
  refine Eq.trans (st1 dX12_span_124 rfl rfl) ?_
  refine Eq.trans (st1 dX12_span_126 rfl rfl) ?_
  refine Eq.trans (st1 dX12_span_128 rfl rfl) ?_
  refine Eq.trans (st1 dX12_span_129 rfl rfl) ?_
  refine Eq.trans (getRm dX12_span_130 cp_12_70 ka_72 rfl r_72_30) ?_
  exact iv0 dX12_span_133 rfl cp_12_354 rfl rfl (kd_ka ka_72) ka_72.1 (Nat.le_of_ble_eq_true rfl)
theorem q_X12_span_136 {call : CALL} {L X : Nat} {I : Nat → Nat → Int32} {J : Nat → Nat → Int64} {x1 : Int32} {x2 : Int32} {x3 : Int32} {x4 : Int32} {x5 : Int32} {x6 : Int32} {x7 : Int32} {x8 : Int32} {u9 : Option Value} {x10 : Int32} {u11 : Option Value} {s0 : Int32} {s1 : Int32} : runI call iX12_span (136, [some (.ref 72), some (.int x1), some (.int x2), some (.int x3), some (.int x4), some (.int x5), some (.int x6), some (.int x7), some (.int x8), u9, some (.int x10), u11], [.int s1, .int s0], (mm L X I J)) = bndN (call nX12_has [.int s1, .int x6] (mm L X I J)) (fun v m' => runI call iX12_span (141, [some (.ref 72), some (.int x1), some (.int x2), some (.int x3), some (.int x4), some (.int x5), some (.int x6), some (.int x7), some (.int x8), u9, some (.int x10), u11], v.toList ++ [.int s0], m')) := by
  refine Eq.trans (st1 dX12_span_136 rfl rfl) ?_
  exact is2 dX12_span_138 cp_12_366 (Nat.le_of_ble_eq_true rfl) rfl rfl (Nat.le_of_ble_eq_true rfl)
theorem q_X12_span_141 {call : CALL} {L X : Nat} {I : Nat → Nat → Int32} {J : Nat → Nat → Int64} {x1 : Int32} {x2 : Int32} {x3 : Int32} {x4 : Int32} {x5 : Int32} {x6 : Int32} {x7 : Int32} {x8 : Int32} {u9 : Option Value} {x10 : Int32} {u11 : Option Value} {s0 : Int32} {s1 : Int32} : runI call iX12_span (141, [some (.ref 72), some (.int x1), some (.int x2), some (.int x3), some (.int x4), some (.int x5), some (.int x6), some (.int x7), some (.int x8), u9, some (.int x10), u11], [.int s1, .int s0], (mm L X I J)) = if s1 = (nI 0) then runI call iX12_span (149, [some (.ref 72), some (.int x1), some (.int x2), some (.int x3), some (.int x4), some (.int x5), some (.int x6), some (.int x7), some (.int x8), u9, some (.int x10), u11], [.int (nI 0), .int s0], (mm L X I J)) else runI call iX12_span (149, [some (.ref 72), some (.int x1), some (.int x2), some (.int x3), some (.int x4), some (.int x5), some (.int x6), some (.int x7), some (.int x8), u9, some (.int x10), u11], [.int (nI 1), .int s0], (mm L X I J)) := by
  refine Eq.trans (if_eq (tgt := 148) dX12_span_141 (by decide +kernel)) (ite_cong (fun _ => ?_) (fun _ => ?_))
  · refine Eq.trans (xiconst dX12_span_148 ci_0) ?_
    rfl
  · refine Eq.trans (xiconst dX12_span_144 ci_1) ?_
    refine Eq.trans (go_to (tgt := 149) dX12_span_145 (by decide +kernel)) ?_
    rfl
theorem q_X12_span_149 {call : CALL} {L X : Nat} {I : Nat → Nat → Int32} {J : Nat → Nat → Int64} {x1 : Int32} {x2 : Int32} {x3 : Int32} {x4 : Int32} {x5 : Int32} {x6 : Int32} {x7 : Int32} {x8 : Int32} {u9 : Option Value} {x10 : Int32} {u11 : Option Value} {s0 : Int32} {s1 : Int32} : runI call iX12_span (149, [some (.ref 72), some (.int x1), some (.int x2), some (.int x3), some (.int x4), some (.int x5), some (.int x6), some (.int x7), some (.int x8), u9, some (.int x10), u11], [.int s1, .int s0], (mm L X I J)) = runI call iX12_span (71, [some (.ref 72), some (.int x1), some (.int x2), some (.int x3), some (.int x4), some (.int x5), some (.int x6), some (.int x7), some (.int x8), some (.int (s0 + s1)), some (.int (x10 + (nI 1))), u11], [], (mm L X I J)) := by
  refine Eq.trans (st1 dX12_span_149 rfl rfl) ?_
  refine Eq.trans (st1 dX12_span_150 rfl rfl) ?_
  refine Eq.trans (xinc2 dX12_span_152 ci_1 rfl (Nat.le_of_ble_eq_true rfl) rfl) ?_
  refine Eq.trans (go_to (tgt := 71) dX12_span_155 (by decide +kernel)) ?_
  rfl
theorem q_X12_image_0 {call : CALL} {L X : Nat} {I : Nat → Nat → Int32} {J : Nat → Nat → Int64}  : runI call iX12_image (0, [some (.ref 72)], [], (mm L X I J)) = if ((up2 I 72 0 (nI 0)) 72 37) = (nI 3) then some (.inl (some (.int (-1 : Int32))), (mm L X (up2 I 72 0 (nI 0)) J)) else gd (inb ((up2 I 72 0 (nI 0)) 72 37) 3) (bnd (call nX12_putsAll [.ref 72, .ref (554 + (((up2 I 72 0 (nI 0)) 72 37)).toNatClampNeg), .int (nI 0)] (mm L X (up2 I 72 0 (nI 0)) J)) (fun v m' => runI call iX12_image (29, [some (.ref 72)], v.toList ++ [], m'))) := by
  refine Eq.trans (st1 dX12_image_0 rfl rfl) ?_
  refine Eq.trans (xiconst dX12_image_1 ci_0) ?_
  refine Eq.trans (putIm dX12_image_2 cp_12_103 ka_72 rfl) ?_
  refine Eq.trans (st1 dX12_image_5 rfl rfl) ?_
  refine Eq.trans (getIm dX12_image_6 cp_12_214 ka_72 (.inl rfl)) ?_
  refine Eq.trans (xiconst dX12_image_9 ci_3) ?_
  refine Eq.trans (ic_ne (tgt := 15) dX12_image_10 (by decide +kernel)) (ite_cong (fun _ => ?_) (fun _ => ?_))
  · refine Eq.trans (xiconst dX12_image_13 ci_m1) ?_
    exact ret0 dX12_image_14 rfl
  · refine Eq.trans (st1 dX12_image_15 rfl rfl) ?_
    refine Eq.trans (st1 dX12_image_16 rfl rfl) ?_
    refine Eq.trans (getRm dX12_image_17 cp_12_79 ka_72 rfl r_72_33) ?_
    refine Eq.trans (st1 dX12_image_20 rfl rfl) ?_
    refine Eq.trans (getIm dX12_image_21 cp_12_214 ka_72 (.inl rfl)) ?_
    refine Eq.trans (al4m dX12_image_24 ka_553 rr_553) (gd_congr fun g1 => ?_)
    refine Eq.trans (xiconst dX12_image_25 ci_0) ?_
    exact iv0 dX12_image_26 rfl cp_12_450 rfl rfl (kd_ka ka_72) ka_72.1 (Nat.le_of_ble_eq_true rfl)
theorem q_X12_image_29 {call : CALL} {L X : Nat} {I : Nat → Nat → Int32} {J : Nat → Nat → Int64}  : runI call iX12_image (29, [some (.ref 72)], [], (mm L X I J)) = some (.inl (some (.int ((up2 I 72 37 ((I 72 37) + (nI 1))) 72 37))), (mm L X (up2 I 72 37 ((I 72 37) + (nI 1))) J)) := by
  refine Eq.trans (st1 dX12_image_29 rfl rfl) ?_
  refine Eq.trans (st1 dX12_image_30 rfl rfl) ?_
  refine Eq.trans (getIm dX12_image_31 cp_12_214 ka_72 (.inl rfl)) ?_
  refine Eq.trans (xiconst dX12_image_34 ci_1) ?_
  refine Eq.trans (st1 dX12_image_35 rfl rfl) ?_
  refine Eq.trans (putIm dX12_image_36 cp_12_214 ka_72 rfl) ?_
  refine Eq.trans (st1 dX12_image_39 rfl rfl) ?_
  refine Eq.trans (getIm dX12_image_40 cp_12_214 ka_72 (.inl rfl)) ?_
  exact ret0 dX12_image_43 rfl
theorem q_X12_putsAll_0 {call : CALL} {L X : Nat} {I : Nat → Nat → Int32} {J : Nat → Nat → Int64} {r1 : Nat} {n1 : Nat} {x2 : Int32} (k1 : ka r1 1 n1) : runI call iX12_putsAll (0, [some (.ref 72), some (.ref r1), some (.int x2), none, none], [], (mm L X I J)) = bnd (call nX12_puts [.ref 72, .ref r1, .int ((up2 I 72 38 (nI 0)) 72 35), .int x2] (mm L X (up2 I 72 38 (nI 0)) J)) (fun v m' => runI call iX12_putsAll (16, [some (.ref 72), some (.ref r1), some (.int x2), none, none], v.toList ++ [.ref 72], m')) := by
  refine Eq.trans (st1 dX12_putsAll_0 rfl rfl) ?_
  refine Eq.trans (xiconst dX12_putsAll_1 ci_0) ?_
  refine Eq.trans (putIm dX12_putsAll_2 cp_12_443 ka_72 rfl) ?_
  refine Eq.trans (st1 dX12_putsAll_5 rfl rfl) ?_
  refine Eq.trans (st1 dX12_putsAll_6 rfl rfl) ?_
  refine Eq.trans (st1 dX12_putsAll_7 rfl rfl) ?_
  refine Eq.trans (st1 dX12_putsAll_8 rfl rfl) ?_
  refine Eq.trans (getIm dX12_putsAll_9 cp_12_208 ka_72 (.inl rfl)) ?_
  refine Eq.trans (st1 dX12_putsAll_12 rfl rfl) ?_
  exact iv0 dX12_putsAll_13 rfl cp_12_446 rfl rfl (kd_ka ka_72) ka_72.1 (Nat.le_of_ble_eq_true rfl)
theorem q_X12_putsAll_16 {call : CALL} {L X : Nat} {I : Nat → Nat → Int32} {J : Nat → Nat → Int64} {r1 : Nat} {n1 : Nat} {x2 : Int32} {u3 : Option Value} {u4 : Option Value} {s1 : Int32} (k1 : ka r1 1 n1) : runI call iX12_putsAll (16, [some (.ref 72), some (.ref r1), some (.int x2), u3, u4], [.int s1, .ref 72], (mm L X I J)) = runI call iX12_putsAll (21, [some (.ref 72), some (.ref r1), some (.int x2), some (.int (nI 0)), u4], [], (mm L X (up2 I 72 35 s1) J)) := by
  refine Eq.trans (putIm dX12_putsAll_16 cp_12_208 ka_72 rfl) ?_
  refine Eq.trans (xiconst dX12_putsAll_19 ci_0) ?_
  refine Eq.trans (st1 dX12_putsAll_20 rfl rfl) ?_
  rfl
theorem q_X12_putsAll_21 {call : CALL} {L X : Nat} {I : Nat → Nat → Int32} {J : Nat → Nat → Int64} {r1 : Nat} {n1 : Nat} {x2 : Int32} {x3 : Int32} {u4 : Option Value} (k1 : ka r1 1 n1) : runI call iX12_putsAll (21, [some (.ref 72), some (.ref r1), some (.int x2), some (.int x3), u4], [], (mm L X I J)) = if (nI 31) ≤ x3 then runI call iX12_putsAll (53, [some (.ref 72), some (.ref r1), some (.int x2), some (.int (nI 0)), u4], [], (mm L X I J)) else gd (inb x3 31) (bnd (call nX12_puts [.ref 72, .ref r1, .int (I 533 (x3).toNatClampNeg), .int x2] (mm L X I J)) (fun v m' => runI call iX12_putsAll (44, [some (.ref 72), some (.ref r1), some (.int x2), some (.int x3), u4], v.toList ++ [.int x3, .ref 533], m'))) := by
  refine Eq.trans (st1 dX12_putsAll_21 rfl rfl) ?_
  refine Eq.trans (xbipush dX12_putsAll_22 cb_31) ?_
  refine Eq.trans (ic_ge (tgt := 51) dX12_putsAll_24 (by decide +kernel)) (ite_cong (fun _ => ?_) (fun _ => ?_))
  · refine Eq.trans (xiconst dX12_putsAll_51 ci_0) ?_
    refine Eq.trans (st1 dX12_putsAll_52 rfl rfl) ?_
    rfl
  · refine Eq.trans (st1 dX12_putsAll_27 rfl rfl) ?_
    refine Eq.trans (getRm dX12_putsAll_28 cp_12_67 ka_72 rfl r_72_29) ?_
    refine Eq.trans (st1 dX12_putsAll_31 rfl rfl) ?_
    refine Eq.trans (st1 dX12_putsAll_32 rfl rfl) ?_
    refine Eq.trans (st1 dX12_putsAll_33 rfl rfl) ?_
    refine Eq.trans (st1 dX12_putsAll_34 rfl rfl) ?_
    refine Eq.trans (getRm dX12_putsAll_35 cp_12_67 ka_72 rfl r_72_29) ?_
    refine Eq.trans (st1 dX12_putsAll_38 rfl rfl) ?_
    refine Eq.trans (al1m dX12_putsAll_39 ka_533) (gd_congr fun g1 => ?_)
    refine Eq.trans (st1 dX12_putsAll_40 rfl rfl) ?_
    exact iv0 dX12_putsAll_41 rfl cp_12_446 rfl rfl (kd_ka ka_72) ka_72.1 (Nat.le_of_ble_eq_true rfl)
theorem q_X12_putsAll_53 {call : CALL} {L X : Nat} {I : Nat → Nat → Int32} {J : Nat → Nat → Int64} {r1 : Nat} {n1 : Nat} {x2 : Int32} {x3 : Int32} {u4 : Option Value} (k1 : ka r1 1 n1) : runI call iX12_putsAll (53, [some (.ref 72), some (.ref r1), some (.int x2), some (.int x3), u4], [], (mm L X I J)) = if (nI 16) ≤ x3 then some (.inl none, (mm L X I J)) else runI call iX12_putsAll (62, [some (.ref 72), some (.ref r1), some (.int x2), some (.int x3), some (.int (nI 0))], [], (mm L X I J)) := by
  refine Eq.trans (st1 dX12_putsAll_53 rfl rfl) ?_
  refine Eq.trans (xbipush dX12_putsAll_54 cb_16) ?_
  refine Eq.trans (ic_ge (tgt := 105) dX12_putsAll_56 (by decide +kernel)) (ite_cong (fun _ => ?_) (fun _ => ?_))
  · exact ret3 dX12_putsAll_105 (.inl rfl)
  · refine Eq.trans (xiconst dX12_putsAll_59 ci_0) ?_
    refine Eq.trans (st1 dX12_putsAll_60 rfl rfl) ?_
    rfl
theorem q_X12_putsAll_44 {call : CALL} {L X : Nat} {I : Nat → Nat → Int32} {J : Nat → Nat → Int64} {r1 : Nat} {n1 : Nat} {x2 : Int32} {x3 : Int32} {u4 : Option Value} {s1 : Int32} {s2 : Int32} (k1 : ka r1 1 n1) : runI call iX12_putsAll (44, [some (.ref 72), some (.ref r1), some (.int x2), some (.int x3), u4], [.int s2, .int s1, .ref 533], (mm L X I J)) = gd (inb s1 31) (runI call iX12_putsAll (21, [some (.ref 72), some (.ref r1), some (.int x2), some (.int (x3 + (nI 1))), u4], [], (mm L X (up2 I 533 (s1).toNatClampNeg s2) J))) := by
  refine Eq.trans (as1m dX12_putsAll_44 ka_533) (gd_congr fun g1 => ?_)
  refine Eq.trans (xinc2 dX12_putsAll_45 ci_1 rfl (Nat.le_of_ble_eq_true rfl) rfl) ?_
  refine Eq.trans (go_to (tgt := 21) dX12_putsAll_48 (by decide +kernel)) ?_
  rfl
theorem q_X12_putsAll_62 {call : CALL} {L X : Nat} {I : Nat → Nat → Int32} {J : Nat → Nat → Int64} {r1 : Nat} {n1 : Nat} {x2 : Int32} {x3 : Int32} {x4 : Int32} (k1 : ka r1 1 n1) : runI call iX12_putsAll (62, [some (.ref 72), some (.ref r1), some (.int x2), some (.int x3), some (.int x4)], [], (mm L X I J)) = if (nI 31) ≤ x4 then runI call iX12_putsAll (53, [some (.ref 72), some (.ref r1), some (.int x2), some (.int (x3 + (nI 1))), some (.int x4)], [], (mm L X I J)) else gd (inb x3 16) (gd (inb x4 31) (bnd (call nX12_puts [.ref 72, .ref r1, .int (I (537 + (x3).toNatClampNeg) (x4).toNatClampNeg), .int x2] (mm L X I J)) (fun v m' => runI call iX12_putsAll (92, [some (.ref 72), some (.ref r1), some (.int x2), some (.int x3), some (.int x4)], v.toList ++ [.int x4, .ref (537 + (x3).toNatClampNeg)], m')))) := by
  refine Eq.trans (st1 dX12_putsAll_62 rfl rfl) ?_
  refine Eq.trans (xbipush dX12_putsAll_64 cb_31) ?_
  refine Eq.trans (ic_ge (tgt := 99) dX12_putsAll_66 (by decide +kernel)) (ite_cong (fun _ => ?_) (fun _ => ?_))
  · refine Eq.trans (xinc2 dX12_putsAll_99 ci_1 rfl (Nat.le_of_ble_eq_true rfl) rfl) ?_
    refine Eq.trans (go_to (tgt := 53) dX12_putsAll_102 (by decide +kernel)) ?_
    rfl
  · refine Eq.trans (st1 dX12_putsAll_69 rfl rfl) ?_
    refine Eq.trans (getRm dX12_putsAll_70 cp_12_76 ka_72 rfl r_72_32) ?_
    refine Eq.trans (st1 dX12_putsAll_73 rfl rfl) ?_
    refine Eq.trans (al4m dX12_putsAll_74 ka_536 rr_536) (gd_congr fun g1 => ?_)
    refine Eq.trans (st1 dX12_putsAll_75 rfl rfl) ?_
    refine Eq.trans (st1 dX12_putsAll_77 rfl rfl) ?_
    refine Eq.trans (st1 dX12_putsAll_78 rfl rfl) ?_
    refine Eq.trans (st1 dX12_putsAll_79 rfl rfl) ?_
    refine Eq.trans (getRm dX12_putsAll_80 cp_12_76 ka_72 rfl r_72_32) ?_
    refine Eq.trans (st1 dX12_putsAll_83 rfl rfl) ?_
    refine Eq.trans (al4m dX12_putsAll_84 ka_536 rr_536) (Eq.trans (gd_t g1) ?_)
    refine Eq.trans (st1 dX12_putsAll_85 rfl rfl) ?_
    refine Eq.trans (al1m dX12_putsAll_87 (kr_536 (inb_lt g1))) (gd_congr fun g2 => ?_)
    refine Eq.trans (st1 dX12_putsAll_88 rfl rfl) ?_
    exact iv0 dX12_putsAll_89 rfl cp_12_446 rfl rfl (kd_ka ka_72) ka_72.1 (Nat.le_of_ble_eq_true rfl)
theorem q_X12_putsAll_92 {call : CALL} {L X : Nat} {I : Nat → Nat → Int32} {J : Nat → Nat → Int64} {r1 : Nat} {n1 : Nat} {x2 : Int32} {x3 : Int32} {x4 : Int32} {q0 : Nat} {s1 : Int32} {s2 : Int32} (k1 : ka r1 1 n1) (kq0 : ka q0 1 31) : runI call iX12_putsAll (92, [some (.ref 72), some (.ref r1), some (.int x2), some (.int x3), some (.int x4)], [.int s2, .int s1, .ref q0], (mm L X I J)) = gd (inb s1 31) (runI call iX12_putsAll (62, [some (.ref 72), some (.ref r1), some (.int x2), some (.int x3), some (.int (x4 + (nI 1)))], [], (mm L X (up2 I q0 (s1).toNatClampNeg s2) J))) := by
  refine Eq.trans (as1m dX12_putsAll_92 kq0) (gd_congr fun g1 => ?_)
  refine Eq.trans (xinc2 dX12_putsAll_93 ci_1 rfl (Nat.le_of_ble_eq_true rfl) rfl) ?_
  refine Eq.trans (go_to (tgt := 62) dX12_putsAll_96 (by decide +kernel)) ?_
  rfl
theorem q_X12_puts_0 {call : CALL} {L X : Nat} {I : Nat → Nat → Int32} {J : Nat → Nat → Int64} {r1 : Nat} {n1 : Nat} {x2 : Int32} {x3 : Int32} (k1 : ka r1 1 n1) : runI call iX12_puts (0, [some (.ref 72), some (.ref r1), some (.int x2), some (.int x3)], [], (mm L X I J)) = if x3 = (nI 0) then gd (inb (I 72 38) n1) (runI call iX12_puts (11, [some (.ref 72), some (.ref r1), some (.int x2), some (.int x3)], [], (mm L X (up2 I r1 ((I 72 38)).toNatClampNeg x2) J))) else runI call iX12_puts (11, [some (.ref 72), some (.ref r1), some (.int x2), some (.int x3)], [], (mm L X I J)) := by
  refine Eq.trans (st1 dX12_puts_0 rfl rfl) ?_
  refine Eq.trans (if_ne (tgt := 11) dX12_puts_1 (by decide +kernel)) (ite_cong (fun _ => ?_) (fun _ => ?_))
  · refine Eq.trans (st1 dX12_puts_4 rfl rfl) ?_
    refine Eq.trans (st1 dX12_puts_5 rfl rfl) ?_
    refine Eq.trans (getIm dX12_puts_6 cp_12_443 ka_72 (.inl rfl)) ?_
    refine Eq.trans (st1 dX12_puts_9 rfl rfl) ?_
    refine Eq.trans (as1m dX12_puts_10 k1) (gd_congr fun g1 => ?_)
    rfl
  · rfl
theorem q_X12_puts_11 {call : CALL} {L X : Nat} {I : Nat → Nat → Int32} {J : Nat → Nat → Int64} {r1 : Nat} {n1 : Nat} {u2 : Option Value} {u3 : Option Value} (k1 : ka r1 1 n1) : runI call iX12_puts (11, [some (.ref 72), some (.ref r1), u2, u3], [], (mm L X I J)) = gd (inb (((up2 I 72 38 ((I 72 38) + (nI 1))) 72 38) - (nI 1)) n1) (some (.inl (some (.int ((up2 I 72 38 ((I 72 38) + (nI 1))) r1 ((((up2 I 72 38 ((I 72 38) + (nI 1))) 72 38) - (nI 1))).toNatClampNeg))), (mm L X (up2 I 72 38 ((I 72 38) + (nI 1))) J))) := by
  refine Eq.trans (st1 dX12_puts_11 rfl rfl) ?_
  refine Eq.trans (st1 dX12_puts_12 rfl rfl) ?_
  refine Eq.trans (getIm dX12_puts_13 cp_12_443 ka_72 (.inl rfl)) ?_
  refine Eq.trans (xiconst dX12_puts_16 ci_1) ?_
  refine Eq.trans (st1 dX12_puts_17 rfl rfl) ?_
  refine Eq.trans (putIm dX12_puts_18 cp_12_443 ka_72 rfl) ?_
  refine Eq.trans (st1 dX12_puts_21 rfl rfl) ?_
  refine Eq.trans (st1 dX12_puts_22 rfl rfl) ?_
  refine Eq.trans (getIm dX12_puts_23 cp_12_443 ka_72 (.inl rfl)) ?_
  refine Eq.trans (xiconst dX12_puts_26 ci_1) ?_
  refine Eq.trans (st1 dX12_puts_27 rfl rfl) ?_
  refine Eq.trans (al1m dX12_puts_28 k1) (gd_congr fun g1 => ?_)
  exact ret0 dX12_puts_29 rfl
theorem q_X12_restore_0 {call : CALL} {L X : Nat} {I : Nat → Nat → Int32} {J : Nat → Nat → Int64}  : runI call iX12_restore (0, [some (.ref 72)], [], (mm L X I J)) = if ((up2 I 72 0 (nI 0)) 72 37) = (nI 0) then some (.inl (some (.int (-1 : Int32))), (mm L X (up2 I 72 0 (nI 0)) J)) else gd (inb ((up2 (up2 I 72 0 (nI 0)) 72 37 (((up2 I 72 0 (nI 0)) 72 37) - (nI 1))) 72 37) 3) (bnd (call nX12_putsAll [.ref 72, .ref (554 + (((up2 (up2 I 72 0 (nI 0)) 72 37 (((up2 I 72 0 (nI 0)) 72 37) - (nI 1))) 72 37)).toNatClampNeg), .int (nI 1)] (mm L X (up2 (up2 I 72 0 (nI 0)) 72 37 (((up2 I 72 0 (nI 0)) 72 37) - (nI 1))) J)) (fun v m' => runI call iX12_restore (38, [some (.ref 72)], v.toList ++ [], m'))) := by
  refine Eq.trans (st1 dX12_restore_0 rfl rfl) ?_
  refine Eq.trans (xiconst dX12_restore_1 ci_0) ?_
  refine Eq.trans (putIm dX12_restore_2 cp_12_103 ka_72 rfl) ?_
  refine Eq.trans (st1 dX12_restore_5 rfl rfl) ?_
  refine Eq.trans (getIm dX12_restore_6 cp_12_214 ka_72 (.inl rfl)) ?_
  refine Eq.trans (if_ne (tgt := 14) dX12_restore_9 (by decide +kernel)) (ite_cong (fun _ => ?_) (fun _ => ?_))
  · refine Eq.trans (xiconst dX12_restore_12 ci_m1) ?_
    exact ret0 dX12_restore_13 rfl
  · refine Eq.trans (st1 dX12_restore_14 rfl rfl) ?_
    refine Eq.trans (st1 dX12_restore_15 rfl rfl) ?_
    refine Eq.trans (getIm dX12_restore_16 cp_12_214 ka_72 (.inl rfl)) ?_
    refine Eq.trans (xiconst dX12_restore_19 ci_1) ?_
    refine Eq.trans (st1 dX12_restore_20 rfl rfl) ?_
    refine Eq.trans (putIm dX12_restore_21 cp_12_214 ka_72 rfl) ?_
    refine Eq.trans (st1 dX12_restore_24 rfl rfl) ?_
    refine Eq.trans (st1 dX12_restore_25 rfl rfl) ?_
    refine Eq.trans (getRm dX12_restore_26 cp_12_79 ka_72 rfl r_72_33) ?_
    refine Eq.trans (st1 dX12_restore_29 rfl rfl) ?_
    refine Eq.trans (getIm dX12_restore_30 cp_12_214 ka_72 (.inl rfl)) ?_
    refine Eq.trans (al4m dX12_restore_33 ka_553 rr_553) (gd_congr fun g1 => ?_)
    refine Eq.trans (xiconst dX12_restore_34 ci_1) ?_
    exact iv0 dX12_restore_35 rfl cp_12_450 rfl rfl (kd_ka ka_72) ka_72.1 (Nat.le_of_ble_eq_true rfl)
theorem q_X12_restore_38 {call : CALL} {L X : Nat} {I : Nat → Nat → Int32} {J : Nat → Nat → Int64}  : runI call iX12_restore (38, [some (.ref 72)], [], (mm L X I J)) = some (.inl (some (.int ((up2 I 72 36 (nI 0)) 72 37))), (mm L X (up2 I 72 36 (nI 0)) J)) := by
  refine Eq.trans (st1 dX12_restore_38 rfl rfl) ?_
  refine Eq.trans (xiconst dX12_restore_39 ci_0) ?_
  refine Eq.trans (putIm dX12_restore_40 cp_12_211 ka_72 rfl) ?_
  refine Eq.trans (st1 dX12_restore_43 rfl rfl) ?_
  refine Eq.trans (getIm dX12_restore_44 cp_12_214 ka_72 (.inl rfl)) ?_
  exact ret0 dX12_restore_47 rfl
theorem q_X12_status_0 {call : CALL} {L X : Nat} {I : Nat → Nat → Int32} {J : Nat → Nat → Int64} {x1 : Int32} : runI call iX12_status (0, [some (.ref 72), some (.int x1)], [], (mm L X I J)) = bndN (call nX12_in [.int x1, .int (nI 0), .int (nI 1)] (mm L X (up2 I 72 0 (nI 0)) J)) (fun v m' => runI call iX12_status (11, [some (.ref 72), some (.int x1)], v.toList ++ [], m')) := by
  refine Eq.trans (st1 dX12_status_0 rfl rfl) ?_
  refine Eq.trans (xiconst dX12_status_1 ci_0) ?_
  refine Eq.trans (putIm dX12_status_2 cp_12_103 ka_72 rfl) ?_
  refine Eq.trans (st1 dX12_status_5 rfl rfl) ?_
  refine Eq.trans (xiconst dX12_status_6 ci_0) ?_
  refine Eq.trans (xiconst dX12_status_7 ci_1) ?_
  exact is2 dX12_status_8 cp_12_137 (Nat.le_of_ble_eq_true rfl) rfl rfl (Nat.le_of_ble_eq_true rfl)
theorem q_X12_status_11 {call : CALL} {L X : Nat} {I : Nat → Nat → Int32} {J : Nat → Nat → Int64} {x1 : Int32} {s0 : Int32} : runI call iX12_status (11, [some (.ref 72), some (.int x1)], [.int s0], (mm L X I J)) = if s0 = (nI 0) then some (.inl (some (.int (-1 : Int32))), (mm L X I J)) else gd (inb x1 2) (some (.inl (some (.int (I 74 (x1).toNatClampNeg))), (mm L X I J))) := by
  refine Eq.trans (if_eq (tgt := 23) dX12_status_11 (by decide +kernel)) (ite_cong (fun _ => ?_) (fun _ => ?_))
  · refine Eq.trans (xiconst dX12_status_23 ci_m1) ?_
    exact ret0 dX12_status_24 rfl
  · refine Eq.trans (st1 dX12_status_14 rfl rfl) ?_
    refine Eq.trans (getRm dX12_status_15 cp_12_17 ka_72 rfl r_72_10) ?_
    refine Eq.trans (st1 dX12_status_18 rfl rfl) ?_
    refine Eq.trans (al1m dX12_status_19 ka_74) (gd_congr fun g1 => ?_)
    refine Eq.trans (go_to (tgt := 24) dX12_status_20 (by decide +kernel)) ?_
    exact ret0 dX12_status_24 rfl
theorem q_X12_count_0 {call : CALL} {L X : Nat} {I : Nat → Nat → Int32} {J : Nat → Nat → Int64} {x1 : Int32} : runI call iX12_count (0, [some (.ref 72), some (.int x1)], [], (mm L X I J)) = if x1 = (nI 0) then some (.inl (some (.int ((up2 I 72 0 (nI 0)) 72 37))), (mm L X (up2 I 72 0 (nI 0)) J)) else if x1 = (nI 1) then some (.inl (some (.int ((up2 I 72 0 (nI 0)) 72 1))), (mm L X (up2 I 72 0 (nI 0)) J)) else if x1 = (nI 2) then some (.inl (some (.int ((up2 I 72 0 (nI 0)) 72 35))), (mm L X (up2 I 72 0 (nI 0)) J)) else some (.inl (some (.int (-1 : Int32))), (mm L X (up2 I 72 0 (nI 0)) J)) := by
  refine Eq.trans (st1 dX12_count_0 rfl rfl) ?_
  refine Eq.trans (xiconst dX12_count_1 ci_0) ?_
  refine Eq.trans (putIm dX12_count_2 cp_12_103 ka_72 rfl) ?_
  refine Eq.trans (st1 dX12_count_5 rfl rfl) ?_
  refine Eq.trans (if_ne (tgt := 16) dX12_count_6 (by decide +kernel)) (ite_cong (fun _ => ?_) (fun _ => ?_))
  · refine Eq.trans (st1 dX12_count_9 rfl rfl) ?_
    refine Eq.trans (getIm dX12_count_10 cp_12_214 ka_72 (.inl rfl)) ?_
    refine Eq.trans (go_to (tgt := 41) dX12_count_13 (by decide +kernel)) ?_
    exact ret0 dX12_count_41 rfl
  · refine Eq.trans (st1 dX12_count_16 rfl rfl) ?_
    refine Eq.trans (xiconst dX12_count_17 ci_1) ?_
    refine Eq.trans (ic_ne (tgt := 28) dX12_count_18 (by decide +kernel)) (ite_cong (fun _ => ?_) (fun _ => ?_))
    · refine Eq.trans (st1 dX12_count_21 rfl rfl) ?_
      refine Eq.trans (getIm dX12_count_22 cp_12_106 ka_72 (.inl rfl)) ?_
      refine Eq.trans (go_to (tgt := 41) dX12_count_25 (by decide +kernel)) ?_
      exact ret0 dX12_count_41 rfl
    · refine Eq.trans (st1 dX12_count_28 rfl rfl) ?_
      refine Eq.trans (xiconst dX12_count_29 ci_2) ?_
      refine Eq.trans (ic_ne (tgt := 40) dX12_count_30 (by decide +kernel)) (ite_cong (fun _ => ?_) (fun _ => ?_))
      · refine Eq.trans (st1 dX12_count_33 rfl rfl) ?_
        refine Eq.trans (getIm dX12_count_34 cp_12_208 ka_72 (.inl rfl)) ?_
        refine Eq.trans (go_to (tgt := 41) dX12_count_37 (by decide +kernel)) ?_
        exact ret0 dX12_count_41 rfl
      · refine Eq.trans (xiconst dX12_count_40 ci_m1) ?_
        exact ret0 dX12_count_41 rfl
theorem q_L_house_0 {call : CALL} {L X : Nat} {I : Nat → Nat → Int32} {J : Nat → Nat → Int64} {x1 : Int32} : runI call iL_house (0, [some (.ref 0), some (.int x1), some (.ref 632), none], [], (mm L X I J)) = bndH (call nX11_house [.ref 0, .int x1] (mm L X I J)) (fun v m' => runI call iL_house (7, [some (.ref 0), some (.int x1), some (.ref 632), none], v.toList ++ [.int (nI 0), .ref 632], m')) (hdl call iL_house 4 [some (.ref 0), some (.int x1), some (.ref 632), none]) := by
  refine Eq.trans (st1 dL_house_0 rfl rfl) ?_
  refine Eq.trans (xiconst dL_house_1 ci_0) ?_
  refine Eq.trans (st1 dL_house_2 rfl rfl) ?_
  refine Eq.trans (st1 dL_house_3 rfl rfl) ?_
  exact ivH dL_house_4 cp_13_7 rfl rfl (kd_ka ka_0) ka_0.1 (Nat.le_of_ble_eq_true rfl)
theorem q_L_house_13 {call : CALL} {L X : Nat} {I : Nat → Nat → Int32} {J : Nat → Nat → Int64} {u0 : Option Value} {u1 : Option Value} {u2 : Option Value} {u3 : Option Value} : runI call iL_house (13, [u0, u1, u2, u3], [], (mm L X I J)) = some (.inl (some (.int (nI 1))), (mm L X I J)) := by
  refine Eq.trans (xiconst dL_house_13 ci_1) ?_
  exact ret0 dL_house_14 rfl
theorem q_L_house_7 {call : CALL} {L X : Nat} {I : Nat → Nat → Int32} {J : Nat → Nat → Int64} {u0 : Option Value} {u1 : Option Value} {u2 : Option Value} {u3 : Option Value} {s1 : Int32} {s2 : Int32} : runI call iL_house (7, [u0, u1, u2, u3], [.int s2, .int s1, .ref 632], (mm L X I J)) = gd (inb s1 1) (some (.inl (some (.int (nI 0))), (mm L X I (up2 J 632 (s1).toNatClampNeg (s2).toInt64)))) := by
  refine Eq.trans (st1 dL_house_7 rfl rfl) ?_
  refine Eq.trans (as3m dL_house_8 ka_632) (gd_congr fun g1 => ?_)
  refine Eq.trans (go_to (tgt := 15) dL_house_9 (by decide +kernel)) ?_
  refine Eq.trans (xiconst dL_house_15 ci_0) ?_
  exact ret0 dL_house_16 rfl
theorem hd_L_house_4_1 {call : CALL} {L X : Nat} {I : Nat → Nat → Int32} {J : Nat → Nat → Int64} {x1 : Int32} : hdl call iL_house 4 [some (.ref 0), some (.int x1), some (.ref 632), none] 1 (mm L X I J) = runI call iL_house (13, [some (.ref 0), some (.int x1), some (.ref 632), none], [], (mm L X I J)) := hdl_of (h := 12) rfl (by decide +kernel) (by unfold xcat; rw [show decode iL_house.2.1 12 = _ from dL_house_12]; rfl)
theorem q_L_law_0 {call : CALL} {L X : Nat} {I : Nat → Nat → Int32} {J : Nat → Nat → Int64} {x1 : Int32} : runI call iL_law (0, [some (.ref 0), some (.int x1), some (.ref 632), none], [], (mm L X I J)) = bndH (call nX11_law [.ref 0, .int x1] (mm L X I J)) (fun v m' => runI call iL_law (7, [some (.ref 0), some (.int x1), some (.ref 632), none], v.toList ++ [.int (nI 0), .ref 632], m')) (hdl call iL_law 4 [some (.ref 0), some (.int x1), some (.ref 632), none]) := by
  refine Eq.trans (st1 dL_law_0 rfl rfl) ?_
  refine Eq.trans (xiconst dL_law_1 ci_0) ?_
  refine Eq.trans (st1 dL_law_2 rfl rfl) ?_
  refine Eq.trans (st1 dL_law_3 rfl rfl) ?_
  exact ivH dL_law_4 cp_13_15 rfl rfl (kd_ka ka_0) ka_0.1 (Nat.le_of_ble_eq_true rfl)
theorem q_L_law_13 {call : CALL} {L X : Nat} {I : Nat → Nat → Int32} {J : Nat → Nat → Int64} {u0 : Option Value} {u1 : Option Value} {u2 : Option Value} {u3 : Option Value} : runI call iL_law (13, [u0, u1, u2, u3], [], (mm L X I J)) = some (.inl (some (.int (nI 1))), (mm L X I J)) := by
  refine Eq.trans (xiconst dL_law_13 ci_1) ?_
  exact ret0 dL_law_14 rfl
theorem q_L_law_7 {call : CALL} {L X : Nat} {I : Nat → Nat → Int32} {J : Nat → Nat → Int64} {u0 : Option Value} {u1 : Option Value} {u2 : Option Value} {u3 : Option Value} {s1 : Int32} {s2 : Int32} : runI call iL_law (7, [u0, u1, u2, u3], [.int s2, .int s1, .ref 632], (mm L X I J)) = gd (inb s1 1) (some (.inl (some (.int (nI 0))), (mm L X I (up2 J 632 (s1).toNatClampNeg (s2).toInt64)))) := by
  refine Eq.trans (st1 dL_law_7 rfl rfl) ?_
  refine Eq.trans (as3m dL_law_8 ka_632) (gd_congr fun g1 => ?_)
  refine Eq.trans (go_to (tgt := 15) dL_law_9 (by decide +kernel)) ?_
  refine Eq.trans (xiconst dL_law_15 ci_0) ?_
  exact ret0 dL_law_16 rfl
theorem hd_L_law_4_1 {call : CALL} {L X : Nat} {I : Nat → Nat → Int32} {J : Nat → Nat → Int64} {x1 : Int32} : hdl call iL_law 4 [some (.ref 0), some (.int x1), some (.ref 632), none] 1 (mm L X I J) = runI call iL_law (13, [some (.ref 0), some (.int x1), some (.ref 632), none], [], (mm L X I J)) := hdl_of (h := 12) rfl (by decide +kernel) (by unfold xcat; rw [show decode iL_law.2.1 12 = _ from dL_law_12]; rfl)
theorem q_L_work_0 {call : CALL} {L X : Nat} {I : Nat → Nat → Int32} {J : Nat → Nat → Int64} {x1 : Int32} : runI call iL_work (0, [some (.ref 0), some (.int x1), some (.ref 632), none], [], (mm L X I J)) = bndH (call nX11_work [.ref 0, .int x1] (mm L X I J)) (fun v m' => runI call iL_work (7, [some (.ref 0), some (.int x1), some (.ref 632), none], v.toList ++ [.int (nI 0), .ref 632], m')) (hdl call iL_work 4 [some (.ref 0), some (.int x1), some (.ref 632), none]) := by
  refine Eq.trans (st1 dL_work_0 rfl rfl) ?_
  refine Eq.trans (xiconst dL_work_1 ci_0) ?_
  refine Eq.trans (st1 dL_work_2 rfl rfl) ?_
  refine Eq.trans (st1 dL_work_3 rfl rfl) ?_
  exact ivH dL_work_4 cp_13_18 rfl rfl (kd_ka ka_0) ka_0.1 (Nat.le_of_ble_eq_true rfl)
theorem q_L_work_13 {call : CALL} {L X : Nat} {I : Nat → Nat → Int32} {J : Nat → Nat → Int64} {u0 : Option Value} {u1 : Option Value} {u2 : Option Value} {u3 : Option Value} : runI call iL_work (13, [u0, u1, u2, u3], [], (mm L X I J)) = some (.inl (some (.int (nI 1))), (mm L X I J)) := by
  refine Eq.trans (xiconst dL_work_13 ci_1) ?_
  exact ret0 dL_work_14 rfl
theorem q_L_work_7 {call : CALL} {L X : Nat} {I : Nat → Nat → Int32} {J : Nat → Nat → Int64} {u0 : Option Value} {u1 : Option Value} {u2 : Option Value} {u3 : Option Value} {s1 : Int32} {s2 : Int32} : runI call iL_work (7, [u0, u1, u2, u3], [.int s2, .int s1, .ref 632], (mm L X I J)) = gd (inb s1 1) (some (.inl (some (.int (nI 0))), (mm L X I (up2 J 632 (s1).toNatClampNeg (s2).toInt64)))) := by
  refine Eq.trans (st1 dL_work_7 rfl rfl) ?_
  refine Eq.trans (as3m dL_work_8 ka_632) (gd_congr fun g1 => ?_)
  refine Eq.trans (go_to (tgt := 15) dL_work_9 (by decide +kernel)) ?_
  refine Eq.trans (xiconst dL_work_15 ci_0) ?_
  exact ret0 dL_work_16 rfl
theorem hd_L_work_4_1 {call : CALL} {L X : Nat} {I : Nat → Nat → Int32} {J : Nat → Nat → Int64} {x1 : Int32} : hdl call iL_work 4 [some (.ref 0), some (.int x1), some (.ref 632), none] 1 (mm L X I J) = runI call iL_work (13, [some (.ref 0), some (.int x1), some (.ref 632), none], [], (mm L X I J)) := hdl_of (h := 12) rfl (by decide +kernel) (by unfold xcat; rw [show decode iL_work.2.1 12 = _ from dL_work_12]; rfl)
theorem q_L_book_0 {call : CALL} {L X : Nat} {I : Nat → Nat → Int32} {J : Nat → Nat → Int64} {x1 : Int32} : runI call iL_book (0, [some (.ref 0), some (.int x1), some (.ref 632), none], [], (mm L X I J)) = bndH (call nX11_book [.ref 0, .int x1] (mm L X I J)) (fun v m' => runI call iL_book (7, [some (.ref 0), some (.int x1), some (.ref 632), none], v.toList ++ [.int (nI 0), .ref 632], m')) (hdl call iL_book 4 [some (.ref 0), some (.int x1), some (.ref 632), none]) := by
  refine Eq.trans (st1 dL_book_0 rfl rfl) ?_
  refine Eq.trans (xiconst dL_book_1 ci_0) ?_
  refine Eq.trans (st1 dL_book_2 rfl rfl) ?_
  refine Eq.trans (st1 dL_book_3 rfl rfl) ?_
  exact ivH dL_book_4 cp_13_21 rfl rfl (kd_ka ka_0) ka_0.1 (Nat.le_of_ble_eq_true rfl)
theorem q_L_book_13 {call : CALL} {L X : Nat} {I : Nat → Nat → Int32} {J : Nat → Nat → Int64} {u0 : Option Value} {u1 : Option Value} {u2 : Option Value} {u3 : Option Value} : runI call iL_book (13, [u0, u1, u2, u3], [], (mm L X I J)) = some (.inl (some (.int (nI 1))), (mm L X I J)) := by
  refine Eq.trans (xiconst dL_book_13 ci_1) ?_
  exact ret0 dL_book_14 rfl
theorem q_L_book_7 {call : CALL} {L X : Nat} {I : Nat → Nat → Int32} {J : Nat → Nat → Int64} {u0 : Option Value} {u1 : Option Value} {u2 : Option Value} {u3 : Option Value} {s1 : Int32} {s2 : Int32} : runI call iL_book (7, [u0, u1, u2, u3], [.int s2, .int s1, .ref 632], (mm L X I J)) = gd (inb s1 1) (some (.inl (some (.int (nI 0))), (mm L X I (up2 J 632 (s1).toNatClampNeg (s2).toInt64)))) := by
  refine Eq.trans (st1 dL_book_7 rfl rfl) ?_
  refine Eq.trans (as3m dL_book_8 ka_632) (gd_congr fun g1 => ?_)
  refine Eq.trans (go_to (tgt := 15) dL_book_9 (by decide +kernel)) ?_
  refine Eq.trans (xiconst dL_book_15 ci_0) ?_
  exact ret0 dL_book_16 rfl
theorem hd_L_book_4_1 {call : CALL} {L X : Nat} {I : Nat → Nat → Int32} {J : Nat → Nat → Int64} {x1 : Int32} : hdl call iL_book 4 [some (.ref 0), some (.int x1), some (.ref 632), none] 1 (mm L X I J) = runI call iL_book (13, [some (.ref 0), some (.int x1), some (.ref 632), none], [], (mm L X I J)) := hdl_of (h := 12) rfl (by decide +kernel) (by unfold xcat; rw [show decode iL_book.2.1 12 = _ from dL_book_12]; rfl)
theorem q_L_told_0 {call : CALL} {L X : Nat} {I : Nat → Nat → Int32} {J : Nat → Nat → Int64} {x1 : Int32} : runI call iL_told (0, [some (.ref 0), some (.int x1), some (.ref 632), none], [], (mm L X I J)) = bndH (call nX11_told [.ref 0, .int x1] (mm L X I J)) (fun v m' => runI call iL_told (7, [some (.ref 0), some (.int x1), some (.ref 632), none], v.toList ++ [.int (nI 0), .ref 632], m')) (hdl call iL_told 4 [some (.ref 0), some (.int x1), some (.ref 632), none]) := by
  refine Eq.trans (st1 dL_told_0 rfl rfl) ?_
  refine Eq.trans (xiconst dL_told_1 ci_0) ?_
  refine Eq.trans (st1 dL_told_2 rfl rfl) ?_
  refine Eq.trans (st1 dL_told_3 rfl rfl) ?_
  exact ivH dL_told_4 cp_13_24 rfl rfl (kd_ka ka_0) ka_0.1 (Nat.le_of_ble_eq_true rfl)
theorem q_L_told_13 {call : CALL} {L X : Nat} {I : Nat → Nat → Int32} {J : Nat → Nat → Int64} {u0 : Option Value} {u1 : Option Value} {u2 : Option Value} {u3 : Option Value} : runI call iL_told (13, [u0, u1, u2, u3], [], (mm L X I J)) = some (.inl (some (.int (nI 1))), (mm L X I J)) := by
  refine Eq.trans (xiconst dL_told_13 ci_1) ?_
  exact ret0 dL_told_14 rfl
theorem q_L_told_7 {call : CALL} {L X : Nat} {I : Nat → Nat → Int32} {J : Nat → Nat → Int64} {u0 : Option Value} {u1 : Option Value} {u2 : Option Value} {u3 : Option Value} {s1 : Int32} {s2 : Int32} : runI call iL_told (7, [u0, u1, u2, u3], [.int s2, .int s1, .ref 632], (mm L X I J)) = gd (inb s1 1) (some (.inl (some (.int (nI 0))), (mm L X I (up2 J 632 (s1).toNatClampNeg (s2).toInt64)))) := by
  refine Eq.trans (st1 dL_told_7 rfl rfl) ?_
  refine Eq.trans (as3m dL_told_8 ka_632) (gd_congr fun g1 => ?_)
  refine Eq.trans (go_to (tgt := 15) dL_told_9 (by decide +kernel)) ?_
  refine Eq.trans (xiconst dL_told_15 ci_0) ?_
  exact ret0 dL_told_16 rfl
theorem hd_L_told_4_1 {call : CALL} {L X : Nat} {I : Nat → Nat → Int32} {J : Nat → Nat → Int64} {x1 : Int32} : hdl call iL_told 4 [some (.ref 0), some (.int x1), some (.ref 632), none] 1 (mm L X I J) = runI call iL_told (13, [some (.ref 0), some (.int x1), some (.ref 632), none], [], (mm L X I J)) := hdl_of (h := 12) rfl (by decide +kernel) (by unfold xcat; rw [show decode iL_told.2.1 12 = _ from dL_told_12]; rfl)
theorem q_L_piece_0 {call : CALL} {L X : Nat} {I : Nat → Nat → Int32} {J : Nat → Nat → Int64} {x1 : Int32} {x2 : Int32} : runI call iL_piece (0, [some (.ref 0), some (.int x1), some (.int x2), some (.ref 632), none], [], (mm L X I J)) = bndH (call nX11_piece [.ref 0, .int x1, .int x2] (mm L X I J)) (fun v m' => runI call iL_piece (8, [some (.ref 0), some (.int x1), some (.int x2), some (.ref 632), none], v.toList ++ [.int (nI 0), .ref 632], m')) (hdl call iL_piece 5 [some (.ref 0), some (.int x1), some (.int x2), some (.ref 632), none]) := by
  refine Eq.trans (st1 dL_piece_0 rfl rfl) ?_
  refine Eq.trans (xiconst dL_piece_1 ci_0) ?_
  refine Eq.trans (st1 dL_piece_2 rfl rfl) ?_
  refine Eq.trans (st1 dL_piece_3 rfl rfl) ?_
  refine Eq.trans (st1 dL_piece_4 rfl rfl) ?_
  exact ivH dL_piece_5 cp_13_27 rfl rfl (kd_ka ka_0) ka_0.1 (Nat.le_of_ble_eq_true rfl)
theorem q_L_piece_15 {call : CALL} {L X : Nat} {I : Nat → Nat → Int32} {J : Nat → Nat → Int64} {u0 : Option Value} {u1 : Option Value} {u2 : Option Value} {u3 : Option Value} {u4 : Option Value} : runI call iL_piece (15, [u0, u1, u2, u3, u4], [], (mm L X I J)) = some (.inl (some (.int (nI 1))), (mm L X I J)) := by
  refine Eq.trans (xiconst dL_piece_15 ci_1) ?_
  exact ret0 dL_piece_16 rfl
theorem q_L_piece_19 {call : CALL} {L X : Nat} {I : Nat → Nat → Int32} {J : Nat → Nat → Int64} {u0 : Option Value} {u1 : Option Value} {u2 : Option Value} {u3 : Option Value} {u4 : Option Value} : runI call iL_piece (19, [u0, u1, u2, u3, u4], [], (mm L X I J)) = some (.inl (some (.int (nI 2))), (mm L X I J)) := by
  refine Eq.trans (xiconst dL_piece_19 ci_2) ?_
  exact ret0 dL_piece_20 rfl
theorem q_L_piece_8 {call : CALL} {L X : Nat} {I : Nat → Nat → Int32} {J : Nat → Nat → Int64} {u0 : Option Value} {u1 : Option Value} {u2 : Option Value} {u3 : Option Value} {u4 : Option Value} {s1 : Int32} {s2 : Int32} : runI call iL_piece (8, [u0, u1, u2, u3, u4], [.int s2, .int s1, .ref 632], (mm L X I J)) = gd (inb s1 1) (some (.inl (some (.int (nI 0))), (mm L X I (up2 J 632 (s1).toNatClampNeg (s2).toInt64)))) := by
  refine Eq.trans (st1 dL_piece_8 rfl rfl) ?_
  refine Eq.trans (as3m dL_piece_9 ka_632) (gd_congr fun g1 => ?_)
  refine Eq.trans (go_to (tgt := 21) dL_piece_10 (by decide +kernel)) ?_
  refine Eq.trans (xiconst dL_piece_21 ci_0) ?_
  exact ret0 dL_piece_22 rfl
theorem hd_L_piece_5_0 {call : CALL} {L X : Nat} {I : Nat → Nat → Int32} {J : Nat → Nat → Int64} {x1 : Int32} {x2 : Int32} : hdl call iL_piece 5 [some (.ref 0), some (.int x1), some (.int x2), some (.ref 632), none] 0 (mm L X I J) = runI call iL_piece (15, [some (.ref 0), some (.int x1), some (.int x2), some (.ref 632), none], [], (mm L X I J)) := hdl_of (h := 13) rfl (by decide +kernel) (by unfold xcat; rw [show decode iL_piece.2.1 13 = _ from dL_piece_13]; rfl)
theorem hd_L_piece_5_1 {call : CALL} {L X : Nat} {I : Nat → Nat → Int32} {J : Nat → Nat → Int64} {x1 : Int32} {x2 : Int32} : hdl call iL_piece 5 [some (.ref 0), some (.int x1), some (.int x2), some (.ref 632), none] 1 (mm L X I J) = runI call iL_piece (19, [some (.ref 0), some (.int x1), some (.int x2), some (.ref 632), none], [], (mm L X I J)) := hdl_of (h := 17) rfl (by decide +kernel) (by unfold xcat; rw [show decode iL_piece.2.1 17 = _ from dL_piece_17]; rfl)
theorem q_L_collar_0 {call : CALL} {L X : Nat} {I : Nat → Nat → Int32} {J : Nat → Nat → Int64} {x1 : Int32} {x2 : Int32} : runI call iL_collar (0, [some (.ref 0), some (.int x1), some (.int x2), some (.ref 632), none], [], (mm L X I J)) = bndH (call nX11_collar [.ref 0, .int x1, .int x2] (mm L X I J)) (fun v m' => runI call iL_collar (8, [some (.ref 0), some (.int x1), some (.int x2), some (.ref 632), none], v.toList ++ [.int (nI 0), .ref 632], m')) (hdl call iL_collar 5 [some (.ref 0), some (.int x1), some (.int x2), some (.ref 632), none]) := by
  refine Eq.trans (st1 dL_collar_0 rfl rfl) ?_
  refine Eq.trans (xiconst dL_collar_1 ci_0) ?_
  refine Eq.trans (st1 dL_collar_2 rfl rfl) ?_
  refine Eq.trans (st1 dL_collar_3 rfl rfl) ?_
  refine Eq.trans (st1 dL_collar_4 rfl rfl) ?_
  exact ivH dL_collar_5 cp_13_33 rfl rfl (kd_ka ka_0) ka_0.1 (Nat.le_of_ble_eq_true rfl)
theorem q_L_collar_15 {call : CALL} {L X : Nat} {I : Nat → Nat → Int32} {J : Nat → Nat → Int64} {u0 : Option Value} {u1 : Option Value} {u2 : Option Value} {u3 : Option Value} {u4 : Option Value} : runI call iL_collar (15, [u0, u1, u2, u3, u4], [], (mm L X I J)) = some (.inl (some (.int (nI 1))), (mm L X I J)) := by
  refine Eq.trans (xiconst dL_collar_15 ci_1) ?_
  exact ret0 dL_collar_16 rfl
theorem q_L_collar_19 {call : CALL} {L X : Nat} {I : Nat → Nat → Int32} {J : Nat → Nat → Int64} {u0 : Option Value} {u1 : Option Value} {u2 : Option Value} {u3 : Option Value} {u4 : Option Value} : runI call iL_collar (19, [u0, u1, u2, u3, u4], [], (mm L X I J)) = some (.inl (some (.int (nI 2))), (mm L X I J)) := by
  refine Eq.trans (xiconst dL_collar_19 ci_2) ?_
  exact ret0 dL_collar_20 rfl
theorem q_L_collar_8 {call : CALL} {L X : Nat} {I : Nat → Nat → Int32} {J : Nat → Nat → Int64} {u0 : Option Value} {u1 : Option Value} {u2 : Option Value} {u3 : Option Value} {u4 : Option Value} {s1 : Int32} {s2 : Int32} : runI call iL_collar (8, [u0, u1, u2, u3, u4], [.int s2, .int s1, .ref 632], (mm L X I J)) = gd (inb s1 1) (some (.inl (some (.int (nI 0))), (mm L X I (up2 J 632 (s1).toNatClampNeg (s2).toInt64)))) := by
  refine Eq.trans (st1 dL_collar_8 rfl rfl) ?_
  refine Eq.trans (as3m dL_collar_9 ka_632) (gd_congr fun g1 => ?_)
  refine Eq.trans (go_to (tgt := 21) dL_collar_10 (by decide +kernel)) ?_
  refine Eq.trans (xiconst dL_collar_21 ci_0) ?_
  exact ret0 dL_collar_22 rfl
theorem hd_L_collar_5_0 {call : CALL} {L X : Nat} {I : Nat → Nat → Int32} {J : Nat → Nat → Int64} {x1 : Int32} {x2 : Int32} : hdl call iL_collar 5 [some (.ref 0), some (.int x1), some (.int x2), some (.ref 632), none] 0 (mm L X I J) = runI call iL_collar (15, [some (.ref 0), some (.int x1), some (.int x2), some (.ref 632), none], [], (mm L X I J)) := hdl_of (h := 13) rfl (by decide +kernel) (by unfold xcat; rw [show decode iL_collar.2.1 13 = _ from dL_collar_13]; rfl)
theorem hd_L_collar_5_1 {call : CALL} {L X : Nat} {I : Nat → Nat → Int32} {J : Nat → Nat → Int64} {x1 : Int32} {x2 : Int32} : hdl call iL_collar 5 [some (.ref 0), some (.int x1), some (.int x2), some (.ref 632), none] 1 (mm L X I J) = runI call iL_collar (19, [some (.ref 0), some (.int x1), some (.int x2), some (.ref 632), none], [], (mm L X I J)) := hdl_of (h := 17) rfl (by decide +kernel) (by unfold xcat; rw [show decode iL_collar.2.1 17 = _ from dL_collar_17]; rfl)
theorem q_L_fire_0 {call : CALL} {L X : Nat} {I : Nat → Nat → Int32} {J : Nat → Nat → Int64} {x1 : Int32} {x2 : Int32} : runI call iL_fire (0, [some (.ref 0), some (.int x1), some (.int x2), some (.ref 632), none], [], (mm L X I J)) = bndH (call nX11_fire [.ref 0, .int x1, .int x2] (mm L X I J)) (fun v m' => runI call iL_fire (8, [some (.ref 0), some (.int x1), some (.int x2), some (.ref 632), none], v.toList ++ [.int (nI 0), .ref 632], m')) (hdl call iL_fire 5 [some (.ref 0), some (.int x1), some (.int x2), some (.ref 632), none]) := by
  refine Eq.trans (st1 dL_fire_0 rfl rfl) ?_
  refine Eq.trans (xiconst dL_fire_1 ci_0) ?_
  refine Eq.trans (st1 dL_fire_2 rfl rfl) ?_
  refine Eq.trans (st1 dL_fire_3 rfl rfl) ?_
  refine Eq.trans (st1 dL_fire_4 rfl rfl) ?_
  exact ivH dL_fire_5 cp_13_36 rfl rfl (kd_ka ka_0) ka_0.1 (Nat.le_of_ble_eq_true rfl)
theorem q_L_fire_15 {call : CALL} {L X : Nat} {I : Nat → Nat → Int32} {J : Nat → Nat → Int64} {u0 : Option Value} {u1 : Option Value} {u2 : Option Value} {u3 : Option Value} {u4 : Option Value} : runI call iL_fire (15, [u0, u1, u2, u3, u4], [], (mm L X I J)) = some (.inl (some (.int (nI 1))), (mm L X I J)) := by
  refine Eq.trans (xiconst dL_fire_15 ci_1) ?_
  exact ret0 dL_fire_16 rfl
theorem q_L_fire_19 {call : CALL} {L X : Nat} {I : Nat → Nat → Int32} {J : Nat → Nat → Int64} {u0 : Option Value} {u1 : Option Value} {u2 : Option Value} {u3 : Option Value} {u4 : Option Value} : runI call iL_fire (19, [u0, u1, u2, u3, u4], [], (mm L X I J)) = some (.inl (some (.int (nI 2))), (mm L X I J)) := by
  refine Eq.trans (xiconst dL_fire_19 ci_2) ?_
  exact ret0 dL_fire_20 rfl
theorem q_L_fire_8 {call : CALL} {L X : Nat} {I : Nat → Nat → Int32} {J : Nat → Nat → Int64} {u0 : Option Value} {u1 : Option Value} {u2 : Option Value} {u3 : Option Value} {u4 : Option Value} {s1 : Int32} {s2 : Int32} : runI call iL_fire (8, [u0, u1, u2, u3, u4], [.int s2, .int s1, .ref 632], (mm L X I J)) = gd (inb s1 1) (some (.inl (some (.int (nI 0))), (mm L X I (up2 J 632 (s1).toNatClampNeg (s2).toInt64)))) := by
  refine Eq.trans (st1 dL_fire_8 rfl rfl) ?_
  refine Eq.trans (as3m dL_fire_9 ka_632) (gd_congr fun g1 => ?_)
  refine Eq.trans (go_to (tgt := 21) dL_fire_10 (by decide +kernel)) ?_
  refine Eq.trans (xiconst dL_fire_21 ci_0) ?_
  exact ret0 dL_fire_22 rfl
theorem hd_L_fire_5_0 {call : CALL} {L X : Nat} {I : Nat → Nat → Int32} {J : Nat → Nat → Int64} {x1 : Int32} {x2 : Int32} : hdl call iL_fire 5 [some (.ref 0), some (.int x1), some (.int x2), some (.ref 632), none] 0 (mm L X I J) = runI call iL_fire (15, [some (.ref 0), some (.int x1), some (.int x2), some (.ref 632), none], [], (mm L X I J)) := hdl_of (h := 13) rfl (by decide +kernel) (by unfold xcat; rw [show decode iL_fire.2.1 13 = _ from dL_fire_13]; rfl)
theorem hd_L_fire_5_1 {call : CALL} {L X : Nat} {I : Nat → Nat → Int32} {J : Nat → Nat → Int64} {x1 : Int32} {x2 : Int32} : hdl call iL_fire 5 [some (.ref 0), some (.int x1), some (.int x2), some (.ref 632), none] 1 (mm L X I J) = runI call iL_fire (19, [some (.ref 0), some (.int x1), some (.int x2), some (.ref 632), none], [], (mm L X I J)) := hdl_of (h := 17) rfl (by decide +kernel) (by unfold xcat; rw [show decode iL_fire.2.1 17 = _ from dL_fire_17]; rfl)
theorem q_L_row_0 {call : CALL} {L X : Nat} {I : Nat → Nat → Int32} {J : Nat → Nat → Int64} {x1 : Int32} : runI call iL_row (0, [some (.ref 0), some (.int x1), some (.ref 632), none], [], (mm L X I J)) = bndH (call nX11_row [.ref 0, .int x1] (mm L X I J)) (fun v m' => runI call iL_row (7, [some (.ref 0), some (.int x1), some (.ref 632), none], v.toList ++ [.int (nI 0), .ref 632], m')) (hdl call iL_row 4 [some (.ref 0), some (.int x1), some (.ref 632), none]) := by
  refine Eq.trans (st1 dL_row_0 rfl rfl) ?_
  refine Eq.trans (xiconst dL_row_1 ci_0) ?_
  refine Eq.trans (st1 dL_row_2 rfl rfl) ?_
  refine Eq.trans (st1 dL_row_3 rfl rfl) ?_
  exact ivH dL_row_4 cp_13_39 rfl rfl (kd_ka ka_0) ka_0.1 (Nat.le_of_ble_eq_true rfl)
theorem q_L_row_13 {call : CALL} {L X : Nat} {I : Nat → Nat → Int32} {J : Nat → Nat → Int64} {u0 : Option Value} {u1 : Option Value} {u2 : Option Value} {u3 : Option Value} : runI call iL_row (13, [u0, u1, u2, u3], [], (mm L X I J)) = some (.inl (some (.int (nI 1))), (mm L X I J)) := by
  refine Eq.trans (xiconst dL_row_13 ci_1) ?_
  exact ret0 dL_row_14 rfl
theorem q_L_row_7 {call : CALL} {L X : Nat} {I : Nat → Nat → Int32} {J : Nat → Nat → Int64} {u0 : Option Value} {u1 : Option Value} {u2 : Option Value} {u3 : Option Value} {s1 : Int32} {s2 : Int32} : runI call iL_row (7, [u0, u1, u2, u3], [.int s2, .int s1, .ref 632], (mm L X I J)) = gd (inb s1 1) (some (.inl (some (.int (nI 0))), (mm L X I (up2 J 632 (s1).toNatClampNeg (s2).toInt64)))) := by
  refine Eq.trans (st1 dL_row_7 rfl rfl) ?_
  refine Eq.trans (as3m dL_row_8 ka_632) (gd_congr fun g1 => ?_)
  refine Eq.trans (go_to (tgt := 15) dL_row_9 (by decide +kernel)) ?_
  refine Eq.trans (xiconst dL_row_15 ci_0) ?_
  exact ret0 dL_row_16 rfl
theorem hd_L_row_4_1 {call : CALL} {L X : Nat} {I : Nat → Nat → Int32} {J : Nat → Nat → Int64} {x1 : Int32} : hdl call iL_row 4 [some (.ref 0), some (.int x1), some (.ref 632), none] 1 (mm L X I J) = runI call iL_row (13, [some (.ref 0), some (.int x1), some (.ref 632), none], [], (mm L X I J)) := hdl_of (h := 12) rfl (by decide +kernel) (by unfold xcat; rw [show decode iL_row.2.1 12 = _ from dL_row_12]; rfl)
theorem q_L_behind_0 {call : CALL} {L X : Nat} {I : Nat → Nat → Int32} {J : Nat → Nat → Int64} {x1 : Int32} : runI call iL_behind (0, [some (.ref 0), some (.int x1), some (.ref 632), none], [], (mm L X I J)) = bndH (call nX11_behind [.ref 0, .int x1] (mm L X I J)) (fun v m' => runI call iL_behind (7, [some (.ref 0), some (.int x1), some (.ref 632), none], v.toList ++ [.int (nI 0), .ref 632], m')) (hdl call iL_behind 4 [some (.ref 0), some (.int x1), some (.ref 632), none]) := by
  refine Eq.trans (st1 dL_behind_0 rfl rfl) ?_
  refine Eq.trans (xiconst dL_behind_1 ci_0) ?_
  refine Eq.trans (st1 dL_behind_2 rfl rfl) ?_
  refine Eq.trans (st1 dL_behind_3 rfl rfl) ?_
  exact ivH dL_behind_4 cp_13_42 rfl rfl (kd_ka ka_0) ka_0.1 (Nat.le_of_ble_eq_true rfl)
theorem q_L_behind_13 {call : CALL} {L X : Nat} {I : Nat → Nat → Int32} {J : Nat → Nat → Int64} {u0 : Option Value} {u1 : Option Value} {u2 : Option Value} {u3 : Option Value} : runI call iL_behind (13, [u0, u1, u2, u3], [], (mm L X I J)) = some (.inl (some (.int (nI 1))), (mm L X I J)) := by
  refine Eq.trans (xiconst dL_behind_13 ci_1) ?_
  exact ret0 dL_behind_14 rfl
theorem q_L_behind_7 {call : CALL} {L X : Nat} {I : Nat → Nat → Int32} {J : Nat → Nat → Int64} {u0 : Option Value} {u1 : Option Value} {u2 : Option Value} {u3 : Option Value} {s1 : Int32} {s2 : Int32} : runI call iL_behind (7, [u0, u1, u2, u3], [.int s2, .int s1, .ref 632], (mm L X I J)) = gd (inb s1 1) (some (.inl (some (.int (nI 0))), (mm L X I (up2 J 632 (s1).toNatClampNeg (s2).toInt64)))) := by
  refine Eq.trans (st1 dL_behind_7 rfl rfl) ?_
  refine Eq.trans (as3m dL_behind_8 ka_632) (gd_congr fun g1 => ?_)
  refine Eq.trans (go_to (tgt := 15) dL_behind_9 (by decide +kernel)) ?_
  refine Eq.trans (xiconst dL_behind_15 ci_0) ?_
  exact ret0 dL_behind_16 rfl
theorem hd_L_behind_4_1 {call : CALL} {L X : Nat} {I : Nat → Nat → Int32} {J : Nat → Nat → Int64} {x1 : Int32} : hdl call iL_behind 4 [some (.ref 0), some (.int x1), some (.ref 632), none] 1 (mm L X I J) = runI call iL_behind (13, [some (.ref 0), some (.int x1), some (.ref 632), none], [], (mm L X I J)) := hdl_of (h := 12) rfl (by decide +kernel) (by unfold xcat; rw [show decode iL_behind.2.1 12 = _ from dL_behind_12]; rfl)
theorem q_L_would_0 {call : CALL} {L X : Nat} {I : Nat → Nat → Int32} {J : Nat → Nat → Int64} {x1 : Int32} {x2 : Int32} {x3 : Int32} {x4 : Int32} {x5 : Int32} {x6 : Int32} {x7 : Int32} {x8 : Int32} {x9 : Int32} : runI call iL_would (0, [some (.ref 0), some (.int x1), some (.int x2), some (.int x3), some (.int x4), some (.int x5), some (.int x6), some (.int x7), some (.int x8), some (.int x9), some (.ref 632), none], [], (mm L X I J)) = bndH (call nX11_would [.ref 0, .int x1, .int x2, .int x3, .int x4, .int x5, .int x6, .int x7, .int x8, .int x9] (mm L X I J)) (fun v m' => runI call iL_would (22, [some (.ref 0), some (.int x1), some (.int x2), some (.int x3), some (.int x4), some (.int x5), some (.int x6), some (.int x7), some (.int x8), some (.int x9), some (.ref 632), none], v.toList ++ [.int (nI 0), .ref 632], m')) (hdl call iL_would 19 [some (.ref 0), some (.int x1), some (.int x2), some (.int x3), some (.int x4), some (.int x5), some (.int x6), some (.int x7), some (.int x8), some (.int x9), some (.ref 632), none]) := by
  refine Eq.trans (st1 dL_would_0 rfl rfl) ?_
  refine Eq.trans (xiconst dL_would_2 ci_0) ?_
  refine Eq.trans (st1 dL_would_3 rfl rfl) ?_
  refine Eq.trans (st1 dL_would_4 rfl rfl) ?_
  refine Eq.trans (st1 dL_would_5 rfl rfl) ?_
  refine Eq.trans (st1 dL_would_6 rfl rfl) ?_
  refine Eq.trans (st1 dL_would_7 rfl rfl) ?_
  refine Eq.trans (st1 dL_would_9 rfl rfl) ?_
  refine Eq.trans (st1 dL_would_11 rfl rfl) ?_
  refine Eq.trans (st1 dL_would_13 rfl rfl) ?_
  refine Eq.trans (st1 dL_would_15 rfl rfl) ?_
  refine Eq.trans (st1 dL_would_17 rfl rfl) ?_
  exact ivH dL_would_19 cp_13_45 rfl rfl (kd_ka ka_0) ka_0.1 (Nat.le_of_ble_eq_true rfl)
theorem q_L_would_29 {call : CALL} {L X : Nat} {I : Nat → Nat → Int32} {J : Nat → Nat → Int64} {u0 : Option Value} {u1 : Option Value} {u2 : Option Value} {u3 : Option Value} {u4 : Option Value} {u5 : Option Value} {u6 : Option Value} {u7 : Option Value} {u8 : Option Value} {u9 : Option Value} {u10 : Option Value} {u11 : Option Value} : runI call iL_would (29, [u0, u1, u2, u3, u4, u5, u6, u7, u8, u9, u10, u11], [], (mm L X I J)) = some (.inl (some (.int (nI 1))), (mm L X I J)) := by
  refine Eq.trans (xiconst dL_would_29 ci_1) ?_
  exact ret0 dL_would_30 rfl
theorem q_L_would_22 {call : CALL} {L X : Nat} {I : Nat → Nat → Int32} {J : Nat → Nat → Int64} {u0 : Option Value} {u1 : Option Value} {u2 : Option Value} {u3 : Option Value} {u4 : Option Value} {u5 : Option Value} {u6 : Option Value} {u7 : Option Value} {u8 : Option Value} {u9 : Option Value} {u10 : Option Value} {u11 : Option Value} {s1 : Int32} {s2 : Int32} : runI call iL_would (22, [u0, u1, u2, u3, u4, u5, u6, u7, u8, u9, u10, u11], [.int s2, .int s1, .ref 632], (mm L X I J)) = gd (inb s1 1) (some (.inl (some (.int (nI 0))), (mm L X I (up2 J 632 (s1).toNatClampNeg (s2).toInt64)))) := by
  refine Eq.trans (st1 dL_would_22 rfl rfl) ?_
  refine Eq.trans (as3m dL_would_23 ka_632) (gd_congr fun g1 => ?_)
  refine Eq.trans (go_to (tgt := 31) dL_would_24 (by decide +kernel)) ?_
  refine Eq.trans (xiconst dL_would_31 ci_0) ?_
  exact ret0 dL_would_32 rfl
theorem hd_L_would_19_1 {call : CALL} {L X : Nat} {I : Nat → Nat → Int32} {J : Nat → Nat → Int64} {x1 : Int32} {x2 : Int32} {x3 : Int32} {x4 : Int32} {x5 : Int32} {x6 : Int32} {x7 : Int32} {x8 : Int32} {x9 : Int32} : hdl call iL_would 19 [some (.ref 0), some (.int x1), some (.int x2), some (.int x3), some (.int x4), some (.int x5), some (.int x6), some (.int x7), some (.int x8), some (.int x9), some (.ref 632), none] 1 (mm L X I J) = runI call iL_would (29, [some (.ref 0), some (.int x1), some (.int x2), some (.int x3), some (.int x4), some (.int x5), some (.int x6), some (.int x7), some (.int x8), some (.int x9), some (.ref 632), none], [], (mm L X I J)) := hdl_of (h := 27) rfl (by decide +kernel) (by unfold xcat; rw [show decode iL_would.2.1 27 = _ from dL_would_27]; rfl)
theorem q_L_fits_0 {call : CALL} {L X : Nat} {I : Nat → Nat → Int32} {J : Nat → Nat → Int64} {x1 : Int32} {x2 : Int32} : runI call iL_fits (0, [some (.ref 0), some (.int x1), some (.int x2), some (.ref 632), none], [], (mm L X I J)) = bndH (call nX11_fits [.ref 0, .int x1, .int x2] (mm L X I J)) (fun v m' => runI call iL_fits (8, [some (.ref 0), some (.int x1), some (.int x2), some (.ref 632), none], v.toList ++ [.int (nI 0), .ref 632], m')) (hdl call iL_fits 5 [some (.ref 0), some (.int x1), some (.int x2), some (.ref 632), none]) := by
  refine Eq.trans (st1 dL_fits_0 rfl rfl) ?_
  refine Eq.trans (xiconst dL_fits_1 ci_0) ?_
  refine Eq.trans (st1 dL_fits_2 rfl rfl) ?_
  refine Eq.trans (st1 dL_fits_3 rfl rfl) ?_
  refine Eq.trans (st1 dL_fits_4 rfl rfl) ?_
  exact ivH dL_fits_5 cp_13_49 rfl rfl (kd_ka ka_0) ka_0.1 (Nat.le_of_ble_eq_true rfl)
theorem q_L_fits_22 {call : CALL} {L X : Nat} {I : Nat → Nat → Int32} {J : Nat → Nat → Int64} {u0 : Option Value} {u1 : Option Value} {u2 : Option Value} {u3 : Option Value} {u4 : Option Value} : runI call iL_fits (22, [u0, u1, u2, u3, u4], [], (mm L X I J)) = some (.inl (some (.int (nI 1))), (mm L X I J)) := by
  refine Eq.trans (xiconst dL_fits_22 ci_1) ?_
  exact ret0 dL_fits_23 rfl
theorem q_L_fits_8 {call : CALL} {L X : Nat} {I : Nat → Nat → Int32} {J : Nat → Nat → Int64} {u0 : Option Value} {u1 : Option Value} {u2 : Option Value} {u3 : Option Value} {u4 : Option Value} {s1 : Int32} {s2 : Int32} : runI call iL_fits (8, [u0, u1, u2, u3, u4], [.int s2, .int s1, .ref 632], (mm L X I J)) = if s2 = (nI 0) then runI call iL_fits (16, [u0, u1, u2, u3, u4], [.long (lN 0), .int s1, .ref 632], (mm L X I J)) else runI call iL_fits (16, [u0, u1, u2, u3, u4], [.long (lN 1), .int s1, .ref 632], (mm L X I J)) := by
  refine Eq.trans (if_eq (tgt := 15) dL_fits_8 (by decide +kernel)) (ite_cong (fun _ => ?_) (fun _ => ?_))
  · refine Eq.trans (st1 dL_fits_15 rfl rfl) ?_
    rfl
  · refine Eq.trans (st1 dL_fits_11 rfl rfl) ?_
    refine Eq.trans (go_to (tgt := 16) dL_fits_12 (by decide +kernel)) ?_
    rfl
theorem q_L_fits_16 {call : CALL} {L X : Nat} {I : Nat → Nat → Int32} {J : Nat → Nat → Int64} {u0 : Option Value} {u1 : Option Value} {u2 : Option Value} {u3 : Option Value} {u4 : Option Value} {s1 : Int32} {z2 : Int64} : runI call iL_fits (16, [u0, u1, u2, u3, u4], [.long z2, .int s1, .ref 632], (mm L X I J)) = gd (inb s1 1) (some (.inl (some (.int (nI 0))), (mm L X I (up2 J 632 (s1).toNatClampNeg z2)))) := by
  refine Eq.trans (as3m dL_fits_16 ka_632) (gd_congr fun g1 => ?_)
  refine Eq.trans (go_to (tgt := 24) dL_fits_17 (by decide +kernel)) ?_
  refine Eq.trans (xiconst dL_fits_24 ci_0) ?_
  exact ret0 dL_fits_25 rfl
theorem hd_L_fits_5_1 {call : CALL} {L X : Nat} {I : Nat → Nat → Int32} {J : Nat → Nat → Int64} {x1 : Int32} {x2 : Int32} : hdl call iL_fits 5 [some (.ref 0), some (.int x1), some (.int x2), some (.ref 632), none] 1 (mm L X I J) = runI call iL_fits (22, [some (.ref 0), some (.int x1), some (.int x2), some (.ref 632), none], [], (mm L X I J)) := hdl_of (h := 20) rfl (by decide +kernel) (by unfold xcat; rw [show decode iL_fits.2.1 20 = _ from dL_fits_20]; rfl)
