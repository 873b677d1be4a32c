/-! EQUATIONS OF THE METHODS (written by gen_eq.py) -/
theorem q_X11_worst_0 {call : CALL} {L X : Nat} {I : Nat → Nat → Int32} {J : Nat → Nat → Int64} {x1 : Int32} : runI call iX11_worst (0, [some (.ref 0), some (.int x1), none], [], (mm L X I J)) = bndN (call nX11_within [.int x1, .int (0 : Int32), .int (1 : Int32)] (mm L X I J)) (fun v m' => runI call iX11_worst (7, [some (.ref 0), some (.int x1), none], v.toList ++ [.ref 0], m')) := by
  refine Eq.trans (st1 dX11_worst_0 rfl rfl) ?_
  refine Eq.trans (st1 dX11_worst_1 rfl rfl) ?_
  refine Eq.trans (xiconst dX11_worst_2 ci_0) ?_
  refine Eq.trans (xiconst dX11_worst_3 ci_1) ?_
  exact is2 dX11_worst_4 cp_11_189 (Nat.le_of_ble_eq_true rfl) rfl rfl (Nat.le_of_ble_eq_true rfl)
theorem q_X11_worst_7 {call : CALL} {L X : Nat} {I : Nat → Nat → Int32} {J : Nat → Nat → Int64} {x1 : Int32} {u2 : Option Value} {s1 : Int32} : runI call iX11_worst (7, [some (.ref 0), some (.int x1), u2], [.int s1, .ref 0], (mm L X I J)) = bnd (call nX11_expect [.ref 0, .int s1] (mm L X I J)) (fun v m' => runI call iX11_worst (10, [some (.ref 0), some (.int x1), u2], v.toList ++ [], m')) := by
  exact iv0 dX11_worst_7 rfl cp_11_193 rfl rfl (kd_ka ka_0) ka_0.1 (Nat.le_of_ble_eq_true rfl)
theorem q_X11_worst_10 {call : CALL} {L X : Nat} {I : Nat → Nat → Int32} {J : Nat → Nat → Int64} {x1 : Int32} {u2 : Option Value} : runI call iX11_worst (10, [some (.ref 0), some (.int x1), u2], [], (mm L X I J)) = bnd (call nX8_worstPlace [.ref 52, .ref 43] (mm L X I J)) (fun v m' => runI call iX11_worst (21, [some (.ref 0), some (.int x1), u2], v.toList ++ [], m')) := by
  refine Eq.trans (st1 dX11_worst_10 rfl rfl) ?_
  refine Eq.trans (getRm dX11_worst_11 cp_11_72 ka_0 rfl r_0_10) ?_
  refine Eq.trans (st1 dX11_worst_14 rfl rfl) ?_
  refine Eq.trans (getRm dX11_worst_15 cp_11_56 ka_0 rfl r_0_8) ?_
  exact iv0 dX11_worst_18 rfl cp_11_397 rfl rfl (kd_ka ka_52) ka_52.1 (Nat.le_of_ble_eq_true rfl)
theorem q_X11_worst_21 {call : CALL} {L X : Nat} {I : Nat → Nat → Int32} {J : Nat → Nat → Int64} {x1 : Int32} {u2 : Option Value} {s0 : Int32} : runI call iX11_worst (21, [some (.ref 0), some (.int x1), u2], [.int s0], (mm L X I J)) = if x1 = 0 then some (.inl (some (.int s0)), (mm L X I J)) else if 0 ≤ s0 then bnd (call nX8_lostAt [.ref 52, .ref 43, .int s0] (mm L X I J)) (fun v m' => runI call iX11_worst (48, [some (.ref 0), some (.int x1), some (.int s0)], v.toList ++ [], m')) else some (.inl (some (.int (0 : Int32))), (mm L X I J)) := by
  refine Eq.trans (st1 dX11_worst_21 rfl rfl) ?_
  refine Eq.trans (st1 dX11_worst_22 rfl rfl) ?_
  refine Eq.trans (if_ne (tgt := 28) dX11_worst_23 (by decide +kernel)) (ite_cong (fun _ => ?_) (fun _ => ?_))
  · refine Eq.trans (st1 dX11_worst_26 rfl rfl) ?_
    exact ret0 dX11_worst_27 rfl
  · refine Eq.trans (st1 dX11_worst_28 rfl rfl) ?_
    refine Eq.trans (if_ge (tgt := 36) dX11_worst_29 (by decide +kernel)) (ite_cong (fun _ => ?_) (fun _ => ?_))
    · refine Eq.trans (st1 dX11_worst_36 rfl rfl) ?_
      refine Eq.trans (getRm dX11_worst_37 cp_11_72 ka_0 rfl r_0_10) ?_
      refine Eq.trans (st1 dX11_worst_40 rfl rfl) ?_
      refine Eq.trans (getRm dX11_worst_41 cp_11_56 ka_0 rfl r_0_8) ?_
      refine Eq.trans (st1 dX11_worst_44 rfl rfl) ?_
      exact iv0 dX11_worst_45 rfl cp_11_400 rfl rfl (kd_ka ka_52) ka_52.1 (Nat.le_of_ble_eq_true rfl)
    · refine Eq.trans (xiconst dX11_worst_32 ci_0) ?_
      refine Eq.trans (go_to (tgt := 48) dX11_worst_33 (by decide +kernel)) ?_
      exact ret0 dX11_worst_48 rfl
theorem q_X11_worst_48 {call : CALL} {L X : Nat} {I : Nat → Nat → Int32} {J : Nat → Nat → Int64} {u0 : Option Value} {u1 : Option Value} {u2 : Option Value} {s0 : Int32} : runI call iX11_worst (48, [u0, u1, u2], [.int s0], (mm L X I J)) = some (.inl (some (.int s0)), (mm L X I J)) := by
  exact ret0 dX11_worst_48 rfl
theorem q_X11_needed_0 {call : CALL} {L X : Nat} {I : Nat → Nat → Int32} {J : Nat → Nat → Int64} {x1 : Int32} : runI call iX11_needed (0, [some (.ref 0), some (.int x1), none], [], (mm L X I J)) = bnd (call nX11_expectFire [.ref 0, .int x1] (mm L X I J)) (fun v m' => runI call iX11_needed (5, [some (.ref 0), some (.int x1), none], v.toList ++ [], m')) := by
  refine Eq.trans (st1 dX11_needed_0 rfl rfl) ?_
  refine Eq.trans (st1 dX11_needed_1 rfl rfl) ?_
  exact iv0 dX11_needed_2 rfl cp_11_274 rfl rfl (kd_ka ka_0) ka_0.1 (Nat.le_of_ble_eq_true rfl)
theorem q_X11_needed_5 {call : CALL} {L X : Nat} {I : Nat → Nat → Int32} {J : Nat → Nat → Int64} {x1 : Int32} {u2 : Option Value} : runI call iX11_needed (5, [some (.ref 0), some (.int x1), u2], [], (mm L X I J)) = bnd (call nX3_longNow [.ref 43, .ref 3] (mm L X I J)) (fun v m' => runI call iX11_needed (16, [some (.ref 0), some (.int x1), u2], v.toList ++ [], m')) := by
  refine Eq.trans (st1 dX11_needed_5 rfl rfl) ?_
  refine Eq.trans (getRm dX11_needed_6 cp_11_56 ka_0 rfl r_0_8) ?_
  refine Eq.trans (st1 dX11_needed_9 rfl rfl) ?_
  refine Eq.trans (getRm dX11_needed_10 cp_11_19 ka_0 rfl r_0_1) ?_
  exact iv0 dX11_needed_13 rfl cp_11_213 rfl rfl (kd_ka ka_43) ka_43.1 (Nat.le_of_ble_eq_true rfl)
theorem q_X11_needed_16 {call : CALL} {L X : Nat} {I : Nat → Nat → Int32} {J : Nat → Nat → Int64} {x1 : Int32} {u2 : Option Value} {s0 : Int32} : runI call iX11_needed (16, [some (.ref 0), some (.int x1), u2], [.int s0], (mm L X I J)) = bndN (call nX11_pick [.ref 10, .int x1] (mm L X I J)) (fun v m' => runI call iX11_needed (27, [some (.ref 0), some (.int x1), u2], v.toList ++ [.int s0], m')) := by
  refine Eq.trans (st1 dX11_needed_16 rfl rfl) ?_
  refine Eq.trans (getRm dX11_needed_17 cp_11_19 ka_0 rfl r_0_1) ?_
  refine Eq.trans (getRm dX11_needed_20 cp_11_277 ka_3 rfl r_3_10) ?_
  refine Eq.trans (st1 dX11_needed_23 rfl rfl) ?_
  exact is2 dX11_needed_24 cp_11_232 (Nat.le_of_ble_eq_true rfl) rfl rfl (Nat.le_of_ble_eq_true rfl)
theorem q_X11_needed_27 {call : CALL} {L X : Nat} {I : Nat → Nat → Int32} {J : Nat → Nat → Int64} {x1 : Int32} {u2 : Option Value} {s0 : Int32} {s1 : Int32} : runI call iX11_needed (27, [some (.ref 0), some (.int x1), u2], [.int s1, .int s0], (mm L X I J)) = if s1 ≤ s0 then runI call iX11_needed (34, [some (.ref 0), some (.int x1), some (.int (0 : Int32))], [], (mm L X I J)) else some (.inl (some (.int (-1 : Int32))), (mm L X I J)) := by
  refine Eq.trans (ic_ge (tgt := 32) dX11_needed_27 (by decide +kernel)) (ite_cong (fun _ => ?_) (fun _ => ?_))
  · refine Eq.trans (xiconst dX11_needed_32 ci_0) ?_
    refine Eq.trans (st1 dX11_needed_33 rfl rfl) ?_
    rfl
  · refine Eq.trans (xiconst dX11_needed_30 ci_m1) ?_
    exact ret0 dX11_needed_31 rfl
theorem q_X11_needed_34 {call : CALL} {L X : Nat} {I : Nat → Nat → Int32} {J : Nat → Nat → Int64} {x1 : Int32} {x2 : Int32} : runI call iX11_needed (34, [some (.ref 0), some (.int x1), some (.int x2)], [], (mm L X I J)) = if (99 : Int32) < x2 then some (.inl (some (.int (-1 : Int32))), (mm L X I J)) else bnd (call nX8_arriving [.ref 52, .ref 43, .int x2] (mm L X I J)) (fun v m' => runI call iX11_needed (52, [some (.ref 0), some (.int x1), some (.int x2)], v.toList ++ [], m')) := by
  refine Eq.trans (st1 dX11_needed_34 rfl rfl) ?_
  refine Eq.trans (xbipush dX11_needed_35 cb_99) ?_
  refine Eq.trans (ic_gt (tgt := 74) dX11_needed_37 (by decide +kernel)) (ite_cong (fun _ => ?_) (fun _ => ?_))
  · refine Eq.trans (xiconst dX11_needed_74 ci_m1) ?_
    exact ret0 dX11_needed_75 rfl
  · refine Eq.trans (st1 dX11_needed_40 rfl rfl) ?_
    refine Eq.trans (getRm dX11_needed_41 cp_11_72 ka_0 rfl r_0_10) ?_
    refine Eq.trans (st1 dX11_needed_44 rfl rfl) ?_
    refine Eq.trans (getRm dX11_needed_45 cp_11_56 ka_0 rfl r_0_8) ?_
    refine Eq.trans (st1 dX11_needed_48 rfl rfl) ?_
    exact iv0 dX11_needed_49 rfl cp_11_218 rfl rfl (kd_ka ka_52) ka_52.1 (Nat.le_of_ble_eq_true rfl)
theorem q_X11_needed_52 {call : CALL} {L X : Nat} {I : Nat → Nat → Int32} {J : Nat → Nat → Int64} {x1 : Int32} {x2 : Int32} {s0 : Int32} : runI call iX11_needed (52, [some (.ref 0), some (.int x1), some (.int x2)], [.int s0], (mm L X I J)) = bndN (call nX11_pick [.ref 11, .int x1] (mm L X I J)) (fun v m' => runI call iX11_needed (63, [some (.ref 0), some (.int x1), some (.int x2)], v.toList ++ [.int s0], m')) := by
  refine Eq.trans (st1 dX11_needed_52 rfl rfl) ?_
  refine Eq.trans (getRm dX11_needed_53 cp_11_19 ka_0 rfl r_0_1) ?_
  refine Eq.trans (getRm dX11_needed_56 cp_11_280 ka_3 rfl r_3_11) ?_
  refine Eq.trans (st1 dX11_needed_59 rfl rfl) ?_
  exact is2 dX11_needed_60 cp_11_232 (Nat.le_of_ble_eq_true rfl) rfl rfl (Nat.le_of_ble_eq_true rfl)
theorem q_X11_needed_63 {call : CALL} {L X : Nat} {I : Nat → Nat → Int32} {J : Nat → Nat → Int64} {x1 : Int32} {x2 : Int32} {s0 : Int32} {s1 : Int32} : runI call iX11_needed (63, [some (.ref 0), some (.int x1), some (.int x2)], [.int s1, .int s0], (mm L X I J)) = if s0 < s1 then runI call iX11_needed (34, [some (.ref 0), some (.int x1), some (.int (x2 + (1 : Int32)))], [], (mm L X I J)) else some (.inl (some (.int x2)), (mm L X I J)) := by
  refine Eq.trans (ic_lt (tgt := 68) dX11_needed_63 (by decide +kernel)) (ite_cong (fun _ => ?_) (fun _ => ?_))
  · refine Eq.trans (xinc2 dX11_needed_68 ci_1 rfl (Nat.le_of_ble_eq_true rfl) rfl) ?_
    refine Eq.trans (go_to (tgt := 34) dX11_needed_71 (by decide +kernel)) ?_
    rfl
  · refine Eq.trans (st1 dX11_needed_66 rfl rfl) ?_
    exact ret0 dX11_needed_67 rfl
theorem q_X11_kin_0 {call : CALL} {L X : Nat} {I : Nat → Nat → Int32} {J : Nat → Nat → Int64} {x1 : Int32} : runI call iX11_kin (0, [some (.ref 0), some (.int x1)], [], (mm L X I J)) = bnd (call nX11_expectThread [.ref 0, .int x1] (mm L X I J)) (fun v m' => runI call iX11_kin (5, [some (.ref 0), some (.int x1)], v.toList ++ [], m')) := by
  refine Eq.trans (st1 dX11_kin_0 rfl rfl) ?_
  refine Eq.trans (st1 dX11_kin_1 rfl rfl) ?_
  exact iv0 dX11_kin_2 rfl cp_11_306 rfl rfl (kd_ka ka_0) ka_0.1 (Nat.le_of_ble_eq_true rfl)
theorem q_X11_kin_5 {call : CALL} {L X : Nat} {I : Nat → Nat → Int32} {J : Nat → Nat → Int64} {x1 : Int32} : runI call iX11_kin (5, [some (.ref 0), some (.int x1)], [], (mm L X I J)) = bndN (call nX11_pick [.ref 12, .int x1] (mm L X I J)) (fun v m' => runI call iX11_kin (16, [some (.ref 0), some (.int x1)], v.toList ++ [], m')) := by
  refine Eq.trans (st1 dX11_kin_5 rfl rfl) ?_
  refine Eq.trans (getRm dX11_kin_6 cp_11_19 ka_0 rfl r_0_1) ?_
  refine Eq.trans (getRm dX11_kin_9 cp_11_403 ka_3 rfl r_3_12) ?_
  refine Eq.trans (st1 dX11_kin_12 rfl rfl) ?_
  exact is2 dX11_kin_13 cp_11_232 (Nat.le_of_ble_eq_true rfl) rfl rfl (Nat.le_of_ble_eq_true rfl)
theorem q_X11_kin_16 {call : CALL} {L X : Nat} {I : Nat → Nat → Int32} {J : Nat → Nat → Int64} {u0 : Option Value} {u1 : Option Value} {s0 : Int32} : runI call iX11_kin (16, [u0, u1], [.int s0], (mm L X I J)) = some (.inl (some (.int s0)), (mm L X I J)) := by
  exact ret0 dX11_kin_16 rfl
theorem q_X11_year_0 {call : CALL} {L X : Nat} {I : Nat → Nat → Int32} {J : Nat → Nat → Int64} {x1 : Int32} {x2 : Int32} {x3 : Int32} {x4 : Int32} : runI call iX11_year (0, [some (.ref 0), some (.int x1), some (.int x2), some (.int x3), some (.int x4)], [], (mm L X I J)) = bndN (call nX11_within [.int x2, .int (1 : Int32), .int (96 : Int32)] (mm L X I J)) (fun v m' => runI call iX11_year (8, [some (.ref 0), some (.int x1), some (.int x2), some (.int x3), some (.int x4)], v.toList ++ [.ref 0], m')) := by
  refine Eq.trans (st1 dX11_year_0 rfl rfl) ?_
  refine Eq.trans (st1 dX11_year_1 rfl rfl) ?_
  refine Eq.trans (xiconst dX11_year_2 ci_1) ?_
  refine Eq.trans (xbipush dX11_year_3 cb_96) ?_
  exact is2 dX11_year_5 cp_11_189 (Nat.le_of_ble_eq_true rfl) rfl rfl (Nat.le_of_ble_eq_true rfl)
theorem q_X11_year_8 {call : CALL} {L X : Nat} {I : Nat → Nat → Int32} {J : Nat → Nat → Int64} {x1 : Int32} {x2 : Int32} {x3 : Int32} {x4 : Int32} {s1 : Int32} : runI call iX11_year (8, [some (.ref 0), some (.int x1), some (.int x2), some (.int x3), some (.int x4)], [.int s1, .ref 0], (mm L X I J)) = if s1 = 0 then runI call iX11_year (35, [some (.ref 0), some (.int x1), some (.int x2), some (.int x3), some (.int x4)], [.ref 0], (mm L X I J)) else bndN (call nX11_within [.int x3, .int (0 : Int32), .int (16 : Int32)] (mm L X I J)) (fun v m' => runI call iX11_year (18, [some (.ref 0), some (.int x1), some (.int x2), some (.int x3), some (.int x4)], v.toList ++ [.ref 0], m')) := by
  refine Eq.trans (if_eq (tgt := 35) dX11_year_8 (by decide +kernel)) (ite_cong (fun _ => ?_) (fun _ => ?_))
  · rfl
  · refine Eq.trans (st1 dX11_year_11 rfl rfl) ?_
    refine Eq.trans (xiconst dX11_year_12 ci_0) ?_
    refine Eq.trans (xbipush dX11_year_13 cb_16) ?_
    exact is2 dX11_year_15 cp_11_189 (Nat.le_of_ble_eq_true rfl) rfl rfl (Nat.le_of_ble_eq_true rfl)
theorem q_X11_year_35 {call : CALL} {L X : Nat} {I : Nat → Nat → Int32} {J : Nat → Nat → Int64} {x1 : Int32} {x2 : Int32} {x3 : Int32} {x4 : Int32} : runI call iX11_year (35, [some (.ref 0), some (.int x1), some (.int x2), some (.int x3), some (.int x4)], [.ref 0], (mm L X I J)) = runI call iX11_year (36, [some (.ref 0), some (.int x1), some (.int x2), some (.int x3), some (.int x4)], [.int (0 : Int32), .ref 0], (mm L X I J)) := by
  refine Eq.trans (xiconst dX11_year_35 ci_0) ?_
  rfl
theorem q_X11_year_18 {call : CALL} {L X : Nat} {I : Nat → Nat → Int32} {J : Nat → Nat → Int64} {x1 : Int32} {x2 : Int32} {x3 : Int32} {x4 : Int32} {s1 : Int32} : runI call iX11_year (18, [some (.ref 0), some (.int x1), some (.int x2), some (.int x3), some (.int x4)], [.int s1, .ref 0], (mm L X I J)) = if s1 = 0 then runI call iX11_year (35, [some (.ref 0), some (.int x1), some (.int x2), some (.int x3), some (.int x4)], [.ref 0], (mm L X I J)) else bndN (call nX11_within [.int x4, .int (0 : Int32), .int (3 : Int32)] (mm L X I J)) (fun v m' => runI call iX11_year (28, [some (.ref 0), some (.int x1), some (.int x2), some (.int x3), some (.int x4)], v.toList ++ [.ref 0], m')) := by
  refine Eq.trans (if_eq (tgt := 35) dX11_year_18 (by decide +kernel)) (ite_cong (fun _ => ?_) (fun _ => ?_))
  · rfl
  · refine Eq.trans (st1 dX11_year_21 rfl rfl) ?_
    refine Eq.trans (xiconst dX11_year_23 ci_0) ?_
    refine Eq.trans (xiconst dX11_year_24 ci_3) ?_
    exact is2 dX11_year_25 cp_11_189 (Nat.le_of_ble_eq_true rfl) rfl rfl (Nat.le_of_ble_eq_true rfl)
theorem q_X11_year_36 {call : CALL} {L X : Nat} {I : Nat → Nat → Int32} {J : Nat → Nat → Int64} {x1 : Int32} {x2 : Int32} {x3 : Int32} {x4 : Int32} {s1 : Int32} : runI call iX11_year (36, [some (.ref 0), some (.int x1), some (.int x2), some (.int x3), some (.int x4)], [.int s1, .ref 0], (mm L X I J)) = bnd (call nX11_expect [.ref 0, .int s1] (mm L X I J)) (fun v m' => runI call iX11_year (39, [some (.ref 0), some (.int x1), some (.int x2), some (.int x3), some (.int x4)], v.toList ++ [], m')) := by
  exact iv0 dX11_year_36 rfl cp_11_193 rfl rfl (kd_ka ka_0) ka_0.1 (Nat.le_of_ble_eq_true rfl)
theorem q_X11_year_28 {call : CALL} {L X : Nat} {I : Nat → Nat → Int32} {J : Nat → Nat → Int64} {x1 : Int32} {x2 : Int32} {x3 : Int32} {x4 : Int32} {s1 : Int32} : runI call iX11_year (28, [some (.ref 0), some (.int x1), some (.int x2), some (.int x3), some (.int x4)], [.int s1, .ref 0], (mm L X I J)) = if s1 = 0 then runI call iX11_year (35, [some (.ref 0), some (.int x1), some (.int x2), some (.int x3), some (.int x4)], [.ref 0], (mm L X I J)) else runI call iX11_year (36, [some (.ref 0), some (.int x1), some (.int x2), some (.int x3), some (.int x4)], [.int (1 : Int32), .ref 0], (mm L X I J)) := by
  refine Eq.trans (if_eq (tgt := 35) dX11_year_28 (by decide +kernel)) (ite_cong (fun _ => ?_) (fun _ => ?_))
  · rfl
  · refine Eq.trans (xiconst dX11_year_31 ci_1) ?_
    refine Eq.trans (go_to (tgt := 36) dX11_year_32 (by decide +kernel)) ?_
    rfl
theorem q_X11_year_39 {call : CALL} {L X : Nat} {I : Nat → Nat → Int32} {J : Nat → Nat → Int64} {x1 : Int32} {x2 : Int32} {x3 : Int32} {x4 : Int32} : runI call iX11_year (39, [some (.ref 0), some (.int x1), some (.int x2), some (.int x3), some (.int x4)], [], (mm L X I J)) = bnd (call nX10_live [.ref 66, .ref 43, .int x1, .int x2, .int x3] (mm L X I J)) (fun v m' => runI call iX11_year (53, [some (.ref 0), some (.int x1), some (.int x2), some (.int x3), some (.int x4)], v.toList ++ [], m')) := by
  refine Eq.trans (st1 dX11_year_39 rfl rfl) ?_
  refine Eq.trans (getRm dX11_year_40 cp_11_97 ka_0 rfl r_0_13) ?_
  refine Eq.trans (st1 dX11_year_43 rfl rfl) ?_
  refine Eq.trans (getRm dX11_year_44 cp_11_56 ka_0 rfl r_0_8) ?_
  refine Eq.trans (st1 dX11_year_47 rfl rfl) ?_
  refine Eq.trans (st1 dX11_year_48 rfl rfl) ?_
  refine Eq.trans (st1 dX11_year_49 rfl rfl) ?_
  exact iv0 dX11_year_50 rfl cp_11_406 rfl rfl (kd_ka ka_66) ka_66.1 (Nat.le_of_ble_eq_true rfl)
theorem q_X11_year_53 {call : CALL} {L X : Nat} {I : Nat → Nat → Int32} {J : Nat → Nat → Int64} {u1 : Option Value} {u2 : Option Value} {u3 : Option Value} {x4 : Int32} : runI call iX11_year (53, [some (.ref 0), u1, u2, u3, some (.int x4)], [], (mm L X I J)) = runI call iX11_year (55, [some (.ref 0), u1, u2, u3, some (.int x4)], [.int x4], (mm L X I J)) := by
  refine Eq.trans (st1 dX11_year_53 rfl rfl) ?_
  rfl
/- q_X11_year_55: a switch -/
theorem q_X11_span_0 {call : CALL} {L X : Nat} {I : Nat → Nat → Int32} {J : Nat → Nat → Int64} {x1 : Int32} {x2 : Int32} {x3 : Int32} {x4 : Int32} {x5 : Int32} {x6 : Int32} : runI call iX11_span (0, [some (.ref 0), some (.int x1), some (.int x2), some (.int x3), some (.int x4), some (.int x5), some (.int x6), none, none, none, none], [], (mm L X I J)) = bndN (call nX11_within [.int x2, .int (1 : Int32), .int (20 : Int32)] (mm L X I J)) (fun v m' => runI call iX11_span (8, [some (.ref 0), some (.int x1), some (.int x2), some (.int x3), some (.int x4), some (.int x5), some (.int x6), none, none, none, none], v.toList ++ [.ref 0], m')) := by
  refine Eq.trans (st1 dX11_span_0 rfl rfl) ?_
  refine Eq.trans (st1 dX11_span_1 rfl rfl) ?_
  refine Eq.trans (xiconst dX11_span_2 ci_1) ?_
  refine Eq.trans (xbipush dX11_span_3 cb_20) ?_
  exact is2 dX11_span_5 cp_11_189 (Nat.le_of_ble_eq_true rfl) rfl rfl (Nat.le_of_ble_eq_true rfl)
theorem q_X11_span_8 {call : CALL} {L X : Nat} {I : Nat → Nat → Int32} {J : Nat → Nat → Int64} {x1 : Int32} {x2 : Int32} {x3 : Int32} {x4 : Int32} {x5 : Int32} {x6 : Int32} {u7 : Option Value} {u8 : Option Value} {u9 : Option Value} {u10 : Option Value} {s1 : Int32} : runI call iX11_span (8, [some (.ref 0), some (.int x1), some (.int x2), some (.int x3), some (.int x4), some (.int x5), some (.int x6), u7, u8, u9, u10], [.int s1, .ref 0], (mm L X I J)) = if s1 = 0 then runI call iX11_span (36, [some (.ref 0), some (.int x1), some (.int x2), some (.int x3), some (.int x4), some (.int x5), some (.int x6), u7, u8, u9, u10], [.ref 0], (mm L X I J)) else bndN (call nX11_within [.int x3, .int (1 : Int32), .int (96 : Int32)] (mm L X I J)) (fun v m' => runI call iX11_span (18, [some (.ref 0), some (.int x1), some (.int x2), some (.int x3), some (.int x4), some (.int x5), some (.int x6), u7, u8, u9, u10], v.toList ++ [.ref 0], m')) := by
  refine Eq.trans (if_eq (tgt := 36) dX11_span_8 (by decide +kernel)) (ite_cong (fun _ => ?_) (fun _ => ?_))
  · rfl
  · refine Eq.trans (st1 dX11_span_11 rfl rfl) ?_
    refine Eq.trans (xiconst dX11_span_12 ci_1) ?_
    refine Eq.trans (xbipush dX11_span_13 cb_96) ?_
    exact is2 dX11_span_15 cp_11_189 (Nat.le_of_ble_eq_true rfl) rfl rfl (Nat.le_of_ble_eq_true rfl)
theorem q_X11_span_36 {call : CALL} {L X : Nat} {I : Nat → Nat → Int32} {J : Nat → Nat → Int64} {x1 : Int32} {x2 : Int32} {x3 : Int32} {x4 : Int32} {x5 : Int32} {x6 : Int32} {u7 : Option Value} {u8 : Option Value} {u9 : Option Value} {u10 : Option Value} : runI call iX11_span (36, [some (.ref 0), some (.int x1), some (.int x2), some (.int x3), some (.int x4), some (.int x5), some (.int x6), u7, u8, u9, u10], [.ref 0], (mm L X I J)) = runI call iX11_span (37, [some (.ref 0), some (.int x1), some (.int x2), some (.int x3), some (.int x4), some (.int x5), some (.int x6), u7, u8, u9, u10], [.int (0 : Int32), .ref 0], (mm L X I J)) := by
  refine Eq.trans (xiconst dX11_span_36 ci_0) ?_
  rfl
theorem q_X11_span_18 {call : CALL} {L X : Nat} {I : Nat → Nat → Int32} {J : Nat → Nat → Int64} {x1 : Int32} {x2 : Int32} {x3 : Int32} {x4 : Int32} {x5 : Int32} {x6 : Int32} {u7 : Option Value} {u8 : Option Value} {u9 : Option Value} {u10 : Option Value} {s1 : Int32} : runI call iX11_span (18, [some (.ref 0), some (.int x1), some (.int x2), some (.int x3), some (.int x4), some (.int x5), some (.int x6), u7, u8, u9, u10], [.int s1, .ref 0], (mm L X I J)) = if s1 = 0 then runI call iX11_span (36, [some (.ref 0), some (.int x1), some (.int x2), some (.int x3), some (.int x4), some (.int x5), some (.int x6), u7, u8, u9, u10], [.ref 0], (mm L X I J)) else bndN (call nX11_within [.int x4, .int (0 : Int32), .int (16 : Int32)] (mm L X I J)) (fun v m' => runI call iX11_span (29, [some (.ref 0), some (.int x1), some (.int x2), some (.int x3), some (.int x4), some (.int x5), some (.int x6), u7, u8, u9, u10], v.toList ++ [.ref 0], m')) := by
  refine Eq.trans (if_eq (tgt := 36) dX11_span_18 (by decide +kernel)) (ite_cong (fun _ => ?_) (fun _ => ?_))
  · rfl
  · refine Eq.trans (st1 dX11_span_21 rfl rfl) ?_
    refine Eq.trans (xiconst dX11_span_23 ci_0) ?_
    refine Eq.trans (xbipush dX11_span_24 cb_16) ?_
    exact is2 dX11_span_26 cp_11_189 (Nat.le_of_ble_eq_true rfl) rfl rfl (Nat.le_of_ble_eq_true rfl)
theorem q_X11_span_37 {call : CALL} {L X : Nat} {I : Nat → Nat → Int32} {J : Nat → Nat → Int64} {x1 : Int32} {x2 : Int32} {x3 : Int32} {x4 : Int32} {x5 : Int32} {x6 : Int32} {u7 : Option Value} {u8 : Option Value} {u9 : Option Value} {u10 : Option Value} {s1 : Int32} : runI call iX11_span (37, [some (.ref 0), some (.int x1), some (.int x2), some (.int x3), some (.int x4), some (.int x5), some (.int x6), u7, u8, u9, u10], [.int s1, .ref 0], (mm L X I J)) = bnd (call nX11_expect [.ref 0, .int s1] (mm L X I J)) (fun v m' => runI call iX11_span (40, [some (.ref 0), some (.int x1), some (.int x2), some (.int x3), some (.int x4), some (.int x5), some (.int x6), u7, u8, u9, u10], v.toList ++ [], m')) := by
  exact iv0 dX11_span_37 rfl cp_11_193 rfl rfl (kd_ka ka_0) ka_0.1 (Nat.le_of_ble_eq_true rfl)
theorem q_X11_span_29 {call : CALL} {L X : Nat} {I : Nat → Nat → Int32} {J : Nat → Nat → Int64} {x1 : Int32} {x2 : Int32} {x3 : Int32} {x4 : Int32} {x5 : Int32} {x6 : Int32} {u7 : Option Value} {u8 : Option Value} {u9 : Option Value} {u10 : Option Value} {s1 : Int32} : runI call iX11_span (29, [some (.ref 0), some (.int x1), some (.int x2), some (.int x3), some (.int x4), some (.int x5), some (.int x6), u7, u8, u9, u10], [.int s1, .ref 0], (mm L X I J)) = if s1 = 0 then runI call iX11_span (36, [some (.ref 0), some (.int x1), some (.int x2), some (.int x3), some (.int x4), some (.int x5), some (.int x6), u7, u8, u9, u10], [.ref 0], (mm L X I J)) else runI call iX11_span (37, [some (.ref 0), some (.int x1), some (.int x2), some (.int x3), some (.int x4), some (.int x5), some (.int x6), u7, u8, u9, u10], [.int (1 : Int32), .ref 0], (mm L X I J)) := by
  refine Eq.trans (if_eq (tgt := 36) dX11_span_29 (by decide +kernel)) (ite_cong (fun _ => ?_) (fun _ => ?_))
  · rfl
  · refine Eq.trans (xiconst dX11_span_32 ci_1) ?_
    refine Eq.trans (go_to (tgt := 37) dX11_span_33 (by decide +kernel)) ?_
    rfl
theorem q_X11_span_40 {call : CALL} {L X : Nat} {I : Nat → Nat → Int32} {J : Nat → Nat → Int64} {x1 : Int32} {x2 : Int32} {x3 : Int32} {x4 : Int32} {x5 : Int32} {x6 : Int32} {u7 : Option Value} {u8 : Option Value} {u9 : Option Value} {u10 : Option Value} : runI call iX11_span (40, [some (.ref 0), some (.int x1), some (.int x2), some (.int x3), some (.int x4), some (.int x5), some (.int x6), u7, u8, u9, u10], [], (mm L X I J)) = bndN (call nX11_within [.int x5, .int (0 : Int32), .int (2 : Int32)] (mm L X I J)) (fun v m' => runI call iX11_span (48, [some (.ref 0), some (.int x1), some (.int x2), some (.int x3), some (.int x4), some (.int x5), some (.int x6), u7, u8, u9, u10], v.toList ++ [.ref 0], m')) := by
  refine Eq.trans (st1 dX11_span_40 rfl rfl) ?_
  refine Eq.trans (st1 dX11_span_41 rfl rfl) ?_
  refine Eq.trans (xiconst dX11_span_43 ci_0) ?_
  refine Eq.trans (xiconst dX11_span_44 ci_2) ?_
  exact is2 dX11_span_45 cp_11_189 (Nat.le_of_ble_eq_true rfl) rfl rfl (Nat.le_of_ble_eq_true rfl)
theorem q_X11_span_48 {call : CALL} {L X : Nat} {I : Nat → Nat → Int32} {J : Nat → Nat → Int64} {x1 : Int32} {x2 : Int32} {x3 : Int32} {x4 : Int32} {x5 : Int32} {x6 : Int32} {u7 : Option Value} {u8 : Option Value} {u9 : Option Value} {u10 : Option Value} {s1 : Int32} : runI call iX11_span (48, [some (.ref 0), some (.int x1), some (.int x2), some (.int x3), some (.int x4), some (.int x5), some (.int x6), u7, u8, u9, u10], [.int s1, .ref 0], (mm L X I J)) = if s1 = 0 then runI call iX11_span (73, [some (.ref 0), some (.int x1), some (.int x2), some (.int x3), some (.int x4), some (.int x5), some (.int x6), u7, u8, u9, u10], [.ref 0], (mm L X I J)) else bndN (call nX11_within [.int x6, .int (0 : Int32), .int ((I 3 2) - (1 : Int32))] (mm L X I J)) (fun v m' => runI call iX11_span (66, [some (.ref 0), some (.int x1), some (.int x2), some (.int x3), some (.int x4), some (.int x5), some (.int x6), u7, u8, u9, u10], v.toList ++ [.ref 0], m')) := by
  refine Eq.trans (if_eq (tgt := 73) dX11_span_48 (by decide +kernel)) (ite_cong (fun _ => ?_) (fun _ => ?_))
  · rfl
  · refine Eq.trans (st1 dX11_span_51 rfl rfl) ?_
    refine Eq.trans (xiconst dX11_span_53 ci_0) ?_
    refine Eq.trans (st1 dX11_span_54 rfl rfl) ?_
    refine Eq.trans (getRm dX11_span_55 cp_11_19 ka_0 rfl r_0_1) ?_
    refine Eq.trans (getIm dX11_span_58 cp_11_200 ka_3 (.inl rfl)) ?_
    refine Eq.trans (xiconst dX11_span_61 ci_1) ?_
    refine Eq.trans (st1 dX11_span_62 rfl rfl) ?_
    exact is2 dX11_span_63 cp_11_189 (Nat.le_of_ble_eq_true rfl) rfl rfl (Nat.le_of_ble_eq_true rfl)
theorem q_X11_span_73 {call : CALL} {L X : Nat} {I : Nat → Nat → Int32} {J : Nat → Nat → Int64} {x1 : Int32} {x2 : Int32} {x3 : Int32} {x4 : Int32} {x5 : Int32} {x6 : Int32} {u7 : Option Value} {u8 : Option Value} {u9 : Option Value} {u10 : Option Value} : runI call iX11_span (73, [some (.ref 0), some (.int x1), some (.int x2), some (.int x3), some (.int x4), some (.int x5), some (.int x6), u7, u8, u9, u10], [.ref 0], (mm L X I J)) = runI call iX11_span (74, [some (.ref 0), some (.int x1), some (.int x2), some (.int x3), some (.int x4), some (.int x5), some (.int x6), u7, u8, u9, u10], [.int (0 : Int32), .ref 0], (mm L X I J)) := by
  refine Eq.trans (xiconst dX11_span_73 ci_0) ?_
  rfl
theorem q_X11_span_66 {call : CALL} {L X : Nat} {I : Nat → Nat → Int32} {J : Nat → Nat → Int64} {x1 : Int32} {x2 : Int32} {x3 : Int32} {x4 : Int32} {x5 : Int32} {x6 : Int32} {u7 : Option Value} {u8 : Option Value} {u9 : Option Value} {u10 : Option Value} {s1 : Int32} : runI call iX11_span (66, [some (.ref 0), some (.int x1), some (.int x2), some (.int x3), some (.int x4), some (.int x5), some (.int x6), u7, u8, u9, u10], [.int s1, .ref 0], (mm L X I J)) = if s1 = 0 then runI call iX11_span (73, [some (.ref 0), some (.int x1), some (.int x2), some (.int x3), some (.int x4), some (.int x5), some (.int x6), u7, u8, u9, u10], [.ref 0], (mm L X I J)) else runI call iX11_span (74, [some (.ref 0), some (.int x1), some (.int x2), some (.int x3), some (.int x4), some (.int x5), some (.int x6), u7, u8, u9, u10], [.int (1 : Int32), .ref 0], (mm L X I J)) := by
  refine Eq.trans (if_eq (tgt := 73) dX11_span_66 (by decide +kernel)) (ite_cong (fun _ => ?_) (fun _ => ?_))
  · rfl
  · refine Eq.trans (xiconst dX11_span_69 ci_1) ?_
    refine Eq.trans (go_to (tgt := 74) dX11_span_70 (by decide +kernel)) ?_
    rfl
theorem q_X11_span_74 {call : CALL} {L X : Nat} {I : Nat → Nat → Int32} {J : Nat → Nat → Int64} {x1 : Int32} {x2 : Int32} {x3 : Int32} {x4 : Int32} {x5 : Int32} {x6 : Int32} {u7 : Option Value} {u8 : Option Value} {u9 : Option Value} {u10 : Option Value} {s1 : Int32} : runI call iX11_span (74, [some (.ref 0), some (.int x1), some (.int x2), some (.int x3), some (.int x4), some (.int x5), some (.int x6), u7, u8, u9, u10], [.int s1, .ref 0], (mm L X I J)) = bnd (call nX11_expect [.ref 0, .int s1] (mm L X I J)) (fun v m' => runI call iX11_span (77, [some (.ref 0), some (.int x1), some (.int x2), some (.int x3), some (.int x4), some (.int x5), some (.int x6), u7, u8, u9, u10], v.toList ++ [], m')) := by
  exact iv0 dX11_span_74 rfl cp_11_193 rfl rfl (kd_ka ka_0) ka_0.1 (Nat.le_of_ble_eq_true rfl)
theorem q_X11_span_77 {call : CALL} {L X : Nat} {I : Nat → Nat → Int32} {J : Nat → Nat → Int64} {x1 : Int32} {x2 : Int32} {x3 : Int32} {x4 : Int32} {x5 : Int32} {x6 : Int32} {u7 : Option Value} {u8 : Option Value} {u9 : Option Value} {u10 : Option Value} : runI call iX11_span (77, [some (.ref 0), some (.int x1), some (.int x2), some (.int x3), some (.int x4), some (.int x5), some (.int x6), u7, u8, u9, u10], [], (mm L X I J)) = runI call iX11_span (90, [some (.ref 0), some (.int x1), some (.int x2), some (.int x3), some (.int x4), some (.int x5), some (.int x6), some (.int (6 : Int32)), some (.int (0 : Int32)), some (.int (0 : Int32)), some (.int (0 : Int32))], [], (mm L X I J)) := by
  refine Eq.trans (xbipush dX11_span_77 cb_6) ?_
  refine Eq.trans (st1 dX11_span_79 rfl rfl) ?_
  refine Eq.trans (xiconst dX11_span_81 ci_0) ?_
  refine Eq.trans (st1 dX11_span_82 rfl rfl) ?_
  refine Eq.trans (xiconst dX11_span_84 ci_0) ?_
  refine Eq.trans (st1 dX11_span_85 rfl rfl) ?_
  refine Eq.trans (xiconst dX11_span_87 ci_0) ?_
  refine Eq.trans (st1 dX11_span_88 rfl rfl) ?_
  rfl
theorem q_X11_span_90 {call : CALL} {L X : Nat} {I : Nat → Nat → Int32} {J : Nat → Nat → Int64} {x1 : Int32} {x2 : Int32} {x3 : Int32} {x4 : Int32} {x5 : Int32} {x6 : Int32} {x7 : Int32} {x8 : Int32} {x9 : Int32} {x10 : Int32} : runI call iX11_span (90, [some (.ref 0), some (.int x1), some (.int x2), some (.int x3), some (.int x4), some (.int x5), some (.int x6), some (.int x7), some (.int x8), some (.int x9), some (.int x10)], [], (mm L X I J)) = if x2 ≤ x10 then if x5 = 0 then some (.inl (some (.int x7)), (mm L X I J)) else if x5 = (1 : Int32) then some (.inl (some (.int x8)), (mm L X I J)) else some (.inl (some (.int x9)), (mm L X I J)) else bnd (call nX10_live [.ref 66, .ref 43, .int (x1 + x10), .int x3, .int x4] (mm L X I J)) (fun v m' => runI call iX11_span (114, [some (.ref 0), some (.int x1), some (.int x2), some (.int x3), some (.int x4), some (.int x5), some (.int x6), some (.int x7), some (.int x8), some (.int x9), some (.int x10)], v.toList ++ [], m')) := by
  refine Eq.trans (st1 dX11_span_90 rfl rfl) ?_
  refine Eq.trans (st1 dX11_span_92 rfl rfl) ?_
  refine Eq.trans (ic_ge (tgt := 174) dX11_span_93 (by decide +kernel)) (ite_cong (fun _ => ?_) (fun _ => ?_))
  · refine Eq.trans (st1 dX11_span_174 rfl rfl) ?_
    refine Eq.trans (if_ne (tgt := 184) dX11_span_176 (by decide +kernel)) (ite_cong (fun _ => ?_) (fun _ => ?_))
    · refine Eq.trans (st1 dX11_span_179 rfl rfl) ?_
      refine Eq.trans (go_to (tgt := 197) dX11_span_181 (by decide +kernel)) ?_
      exact ret0 dX11_span_197 rfl
    · refine Eq.trans (st1 dX11_span_184 rfl rfl) ?_
      refine Eq.trans (xiconst dX11_span_186 ci_1) ?_
      refine Eq.trans (ic_ne (tgt := 195) dX11_span_187 (by decide +kernel)) (ite_cong (fun _ => ?_) (fun _ => ?_))
      · refine Eq.trans (st1 dX11_span_190 rfl rfl) ?_
        refine Eq.trans (go_to (tgt := 197) dX11_span_192 (by decide +kernel)) ?_
        exact ret0 dX11_span_197 rfl
      · refine Eq.trans (st1 dX11_span_195 rfl rfl) ?_
        exact ret0 dX11_span_197 rfl
  · refine Eq.trans (st1 dX11_span_96 rfl rfl) ?_
    refine Eq.trans (getRm dX11_span_97 cp_11_97 ka_0 rfl r_0_13) ?_
    refine Eq.trans (st1 dX11_span_100 rfl rfl) ?_
    refine Eq.trans (getRm dX11_span_101 cp_11_56 ka_0 rfl r_0_8) ?_
    refine Eq.trans (st1 dX11_span_104 rfl rfl) ?_
    refine Eq.trans (st1 dX11_span_105 rfl rfl) ?_
    refine Eq.trans (st1 dX11_span_107 rfl rfl) ?_
    refine Eq.trans (st1 dX11_span_108 rfl rfl) ?_
    refine Eq.trans (st1 dX11_span_109 rfl rfl) ?_
    exact iv0 dX11_span_111 rfl cp_11_406 rfl rfl (kd_ka ka_66) ka_66.1 (Nat.le_of_ble_eq_true rfl)
theorem q_X11_span_114 {call : CALL} {L X : Nat} {I : Nat → Nat → Int32} {J : Nat → Nat → Int64} {x1 : Int32} {x2 : Int32} {x3 : Int32} {x4 : Int32} {x5 : Int32} {x6 : Int32} {x7 : Int32} {x8 : Int32} {x9 : Int32} {x10 : Int32} : runI call iX11_span (114, [some (.ref 0), some (.int x1), some (.int x2), some (.int x3), some (.int x4), some (.int x5), some (.int x6), some (.int x7), some (.int x8), some (.int x9), some (.int x10)], [], (mm L X I J)) = bnd (call nX3_outBits [.ref 67] (mm L X I J)) (fun v m' => runI call iX11_span (160, [some (.ref 0), some (.int x1), some (.int x2), some (.int x3), some (.int x4), some (.int x5), some (.int x6), some (.int (if (I 67 5) < x7 then (I 67 5) else x7)), some (.int (if x8 < (I 67 5) then (I 67 5) else x8)), some (.int x9), some (.int x10)], v.toList ++ [.int x9], m')) := by
  refine Eq.trans (st1 dX11_span_114 rfl rfl) ?_
  refine Eq.trans (st1 dX11_span_116 rfl rfl) ?_
  refine Eq.trans (getRm dX11_span_117 cp_11_97 ka_0 rfl r_0_13) ?_
  refine Eq.trans (getRm dX11_span_120 cp_11_413 ka_66 rfl r_66_2) ?_
  refine Eq.trans (getIm dX11_span_123 cp_11_206 ka_67 (.inl rfl)) ?_
  refine Eq.trans (imin dX11_span_126 cp_11_392 (Nat.le_of_ble_eq_true rfl)) ?_
  refine Eq.trans (st1 dX11_span_129 rfl rfl) ?_
  refine Eq.trans (st1 dX11_span_131 rfl rfl) ?_
  refine Eq.trans (st1 dX11_span_133 rfl rfl) ?_
  refine Eq.trans (getRm dX11_span_134 cp_11_97 ka_0 rfl r_0_13) ?_
  refine Eq.trans (getRm dX11_span_137 cp_11_413 ka_66 rfl r_66_2) ?_
  refine Eq.trans (getIm dX11_span_140 cp_11_206 ka_67 (.inl rfl)) ?_
  refine Eq.trans (imax dX11_span_143 cp_11_419 (Nat.le_of_ble_eq_true rfl)) ?_
  refine Eq.trans (st1 dX11_span_146 rfl rfl) ?_
  refine Eq.trans (st1 dX11_span_148 rfl rfl) ?_
  refine Eq.trans (st1 dX11_span_150 rfl rfl) ?_
  refine Eq.trans (getRm dX11_span_151 cp_11_97 ka_0 rfl r_0_13) ?_
  refine Eq.trans (getRm dX11_span_154 cp_11_413 ka_66 rfl r_66_2) ?_
  exact iv0 dX11_span_157 rfl cp_11_222 rfl rfl (kd_ka ka_67) ka_67.1 (Nat.le_of_ble_eq_true rfl)
theorem q_X11_span_160 {call : CALL} {L X : Nat} {I : Nat → Nat → Int32} {J : Nat → Nat → Int64} {x1 : Int32} {x2 : Int32} {x3 : Int32} {x4 : Int32} {x5 : Int32} {x6 : Int32} {x7 : Int32} {x8 : Int32} {u9 : Option Value} {x10 : Int32} {s0 : Int32} {s1 : Int32} : runI call iX11_span (160, [some (.ref 0), some (.int x1), some (.int x2), some (.int x3), some (.int x4), some (.int x5), some (.int x6), some (.int x7), some (.int x8), u9, some (.int x10)], [.int s1, .int s0], (mm L X I J)) = bndN (call nX11_bit [.int s1, .int x6] (mm L X I J)) (fun v m' => runI call iX11_span (165, [some (.ref 0), some (.int x1), some (.int x2), some (.int x3), some (.int x4), some (.int x5), some (.int x6), some (.int x7), some (.int x8), u9, some (.int x10)], v.toList ++ [.int s0], m')) := by
  refine Eq.trans (st1 dX11_span_160 rfl rfl) ?_
  exact is2 dX11_span_162 cp_11_258 (Nat.le_of_ble_eq_true rfl) rfl rfl (Nat.le_of_ble_eq_true rfl)
theorem q_X11_span_165 {call : CALL} {L X : Nat} {I : Nat → Nat → Int32} {J : Nat → Nat → Int64} {x1 : Int32} {x2 : Int32} {x3 : Int32} {x4 : Int32} {x5 : Int32} {x6 : Int32} {x7 : Int32} {x8 : Int32} {u9 : Option Value} {x10 : Int32} {s0 : Int32} {s1 : Int32} : runI call iX11_span (165, [some (.ref 0), some (.int x1), some (.int x2), some (.int x3), some (.int x4), some (.int x5), some (.int x6), some (.int x7), some (.int x8), u9, some (.int x10)], [.int s1, .int s0], (mm L X I J)) = runI call iX11_span (90, [some (.ref 0), some (.int x1), some (.int x2), some (.int x3), some (.int x4), some (.int x5), some (.int x6), some (.int x7), some (.int x8), some (.int (s0 + s1)), some (.int (x10 + (1 : Int32)))], [], (mm L X I J)) := by
  refine Eq.trans (st1 dX11_span_165 rfl rfl) ?_
  refine Eq.trans (st1 dX11_span_166 rfl rfl) ?_
  refine Eq.trans (xinc2 dX11_span_168 ci_1 rfl (Nat.le_of_ble_eq_true rfl) rfl) ?_
  refine Eq.trans (go_to (tgt := 90) dX11_span_171 (by decide +kernel)) ?_
  rfl
theorem q_X12_tellsNothing_0 {call : CALL} {L X : Nat} {I : Nat → Nat → Int32} {J : Nat → Nat → Int64}  : runI call iX12_tellsNothing (0, [some (.ref 72), none], [], (mm L X I J)) = runI call iX12_tellsNothing (2, [some (.ref 72), some (.int (0 : Int32))], [], (mm L X I J)) := by
  refine Eq.trans (xiconst dX12_tellsNothing_0 ci_0) ?_
  refine Eq.trans (st1 dX12_tellsNothing_1 rfl rfl) ?_
  rfl
theorem q_X12_tellsNothing_2 {call : CALL} {L X : Nat} {I : Nat → Nat → Int32} {J : Nat → Nat → Int64} {x1 : Int32} : runI call iX12_tellsNothing (2, [some (.ref 72), some (.int x1)], [], (mm L X I J)) = if (3 : Int32) ≤ x1 then gd (inb (3 : Int32) 4) (some (.inl none, (mm L X (up2 I 75 ((3 : Int32)).toNatClampNeg (60 : Int32)) J))) else gd (inb x1 4) (runI call iX12_tellsNothing (2, [some (.ref 72), some (.int (x1 + (1 : Int32)))], [], (mm L X (up2 I 75 (x1).toNatClampNeg (0 : Int32)) J))) := by
  refine Eq.trans (st1 dX12_tellsNothing_2 rfl rfl) ?_
  refine Eq.trans (xiconst dX12_tellsNothing_3 ci_3) ?_
  refine Eq.trans (ic_ge (tgt := 20) dX12_tellsNothing_4 (by decide +kernel)) (ite_cong (fun _ => ?_) (fun _ => ?_))
  · refine Eq.trans (st1 dX12_tellsNothing_20 rfl rfl) ?_
    refine Eq.trans (getRm dX12_tellsNothing_21 cp_12_20 ka_72 rfl r_72_11) ?_
    refine Eq.trans (xiconst dX12_tellsNothing_24 ci_3) ?_
    refine Eq.trans (xbipush dX12_tellsNothing_25 cb_60) ?_
    refine Eq.trans (as1m dX12_tellsNothing_27 ka_75) (gd_congr fun g1 => ?_)
    exact ret3 dX12_tellsNothing_28 (.inl rfl)
  · refine Eq.trans (st1 dX12_tellsNothing_7 rfl rfl) ?_
    refine Eq.trans (getRm dX12_tellsNothing_8 cp_12_20 ka_72 rfl r_72_11) ?_
    refine Eq.trans (st1 dX12_tellsNothing_11 rfl rfl) ?_
    refine Eq.trans (xiconst dX12_tellsNothing_12 ci_0) ?_
    refine Eq.trans (as1m dX12_tellsNothing_13 ka_75) (gd_congr fun g2 => ?_)
    refine Eq.trans (xinc2 dX12_tellsNothing_14 ci_1 rfl (Nat.le_of_ble_eq_true rfl) rfl) ?_
    refine Eq.trans (go_to (tgt := 2) dX12_tellsNothing_17 (by decide +kernel)) ?_
    rfl
theorem q_X12_beginsAnew_0 {call : CALL} {L X : Nat} {I : Nat → Nat → Int32} {J : Nat → Nat → Int64}  : runI call iX12_beginsAnew (0, [some (.ref 72), none], [], (mm L X I J)) = runI call iX12_beginsAnew (2, [some (.ref 72), some (.int (0 : Int32))], [], (mm L X I J)) := by
  refine Eq.trans (xiconst dX12_beginsAnew_0 ci_0) ?_
  refine Eq.trans (st1 dX12_beginsAnew_1 rfl rfl) ?_
  rfl
theorem q_X12_beginsAnew_2 {call : CALL} {L X : Nat} {I : Nat → Nat → Int32} {J : Nat → Nat → Int64} {x1 : Int32} : runI call iX12_beginsAnew (2, [some (.ref 72), some (.int x1)], [], (mm L X I J)) = if (4 : Int32) ≤ x1 then gd (inb (0 : Int32) 4) (bndN (call nX12_lays [.ref 77, .ref 84, .int (I 76 ((0 : Int32)).toNatClampNeg)] (mm L X I J)) (fun v m' => runI call iX12_beginsAnew (42, [some (.ref 72), some (.int x1)], v.toList ++ [], m'))) else gd (inb x1 4) (gd (inb x1 4) (runI call iX12_beginsAnew (2, [some (.ref 72), some (.int (x1 + (1 : Int32)))], [], (mm L X (up2 I 76 (x1).toNatClampNeg (I 75 (x1).toNatClampNeg)) J)))) := by
  refine Eq.trans (st1 dX12_beginsAnew_2 rfl rfl) ?_
  refine Eq.trans (xiconst dX12_beginsAnew_3 ci_4) ?_
  refine Eq.trans (ic_ge (tgt := 25) dX12_beginsAnew_4 (by decide +kernel)) (ite_cong (fun _ => ?_) (fun _ => ?_))
  · refine Eq.trans (st1 dX12_beginsAnew_25 rfl rfl) ?_
    refine Eq.trans (getRm dX12_beginsAnew_26 cp_12_28 ka_72 rfl r_72_13) ?_
    refine Eq.trans (st1 dX12_beginsAnew_29 rfl rfl) ?_
    refine Eq.trans (getRm dX12_beginsAnew_30 cp_12_31 ka_72 rfl r_72_14) ?_
    refine Eq.trans (st1 dX12_beginsAnew_33 rfl rfl) ?_
    refine Eq.trans (getRm dX12_beginsAnew_34 cp_12_23 ka_72 rfl r_72_12) ?_
    refine Eq.trans (xiconst dX12_beginsAnew_37 ci_0) ?_
    refine Eq.trans (al1m dX12_beginsAnew_38 ka_76) (gd_congr fun g1 => ?_)
    exact is2 dX12_beginsAnew_39 cp_12_195 (Nat.le_of_ble_eq_true rfl) rfl rfl (Nat.le_of_ble_eq_true rfl)
  · refine Eq.trans (st1 dX12_beginsAnew_7 rfl rfl) ?_
    refine Eq.trans (getRm dX12_beginsAnew_8 cp_12_23 ka_72 rfl r_72_12) ?_
    refine Eq.trans (st1 dX12_beginsAnew_11 rfl rfl) ?_
    refine Eq.trans (st1 dX12_beginsAnew_12 rfl rfl) ?_
    refine Eq.trans (getRm dX12_beginsAnew_13 cp_12_20 ka_72 rfl r_72_11) ?_
    refine Eq.trans (st1 dX12_beginsAnew_16 rfl rfl) ?_
    refine Eq.trans (al1m dX12_beginsAnew_17 ka_75) (gd_congr fun g2 => ?_)
    refine Eq.trans (as1m dX12_beginsAnew_18 ka_76) (gd_congr fun g3 => ?_)
    refine Eq.trans (xinc2 dX12_beginsAnew_19 ci_1 rfl (Nat.le_of_ble_eq_true rfl) rfl) ?_
    refine Eq.trans (go_to (tgt := 2) dX12_beginsAnew_22 (by decide +kernel)) ?_
    rfl
theorem q_X12_beginsAnew_42 {call : CALL} {L X : Nat} {I : Nat → Nat → Int32} {J : Nat → Nat → Int64} {u1 : Option Value} : runI call iX12_beginsAnew (42, [some (.ref 72), u1], [], (mm L X I J)) = gd (inb (1 : Int32) 4) (bndN (call nX12_lays [.ref 91, .ref 96, .int (I 76 ((1 : Int32)).toNatClampNeg)] (mm L X I J)) (fun v m' => runI call iX12_beginsAnew (59, [some (.ref 72), u1], v.toList ++ [], m'))) := by
  refine Eq.trans (st1 dX12_beginsAnew_42 rfl rfl) ?_
  refine Eq.trans (getRm dX12_beginsAnew_43 cp_12_34 ka_72 rfl r_72_15) ?_
  refine Eq.trans (st1 dX12_beginsAnew_46 rfl rfl) ?_
  refine Eq.trans (getRm dX12_beginsAnew_47 cp_12_37 ka_72 rfl r_72_16) ?_
  refine Eq.trans (st1 dX12_beginsAnew_50 rfl rfl) ?_
  refine Eq.trans (getRm dX12_beginsAnew_51 cp_12_23 ka_72 rfl r_72_12) ?_
  refine Eq.trans (xiconst dX12_beginsAnew_54 ci_1) ?_
  refine Eq.trans (al1m dX12_beginsAnew_55 ka_76) (gd_congr fun g1 => ?_)
  exact is2 dX12_beginsAnew_56 cp_12_195 (Nat.le_of_ble_eq_true rfl) rfl rfl (Nat.le_of_ble_eq_true rfl)
theorem q_X12_beginsAnew_59 {call : CALL} {L X : Nat} {I : Nat → Nat → Int32} {J : Nat → Nat → Int64} {u1 : Option Value} : runI call iX12_beginsAnew (59, [some (.ref 72), u1], [], (mm L X I J)) = gd (inb (2 : Int32) 4) (bndN (call nX12_lays [.ref 102, .ref 108, .int (I 76 ((2 : Int32)).toNatClampNeg)] (mm L X I J)) (fun v m' => runI call iX12_beginsAnew (76, [some (.ref 72), u1], v.toList ++ [], m'))) := by
  refine Eq.trans (st1 dX12_beginsAnew_59 rfl rfl) ?_
  refine Eq.trans (getRm dX12_beginsAnew_60 cp_12_40 ka_72 rfl r_72_17) ?_
  refine Eq.trans (st1 dX12_beginsAnew_63 rfl rfl) ?_
  refine Eq.trans (getRm dX12_beginsAnew_64 cp_12_43 ka_72 rfl r_72_18) ?_
  refine Eq.trans (st1 dX12_beginsAnew_67 rfl rfl) ?_
  refine Eq.trans (getRm dX12_beginsAnew_68 cp_12_23 ka_72 rfl r_72_12) ?_
  refine Eq.trans (xiconst dX12_beginsAnew_71 ci_2) ?_
  refine Eq.trans (al1m dX12_beginsAnew_72 ka_76) (gd_congr fun g1 => ?_)
  exact is2 dX12_beginsAnew_73 cp_12_195 (Nat.le_of_ble_eq_true rfl) rfl rfl (Nat.le_of_ble_eq_true rfl)
theorem q_X12_beginsAnew_76 {call : CALL} {L X : Nat} {I : Nat → Nat → Int32} {J : Nat → Nat → Int64} {u1 : Option Value} : runI call iX12_beginsAnew (76, [some (.ref 72), u1], [], (mm L X I J)) = gd (inb (1 : Int32) 4) (runI call iX12_beginsAnew (88, [some (.ref 72), some (.int (0 : Int32))], [], (mm L X (up2 I 72 39 (I 76 ((1 : Int32)).toNatClampNeg)) J))) := by
  refine Eq.trans (st1 dX12_beginsAnew_76 rfl rfl) ?_
  refine Eq.trans (st1 dX12_beginsAnew_77 rfl rfl) ?_
  refine Eq.trans (getRm dX12_beginsAnew_78 cp_12_23 ka_72 rfl r_72_12) ?_
  refine Eq.trans (xiconst dX12_beginsAnew_81 ci_1) ?_
  refine Eq.trans (al1m dX12_beginsAnew_82 ka_76) (gd_congr fun g1 => ?_)
  refine Eq.trans (putIm dX12_beginsAnew_83 cp_12_199 ka_72 rfl) ?_
  refine Eq.trans (xiconst dX12_beginsAnew_86 ci_0) ?_
  refine Eq.trans (st1 dX12_beginsAnew_87 rfl rfl) ?_
  rfl
theorem q_X12_beginsAnew_88 {call : CALL} {L X : Nat} {I : Nat → Nat → Int32} {J : Nat → Nat → Int64} {x1 : Int32} : runI call iX12_beginsAnew (88, [some (.ref 72), some (.int x1)], [], (mm L X I J)) = if (31 : Int32) ≤ x1 then runI call iX12_beginsAnew (109, [some (.ref 72), some (.int (0 : Int32))], [], (mm L X I J)) else gd (inb x1 31) (runI call iX12_beginsAnew (88, [some (.ref 72), some (.int (x1 + (1 : Int32)))], [], (mm L X (up2 I 533 (x1).toNatClampNeg (0 : Int32)) J))) := by
  refine Eq.trans (st1 dX12_beginsAnew_88 rfl rfl) ?_
  refine Eq.trans (xbipush dX12_beginsAnew_89 cb_31) ?_
  refine Eq.trans (ic_ge (tgt := 107) dX12_beginsAnew_91 (by decide +kernel)) (ite_cong (fun _ => ?_) (fun _ => ?_))
  · refine Eq.trans (xiconst dX12_beginsAnew_107 ci_0) ?_
    refine Eq.trans (st1 dX12_beginsAnew_108 rfl rfl) ?_
    rfl
  · refine Eq.trans (st1 dX12_beginsAnew_94 rfl rfl) ?_
    refine Eq.trans (getRm dX12_beginsAnew_95 cp_12_67 ka_72 rfl r_72_29) ?_
    refine Eq.trans (st1 dX12_beginsAnew_98 rfl rfl) ?_
    refine Eq.trans (xiconst dX12_beginsAnew_99 ci_0) ?_
    refine Eq.trans (as1m dX12_beginsAnew_100 ka_533) (gd_congr fun g1 => ?_)
    refine Eq.trans (xinc2 dX12_beginsAnew_101 ci_1 rfl (Nat.le_of_ble_eq_true rfl) rfl) ?_
    refine Eq.trans (go_to (tgt := 88) dX12_beginsAnew_104 (by decide +kernel)) ?_
    rfl
theorem q_X12_beginsAnew_109 {call : CALL} {L X : Nat} {I : Nat → Nat → Int32} {J : Nat → Nat → Int64} {x1 : Int32} : runI call iX12_beginsAnew (109, [some (.ref 72), some (.int x1)], [], (mm L X I J)) = if (6 : Int32) ≤ x1 then runI call iX12_beginsAnew (132, [some (.ref 72), some (.int (0 : Int32))], [], (mm L X I J)) else gd (inb ((0 : Int32) + x1) 31) (runI call iX12_beginsAnew (109, [some (.ref 72), some (.int (x1 + (1 : Int32)))], [], (mm L X (up2 I 533 (((0 : Int32) + x1)).toNatClampNeg (-1 : Int32)) J))) := by
  refine Eq.trans (st1 dX12_beginsAnew_109 rfl rfl) ?_
  refine Eq.trans (xbipush dX12_beginsAnew_110 cb_6) ?_
  refine Eq.trans (ic_ge (tgt := 130) dX12_beginsAnew_112 (by decide +kernel)) (ite_cong (fun _ => ?_) (fun _ => ?_))
  · refine Eq.trans (xiconst dX12_beginsAnew_130 ci_0) ?_
    refine Eq.trans (st1 dX12_beginsAnew_131 rfl rfl) ?_
    rfl
  · refine Eq.trans (st1 dX12_beginsAnew_115 rfl rfl) ?_
    refine Eq.trans (getRm dX12_beginsAnew_116 cp_12_67 ka_72 rfl r_72_29) ?_
    refine Eq.trans (xiconst dX12_beginsAnew_119 ci_0) ?_
    refine Eq.trans (st1 dX12_beginsAnew_120 rfl rfl) ?_
    refine Eq.trans (st1 dX12_beginsAnew_121 rfl rfl) ?_
    refine Eq.trans (xiconst dX12_beginsAnew_122 ci_m1) ?_
    refine Eq.trans (as1m dX12_beginsAnew_123 ka_533) (gd_congr fun g1 => ?_)
    refine Eq.trans (xinc2 dX12_beginsAnew_124 ci_1 rfl (Nat.le_of_ble_eq_true rfl) rfl) ?_
    refine Eq.trans (go_to (tgt := 109) dX12_beginsAnew_127 (by decide +kernel)) ?_
    rfl
theorem q_X12_beginsAnew_132 {call : CALL} {L X : Nat} {I : Nat → Nat → Int32} {J : Nat → Nat → Int64} {x1 : Int32} : runI call iX12_beginsAnew (132, [some (.ref 72), some (.int x1)], [], (mm L X I J)) = if (5 : Int32) ≤ x1 then gd (inb (3 : Int32) 4) (gd (inb (29 : Int32) 31) (runI call iX12_beginsAnew (181, [some (.ref 72), some (.int x1)], [], (mm L X (up2 (up2 (up2 (up2 I 533 ((29 : Int32)).toNatClampNeg (I 76 ((3 : Int32)).toNatClampNeg)) 72 19 (0 : Int32)) 72 34 (0 : Int32)) 72 35 (0 : Int32)) J)))) else gd (inb ((24 : Int32) + x1) 31) (runI call iX12_beginsAnew (132, [some (.ref 72), some (.int (x1 + (1 : Int32)))], [], (mm L X (up2 I 533 (((24 : Int32) + x1)).toNatClampNeg (-1 : Int32)) J))) := by
  refine Eq.trans (st1 dX12_beginsAnew_132 rfl rfl) ?_
  refine Eq.trans (xiconst dX12_beginsAnew_133 ci_5) ?_
  refine Eq.trans (ic_ge (tgt := 153) dX12_beginsAnew_134 (by decide +kernel)) (ite_cong (fun _ => ?_) (fun _ => ?_))
  · refine Eq.trans (st1 dX12_beginsAnew_153 rfl rfl) ?_
    refine Eq.trans (getRm dX12_beginsAnew_154 cp_12_67 ka_72 rfl r_72_29) ?_
    refine Eq.trans (xbipush dX12_beginsAnew_157 cb_29) ?_
    refine Eq.trans (st1 dX12_beginsAnew_159 rfl rfl) ?_
    refine Eq.trans (getRm dX12_beginsAnew_160 cp_12_23 ka_72 rfl r_72_12) ?_
    refine Eq.trans (xiconst dX12_beginsAnew_163 ci_3) ?_
    refine Eq.trans (al1m dX12_beginsAnew_164 ka_76) (gd_congr fun g1 => ?_)
    refine Eq.trans (as1m dX12_beginsAnew_165 ka_533) (gd_congr fun g2 => ?_)
    refine Eq.trans (st1 dX12_beginsAnew_166 rfl rfl) ?_
    refine Eq.trans (xiconst dX12_beginsAnew_167 ci_0) ?_
    refine Eq.trans (putIm dX12_beginsAnew_168 cp_12_202 ka_72 rfl) ?_
    refine Eq.trans (st1 dX12_beginsAnew_171 rfl rfl) ?_
    refine Eq.trans (xiconst dX12_beginsAnew_172 ci_0) ?_
    refine Eq.trans (putIm dX12_beginsAnew_173 cp_12_205 ka_72 rfl) ?_
    refine Eq.trans (st1 dX12_beginsAnew_176 rfl rfl) ?_
    refine Eq.trans (xiconst dX12_beginsAnew_177 ci_0) ?_
    refine Eq.trans (putIm dX12_beginsAnew_178 cp_12_208 ka_72 rfl) ?_
    rfl
  · refine Eq.trans (st1 dX12_beginsAnew_137 rfl rfl) ?_
    refine Eq.trans (getRm dX12_beginsAnew_138 cp_12_67 ka_72 rfl r_72_29) ?_
    refine Eq.trans (xbipush dX12_beginsAnew_141 cb_24) ?_
    refine Eq.trans (st1 dX12_beginsAnew_143 rfl rfl) ?_
    refine Eq.trans (st1 dX12_beginsAnew_144 rfl rfl) ?_
    refine Eq.trans (xiconst dX12_beginsAnew_145 ci_m1) ?_
    refine Eq.trans (as1m dX12_beginsAnew_146 ka_533) (gd_congr fun g3 => ?_)
    refine Eq.trans (xinc2 dX12_beginsAnew_147 ci_1 rfl (Nat.le_of_ble_eq_true rfl) rfl) ?_
    refine Eq.trans (go_to (tgt := 132) dX12_beginsAnew_150 (by decide +kernel)) ?_
    rfl
theorem q_X12_beginsAnew_181 {call : CALL} {L X : Nat} {I : Nat → Nat → Int32} {J : Nat → Nat → Int64} {u1 : Option Value} : runI call iX12_beginsAnew (181, [some (.ref 72), u1], [], (mm L X I J)) = some (.inl none, (mm L X (up2 (up2 I 72 36 (0 : Int32)) 72 37 (0 : Int32)) J)) := by
  refine Eq.trans (st1 dX12_beginsAnew_181 rfl rfl) ?_
  refine Eq.trans (xiconst dX12_beginsAnew_182 ci_0) ?_
  refine Eq.trans (putIm dX12_beginsAnew_183 cp_12_211 ka_72 rfl) ?_
  refine Eq.trans (st1 dX12_beginsAnew_186 rfl rfl) ?_
  refine Eq.trans (xiconst dX12_beginsAnew_187 ci_0) ?_
  refine Eq.trans (putIm dX12_beginsAnew_188 cp_12_214 ka_72 rfl) ?_
  exact ret3 dX12_beginsAnew_191 (.inl rfl)
theorem q_X12_thrown_0 {call : CALL} {L X : Nat} {I : Nat → Nat → Int32} {J : Nat → Nat → Int64}  : runI call iX12_thrown (0, [some (.ref 72)], [], (mm L X I J)) = some (.inl (some (.int (I 72 0))), (mm L X I J)) := by
  refine Eq.trans (st1 dX12_thrown_0 rfl rfl) ?_
  refine Eq.trans (getIm dX12_thrown_1 cp_12_103 ka_72 (.inl rfl)) ?_
  exact ret0 dX12_thrown_4 rfl
theorem q_X12_feed_0 {call : CALL} {L X : Nat} {I : Nat → Nat → Int32} {J : Nat → Nat → Int64} {x1 : Int32} {x2 : Int32} {x3 : Int32} {x4 : Int32} {x5 : Int32} : runI call iX12_feed (0, [some (.ref 72), some (.int x1), some (.int x2), some (.int x3), some (.int x4), some (.int x5), none, none], [], (mm L X I J)) = if (((up2 I 72 0 (0 : Int32)) 72 1) + (20 : Int32)) ≤ (600 : Int32) then runI call iX12_feed (23, [some (.ref 72), some (.int x1), some (.int x2), some (.int x3), some (.int x4), some (.int x5), some (.int (0 : Int32)), none], [], (mm L X (up2 I 72 0 (0 : Int32)) J)) else some (.inl (some (.int (-1 : Int32))), (mm L X (up2 I 72 0 (0 : Int32)) J)) := by
  refine Eq.trans (st1 dX12_feed_0 rfl rfl) ?_
  refine Eq.trans (xiconst dX12_feed_1 ci_0) ?_
  refine Eq.trans (putIm dX12_feed_2 cp_12_103 ka_72 rfl) ?_
  refine Eq.trans (st1 dX12_feed_5 rfl rfl) ?_
  refine Eq.trans (getIm dX12_feed_6 cp_12_106 ka_72 (.inl rfl)) ?_
  refine Eq.trans (xbipush dX12_feed_9 cb_20) ?_
  refine Eq.trans (st1 dX12_feed_11 rfl rfl) ?_
  refine Eq.trans (xsipush dX12_feed_12 cs_600) ?_
  refine Eq.trans (ic_le (tgt := 20) dX12_feed_15 (by decide +kernel)) (ite_cong (fun _ => ?_) (fun _ => ?_))
  · refine Eq.trans (xiconst dX12_feed_20 ci_0) ?_
    refine Eq.trans (st1 dX12_feed_21 rfl rfl) ?_
    rfl
  · refine Eq.trans (xiconst dX12_feed_18 ci_m1) ?_
    exact ret0 dX12_feed_19 rfl
theorem q_X12_feed_23 {call : CALL} {L X : Nat} {I : Nat → Nat → Int32} {J : Nat → Nat → Int64} {x1 : Int32} {x2 : Int32} {x3 : Int32} {x4 : Int32} {x5 : Int32} {x6 : Int32} {u7 : Option Value} : runI call iX12_feed (23, [some (.ref 72), some (.int x1), some (.int x2), some (.int x3), some (.int x4), some (.int x5), some (.int x6), u7], [], (mm L X I J)) = if (20 : Int32) ≤ x6 then some (.inl (some (.int (I 72 1))), (mm L X I J)) else if (4 : Int32) ≤ x6 then if (8 : Int32) ≤ x6 then if (12 : Int32) ≤ x6 then if (16 : Int32) ≤ x6 then runI call iX12_feed (76, [some (.ref 72), some (.int x1), some (.int x2), some (.int x3), some (.int x4), some (.int x5), some (.int x6), u7], [.int x5], (mm L X I J)) else runI call iX12_feed (76, [some (.ref 72), some (.int x1), some (.int x2), some (.int x3), some (.int x4), some (.int x5), some (.int x6), u7], [.int x4], (mm L X I J)) else runI call iX12_feed (76, [some (.ref 72), some (.int x1), some (.int x2), some (.int x3), some (.int x4), some (.int x5), some (.int x6), u7], [.int x3], (mm L X I J)) else runI call iX12_feed (76, [some (.ref 72), some (.int x1), some (.int x2), some (.int x3), some (.int x4), some (.int x5), some (.int x6), u7], [.int x2], (mm L X I J)) else runI call iX12_feed (76, [some (.ref 72), some (.int x1), some (.int x2), some (.int x3), some (.int x4), some (.int x5), some (.int x6), u7], [.int x1], (mm L X I J)) := by
  refine Eq.trans (st1 dX12_feed_23 rfl rfl) ?_
  refine Eq.trans (xbipush dX12_feed_25 cb_20) ?_
  refine Eq.trans (ic_ge (tgt := 120) dX12_feed_27 (by decide +kernel)) (ite_cong (fun _ => ?_) (fun _ => ?_))
  · refine Eq.trans (st1 dX12_feed_120 rfl rfl) ?_
    refine Eq.trans (getIm dX12_feed_121 cp_12_106 ka_72 (.inl rfl)) ?_
    exact ret0 dX12_feed_124 rfl
  · refine Eq.trans (st1 dX12_feed_30 rfl rfl) ?_
    refine Eq.trans (xiconst dX12_feed_32 ci_4) ?_
    refine Eq.trans (ic_ge (tgt := 40) dX12_feed_33 (by decide +kernel)) (ite_cong (fun _ => ?_) (fun _ => ?_))
    · refine Eq.trans (st1 dX12_feed_40 rfl rfl) ?_
      refine Eq.trans (xbipush dX12_feed_42 cb_8) ?_
      refine Eq.trans (ic_ge (tgt := 51) dX12_feed_44 (by decide +kernel)) (ite_cong (fun _ => ?_) (fun _ => ?_))
      · refine Eq.trans (st1 dX12_feed_51 rfl rfl) ?_
        refine Eq.trans (xbipush dX12_feed_53 cb_12) ?_
        refine Eq.trans (ic_ge (tgt := 62) dX12_feed_55 (by decide +kernel)) (ite_cong (fun _ => ?_) (fun _ => ?_))
        · refine Eq.trans (st1 dX12_feed_62 rfl rfl) ?_
          refine Eq.trans (xbipush dX12_feed_64 cb_16) ?_
          refine Eq.trans (ic_ge (tgt := 74) dX12_feed_66 (by decide +kernel)) (ite_cong (fun _ => ?_) (fun _ => ?_))
          · refine Eq.trans (st1 dX12_feed_74 rfl rfl) ?_
            rfl
          · refine Eq.trans (st1 dX12_feed_69 rfl rfl) ?_
            refine Eq.trans (go_to (tgt := 76) dX12_feed_71 (by decide +kernel)) ?_
            rfl
        · refine Eq.trans (st1 dX12_feed_58 rfl rfl) ?_
          refine Eq.trans (go_to (tgt := 76) dX12_feed_59 (by decide +kernel)) ?_
          rfl
      · refine Eq.trans (st1 dX12_feed_47 rfl rfl) ?_
        refine Eq.trans (go_to (tgt := 76) dX12_feed_48 (by decide +kernel)) ?_
        rfl
    · refine Eq.trans (st1 dX12_feed_36 rfl rfl) ?_
      refine Eq.trans (go_to (tgt := 76) dX12_feed_37 (by decide +kernel)) ?_
      rfl
theorem q_X12_feed_76 {call : CALL} {L X : Nat} {I : Nat → Nat → Int32} {J : Nat → Nat → Int64} {x1 : Int32} {x2 : Int32} {x3 : Int32} {x4 : Int32} {x5 : Int32} {x6 : Int32} {u7 : Option Value} {s0 : Int32} : runI call iX12_feed (76, [some (.ref 72), some (.int x1), some (.int x2), some (.int x3), some (.int x4), some (.int x5), some (.int x6), u7], [.int s0], (mm L X I J)) = gd (inb (I 72 1) 600) (runI call iX12_feed (23, [some (.ref 72), some (.int x1), some (.int x2), some (.int x3), some (.int x4), some (.int x5), some (.int (x6 + (1 : Int32))), some (.int s0)], [], (mm L X (up2 (up2 I 73 ((I 72 1)).toNatClampNeg ((s0 >>> (((24 : Int32) - ((8 : Int32) * (x6 - x6 / (4 : Int32) * (4 : Int32)))) &&& 31)) &&& (255 : Int32))) 72 1 (((up2 I 73 ((I 72 1)).toNatClampNeg ((s0 >>> (((24 : Int32) - ((8 : Int32) * (x6 - x6 / (4 : Int32) * (4 : Int32)))) &&& 31)) &&& (255 : Int32))) 72 1) + (1 : Int32))) J))) := by
  refine Eq.trans (st1 dX12_feed_76 rfl rfl) ?_
  refine Eq.trans (st1 dX12_feed_78 rfl rfl) ?_
  refine Eq.trans (getRm dX12_feed_79 cp_12_13 ka_72 rfl r_72_9) ?_
  refine Eq.trans (st1 dX12_feed_82 rfl rfl) ?_
  refine Eq.trans (getIm dX12_feed_83 cp_12_106 ka_72 (.inl rfl)) ?_
  refine Eq.trans (st1 dX12_feed_86 rfl rfl) ?_
  refine Eq.trans (xbipush dX12_feed_88 cb_24) ?_
  refine Eq.trans (xbipush dX12_feed_90 cb_8) ?_
  refine Eq.trans (st1 dX12_feed_92 rfl rfl) ?_
  refine Eq.trans (xiconst dX12_feed_94 ci_4) ?_
  refine Eq.trans (irm dX12_feed_95 (by decide +kernel)) ?_
  refine Eq.trans (st1 dX12_feed_96 rfl rfl) ?_
  refine Eq.trans (st1 dX12_feed_97 rfl rfl) ?_
  refine Eq.trans (st1 dX12_feed_98 rfl rfl) ?_
  refine Eq.trans (xsipush dX12_feed_99 cs_255) ?_
  refine Eq.trans (st1 dX12_feed_102 rfl rfl) ?_
  refine Eq.trans (as1m dX12_feed_103 ka_73) (gd_congr fun g1 => ?_)
  refine Eq.trans (st1 dX12_feed_104 rfl rfl) ?_
  refine Eq.trans (st1 dX12_feed_105 rfl rfl) ?_
  refine Eq.trans (getIm dX12_feed_106 cp_12_106 ka_72 (.inl rfl)) ?_
  refine Eq.trans (xiconst dX12_feed_109 ci_1) ?_
  refine Eq.trans (st1 dX12_feed_110 rfl rfl) ?_
  refine Eq.trans (putIm dX12_feed_111 cp_12_106 ka_72 rfl) ?_
  refine Eq.trans (xinc2 dX12_feed_114 ci_1 rfl (Nat.le_of_ble_eq_true rfl) rfl) ?_
  refine Eq.trans (go_to (tgt := 23) dX12_feed_117 (by decide +kernel)) ?_
  rfl
theorem q_X12_house_0 {call : CALL} {L X : Nat} {I : Nat → Nat → Int32} {J : Nat → Nat → Int64} {x1 : Int32} : runI call iX12_house (0, [some (.ref 72), some (.int x1)], [], (mm L X I J)) = bndN (call nX12_in [.int x1, .int (0 : Int32), .int ((up2 I 72 0 (0 : Int32)) 72 1)] (mm L X (up2 I 72 0 (0 : Int32)) J)) (fun v m' => runI call iX12_house (15, [some (.ref 72), some (.int x1)], v.toList ++ [.ref 72], m')) := by
  refine Eq.trans (st1 dX12_house_0 rfl rfl) ?_
  refine Eq.trans (xiconst dX12_house_1 ci_0) ?_
  refine Eq.trans (putIm dX12_house_2 cp_12_103 ka_72 rfl) ?_
  refine Eq.trans (st1 dX12_house_5 rfl rfl) ?_
  refine Eq.trans (st1 dX12_house_6 rfl rfl) ?_
  refine Eq.trans (xiconst dX12_house_7 ci_0) ?_
  refine Eq.trans (st1 dX12_house_8 rfl rfl) ?_
  refine Eq.trans (getIm dX12_house_9 cp_12_106 ka_72 (.inl rfl)) ?_
  exact is2 dX12_house_12 cp_12_137 (Nat.le_of_ble_eq_true rfl) rfl rfl (Nat.le_of_ble_eq_true rfl)
theorem q_X12_house_15 {call : CALL} {L X : Nat} {I : Nat → Nat → Int32} {J : Nat → Nat → Int64} {x1 : Int32} {s1 : Int32} : runI call iX12_house (15, [some (.ref 72), some (.int x1)], [.int s1, .ref 72], (mm L X I J)) = if s1 = 0 then runI call iX12_house (23, [some (.ref 72), some (.int x1)], [.int (1 : Int32), .ref 72], (mm L X I J)) else runI call iX12_house (23, [some (.ref 72), some (.int x1)], [.int (0 : Int32), .ref 72], (mm L X I J)) := by
  refine Eq.trans (if_ne (tgt := 22) dX12_house_15 (by decide +kernel)) (ite_cong (fun _ => ?_) (fun _ => ?_))
  · refine Eq.trans (xiconst dX12_house_18 ci_1) ?_
    refine Eq.trans (go_to (tgt := 23) dX12_house_19 (by decide +kernel)) ?_
    rfl
  · refine Eq.trans (xiconst dX12_house_22 ci_0) ?_
    rfl
theorem q_X12_house_23 {call : CALL} {L X : Nat} {I : Nat → Nat → Int32} {J : Nat → Nat → Int64} {x1 : Int32} {s1 : Int32} : runI call iX12_house (23, [some (.ref 72), some (.int x1)], [.int s1, .ref 72], (mm L X I J)) = bnd (call nX12_bad [.ref 72, .int s1, .int (1 : Int32), .int (1 : Int32)] (mm L X I J)) (fun v m' => runI call iX12_house (28, [some (.ref 72), some (.int x1)], v.toList ++ [], m')) := by
  refine Eq.trans (xiconst dX12_house_23 ci_1) ?_
  refine Eq.trans (xiconst dX12_house_24 ci_1) ?_
  exact iv0 dX12_house_25 rfl cp_12_182 rfl rfl (kd_ka ka_72) ka_72.1 (Nat.le_of_ble_eq_true rfl)
theorem q_X12_house_28 {call : CALL} {L X : Nat} {I : Nat → Nat → Int32} {J : Nat → Nat → Int64} {x1 : Int32} {s0 : Int32} : runI call iX12_house (28, [some (.ref 72), some (.int x1)], [.int s0], (mm L X I J)) = if s0 = 0 then bnd (call nX12_starts [.ref 72, .int x1] (mm L X I J)) (fun v m' => runI call iX12_house (38, [some (.ref 72), some (.int x1)], v.toList ++ [], m')) else some (.inl (some (.int (0 : Int32))), (mm L X I J)) := by
  refine Eq.trans (if_eq (tgt := 33) dX12_house_28 (by decide +kernel)) (ite_cong (fun _ => ?_) (fun _ => ?_))
  · refine Eq.trans (st1 dX12_house_33 rfl rfl) ?_
    refine Eq.trans (st1 dX12_house_34 rfl rfl) ?_
    exact iv0 dX12_house_35 rfl cp_12_186 rfl rfl (kd_ka ka_72) ka_72.1 (Nat.le_of_ble_eq_true rfl)
  · refine Eq.trans (xiconst dX12_house_31 ci_0) ?_
    exact ret0 dX12_house_32 rfl
theorem q_X12_house_38 {call : CALL} {L X : Nat} {I : Nat → Nat → Int32} {J : Nat → Nat → Int64} {u1 : Option Value} : runI call iX12_house (38, [some (.ref 72), u1], [], (mm L X I J)) = bnd (call nX12_tellsNothing [.ref 72] (mm L X I J)) (fun v m' => runI call iX12_house (42, [some (.ref 72), u1], v.toList ++ [], m')) := by
  refine Eq.trans (st1 dX12_house_38 rfl rfl) ?_
  exact iv0 dX12_house_39 rfl cp_12_97 rfl rfl (kd_ka ka_72) ka_72.1 (Nat.le_of_ble_eq_true rfl)
theorem q_X12_house_42 {call : CALL} {L X : Nat} {I : Nat → Nat → Int32} {J : Nat → Nat → Int64} {u1 : Option Value} : runI call iX12_house (42, [some (.ref 72), u1], [], (mm L X I J)) = if (I 72 5) = 0 then if (I 72 2) ≤ (I 72 4) then runI call iX12_house (71, [some (.ref 72), u1], [], (mm L X I J)) else bnd (call nX12_clause [.ref 72] (mm L X I J)) (fun v m' => runI call iX12_house (64, [some (.ref 72), u1], v.toList ++ [], m')) else runI call iX12_house (71, [some (.ref 72), u1], [], (mm L X I J)) := by
  refine Eq.trans (st1 dX12_house_42 rfl rfl) ?_
  refine Eq.trans (getIm dX12_house_43 cp_12_119 ka_72 (.inl rfl)) ?_
  refine Eq.trans (if_ne (tgt := 71) dX12_house_46 (by decide +kernel)) (ite_cong (fun _ => ?_) (fun _ => ?_))
  · refine Eq.trans (st1 dX12_house_49 rfl rfl) ?_
    refine Eq.trans (getIm dX12_house_50 cp_12_112 ka_72 (.inl rfl)) ?_
    refine Eq.trans (st1 dX12_house_53 rfl rfl) ?_
    refine Eq.trans (getIm dX12_house_54 cp_12_109 ka_72 (.inl rfl)) ?_
    refine Eq.trans (ic_ge (tgt := 71) dX12_house_57 (by decide +kernel)) (ite_cong (fun _ => ?_) (fun _ => ?_))
    · rfl
    · refine Eq.trans (st1 dX12_house_60 rfl rfl) ?_
      exact iv0 dX12_house_61 rfl cp_12_189 rfl rfl (kd_ka ka_72) ka_72.1 (Nat.le_of_ble_eq_true rfl)
  · rfl
theorem q_X12_house_71 {call : CALL} {L X : Nat} {I : Nat → Nat → Int32} {J : Nat → Nat → Int64} {u1 : Option Value} : runI call iX12_house (71, [some (.ref 72), u1], [], (mm L X I J)) = if (I 72 5) = 0 then bnd (call nX12_beginsAnew [.ref 72] (mm L X (up2 I 72 3 (-1 : Int32)) J)) (fun v m' => runI call iX12_house (92, [some (.ref 72), u1], v.toList ++ [], m')) else bnd (call nX12_ends [.ref 72] (mm L X I J)) (fun v m' => runI call iX12_house (82, [some (.ref 72), u1], v.toList ++ [], m')) := by
  refine Eq.trans (st1 dX12_house_71 rfl rfl) ?_
  refine Eq.trans (getIm dX12_house_72 cp_12_119 ka_72 (.inl rfl)) ?_
  refine Eq.trans (if_eq (tgt := 83) dX12_house_75 (by decide +kernel)) (ite_cong (fun _ => ?_) (fun _ => ?_))
  · refine Eq.trans (st1 dX12_house_83 rfl rfl) ?_
    refine Eq.trans (xiconst dX12_house_84 ci_m1) ?_
    refine Eq.trans (putIm dX12_house_85 cp_12_9 ka_72 rfl) ?_
    refine Eq.trans (st1 dX12_house_88 rfl rfl) ?_
    exact iv0 dX12_house_89 rfl cp_12_100 rfl rfl (kd_ka ka_72) ka_72.1 (Nat.le_of_ble_eq_true rfl)
  · refine Eq.trans (st1 dX12_house_78 rfl rfl) ?_
    exact iv0 dX12_house_79 rfl cp_12_192 rfl rfl (kd_ka ka_72) ka_72.1 (Nat.le_of_ble_eq_true rfl)
theorem q_X12_house_64 {call : CALL} {L X : Nat} {I : Nat → Nat → Int32} {J : Nat → Nat → Int64} {u1 : Option Value} : runI call iX12_house (64, [some (.ref 72), u1], [], (mm L X I J)) = bnd (call nX12_blanks [.ref 72] (mm L X I J)) (fun v m' => runI call iX12_house (68, [some (.ref 72), u1], v.toList ++ [], m')) := by
  refine Eq.trans (st1 dX12_house_64 rfl rfl) ?_
  exact iv0 dX12_house_65 rfl cp_12_125 rfl rfl (kd_ka ka_72) ka_72.1 (Nat.le_of_ble_eq_true rfl)
theorem q_X12_house_92 {call : CALL} {L X : Nat} {I : Nat → Nat → Int32} {J : Nat → Nat → Int64} {u1 : Option Value} : runI call iX12_house (92, [some (.ref 72), u1], [], (mm L X I J)) = gd (inb (0 : Int32) 4) (some (.inl (some (.int (I 76 ((0 : Int32)).toNatClampNeg))), (mm L X I J))) := by
  refine Eq.trans (st1 dX12_house_92 rfl rfl) ?_
  refine Eq.trans (getRm dX12_house_93 cp_12_23 ka_72 rfl r_72_12) ?_
  refine Eq.trans (xiconst dX12_house_96 ci_0) ?_
  refine Eq.trans (al1m dX12_house_97 ka_76) (gd_congr fun g1 => ?_)
  exact ret0 dX12_house_98 rfl
theorem q_X12_house_82 {call : CALL} {L X : Nat} {I : Nat → Nat → Int32} {J : Nat → Nat → Int64} {u0 : Option Value} {u1 : Option Value} {s0 : Int32} : runI call iX12_house (82, [u0, u1], [.int s0], (mm L X I J)) = some (.inl (some (.int s0)), (mm L X I J)) := by
  exact ret0 dX12_house_82 rfl
theorem q_X12_house_68 {call : CALL} {L X : Nat} {I : Nat → Nat → Int32} {J : Nat → Nat → Int64} {u1 : Option Value} : runI call iX12_house (68, [some (.ref 72), u1], [], (mm L X I J)) = runI call iX12_house (42, [some (.ref 72), u1], [], (mm L X I J)) := by
  refine Eq.trans (go_to (tgt := 42) dX12_house_68 (by decide +kernel)) ?_
  rfl
theorem q_X12_in_0 {call : CALL} {L X : Nat} {I : Nat → Nat → Int32} {J : Nat → Nat → Int64} {x0 : Int32} {x1 : Int32} {x2 : Int32} : runI call iX12_in (0, [some (.int x0), some (.int x1), some (.int x2)], [], (mm L X I J)) = if x0 < x1 then some (.inl (some (.int (0 : Int32))), (mm L X I J)) else if x2 < x0 then some (.inl (some (.int (0 : Int32))), (mm L X I J)) else some (.inl (some (.int (1 : Int32))), (mm L X I J)) := by
  refine Eq.trans (st1 dX12_in_0 rfl rfl) ?_
  refine Eq.trans (st1 dX12_in_1 rfl rfl) ?_
  refine Eq.trans (ic_lt (tgt := 14) dX12_in_2 (by decide +kernel)) (ite_cong (fun _ => ?_) (fun _ => ?_))
  · refine Eq.trans (xiconst dX12_in_14 ci_0) ?_
    exact ret1 dX12_in_15 rfl (.inl rfl)
  · refine Eq.trans (st1 dX12_in_5 rfl rfl) ?_
    refine Eq.trans (st1 dX12_in_6 rfl rfl) ?_
    refine Eq.trans (ic_gt (tgt := 14) dX12_in_7 (by decide +kernel)) (ite_cong (fun _ => ?_) (fun _ => ?_))
    · refine Eq.trans (xiconst dX12_in_14 ci_0) ?_
      exact ret1 dX12_in_15 rfl (.inl rfl)
    · refine Eq.trans (xiconst dX12_in_10 ci_1) ?_
      refine Eq.trans (go_to (tgt := 15) dX12_in_11 (by decide +kernel)) ?_
      exact ret1 dX12_in_15 rfl (.inr rfl)
theorem q_X12_bad_0 {call : CALL} {L X : Nat} {I : Nat → Nat → Int32} {J : Nat → Nat → Int64} {x1 : Int32} {x2 : Int32} {x3 : Int32} : runI call iX12_bad (0, [some (.ref 72), some (.int x1), some (.int x2), some (.int x3)], [], (mm L X I J)) = if x1 = 0 then runI call iX12_bad (26, [some (.ref 72), some (.int x1), some (.int x2), some (.int x3)], [], (mm L X I J)) else if (I 72 0) = 0 then gd (inb x3 2) (gd (inb x3 2) (runI call iX12_bad (26, [some (.ref 72), some (.int x1), some (.int x2), some (.int x3)], [], (mm L X (up2 (up2 I 72 0 x2) 74 (x3).toNatClampNeg (((up2 I 72 0 x2) 74 (x3).toNatClampNeg) + (1 : Int32))) J)))) else runI call iX12_bad (26, [some (.ref 72), some (.int x1), some (.int x2), some (.int x3)], [], (mm L X I J)) := by
  refine Eq.trans (st1 dX12_bad_0 rfl rfl) ?_
  refine Eq.trans (if_eq (tgt := 26) dX12_bad_1 (by decide +kernel)) (ite_cong (fun _ => ?_) (fun _ => ?_))
  · rfl
  · refine Eq.trans (st1 dX12_bad_4 rfl rfl) ?_
    refine Eq.trans (getIm dX12_bad_5 cp_12_103 ka_72 (.inl rfl)) ?_
    refine Eq.trans (if_ne (tgt := 26) dX12_bad_8 (by decide +kernel)) (ite_cong (fun _ => ?_) (fun _ => ?_))
    · refine Eq.trans (st1 dX12_bad_11 rfl rfl) ?_
      refine Eq.trans (st1 dX12_bad_12 rfl rfl) ?_
      refine Eq.trans (putIm dX12_bad_13 cp_12_103 ka_72 rfl) ?_
      refine Eq.trans (st1 dX12_bad_16 rfl rfl) ?_
      refine Eq.trans (getRm dX12_bad_17 cp_12_17 ka_72 rfl r_72_10) ?_
      refine Eq.trans (st1 dX12_bad_20 rfl rfl) ?_
      refine Eq.trans (st1 dX12_bad_21 rfl rfl) ?_
      refine Eq.trans (al1m dX12_bad_22 ka_74) (gd_congr fun g1 => ?_)
      refine Eq.trans (xiconst dX12_bad_23 ci_1) ?_
      refine Eq.trans (st1 dX12_bad_24 rfl rfl) ?_
      refine Eq.trans (as1m dX12_bad_25 ka_74) (gd_congr fun g2 => ?_)
      rfl
    · rfl
theorem q_X12_bad_26 {call : CALL} {L X : Nat} {I : Nat → Nat → Int32} {J : Nat → Nat → Int64} {u1 : Option Value} {u2 : Option Value} {u3 : Option Value} : runI call iX12_bad (26, [some (.ref 72), u1, u2, u3], [], (mm L X I J)) = if (I 72 0) = 0 then some (.inl (some (.int (0 : Int32))), (mm L X I J)) else some (.inl (some (.int (1 : Int32))), (mm L X I J)) := by
  refine Eq.trans (st1 dX12_bad_26 rfl rfl) ?_
  refine Eq.trans (getIm dX12_bad_27 cp_12_103 ka_72 (.inl rfl)) ?_
  refine Eq.trans (if_eq (tgt := 37) dX12_bad_30 (by decide +kernel)) (ite_cong (fun _ => ?_) (fun _ => ?_))
  · refine Eq.trans (xiconst dX12_bad_37 ci_0) ?_
    exact ret1 dX12_bad_38 rfl (.inl rfl)
  · refine Eq.trans (xiconst dX12_bad_33 ci_1) ?_
    refine Eq.trans (go_to (tgt := 38) dX12_bad_34 (by decide +kernel)) ?_
    exact ret1 dX12_bad_38 rfl (.inr rfl)
theorem q_X12_starts_0 {call : CALL} {L X : Nat} {I : Nat → Nat → Int32} {J : Nat → Nat → Int64} {x1 : Int32} : runI call iX12_starts (0, [some (.ref 72), some (.int x1)], [], (mm L X I J)) = runI call iX12_starts (20, [some (.ref 72), some (.int x1)], [], (mm L X (up2 (up2 (up2 (up2 I 72 1 (0 : Int32)) 72 2 x1) 72 4 (0 : Int32)) 72 5 (0 : Int32)) J)) := by
  refine Eq.trans (st1 dX12_starts_0 rfl rfl) ?_
  refine Eq.trans (xiconst dX12_starts_1 ci_0) ?_
  refine Eq.trans (putIm dX12_starts_2 cp_12_106 ka_72 rfl) ?_
  refine Eq.trans (st1 dX12_starts_5 rfl rfl) ?_
  refine Eq.trans (st1 dX12_starts_6 rfl rfl) ?_
  refine Eq.trans (putIm dX12_starts_7 cp_12_109 ka_72 rfl) ?_
  refine Eq.trans (st1 dX12_starts_10 rfl rfl) ?_
  refine Eq.trans (xiconst dX12_starts_11 ci_0) ?_
  refine Eq.trans (putIm dX12_starts_12 cp_12_112 ka_72 rfl) ?_
  refine Eq.trans (st1 dX12_starts_15 rfl rfl) ?_
  refine Eq.trans (xiconst dX12_starts_16 ci_0) ?_
  refine Eq.trans (putIm dX12_starts_17 cp_12_119 ka_72 rfl) ?_
  rfl
theorem q_X12_starts_20 {call : CALL} {L X : Nat} {I : Nat → Nat → Int32} {J : Nat → Nat → Int64} {u1 : Option Value} : runI call iX12_starts (20, [some (.ref 72), u1], [], (mm L X I J)) = bnd (call nX12_blanks [.ref 72] (mm L X (up2 (up2 (up2 I 72 6 (-1 : Int32)) 72 7 (0 : Int32)) 72 8 (0 : Int32)) J)) (fun v m' => runI call iX12_starts (39, [some (.ref 72), u1], v.toList ++ [], m')) := by
  refine Eq.trans (st1 dX12_starts_20 rfl rfl) ?_
  refine Eq.trans (xiconst dX12_starts_21 ci_m1) ?_
  refine Eq.trans (putIm dX12_starts_22 cp_12_122 ka_72 rfl) ?_
  refine Eq.trans (st1 dX12_starts_25 rfl rfl) ?_
  refine Eq.trans (xiconst dX12_starts_26 ci_0) ?_
  refine Eq.trans (putIm dX12_starts_27 cp_12_159 ka_72 rfl) ?_
  refine Eq.trans (st1 dX12_starts_30 rfl rfl) ?_
  refine Eq.trans (xiconst dX12_starts_31 ci_0) ?_
  refine Eq.trans (putIm dX12_starts_32 cp_12_162 ka_72 rfl) ?_
  refine Eq.trans (st1 dX12_starts_35 rfl rfl) ?_
  exact iv0 dX12_starts_36 rfl cp_12_125 rfl rfl (kd_ka ka_72) ka_72.1 (Nat.le_of_ble_eq_true rfl)
theorem q_X12_starts_39 {call : CALL} {L X : Nat} {I : Nat → Nat → Int32} {J : Nat → Nat → Int64} {u0 : Option Value} {u1 : Option Value} : runI call iX12_starts (39, [u0, u1], [], (mm L X I J)) = some (.inl none, (mm L X I J)) := by
  exact ret3 dX12_starts_39 (.inl rfl)
theorem q_X12_blanks_0 {call : CALL} {L X : Nat} {I : Nat → Nat → Int32} {J : Nat → Nat → Int64}  : runI call iX12_blanks (0, [some (.ref 72)], [], (mm L X I J)) = bnd (call nX12_byteAt [.ref 72, .int (I 72 4)] (mm L X I J)) (fun v m' => runI call iX12_blanks (8, [some (.ref 72)], v.toList ++ [], m')) := by
  refine Eq.trans (st1 dX12_blanks_0 rfl rfl) ?_
  refine Eq.trans (st1 dX12_blanks_1 rfl rfl) ?_
  refine Eq.trans (getIm dX12_blanks_2 cp_12_112 ka_72 (.inl rfl)) ?_
  exact iv0 dX12_blanks_5 rfl cp_12_115 rfl rfl (kd_ka ka_72) ka_72.1 (Nat.le_of_ble_eq_true rfl)
theorem q_X12_blanks_8 {call : CALL} {L X : Nat} {I : Nat → Nat → Int32} {J : Nat → Nat → Int64} {s0 : Int32} : runI call iX12_blanks (8, [some (.ref 72)], [.int s0], (mm L X I J)) = if s0 = (32 : Int32) then bnd (call nX12_byteAt [.ref 72, .int ((up2 I 72 4 ((I 72 4) + (1 : Int32))) 72 4)] (mm L X (up2 I 72 4 ((I 72 4) + (1 : Int32))) J)) (fun v m' => runI call iX12_blanks (8, [some (.ref 72)], v.toList ++ [], m')) else some (.inl none, (mm L X I J)) := by
  refine Eq.trans (xbipush dX12_blanks_8 cb_32) ?_
  refine Eq.trans (ic_ne (tgt := 26) dX12_blanks_10 (by decide +kernel)) (ite_cong (fun _ => ?_) (fun _ => ?_))
  · refine Eq.trans (st1 dX12_blanks_13 rfl rfl) ?_
    refine Eq.trans (st1 dX12_blanks_14 rfl rfl) ?_
    refine Eq.trans (getIm dX12_blanks_15 cp_12_112 ka_72 (.inl rfl)) ?_
    refine Eq.trans (xiconst dX12_blanks_18 ci_1) ?_
    refine Eq.trans (st1 dX12_blanks_19 rfl rfl) ?_
    refine Eq.trans (putIm dX12_blanks_20 cp_12_112 ka_72 rfl) ?_
    refine Eq.trans (go_to (tgt := 0) dX12_blanks_23 (by decide +kernel)) ?_
    refine Eq.trans (st1 dX12_blanks_0 rfl rfl) ?_
    refine Eq.trans (st1 dX12_blanks_1 rfl rfl) ?_
    refine Eq.trans (getIm dX12_blanks_2 cp_12_112 ka_72 (.inl rfl)) ?_
    exact iv0 dX12_blanks_5 rfl cp_12_115 rfl rfl (kd_ka ka_72) ka_72.1 (Nat.le_of_ble_eq_true rfl)
  · exact ret3 dX12_blanks_26 (.inl rfl)
theorem q_X12_byteAt_0 {call : CALL} {L X : Nat} {I : Nat → Nat → Int32} {J : Nat → Nat → Int64} {x1 : Int32} : runI call iX12_byteAt (0, [some (.ref 72), some (.int x1)], [], (mm L X I J)) = if x1 < (I 72 2) then gd (inb x1 600) (some (.inl (some (.int (I 73 (x1).toNatClampNeg))), (mm L X I J))) else some (.inl (some (.int (-1 : Int32))), (mm L X I J)) := by
  refine Eq.trans (st1 dX12_byteAt_0 rfl rfl) ?_
  refine Eq.trans (st1 dX12_byteAt_1 rfl rfl) ?_
  refine Eq.trans (getIm dX12_byteAt_2 cp_12_109 ka_72 (.inl rfl)) ?_
  refine Eq.trans (ic_lt (tgt := 12) dX12_byteAt_5 (by decide +kernel)) (ite_cong (fun _ => ?_) (fun _ => ?_))
  · refine Eq.trans (st1 dX12_byteAt_12 rfl rfl) ?_
    refine Eq.trans (getRm dX12_byteAt_13 cp_12_13 ka_72 rfl r_72_9) ?_
    refine Eq.trans (st1 dX12_byteAt_16 rfl rfl) ?_
    refine Eq.trans (al1m dX12_byteAt_17 ka_73) (gd_congr fun g1 => ?_)
    exact ret0 dX12_byteAt_18 rfl
  · refine Eq.trans (xiconst dX12_byteAt_8 ci_m1) ?_
    refine Eq.trans (go_to (tgt := 18) dX12_byteAt_9 (by decide +kernel)) ?_
    exact ret0 dX12_byteAt_18 rfl
theorem q_X12_clause_0 {call : CALL} {L X : Nat} {I : Nat → Nat → Int32} {J : Nat → Nat → Int64}  : runI call iX12_clause (0, [some (.ref 72), none, none, none, none, none], [], (mm L X I J)) = bnd (call nX12_kindHere [.ref 72] (mm L X I J)) (fun v m' => runI call iX12_clause (4, [some (.ref 72), none, none, none, none, none], v.toList ++ [], m')) := by
  refine Eq.trans (st1 dX12_clause_0 rfl rfl) ?_
  exact iv0 dX12_clause_1 rfl cp_12_169 rfl rfl (kd_ka ka_72) ka_72.1 (Nat.le_of_ble_eq_true rfl)
theorem q_X12_clause_4 {call : CALL} {L X : Nat} {I : Nat → Nat → Int32} {J : Nat → Nat → Int64} {u1 : Option Value} {u2 : Option Value} {u3 : Option Value} {u4 : Option Value} {u5 : Option Value} {s0 : Int32} : runI call iX12_clause (4, [some (.ref 72), u1, u2, u3, u4, u5], [.int s0], (mm L X I J)) = if s0 = (-1 : Int32) then bnd (call nX12_wrong [.ref 72, .int (1 : Int32), .int (I 72 4)] (mm L X I J)) (fun v m' => runI call iX12_clause (19, [some (.ref 72), some (.int s0), u2, u3, u4, u5], v.toList ++ [], m')) else if (I 72 7) = (60 : Int32) then runI call iX12_clause (49, [some (.ref 72), some (.int s0), u2, u3, u4, u5], [], (mm L X I J)) else if (3 : Int32) ≤ s0 then runI call iX12_clause (58, [some (.ref 72), some (.int s0), u2, u3, u4, u5], [], (mm L X I J)) else gd (inb s0 4) (bndN (call nX12_mostOf [.int s0] (mm L X I J)) (fun v m' => runI call iX12_clause (46, [some (.ref 72), some (.int s0), u2, u3, u4, u5], v.toList ++ [.int (I 75 (s0).toNatClampNeg)], m'))) := by
  refine Eq.trans (st1 dX12_clause_4 rfl rfl) ?_
  refine Eq.trans (st1 dX12_clause_5 rfl rfl) ?_
  refine Eq.trans (xiconst dX12_clause_6 ci_m1) ?_
  refine Eq.trans (ic_ne (tgt := 22) dX12_clause_7 (by decide +kernel)) (ite_cong (fun _ => ?_) (fun _ => ?_))
  · refine Eq.trans (st1 dX12_clause_10 rfl rfl) ?_
    refine Eq.trans (xiconst dX12_clause_11 ci_1) ?_
    refine Eq.trans (st1 dX12_clause_12 rfl rfl) ?_
    refine Eq.trans (getIm dX12_clause_13 cp_12_112 ka_72 (.inl rfl)) ?_
    exact iv0 dX12_clause_16 rfl cp_12_132 rfl rfl (kd_ka ka_72) ka_72.1 (Nat.le_of_ble_eq_true rfl)
  · refine Eq.trans (st1 dX12_clause_22 rfl rfl) ?_
    refine Eq.trans (getIm dX12_clause_23 cp_12_159 ka_72 (.inl rfl)) ?_
    refine Eq.trans (xbipush dX12_clause_26 cb_60) ?_
    refine Eq.trans (ic_eq (tgt := 49) dX12_clause_28 (by decide +kernel)) (ite_cong (fun _ => ?_) (fun _ => ?_))
    · rfl
    · refine Eq.trans (st1 dX12_clause_31 rfl rfl) ?_
      refine Eq.trans (xiconst dX12_clause_32 ci_3) ?_
      refine Eq.trans (ic_ge (tgt := 58) dX12_clause_33 (by decide +kernel)) (ite_cong (fun _ => ?_) (fun _ => ?_))
      · rfl
      · refine Eq.trans (st1 dX12_clause_36 rfl rfl) ?_
        refine Eq.trans (getRm dX12_clause_37 cp_12_20 ka_72 rfl r_72_11) ?_
        refine Eq.trans (st1 dX12_clause_40 rfl rfl) ?_
        refine Eq.trans (al1m dX12_clause_41 ka_75) (gd_congr fun g1 => ?_)
        refine Eq.trans (st1 dX12_clause_42 rfl rfl) ?_
        exact is2 dX12_clause_43 cp_12_172 (Nat.le_of_ble_eq_true rfl) rfl rfl (Nat.le_of_ble_eq_true rfl)
theorem q_X12_clause_49 {call : CALL} {L X : Nat} {I : Nat → Nat → Int32} {J : Nat → Nat → Int64} {x1 : Int32} {u2 : Option Value} {u3 : Option Value} {u4 : Option Value} {u5 : Option Value} : runI call iX12_clause (49, [some (.ref 72), some (.int x1), u2, u3, u4, u5], [], (mm L X I J)) = bnd (call nX12_wrong [.ref 72, .int (3 : Int32), .int (I 72 4)] (mm L X I J)) (fun v m' => runI call iX12_clause (58, [some (.ref 72), some (.int x1), u2, u3, u4, u5], v.toList ++ [], m')) := by
  refine Eq.trans (st1 dX12_clause_49 rfl rfl) ?_
  refine Eq.trans (xiconst dX12_clause_50 ci_3) ?_
  refine Eq.trans (st1 dX12_clause_51 rfl rfl) ?_
  refine Eq.trans (getIm dX12_clause_52 cp_12_112 ka_72 (.inl rfl)) ?_
  exact iv0 dX12_clause_55 rfl cp_12_132 rfl rfl (kd_ka ka_72) ka_72.1 (Nat.le_of_ble_eq_true rfl)
theorem q_X12_clause_58 {call : CALL} {L X : Nat} {I : Nat → Nat → Int32} {J : Nat → Nat → Int64} {x1 : Int32} {u2 : Option Value} {u3 : Option Value} {u4 : Option Value} {u5 : Option Value} : runI call iX12_clause (58, [some (.ref 72), some (.int x1), u2, u3, u4, u5], [], (mm L X I J)) = if (I 72 5) = 0 then bnd (call nX12_skipWord [.ref 72] (mm L X I J)) (fun v m' => runI call iX12_clause (70, [some (.ref 72), some (.int x1), u2, u3, u4, u5], v.toList ++ [], m')) else some (.inl none, (mm L X I J)) := by
  refine Eq.trans (st1 dX12_clause_58 rfl rfl) ?_
  refine Eq.trans (getIm dX12_clause_59 cp_12_119 ka_72 (.inl rfl)) ?_
  refine Eq.trans (if_eq (tgt := 66) dX12_clause_62 (by decide +kernel)) (ite_cong (fun _ => ?_) (fun _ => ?_))
  · refine Eq.trans (st1 dX12_clause_66 rfl rfl) ?_
    exact iv0 dX12_clause_67 rfl cp_12_156 rfl rfl (kd_ka ka_72) ka_72.1 (Nat.le_of_ble_eq_true rfl)
  · exact ret3 dX12_clause_65 (.inl rfl)
theorem q_X12_clause_46 {call : CALL} {L X : Nat} {I : Nat → Nat → Int32} {J : Nat → Nat → Int64} {x1 : Int32} {u2 : Option Value} {u3 : Option Value} {u4 : Option Value} {u5 : Option Value} {s0 : Int32} {s1 : Int32} : runI call iX12_clause (46, [some (.ref 72), some (.int x1), u2, u3, u4, u5], [.int s1, .int s0], (mm L X I J)) = if s0 = s1 then runI call iX12_clause (49, [some (.ref 72), some (.int x1), u2, u3, u4, u5], [], (mm L X I J)) else runI call iX12_clause (58, [some (.ref 72), some (.int x1), u2, u3, u4, u5], [], (mm L X I J)) := by
  refine Eq.trans (ic_ne (tgt := 58) dX12_clause_46 (by decide +kernel)) (ite_cong (fun _ => ?_) (fun _ => ?_))
  · rfl
  · rfl
theorem q_X12_clause_19 {call : CALL} {L X : Nat} {I : Nat → Nat → Int32} {J : Nat → Nat → Int64} {x1 : Int32} {u2 : Option Value} {u3 : Option Value} {u4 : Option Value} {u5 : Option Value} : runI call iX12_clause (19, [some (.ref 72), some (.int x1), u2, u3, u4, u5], [], (mm L X I J)) = runI call iX12_clause (58, [some (.ref 72), some (.int x1), u2, u3, u4, u5], [], (mm L X I J)) := by
  refine Eq.trans (go_to (tgt := 58) dX12_clause_19 (by decide +kernel)) ?_
  rfl
theorem q_X12_clause_70 {call : CALL} {L X : Nat} {I : Nat → Nat → Int32} {J : Nat → Nat → Int64} {x1 : Int32} {u2 : Option Value} {u3 : Option Value} {u4 : Option Value} {u5 : Option Value} : runI call iX12_clause (70, [some (.ref 72), some (.int x1), u2, u3, u4, u5], [], (mm L X I J)) = if (3 : Int32) ≤ x1 then runI call iX12_clause (95, [some (.ref 72), some (.int x1), u2, u3, u4, u5], [.int (0 : Int32)], (mm L X (up2 I 72 7 ((I 72 7) + (1 : Int32))) J)) else gd (inb x1 4) (runI call iX12_clause (95, [some (.ref 72), some (.int x1), u2, u3, u4, u5], [.int ((up2 I 72 7 ((I 72 7) + (1 : Int32))) 75 (x1).toNatClampNeg)], (mm L X (up2 I 72 7 ((I 72 7) + (1 : Int32))) J))) := by
  refine Eq.trans (st1 dX12_clause_70 rfl rfl) ?_
  refine Eq.trans (st1 dX12_clause_71 rfl rfl) ?_
  refine Eq.trans (getIm dX12_clause_72 cp_12_159 ka_72 (.inl rfl)) ?_
  refine Eq.trans (xiconst dX12_clause_75 ci_1) ?_
  refine Eq.trans (st1 dX12_clause_76 rfl rfl) ?_
  refine Eq.trans (putIm dX12_clause_77 cp_12_159 ka_72 rfl) ?_
  refine Eq.trans (st1 dX12_clause_80 rfl rfl) ?_
  refine Eq.trans (xiconst dX12_clause_81 ci_3) ?_
  refine Eq.trans (ic_ge (tgt := 94) dX12_clause_82 (by decide +kernel)) (ite_cong (fun _ => ?_) (fun _ => ?_))
  · refine Eq.trans (xiconst dX12_clause_94 ci_0) ?_
    rfl
  · refine Eq.trans (st1 dX12_clause_85 rfl rfl) ?_
    refine Eq.trans (getRm dX12_clause_86 cp_12_20 ka_72 rfl r_72_11) ?_
    refine Eq.trans (st1 dX12_clause_89 rfl rfl) ?_
    refine Eq.trans (al1m dX12_clause_90 ka_75) (gd_congr fun g1 => ?_)
    refine Eq.trans (go_to (tgt := 95) dX12_clause_91 (by decide +kernel)) ?_
    rfl
theorem q_X12_clause_95 {call : CALL} {L X : Nat} {I : Nat → Nat → Int32} {J : Nat → Nat → Int64} {x1 : Int32} {u2 : Option Value} {u3 : Option Value} {u4 : Option Value} {u5 : Option Value} {s0 : Int32} : runI call iX12_clause (95, [some (.ref 72), some (.int x1), u2, u3, u4, u5], [.int s0], (mm L X I J)) = runI call iX12_clause (97, [some (.ref 72), some (.int x1), some (.int s0), u3, u4, u5], [.int x1], (mm L X I J)) := by
  refine Eq.trans (st1 dX12_clause_95 rfl rfl) ?_
  refine Eq.trans (st1 dX12_clause_96 rfl rfl) ?_
  rfl
/- q_X12_clause_97: a switch -/
theorem q_X12_kindHere_0 {call : CALL} {L X : Nat} {I : Nat → Nat → Int32} {J : Nat → Nat → Int64}  : runI call iX12_kindHere (0, [some (.ref 72)], [], (mm L X I J)) = bnd (call nX12_isWord [.ref 72, .int (16 : Int32), .int (9 : Int32), .int (5 : Int32), .int (3 : Int32), .int (5 : Int32), .int (0 : Int32)] (mm L X I J)) (fun v m' => runI call iX12_kindHere (12, [some (.ref 72)], v.toList ++ [], m')) := by
  refine Eq.trans (st1 dX12_kindHere_0 rfl rfl) ?_
  refine Eq.trans (xbipush dX12_kindHere_1 cb_16) ?_
  refine Eq.trans (xbipush dX12_kindHere_3 cb_9) ?_
  refine Eq.trans (xiconst dX12_kindHere_5 ci_5) ?_
  refine Eq.trans (xiconst dX12_kindHere_6 ci_3) ?_
  refine Eq.trans (xiconst dX12_kindHere_7 ci_5) ?_
  refine Eq.trans (xiconst dX12_kindHere_8 ci_0) ?_
  exact iv0 dX12_kindHere_9 rfl cp_12_152 rfl rfl (kd_ka ka_72) ka_72.1 (Nat.le_of_ble_eq_true rfl)
theorem q_X12_kindHere_12 {call : CALL} {L X : Nat} {I : Nat → Nat → Int32} {J : Nat → Nat → Int64} {s0 : Int32} : runI call iX12_kindHere (12, [some (.ref 72)], [.int s0], (mm L X I J)) = if s0 = 0 then bnd (call nX12_isWord [.ref 72, .int (3 : Int32), .int (15 : Int32), .int (12 : Int32), .int (12 : Int32), .int (1 : Int32), .int (18 : Int32)] (mm L X I J)) (fun v m' => runI call iX12_kindHere (31, [some (.ref 72)], v.toList ++ [], m')) else some (.inl (some (.int (0 : Int32))), (mm L X I J)) := by
  refine Eq.trans (if_eq (tgt := 17) dX12_kindHere_12 (by decide +kernel)) (ite_cong (fun _ => ?_) (fun _ => ?_))
  · refine Eq.trans (st1 dX12_kindHere_17 rfl rfl) ?_
    refine Eq.trans (xiconst dX12_kindHere_18 ci_3) ?_
    refine Eq.trans (xbipush dX12_kindHere_19 cb_15) ?_
    refine Eq.trans (xbipush dX12_kindHere_21 cb_12) ?_
    refine Eq.trans (xbipush dX12_kindHere_23 cb_12) ?_
    refine Eq.trans (xiconst dX12_kindHere_25 ci_1) ?_
    refine Eq.trans (xbipush dX12_kindHere_26 cb_18) ?_
    exact iv0 dX12_kindHere_28 rfl cp_12_152 rfl rfl (kd_ka ka_72) ka_72.1 (Nat.le_of_ble_eq_true rfl)
  · refine Eq.trans (xiconst dX12_kindHere_15 ci_0) ?_
    exact ret0 dX12_kindHere_16 rfl
theorem q_X12_kindHere_31 {call : CALL} {L X : Nat} {I : Nat → Nat → Int32} {J : Nat → Nat → Int64} {s0 : Int32} : runI call iX12_kindHere (31, [some (.ref 72)], [.int s0], (mm L X I J)) = if s0 = 0 then bnd (call nX12_isWord [.ref 72, .int (6 : Int32), .int (9 : Int32), .int (18 : Int32), .int (5 : Int32), .int (0 : Int32), .int (0 : Int32)] (mm L X I J)) (fun v m' => runI call iX12_kindHere (49, [some (.ref 72)], v.toList ++ [], m')) else some (.inl (some (.int (1 : Int32))), (mm L X I J)) := by
  refine Eq.trans (if_eq (tgt := 36) dX12_kindHere_31 (by decide +kernel)) (ite_cong (fun _ => ?_) (fun _ => ?_))
  · refine Eq.trans (st1 dX12_kindHere_36 rfl rfl) ?_
    refine Eq.trans (xbipush dX12_kindHere_37 cb_6) ?_
    refine Eq.trans (xbipush dX12_kindHere_39 cb_9) ?_
    refine Eq.trans (xbipush dX12_kindHere_41 cb_18) ?_
    refine Eq.trans (xiconst dX12_kindHere_43 ci_5) ?_
    refine Eq.trans (xiconst dX12_kindHere_44 ci_0) ?_
    refine Eq.trans (xiconst dX12_kindHere_45 ci_0) ?_
    exact iv0 dX12_kindHere_46 rfl cp_12_152 rfl rfl (kd_ka ka_72) ka_72.1 (Nat.le_of_ble_eq_true rfl)
  · refine Eq.trans (xiconst dX12_kindHere_34 ci_1) ?_
    exact ret0 dX12_kindHere_35 rfl
theorem q_X12_kindHere_49 {call : CALL} {L X : Nat} {I : Nat → Nat → Int32} {J : Nat → Nat → Int64} {s0 : Int32} : runI call iX12_kindHere (49, [some (.ref 72)], [.int s0], (mm L X I J)) = if s0 = 0 then bnd (call nX12_isWord [.ref 72, .int (8 : Int32), .int (15 : Int32), .int (16 : Int32), .int (5 : Int32), .int (0 : Int32), .int (0 : Int32)] (mm L X I J)) (fun v m' => runI call iX12_kindHere (67, [some (.ref 72)], v.toList ++ [], m')) else some (.inl (some (.int (2 : Int32))), (mm L X I J)) := by
  refine Eq.trans (if_eq (tgt := 54) dX12_kindHere_49 (by decide +kernel)) (ite_cong (fun _ => ?_) (fun _ => ?_))
  · refine Eq.trans (st1 dX12_kindHere_54 rfl rfl) ?_
    refine Eq.trans (xbipush dX12_kindHere_55 cb_8) ?_
    refine Eq.trans (xbipush dX12_kindHere_57 cb_15) ?_
    refine Eq.trans (xbipush dX12_kindHere_59 cb_16) ?_
    refine Eq.trans (xiconst dX12_kindHere_61 ci_5) ?_
    refine Eq.trans (xiconst dX12_kindHere_62 ci_0) ?_
    refine Eq.trans (xiconst dX12_kindHere_63 ci_0) ?_
    exact iv0 dX12_kindHere_64 rfl cp_12_152 rfl rfl (kd_ka ka_72) ka_72.1 (Nat.le_of_ble_eq_true rfl)
  · refine Eq.trans (xiconst dX12_kindHere_52 ci_2) ?_
    exact ret0 dX12_kindHere_53 rfl
theorem q_X12_kindHere_67 {call : CALL} {L X : Nat} {I : Nat → Nat → Int32} {J : Nat → Nat → Int64} {u0 : Option Value} {s0 : Int32} : runI call iX12_kindHere (67, [u0], [.int s0], (mm L X I J)) = if s0 = 0 then some (.inl (some (.int (-1 : Int32))), (mm L X I J)) else some (.inl (some (.int (3 : Int32))), (mm L X I J)) := by
  refine Eq.trans (if_eq (tgt := 74) dX12_kindHere_67 (by decide +kernel)) (ite_cong (fun _ => ?_) (fun _ => ?_))
  · refine Eq.trans (xiconst dX12_kindHere_74 ci_m1) ?_
    exact ret0 dX12_kindHere_75 rfl
  · refine Eq.trans (xiconst dX12_kindHere_70 ci_3) ?_
    refine Eq.trans (go_to (tgt := 75) dX12_kindHere_71 (by decide +kernel)) ?_
    exact ret0 dX12_kindHere_75 rfl
theorem q_X12_isWord_0 {call : CALL} {L X : Nat} {I : Nat → Nat → Int32} {J : Nat → Nat → Int64} {x1 : Int32} {x2 : Int32} {x3 : Int32} {x4 : Int32} {x5 : Int32} {x6 : Int32} : runI call iX12_isWord (0, [some (.ref 72), some (.int x1), some (.int x2), some (.int x3), some (.int x4), some (.int x5), some (.int x6)], [], (mm L X I J)) = if (I 72 5) = 0 then bnd (call nX12_wordHere [.ref 72] (mm L X I J)) (fun v m' => runI call iX12_isWord (11, [some (.ref 72), some (.int x1), some (.int x2), some (.int x3), some (.int x4), some (.int x5), some (.int x6)], v.toList ++ [], m')) else some (.inl (some (.int (0 : Int32))), (mm L X I J)) := by
  refine Eq.trans (st1 dX12_isWord_0 rfl rfl) ?_
  refine Eq.trans (getIm dX12_isWord_1 cp_12_119 ka_72 (.inl rfl)) ?_
  refine Eq.trans (if_ne (tgt := 30) dX12_isWord_4 (by decide +kernel)) (ite_cong (fun _ => ?_) (fun _ => ?_))
  · refine Eq.trans (st1 dX12_isWord_7 rfl rfl) ?_
    exact iv0 dX12_isWord_8 rfl cp_12_144 rfl rfl (kd_ka ka_72) ka_72.1 (Nat.le_of_ble_eq_true rfl)
  · refine Eq.trans (xiconst dX12_isWord_30 ci_0) ?_
    exact ret1 dX12_isWord_31 rfl (.inl rfl)
theorem q_X12_isWord_11 {call : CALL} {L X : Nat} {I : Nat → Nat → Int32} {J : Nat → Nat → Int64} {u0 : Option Value} {x1 : Int32} {x2 : Int32} {x3 : Int32} {x4 : Int32} {x5 : Int32} {x6 : Int32} {s0 : Int32} : runI call iX12_isWord (11, [u0, some (.int x1), some (.int x2), some (.int x3), some (.int x4), some (.int x5), some (.int x6)], [.int s0], (mm L X I J)) = bndN (call nX12_six [.int x1, .int x2, .int x3, .int x4, .int x5, .int x6] (mm L X I J)) (fun v m' => runI call iX12_isWord (23, [u0, some (.int x1), some (.int x2), some (.int x3), some (.int x4), some (.int x5), some (.int x6)], v.toList ++ [.int s0], m')) := by
  refine Eq.trans (st1 dX12_isWord_11 rfl rfl) ?_
  refine Eq.trans (st1 dX12_isWord_12 rfl rfl) ?_
  refine Eq.trans (st1 dX12_isWord_13 rfl rfl) ?_
  refine Eq.trans (st1 dX12_isWord_14 rfl rfl) ?_
  refine Eq.trans (st1 dX12_isWord_16 rfl rfl) ?_
  refine Eq.trans (st1 dX12_isWord_18 rfl rfl) ?_
  exact is2 dX12_isWord_20 cp_12_148 (Nat.le_of_ble_eq_true rfl) rfl rfl (Nat.le_of_ble_eq_true rfl)
theorem q_X12_isWord_23 {call : CALL} {L X : Nat} {I : Nat → Nat → Int32} {J : Nat → Nat → Int64} {u0 : Option Value} {u1 : Option Value} {u2 : Option Value} {u3 : Option Value} {u4 : Option Value} {u5 : Option Value} {u6 : Option Value} {s0 : Int32} {s1 : Int32} : runI call iX12_isWord (23, [u0, u1, u2, u3, u4, u5, u6], [.int s1, .int s0], (mm L X I J)) = if s0 = s1 then some (.inl (some (.int (1 : Int32))), (mm L X I J)) else some (.inl (some (.int (0 : Int32))), (mm L X I J)) := by
  refine Eq.trans (ic_ne (tgt := 30) dX12_isWord_23 (by decide +kernel)) (ite_cong (fun _ => ?_) (fun _ => ?_))
  · refine Eq.trans (xiconst dX12_isWord_26 ci_1) ?_
    refine Eq.trans (go_to (tgt := 31) dX12_isWord_27 (by decide +kernel)) ?_
    exact ret1 dX12_isWord_31 rfl (.inr rfl)
  · refine Eq.trans (xiconst dX12_isWord_30 ci_0) ?_
    exact ret1 dX12_isWord_31 rfl (.inl rfl)
theorem q_X12_wordHere_0 {call : CALL} {L X : Nat} {I : Nat → Nat → Int32} {J : Nat → Nat → Int64}  : runI call iX12_wordHere (0, [some (.ref 72), none, none], [], (mm L X I J)) = bnd (call nX12_blanks [.ref 72] (mm L X I J)) (fun v m' => runI call iX12_wordHere (4, [some (.ref 72), none, none], v.toList ++ [], m')) := by
  refine Eq.trans (st1 dX12_wordHere_0 rfl rfl) ?_
  exact iv0 dX12_wordHere_1 rfl cp_12_125 rfl rfl (kd_ka ka_72) ka_72.1 (Nat.le_of_ble_eq_true rfl)
theorem q_X12_wordHere_4 {call : CALL} {L X : Nat} {I : Nat → Nat → Int32} {J : Nat → Nat → Int64} {u1 : Option Value} {u2 : Option Value} : runI call iX12_wordHere (4, [some (.ref 72), u1, u2], [], (mm L X I J)) = runI call iX12_wordHere (8, [some (.ref 72), some (.int (0 : Int32)), some (.int (0 : Int32))], [], (mm L X I J)) := by
  refine Eq.trans (xiconst dX12_wordHere_4 ci_0) ?_
  refine Eq.trans (st1 dX12_wordHere_5 rfl rfl) ?_
  refine Eq.trans (xiconst dX12_wordHere_6 ci_0) ?_
  refine Eq.trans (st1 dX12_wordHere_7 rfl rfl) ?_
  rfl
theorem q_X12_wordHere_8 {call : CALL} {L X : Nat} {I : Nat → Nat → Int32} {J : Nat → Nat → Int64} {x1 : Int32} {x2 : Int32} : runI call iX12_wordHere (8, [some (.ref 72), some (.int x1), some (.int x2)], [], (mm L X I J)) = bnd (call nX12_byteAt [.ref 72, .int ((I 72 4) + x2)] (mm L X I J)) (fun v m' => runI call iX12_wordHere (18, [some (.ref 72), some (.int x1), some (.int x2)], v.toList ++ [], m')) := by
  refine Eq.trans (st1 dX12_wordHere_8 rfl rfl) ?_
  refine Eq.trans (st1 dX12_wordHere_9 rfl rfl) ?_
  refine Eq.trans (getIm dX12_wordHere_10 cp_12_112 ka_72 (.inl rfl)) ?_
  refine Eq.trans (st1 dX12_wordHere_13 rfl rfl) ?_
  refine Eq.trans (st1 dX12_wordHere_14 rfl rfl) ?_
  exact iv0 dX12_wordHere_15 rfl cp_12_115 rfl rfl (kd_ka ka_72) ka_72.1 (Nat.le_of_ble_eq_true rfl)
theorem q_X12_wordHere_18 {call : CALL} {L X : Nat} {I : Nat → Nat → Int32} {J : Nat → Nat → Int64} {x1 : Int32} {x2 : Int32} {s0 : Int32} : runI call iX12_wordHere (18, [some (.ref 72), some (.int x1), some (.int x2)], [.int s0], (mm L X I J)) = bndN (call nX12_isSmall [.int s0] (mm L X I J)) (fun v m' => runI call iX12_wordHere (21, [some (.ref 72), some (.int x1), some (.int x2)], v.toList ++ [], m')) := by
  exact is2 dX12_wordHere_18 cp_12_141 (Nat.le_of_ble_eq_true rfl) rfl rfl (Nat.le_of_ble_eq_true rfl)
theorem q_X12_wordHere_21 {call : CALL} {L X : Nat} {I : Nat → Nat → Int32} {J : Nat → Nat → Int64} {x1 : Int32} {x2 : Int32} {s0 : Int32} : runI call iX12_wordHere (21, [some (.ref 72), some (.int x1), some (.int x2)], [.int s0], (mm L X I J)) = if s0 = 0 then if x2 ≤ (6 : Int32) then some (.inl (some (.int x1)), (mm L X I J)) else some (.inl (some (.int (-1 : Int32))), (mm L X I J)) else if (6 : Int32) ≤ x2 then runI call iX12_wordHere (54, [some (.ref 72), some (.int x1), some (.int x2)], [.int x1], (mm L X I J)) else bnd (call nX12_byteAt [.ref 72, .int ((I 72 4) + x2)] (mm L X I J)) (fun v m' => runI call iX12_wordHere (44, [some (.ref 72), some (.int x1), some (.int x2)], v.toList ++ [.int ((27 : Int32) * x1)], m')) := by
  refine Eq.trans (if_eq (tgt := 61) dX12_wordHere_21 (by decide +kernel)) (ite_cong (fun _ => ?_) (fun _ => ?_))
  · refine Eq.trans (st1 dX12_wordHere_61 rfl rfl) ?_
    refine Eq.trans (xbipush dX12_wordHere_62 cb_6) ?_
    refine Eq.trans (ic_le (tgt := 71) dX12_wordHere_64 (by decide +kernel)) (ite_cong (fun _ => ?_) (fun _ => ?_))
    · refine Eq.trans (st1 dX12_wordHere_71 rfl rfl) ?_
      exact ret0 dX12_wordHere_72 rfl
    · refine Eq.trans (xiconst dX12_wordHere_67 ci_m1) ?_
      refine Eq.trans (go_to (tgt := 72) dX12_wordHere_68 (by decide +kernel)) ?_
      exact ret0 dX12_wordHere_72 rfl
  · refine Eq.trans (st1 dX12_wordHere_24 rfl rfl) ?_
    refine Eq.trans (xbipush dX12_wordHere_25 cb_6) ?_
    refine Eq.trans (ic_ge (tgt := 53) dX12_wordHere_27 (by decide +kernel)) (ite_cong (fun _ => ?_) (fun _ => ?_))
    · refine Eq.trans (st1 dX12_wordHere_53 rfl rfl) ?_
      rfl
    · refine Eq.trans (xbipush dX12_wordHere_30 cb_27) ?_
      refine Eq.trans (st1 dX12_wordHere_32 rfl rfl) ?_
      refine Eq.trans (st1 dX12_wordHere_33 rfl rfl) ?_
      refine Eq.trans (st1 dX12_wordHere_34 rfl rfl) ?_
      refine Eq.trans (st1 dX12_wordHere_35 rfl rfl) ?_
      refine Eq.trans (getIm dX12_wordHere_36 cp_12_112 ka_72 (.inl rfl)) ?_
      refine Eq.trans (st1 dX12_wordHere_39 rfl rfl) ?_
      refine Eq.trans (st1 dX12_wordHere_40 rfl rfl) ?_
      exact iv0 dX12_wordHere_41 rfl cp_12_115 rfl rfl (kd_ka ka_72) ka_72.1 (Nat.le_of_ble_eq_true rfl)
theorem q_X12_wordHere_54 {call : CALL} {L X : Nat} {I : Nat → Nat → Int32} {J : Nat → Nat → Int64} {u1 : Option Value} {x2 : Int32} {s0 : Int32} : runI call iX12_wordHere (54, [some (.ref 72), u1, some (.int x2)], [.int s0], (mm L X I J)) = runI call iX12_wordHere (8, [some (.ref 72), some (.int s0), some (.int (x2 + (1 : Int32)))], [], (mm L X I J)) := by
  refine Eq.trans (st1 dX12_wordHere_54 rfl rfl) ?_
  refine Eq.trans (xinc2 dX12_wordHere_55 ci_1 rfl (Nat.le_of_ble_eq_true rfl) rfl) ?_
  refine Eq.trans (go_to (tgt := 8) dX12_wordHere_58 (by decide +kernel)) ?_
  rfl
theorem q_X12_wordHere_44 {call : CALL} {L X : Nat} {I : Nat → Nat → Int32} {J : Nat → Nat → Int64} {u1 : Option Value} {x2 : Int32} {s0 : Int32} {s1 : Int32} : runI call iX12_wordHere (44, [some (.ref 72), u1, some (.int x2)], [.int s1, .int s0], (mm L X I J)) = runI call iX12_wordHere (54, [some (.ref 72), u1, some (.int x2)], [.int (((s0 + s1) - (97 : Int32)) + (1 : Int32))], (mm L X I J)) := by
  refine Eq.trans (st1 dX12_wordHere_44 rfl rfl) ?_
  refine Eq.trans (xbipush dX12_wordHere_45 cb_97) ?_
  refine Eq.trans (st1 dX12_wordHere_47 rfl rfl) ?_
  refine Eq.trans (xiconst dX12_wordHere_48 ci_1) ?_
  refine Eq.trans (st1 dX12_wordHere_49 rfl rfl) ?_
  refine Eq.trans (go_to (tgt := 54) dX12_wordHere_50 (by decide +kernel)) ?_
  rfl
theorem q_X12_isSmall_0 {call : CALL} {L X : Nat} {I : Nat → Nat → Int32} {J : Nat → Nat → Int64} {x0 : Int32} : runI call iX12_isSmall (0, [some (.int x0)], [], (mm L X I J)) = if x0 < (97 : Int32) then some (.inl (some (.int (0 : Int32))), (mm L X I J)) else if (122 : Int32) < x0 then some (.inl (some (.int (0 : Int32))), (mm L X I J)) else some (.inl (some (.int (1 : Int32))), (mm L X I J)) := by
  refine Eq.trans (st1 dX12_isSmall_0 rfl rfl) ?_
  refine Eq.trans (xbipush dX12_isSmall_1 cb_97) ?_
  refine Eq.trans (ic_lt (tgt := 16) dX12_isSmall_3 (by decide +kernel)) (ite_cong (fun _ => ?_) (fun _ => ?_))
  · refine Eq.trans (xiconst dX12_isSmall_16 ci_0) ?_
    exact ret1 dX12_isSmall_17 rfl (.inl rfl)
  · refine Eq.trans (st1 dX12_isSmall_6 rfl rfl) ?_
    refine Eq.trans (xbipush dX12_isSmall_7 cb_122) ?_
    refine Eq.trans (ic_gt (tgt := 16) dX12_isSmall_9 (by decide +kernel)) (ite_cong (fun _ => ?_) (fun _ => ?_))
    · refine Eq.trans (xiconst dX12_isSmall_16 ci_0) ?_
      exact ret1 dX12_isSmall_17 rfl (.inl rfl)
    · refine Eq.trans (xiconst dX12_isSmall_12 ci_1) ?_
      refine Eq.trans (go_to (tgt := 17) dX12_isSmall_13 (by decide +kernel)) ?_
      exact ret1 dX12_isSmall_17 rfl (.inr rfl)
theorem q_X12_six_0 {call : CALL} {L X : Nat} {I : Nat → Nat → Int32} {J : Nat → Nat → Int64} {x0 : Int32} {x1 : Int32} {x2 : Int32} {x3 : Int32} {x4 : Int32} {x5 : Int32} : runI call iX12_six (0, [some (.int x0), some (.int x1), some (.int x2), some (.int x3), some (.int x4), some (.int x5), none], [], (mm L X I J)) = if x3 = 0 then runI call iX12_six (29, [some (.int x0), some (.int x1), some (.int x2), some (.int x3), some (.int x4), some (.int x5), some (.int (((27 : Int32) * (((27 : Int32) * x0) + x1)) + x2))], [.int (((27 : Int32) * (((27 : Int32) * x0) + x1)) + x2)], (mm L X I J)) else runI call iX12_six (29, [some (.int x0), some (.int x1), some (.int x2), some (.int x3), some (.int x4), some (.int x5), some (.int (((27 : Int32) * (((27 : Int32) * x0) + x1)) + x2))], [.int (((27 : Int32) * (((27 : Int32) * (((27 : Int32) * x0) + x1)) + x2)) + x3)], (mm L X I J)) := by
  refine Eq.trans (xbipush dX12_six_0 cb_27) ?_
  refine Eq.trans (xbipush dX12_six_2 cb_27) ?_
  refine Eq.trans (st1 dX12_six_4 rfl rfl) ?_
  refine Eq.trans (st1 dX12_six_5 rfl rfl) ?_
  refine Eq.trans (st1 dX12_six_6 rfl rfl) ?_
  refine Eq.trans (st1 dX12_six_7 rfl rfl) ?_
  refine Eq.trans (st1 dX12_six_8 rfl rfl) ?_
  refine Eq.trans (st1 dX12_six_9 rfl rfl) ?_
  refine Eq.trans (st1 dX12_six_10 rfl rfl) ?_
  refine Eq.trans (st1 dX12_six_11 rfl rfl) ?_
  refine Eq.trans (st1 dX12_six_13 rfl rfl) ?_
  refine Eq.trans (if_ne (tgt := 22) dX12_six_14 (by decide +kernel)) (ite_cong (fun _ => ?_) (fun _ => ?_))
  · refine Eq.trans (st1 dX12_six_17 rfl rfl) ?_
    refine Eq.trans (go_to (tgt := 29) dX12_six_19 (by decide +kernel)) ?_
    rfl
  · refine Eq.trans (xbipush dX12_six_22 cb_27) ?_
    refine Eq.trans (st1 dX12_six_24 rfl rfl) ?_
    refine Eq.trans (st1 dX12_six_26 rfl rfl) ?_
    refine Eq.trans (st1 dX12_six_27 rfl rfl) ?_
    refine Eq.trans (st1 dX12_six_28 rfl rfl) ?_
    rfl
theorem q_X12_six_29 {call : CALL} {L X : Nat} {I : Nat → Nat → Int32} {J : Nat → Nat → Int64} {u0 : Option Value} {u1 : Option Value} {u2 : Option Value} {u3 : Option Value} {x4 : Int32} {x5 : Int32} {u6 : Option Value} {s0 : Int32} : runI call iX12_six (29, [u0, u1, u2, u3, some (.int x4), some (.int x5), u6], [.int s0], (mm L X I J)) = if x4 = 0 then runI call iX12_six (49, [u0, u1, u2, u3, some (.int x4), some (.int x5), some (.int s0)], [.int s0], (mm L X I J)) else runI call iX12_six (49, [u0, u1, u2, u3, some (.int x4), some (.int x5), some (.int s0)], [.int (((27 : Int32) * s0) + x4)], (mm L X I J)) := by
  refine Eq.trans (st1 dX12_six_29 rfl rfl) ?_
  refine Eq.trans (st1 dX12_six_31 rfl rfl) ?_
  refine Eq.trans (if_ne (tgt := 41) dX12_six_33 (by decide +kernel)) (ite_cong (fun _ => ?_) (fun _ => ?_))
  · refine Eq.trans (st1 dX12_six_36 rfl rfl) ?_
    refine Eq.trans (go_to (tgt := 49) dX12_six_38 (by decide +kernel)) ?_
    rfl
  · refine Eq.trans (xbipush dX12_six_41 cb_27) ?_
    refine Eq.trans (st1 dX12_six_43 rfl rfl) ?_
    refine Eq.trans (st1 dX12_six_45 rfl rfl) ?_
    refine Eq.trans (st1 dX12_six_46 rfl rfl) ?_
    refine Eq.trans (st1 dX12_six_48 rfl rfl) ?_
    rfl
theorem q_X12_six_49 {call : CALL} {L X : Nat} {I : Nat → Nat → Int32} {J : Nat → Nat → Int64} {u0 : Option Value} {u1 : Option Value} {u2 : Option Value} {u3 : Option Value} {u4 : Option Value} {x5 : Int32} {u6 : Option Value} {s0 : Int32} : runI call iX12_six (49, [u0, u1, u2, u3, u4, some (.int x5), u6], [.int s0], (mm L X I J)) = if x5 = 0 then some (.inl (some (.int s0)), (mm L X I J)) else some (.inl (some (.int (((27 : Int32) * s0) + x5))), (mm L X I J)) := by
  refine Eq.trans (st1 dX12_six_49 rfl rfl) ?_
  refine Eq.trans (st1 dX12_six_51 rfl rfl) ?_
  refine Eq.trans (if_ne (tgt := 61) dX12_six_53 (by decide +kernel)) (ite_cong (fun _ => ?_) (fun _ => ?_))
  · refine Eq.trans (st1 dX12_six_56 rfl rfl) ?_
    refine Eq.trans (go_to (tgt := 69) dX12_six_58 (by decide +kernel)) ?_
    exact ret0 dX12_six_69 rfl
  · refine Eq.trans (xbipush dX12_six_61 cb_27) ?_
    refine Eq.trans (st1 dX12_six_63 rfl rfl) ?_
    refine Eq.trans (st1 dX12_six_65 rfl rfl) ?_
    refine Eq.trans (st1 dX12_six_66 rfl rfl) ?_
    refine Eq.trans (st1 dX12_six_68 rfl rfl) ?_
    exact ret0 dX12_six_69 rfl
theorem q_X12_wrong_0 {call : CALL} {L X : Nat} {I : Nat → Nat → Int32} {J : Nat → Nat → Int64} {x1 : Int32} {x2 : Int32} : runI call iX12_wrong (0, [some (.ref 72), some (.int x1), some (.int x2)], [], (mm L X I J)) = if (I 72 5) = 0 then some (.inl none, (mm L X (up2 (up2 I 72 5 x1) 72 6 x2) J)) else some (.inl none, (mm L X I J)) := by
  refine Eq.trans (st1 dX12_wrong_0 rfl rfl) ?_
  refine Eq.trans (getIm dX12_wrong_1 cp_12_119 ka_72 (.inl rfl)) ?_
  refine Eq.trans (if_ne (tgt := 17) dX12_wrong_4 (by decide +kernel)) (ite_cong (fun _ => ?_) (fun _ => ?_))
  · refine Eq.trans (st1 dX12_wrong_7 rfl rfl) ?_
    refine Eq.trans (st1 dX12_wrong_8 rfl rfl) ?_
    refine Eq.trans (putIm dX12_wrong_9 cp_12_119 ka_72 rfl) ?_
    refine Eq.trans (st1 dX12_wrong_12 rfl rfl) ?_
    refine Eq.trans (st1 dX12_wrong_13 rfl rfl) ?_
    refine Eq.trans (putIm dX12_wrong_14 cp_12_122 ka_72 rfl) ?_
    exact ret3 dX12_wrong_17 (.inl rfl)
  · exact ret3 dX12_wrong_17 (.inl rfl)
theorem q_X12_mostOf_0 {call : CALL} {L X : Nat} {I : Nat → Nat → Int32} {J : Nat → Nat → Int64} {x0 : Int32} : runI call iX12_mostOf (0, [some (.int x0)], [], (mm L X I J)) = if x0 = 0 then some (.inl (some (.int (6 : Int32))), (mm L X I J)) else if x0 = (1 : Int32) then some (.inl (some (.int (4 : Int32))), (mm L X I J)) else some (.inl (some (.int (5 : Int32))), (mm L X I J)) := by
  refine Eq.trans (st1 dX12_mostOf_0 rfl rfl) ?_
  refine Eq.trans (if_ne (tgt := 9) dX12_mostOf_1 (by decide +kernel)) (ite_cong (fun _ => ?_) (fun _ => ?_))
  · refine Eq.trans (xbipush dX12_mostOf_4 cb_6) ?_
    refine Eq.trans (go_to (tgt := 19) dX12_mostOf_6 (by decide +kernel)) ?_
    exact ret0 dX12_mostOf_19 rfl
  · refine Eq.trans (st1 dX12_mostOf_9 rfl rfl) ?_
    refine Eq.trans (xiconst dX12_mostOf_10 ci_1) ?_
    refine Eq.trans (ic_ne (tgt := 18) dX12_mostOf_11 (by decide +kernel)) (ite_cong (fun _ => ?_) (fun _ => ?_))
    · refine Eq.trans (xiconst dX12_mostOf_14 ci_4) ?_
      refine Eq.trans (go_to (tgt := 19) dX12_mostOf_15 (by decide +kernel)) ?_
      exact ret0 dX12_mostOf_19 rfl
    · refine Eq.trans (xiconst dX12_mostOf_18 ci_5) ?_
      exact ret0 dX12_mostOf_19 rfl
theorem q_X12_skipWord_0 {call : CALL} {L X : Nat} {I : Nat → Nat → Int32} {J : Nat → Nat → Int64}  : runI call iX12_skipWord (0, [some (.ref 72)], [], (mm L X I J)) = bnd (call nX12_byteAt [.ref 72, .int (I 72 4)] (mm L X I J)) (fun v m' => runI call iX12_skipWord (8, [some (.ref 72)], v.toList ++ [], m')) := by
  refine Eq.trans (st1 dX12_skipWord_0 rfl rfl) ?_
  refine Eq.trans (st1 dX12_skipWord_1 rfl rfl) ?_
  refine Eq.trans (getIm dX12_skipWord_2 cp_12_112 ka_72 (.inl rfl)) ?_
  exact iv0 dX12_skipWord_5 rfl cp_12_115 rfl rfl (kd_ka ka_72) ka_72.1 (Nat.le_of_ble_eq_true rfl)
theorem q_X12_skipWord_8 {call : CALL} {L X : Nat} {I : Nat → Nat → Int32} {J : Nat → Nat → Int64} {s0 : Int32} : runI call iX12_skipWord (8, [some (.ref 72)], [.int s0], (mm L X I J)) = bndN (call nX12_isSmall [.int s0] (mm L X I J)) (fun v m' => runI call iX12_skipWord (11, [some (.ref 72)], v.toList ++ [], m')) := by
  exact is2 dX12_skipWord_8 cp_12_141 (Nat.le_of_ble_eq_true rfl) rfl rfl (Nat.le_of_ble_eq_true rfl)
theorem q_X12_skipWord_11 {call : CALL} {L X : Nat} {I : Nat → Nat → Int32} {J : Nat → Nat → Int64} {s0 : Int32} : runI call iX12_skipWord (11, [some (.ref 72)], [.int s0], (mm L X I J)) = if s0 = 0 then some (.inl none, (mm L X I J)) else bnd (call nX12_byteAt [.ref 72, .int ((up2 I 72 4 ((I 72 4) + (1 : Int32))) 72 4)] (mm L X (up2 I 72 4 ((I 72 4) + (1 : Int32))) J)) (fun v m' => runI call iX12_skipWord (8, [some (.ref 72)], v.toList ++ [], m')) := by
  refine Eq.trans (if_eq (tgt := 27) dX12_skipWord_11 (by decide +kernel)) (ite_cong (fun _ => ?_) (fun _ => ?_))
  · exact ret3 dX12_skipWord_27 (.inl rfl)
  · refine Eq.trans (st1 dX12_skipWord_14 rfl rfl) ?_
    refine Eq.trans (st1 dX12_skipWord_15 rfl rfl) ?_
    refine Eq.trans (getIm dX12_skipWord_16 cp_12_112 ka_72 (.inl rfl)) ?_
    refine Eq.trans (xiconst dX12_skipWord_19 ci_1) ?_
    refine Eq.trans (st1 dX12_skipWord_20 rfl rfl) ?_
    refine Eq.trans (putIm dX12_skipWord_21 cp_12_112 ka_72 rfl) ?_
    refine Eq.trans (go_to (tgt := 0) dX12_skipWord_24 (by decide +kernel)) ?_
    refine Eq.trans (st1 dX12_skipWord_0 rfl rfl) ?_
    refine Eq.trans (st1 dX12_skipWord_1 rfl rfl) ?_
    refine Eq.trans (getIm dX12_skipWord_2 cp_12_112 ka_72 (.inl rfl)) ?_
    exact iv0 dX12_skipWord_5 rfl cp_12_115 rfl rfl (kd_ka ka_72) ka_72.1 (Nat.le_of_ble_eq_true rfl)
theorem q_X12_number_0 {call : CALL} {L X : Nat} {I : Nat → Nat → Int32} {J : Nat → Nat → Int64} {x1 : Int32} {x2 : Int32} : runI call iX12_number (0, [some (.ref 72), some (.int x1), some (.int x2), none, none], [], (mm L X I J)) = if (I 72 5) = 0 then bnd (call nX12_blanks [.ref 72] (mm L X I J)) (fun v m' => runI call iX12_number (13, [some (.ref 72), some (.int x1), some (.int x2), none, none], v.toList ++ [], m')) else some (.inl (some (.int (0 : Int32))), (mm L X I J)) := by
  refine Eq.trans (st1 dX12_number_0 rfl rfl) ?_
  refine Eq.trans (getIm dX12_number_1 cp_12_119 ka_72 (.inl rfl)) ?_
  refine Eq.trans (if_eq (tgt := 9) dX12_number_4 (by decide +kernel)) (ite_cong (fun _ => ?_) (fun _ => ?_))
  · refine Eq.trans (st1 dX12_number_9 rfl rfl) ?_
    exact iv0 dX12_number_10 rfl cp_12_125 rfl rfl (kd_ka ka_72) ka_72.1 (Nat.le_of_ble_eq_true rfl)
  · refine Eq.trans (xiconst dX12_number_7 ci_0) ?_
    exact ret0 dX12_number_8 rfl
theorem q_X12_number_13 {call : CALL} {L X : Nat} {I : Nat → Nat → Int32} {J : Nat → Nat → Int64} {x1 : Int32} {x2 : Int32} {u3 : Option Value} {u4 : Option Value} : runI call iX12_number (13, [some (.ref 72), some (.int x1), some (.int x2), u3, u4], [], (mm L X I J)) = bnd (call nX12_byteAt [.ref 72, .int (I 72 4)] (mm L X I J)) (fun v m' => runI call iX12_number (29, [some (.ref 72), some (.int x1), some (.int x2), some (.int (I 72 4)), some (.int (0 : Int32))], v.toList ++ [], m')) := by
  refine Eq.trans (st1 dX12_number_13 rfl rfl) ?_
  refine Eq.trans (getIm dX12_number_14 cp_12_112 ka_72 (.inl rfl)) ?_
  refine Eq.trans (st1 dX12_number_17 rfl rfl) ?_
  refine Eq.trans (xiconst dX12_number_18 ci_0) ?_
  refine Eq.trans (st1 dX12_number_19 rfl rfl) ?_
  refine Eq.trans (st1 dX12_number_21 rfl rfl) ?_
  refine Eq.trans (st1 dX12_number_22 rfl rfl) ?_
  refine Eq.trans (getIm dX12_number_23 cp_12_112 ka_72 (.inl rfl)) ?_
  exact iv0 dX12_number_26 rfl cp_12_115 rfl rfl (kd_ka ka_72) ka_72.1 (Nat.le_of_ble_eq_true rfl)
theorem q_X12_number_29 {call : CALL} {L X : Nat} {I : Nat → Nat → Int32} {J : Nat → Nat → Int64} {x1 : Int32} {x2 : Int32} {x3 : Int32} {x4 : Int32} {s0 : Int32} : runI call iX12_number (29, [some (.ref 72), some (.int x1), some (.int x2), some (.int x3), some (.int x4)], [.int s0], (mm L X I J)) = bndN (call nX12_isDigit [.int s0] (mm L X I J)) (fun v m' => runI call iX12_number (32, [some (.ref 72), some (.int x1), some (.int x2), some (.int x3), some (.int x4)], v.toList ++ [], m')) := by
  exact is2 dX12_number_29 cp_12_128 (Nat.le_of_ble_eq_true rfl) rfl rfl (Nat.le_of_ble_eq_true rfl)
theorem q_X12_number_32 {call : CALL} {L X : Nat} {I : Nat → Nat → Int32} {J : Nat → Nat → Int64} {x1 : Int32} {x2 : Int32} {x3 : Int32} {x4 : Int32} {s0 : Int32} : runI call iX12_number (32, [some (.ref 72), some (.int x1), some (.int x2), some (.int x3), some (.int x4)], [.int s0], (mm L X I J)) = if s0 = 0 then bnd (call nX12_wrong [.ref 72, .int (1 : Int32), .int (I 72 4)] (mm L X I J)) (fun v m' => runI call iX12_number (44, [some (.ref 72), some (.int x1), some (.int x2), some (.int x3), some (.int x4)], v.toList ++ [], m')) else runI call iX12_number (44, [some (.ref 72), some (.int x1), some (.int x2), some (.int x3), some (.int x4)], [], (mm L X I J)) := by
  refine Eq.trans (if_ne (tgt := 44) dX12_number_32 (by decide +kernel)) (ite_cong (fun _ => ?_) (fun _ => ?_))
  · refine Eq.trans (st1 dX12_number_35 rfl rfl) ?_
    refine Eq.trans (xiconst dX12_number_36 ci_1) ?_
    refine Eq.trans (st1 dX12_number_37 rfl rfl) ?_
    refine Eq.trans (getIm dX12_number_38 cp_12_112 ka_72 (.inl rfl)) ?_
    exact iv0 dX12_number_41 rfl cp_12_132 rfl rfl (kd_ka ka_72) ka_72.1 (Nat.le_of_ble_eq_true rfl)
  · rfl
theorem q_X12_number_44 {call : CALL} {L X : Nat} {I : Nat → Nat → Int32} {J : Nat → Nat → Int64} {x1 : Int32} {x2 : Int32} {x3 : Int32} {x4 : Int32} : runI call iX12_number (44, [some (.ref 72), some (.int x1), some (.int x2), some (.int x3), some (.int x4)], [], (mm L X I J)) = bnd (call nX12_byteAt [.ref 72, .int (I 72 4)] (mm L X I J)) (fun v m' => runI call iX12_number (52, [some (.ref 72), some (.int x1), some (.int x2), some (.int x3), some (.int x4)], v.toList ++ [], m')) := by
  refine Eq.trans (st1 dX12_number_44 rfl rfl) ?_
  refine Eq.trans (st1 dX12_number_45 rfl rfl) ?_
  refine Eq.trans (getIm dX12_number_46 cp_12_112 ka_72 (.inl rfl)) ?_
  exact iv0 dX12_number_49 rfl cp_12_115 rfl rfl (kd_ka ka_72) ka_72.1 (Nat.le_of_ble_eq_true rfl)
theorem q_X12_number_52 {call : CALL} {L X : Nat} {I : Nat → Nat → Int32} {J : Nat → Nat → Int64} {x1 : Int32} {x2 : Int32} {x3 : Int32} {x4 : Int32} {s0 : Int32} : runI call iX12_number (52, [some (.ref 72), some (.int x1), some (.int x2), some (.int x3), some (.int x4)], [.int s0], (mm L X I J)) = bndN (call nX12_isDigit [.int s0] (mm L X I J)) (fun v m' => runI call iX12_number (55, [some (.ref 72), some (.int x1), some (.int x2), some (.int x3), some (.int x4)], v.toList ++ [], m')) := by
  exact is2 dX12_number_52 cp_12_128 (Nat.le_of_ble_eq_true rfl) rfl rfl (Nat.le_of_ble_eq_true rfl)
theorem q_X12_number_55 {call : CALL} {L X : Nat} {I : Nat → Nat → Int32} {J : Nat → Nat → Int64} {x1 : Int32} {x2 : Int32} {x3 : Int32} {x4 : Int32} {s0 : Int32} : runI call iX12_number (55, [some (.ref 72), some (.int x1), some (.int x2), some (.int x3), some (.int x4)], [.int s0], (mm L X I J)) = if s0 = 0 then bndN (call nX12_in [.int x4, .int x1, .int x2] (mm L X I J)) (fun v m' => runI call iX12_number (113, [some (.ref 72), some (.int x1), some (.int x2), some (.int x3), some (.int x4)], v.toList ++ [], m')) else bnd (call nX12_byteAt [.ref 72, .int (I 72 4)] (mm L X I J)) (fun v m' => runI call iX12_number (71, [some (.ref 72), some (.int x1), some (.int x2), some (.int x3), some (.int x4)], v.toList ++ [.int ((10 : Int32) * x4)], m')) := by
  refine Eq.trans (if_eq (tgt := 106) dX12_number_55 (by decide +kernel)) (ite_cong (fun _ => ?_) (fun _ => ?_))
  · refine Eq.trans (st1 dX12_number_106 rfl rfl) ?_
    refine Eq.trans (st1 dX12_number_108 rfl rfl) ?_
    refine Eq.trans (st1 dX12_number_109 rfl rfl) ?_
    exact is2 dX12_number_110 cp_12_137 (Nat.le_of_ble_eq_true rfl) rfl rfl (Nat.le_of_ble_eq_true rfl)
  · refine Eq.trans (xbipush dX12_number_58 cb_10) ?_
    refine Eq.trans (st1 dX12_number_60 rfl rfl) ?_
    refine Eq.trans (st1 dX12_number_62 rfl rfl) ?_
    refine Eq.trans (st1 dX12_number_63 rfl rfl) ?_
    refine Eq.trans (st1 dX12_number_64 rfl rfl) ?_
    refine Eq.trans (getIm dX12_number_65 cp_12_112 ka_72 (.inl rfl)) ?_
    exact iv0 dX12_number_68 rfl cp_12_115 rfl rfl (kd_ka ka_72) ka_72.1 (Nat.le_of_ble_eq_true rfl)
theorem q_X12_number_113 {call : CALL} {L X : Nat} {I : Nat → Nat → Int32} {J : Nat → Nat → Int64} {u1 : Option Value} {u2 : Option Value} {x3 : Int32} {x4 : Int32} {s0 : Int32} : runI call iX12_number (113, [some (.ref 72), u1, u2, some (.int x3), some (.int x4)], [.int s0], (mm L X I J)) = if s0 = 0 then bnd (call nX12_wrong [.ref 72, .int (2 : Int32), .int x3] (mm L X I J)) (fun v m' => runI call iX12_number (122, [some (.ref 72), u1, u2, some (.int x3), some (.int x4)], v.toList ++ [], m')) else runI call iX12_number (122, [some (.ref 72), u1, u2, some (.int x3), some (.int x4)], [], (mm L X I J)) := by
  refine Eq.trans (if_ne (tgt := 122) dX12_number_113 (by decide +kernel)) (ite_cong (fun _ => ?_) (fun _ => ?_))
  · refine Eq.trans (st1 dX12_number_116 rfl rfl) ?_
    refine Eq.trans (xiconst dX12_number_117 ci_2) ?_
    refine Eq.trans (st1 dX12_number_118 rfl rfl) ?_
    exact iv0 dX12_number_119 rfl cp_12_132 rfl rfl (kd_ka ka_72) ka_72.1 (Nat.le_of_ble_eq_true rfl)
  · rfl
theorem q_X12_number_71 {call : CALL} {L X : Nat} {I : Nat → Nat → Int32} {J : Nat → Nat → Int64} {x1 : Int32} {x2 : Int32} {x3 : Int32} {u4 : Option Value} {s0 : Int32} {s1 : Int32} : runI call iX12_number (71, [some (.ref 72), some (.int x1), some (.int x2), some (.int x3), u4], [.int s1, .int s0], (mm L X I J)) = if ((s0 + s1) - (48 : Int32)) ≤ (100000 : Int32) then runI call iX12_number (91, [some (.ref 72), some (.int x1), some (.int x2), some (.int x3), some (.int ((s0 + s1) - (48 : Int32)))], [.int ((s0 + s1) - (48 : Int32))], (mm L X I J)) else runI call iX12_number (91, [some (.ref 72), some (.int x1), some (.int x2), some (.int x3), some (.int ((s0 + s1) - (48 : Int32)))], [.int (100000 : Int32)], (mm L X I J)) := by
  refine Eq.trans (st1 dX12_number_71 rfl rfl) ?_
  refine Eq.trans (xbipush dX12_number_72 cb_48) ?_
  refine Eq.trans (st1 dX12_number_74 rfl rfl) ?_
  refine Eq.trans (st1 dX12_number_75 rfl rfl) ?_
  refine Eq.trans (st1 dX12_number_77 rfl rfl) ?_
  refine Eq.trans (xldc1 dX12_number_79 cp_12_136 cn_100000) ?_
  refine Eq.trans (ic_le (tgt := 89) dX12_number_81 (by decide +kernel)) (ite_cong (fun _ => ?_) (fun _ => ?_))
  · refine Eq.trans (st1 dX12_number_89 rfl rfl) ?_
    rfl
  · refine Eq.trans (xldc1 dX12_number_84 cp_12_136 cn_100000) ?_
    refine Eq.trans (go_to (tgt := 91) dX12_number_86 (by decide +kernel)) ?_
    rfl
theorem q_X12_number_122 {call : CALL} {L X : Nat} {I : Nat → Nat → Int32} {J : Nat → Nat → Int64} {u1 : Option Value} {u2 : Option Value} {u3 : Option Value} {x4 : Int32} : runI call iX12_number (122, [some (.ref 72), u1, u2, u3, some (.int x4)], [], (mm L X I J)) = if (I 72 5) = 0 then some (.inl (some (.int x4)), (mm L X I J)) else some (.inl (some (.int (0 : Int32))), (mm L X I J)) := by
  refine Eq.trans (st1 dX12_number_122 rfl rfl) ?_
  refine Eq.trans (getIm dX12_number_123 cp_12_119 ka_72 (.inl rfl)) ?_
  refine Eq.trans (if_ne (tgt := 134) dX12_number_126 (by decide +kernel)) (ite_cong (fun _ => ?_) (fun _ => ?_))
  · refine Eq.trans (st1 dX12_number_129 rfl rfl) ?_
    refine Eq.trans (go_to (tgt := 135) dX12_number_131 (by decide +kernel)) ?_
    exact ret0 dX12_number_135 rfl
  · refine Eq.trans (xiconst dX12_number_134 ci_0) ?_
    exact ret0 dX12_number_135 rfl
theorem q_X12_number_91 {call : CALL} {L X : Nat} {I : Nat → Nat → Int32} {J : Nat → Nat → Int64} {x1 : Int32} {x2 : Int32} {x3 : Int32} {u4 : Option Value} {s0 : Int32} : runI call iX12_number (91, [some (.ref 72), some (.int x1), some (.int x2), some (.int x3), u4], [.int s0], (mm L X I J)) = runI call iX12_number (44, [some (.ref 72), some (.int x1), some (.int x2), some (.int x3), some (.int s0)], [], (mm L X (up2 I 72 4 ((I 72 4) + (1 : Int32))) J)) := by
  refine Eq.trans (st1 dX12_number_91 rfl rfl) ?_
  refine Eq.trans (st1 dX12_number_93 rfl rfl) ?_
  refine Eq.trans (st1 dX12_number_94 rfl rfl) ?_
  refine Eq.trans (getIm dX12_number_95 cp_12_112 ka_72 (.inl rfl)) ?_
  refine Eq.trans (xiconst dX12_number_98 ci_1) ?_
  refine Eq.trans (st1 dX12_number_99 rfl rfl) ?_
  refine Eq.trans (putIm dX12_number_100 cp_12_112 ka_72 rfl) ?_
  refine Eq.trans (go_to (tgt := 44) dX12_number_103 (by decide +kernel)) ?_
  rfl
theorem q_X12_isDigit_0 {call : CALL} {L X : Nat} {I : Nat → Nat → Int32} {J : Nat → Nat → Int64} {x0 : Int32} : runI call iX12_isDigit (0, [some (.int x0)], [], (mm L X I J)) = if x0 < (48 : Int32) then some (.inl (some (.int (0 : Int32))), (mm L X I J)) else if (57 : Int32) < x0 then some (.inl (some (.int (0 : Int32))), (mm L X I J)) else some (.inl (some (.int (1 : Int32))), (mm L X I J)) := by
  refine Eq.trans (st1 dX12_isDigit_0 rfl rfl) ?_
  refine Eq.trans (xbipush dX12_isDigit_1 cb_48) ?_
  refine Eq.trans (ic_lt (tgt := 16) dX12_isDigit_3 (by decide +kernel)) (ite_cong (fun _ => ?_) (fun _ => ?_))
  · refine Eq.trans (xiconst dX12_isDigit_16 ci_0) ?_
    exact ret1 dX12_isDigit_17 rfl (.inl rfl)
  · refine Eq.trans (st1 dX12_isDigit_6 rfl rfl) ?_
    refine Eq.trans (xbipush dX12_isDigit_7 cb_57) ?_
    refine Eq.trans (ic_gt (tgt := 16) dX12_isDigit_9 (by decide +kernel)) (ite_cong (fun _ => ?_) (fun _ => ?_))
    · refine Eq.trans (xiconst dX12_isDigit_16 ci_0) ?_
      exact ret1 dX12_isDigit_17 rfl (.inl rfl)
    · refine Eq.trans (xiconst dX12_isDigit_12 ci_1) ?_
      refine Eq.trans (go_to (tgt := 17) dX12_isDigit_13 (by decide +kernel)) ?_
      exact ret1 dX12_isDigit_17 rfl (.inr rfl)
theorem q_X12_readThread_0 {call : CALL} {L X : Nat} {I : Nat → Nat → Int32} {J : Nat → Nat → Int64}  : runI call iX12_readThread (0, [some (.ref 72)], [], (mm L X I J)) = bnd (call nX12_number [.ref 72, .int (0 : Int32), .int (9 : Int32)] (mm L X I J)) (fun v m' => runI call iX12_readThread (7, [some (.ref 72)], v.toList ++ [], m')) := by
  refine Eq.trans (st1 dX12_readThread_0 rfl rfl) ?_
  refine Eq.trans (xiconst dX12_readThread_1 ci_0) ?_
  refine Eq.trans (xbipush dX12_readThread_2 cb_9) ?_
  exact iv0 dX12_readThread_4 rfl cp_12_165 rfl rfl (kd_ka ka_72) ka_72.1 (Nat.le_of_ble_eq_true rfl)
theorem q_X12_readThread_7 {call : CALL} {L X : Nat} {I : Nat → Nat → Int32} {J : Nat → Nat → Int64} {u0 : Option Value} {s0 : Int32} : runI call iX12_readThread (7, [u0], [.int s0], (mm L X I J)) = some (.inl (some (.int s0)), (mm L X I J)) := by
  exact ret0 dX12_readThread_7 rfl
theorem q_X12_sign_0 {call : CALL} {L X : Nat} {I : Nat → Nat → Int32} {J : Nat → Nat → Int64} {x1 : Int32} : runI call iX12_sign (0, [some (.ref 72), some (.int x1)], [], (mm L X I J)) = if (I 72 5) = 0 then bnd (call nX12_blanks [.ref 72] (mm L X I J)) (fun v m' => runI call iX12_sign (12, [some (.ref 72), some (.int x1)], v.toList ++ [], m')) else some (.inl none, (mm L X I J)) := by
  refine Eq.trans (st1 dX12_sign_0 rfl rfl) ?_
  refine Eq.trans (getIm dX12_sign_1 cp_12_119 ka_72 (.inl rfl)) ?_
  refine Eq.trans (if_eq (tgt := 8) dX12_sign_4 (by decide +kernel)) (ite_cong (fun _ => ?_) (fun _ => ?_))
  · refine Eq.trans (st1 dX12_sign_8 rfl rfl) ?_
    exact iv0 dX12_sign_9 rfl cp_12_125 rfl rfl (kd_ka ka_72) ka_72.1 (Nat.le_of_ble_eq_true rfl)
  · exact ret3 dX12_sign_7 (.inl rfl)
theorem q_X12_sign_12 {call : CALL} {L X : Nat} {I : Nat → Nat → Int32} {J : Nat → Nat → Int64} {x1 : Int32} : runI call iX12_sign (12, [some (.ref 72), some (.int x1)], [], (mm L X I J)) = bnd (call nX12_byteAt [.ref 72, .int (I 72 4)] (mm L X I J)) (fun v m' => runI call iX12_sign (20, [some (.ref 72), some (.int x1)], v.toList ++ [], m')) := by
  refine Eq.trans (st1 dX12_sign_12 rfl rfl) ?_
  refine Eq.trans (st1 dX12_sign_13 rfl rfl) ?_
  refine Eq.trans (getIm dX12_sign_14 cp_12_112 ka_72 (.inl rfl)) ?_
  exact iv0 dX12_sign_17 rfl cp_12_115 rfl rfl (kd_ka ka_72) ka_72.1 (Nat.le_of_ble_eq_true rfl)
theorem q_X12_sign_20 {call : CALL} {L X : Nat} {I : Nat → Nat → Int32} {J : Nat → Nat → Int64} {x1 : Int32} {s0 : Int32} : runI call iX12_sign (20, [some (.ref 72), some (.int x1)], [.int s0], (mm L X I J)) = if s0 = x1 then some (.inl none, (mm L X (up2 I 72 4 ((I 72 4) + (1 : Int32))) J)) else bnd (call nX12_wrong [.ref 72, .int (1 : Int32), .int (I 72 4)] (mm L X I J)) (fun v m' => runI call iX12_sign (46, [some (.ref 72), some (.int x1)], v.toList ++ [], m')) := by
  refine Eq.trans (st1 dX12_sign_20 rfl rfl) ?_
  refine Eq.trans (ic_ne (tgt := 37) dX12_sign_21 (by decide +kernel)) (ite_cong (fun _ => ?_) (fun _ => ?_))
  · refine Eq.trans (st1 dX12_sign_24 rfl rfl) ?_
    refine Eq.trans (st1 dX12_sign_25 rfl rfl) ?_
    refine Eq.trans (getIm dX12_sign_26 cp_12_112 ka_72 (.inl rfl)) ?_
    refine Eq.trans (xiconst dX12_sign_29 ci_1) ?_
    refine Eq.trans (st1 dX12_sign_30 rfl rfl) ?_
    refine Eq.trans (putIm dX12_sign_31 cp_12_112 ka_72 rfl) ?_
    refine Eq.trans (go_to (tgt := 46) dX12_sign_34 (by decide +kernel)) ?_
    exact ret3 dX12_sign_46 (.inl rfl)
  · refine Eq.trans (st1 dX12_sign_37 rfl rfl) ?_
    refine Eq.trans (xiconst dX12_sign_38 ci_1) ?_
    refine Eq.trans (st1 dX12_sign_39 rfl rfl) ?_
    refine Eq.trans (getIm dX12_sign_40 cp_12_112 ka_72 (.inl rfl)) ?_
    exact iv0 dX12_sign_43 rfl cp_12_132 rfl rfl (kd_ka ka_72) ka_72.1 (Nat.le_of_ble_eq_true rfl)
theorem q_X12_sign_46 {call : CALL} {L X : Nat} {I : Nat → Nat → Int32} {J : Nat → Nat → Int64} {u0 : Option Value} {u1 : Option Value} : runI call iX12_sign (46, [u0, u1], [], (mm L X I J)) = some (.inl none, (mm L X I J)) := by
  exact ret3 dX12_sign_46 (.inl rfl)
theorem q_X12_ends_0 {call : CALL} {L X : Nat} {I : Nat → Nat → Int32} {J : Nat → Nat → Int64}  : runI call iX12_ends (0, [some (.ref 72)], [], (mm L X I J)) = some (.inl (some (.int (((up2 I 72 3 (I 72 6)) 72 5) - (10 : Int32)))), (mm L X (up2 I 72 3 (I 72 6)) J)) := by
  refine Eq.trans (st1 dX12_ends_0 rfl rfl) ?_
  refine Eq.trans (st1 dX12_ends_1 rfl rfl) ?_
  refine Eq.trans (getIm dX12_ends_2 cp_12_122 ka_72 (.inl rfl)) ?_
  refine Eq.trans (putIm dX12_ends_5 cp_12_9 ka_72 rfl) ?_
  refine Eq.trans (st1 dX12_ends_8 rfl rfl) ?_
  refine Eq.trans (getIm dX12_ends_9 cp_12_119 ka_72 (.inl rfl)) ?_
  refine Eq.trans (xbipush dX12_ends_12 cb_10) ?_
  refine Eq.trans (st1 dX12_ends_14 rfl rfl) ?_
  exact ret0 dX12_ends_15 rfl
theorem q_X12_law_0 {call : CALL} {L X : Nat} {I : Nat → Nat → Int32} {J : Nat → Nat → Int64} {x1 : Int32} : runI call iX12_law (0, [some (.ref 72), some (.int x1)], [], (mm L X I J)) = bndN (call nX12_in [.int x1, .int (0 : Int32), .int ((up2 I 72 0 (0 : Int32)) 72 1)] (mm L X (up2 I 72 0 (0 : Int32)) J)) (fun v m' => runI call iX12_law (15, [some (.ref 72), some (.int x1)], v.toList ++ [.ref 72], m')) := by
  refine Eq.trans (st1 dX12_law_0 rfl rfl) ?_
  refine Eq.trans (xiconst dX12_law_1 ci_0) ?_
  refine Eq.trans (putIm dX12_law_2 cp_12_103 ka_72 rfl) ?_
  refine Eq.trans (st1 dX12_law_5 rfl rfl) ?_
  refine Eq.trans (st1 dX12_law_6 rfl rfl) ?_
  refine Eq.trans (xiconst dX12_law_7 ci_0) ?_
  refine Eq.trans (st1 dX12_law_8 rfl rfl) ?_
  refine Eq.trans (getIm dX12_law_9 cp_12_106 ka_72 (.inl rfl)) ?_
  exact is2 dX12_law_12 cp_12_137 (Nat.le_of_ble_eq_true rfl) rfl rfl (Nat.le_of_ble_eq_true rfl)
theorem q_X12_law_15 {call : CALL} {L X : Nat} {I : Nat → Nat → Int32} {J : Nat → Nat → Int64} {x1 : Int32} {s1 : Int32} : runI call iX12_law (15, [some (.ref 72), some (.int x1)], [.int s1, .ref 72], (mm L X I J)) = if s1 = 0 then runI call iX12_law (25, [some (.ref 72), some (.int x1)], [.ref 72], (mm L X I J)) else if x1 ≤ (150 : Int32) then runI call iX12_law (30, [some (.ref 72), some (.int x1)], [.int (0 : Int32), .ref 72], (mm L X I J)) else runI call iX12_law (25, [some (.ref 72), some (.int x1)], [.ref 72], (mm L X I J)) := by
  refine Eq.trans (if_eq (tgt := 25) dX12_law_15 (by decide +kernel)) (ite_cong (fun _ => ?_) (fun _ => ?_))
  · rfl
  · refine Eq.trans (st1 dX12_law_18 rfl rfl) ?_
    refine Eq.trans (xsipush dX12_law_19 cs_150) ?_
    refine Eq.trans (ic_le (tgt := 29) dX12_law_22 (by decide +kernel)) (ite_cong (fun _ => ?_) (fun _ => ?_))
    · refine Eq.trans (xiconst dX12_law_29 ci_0) ?_
      rfl
    · rfl
theorem q_X12_law_25 {call : CALL} {L X : Nat} {I : Nat → Nat → Int32} {J : Nat → Nat → Int64} {x1 : Int32} : runI call iX12_law (25, [some (.ref 72), some (.int x1)], [.ref 72], (mm L X I J)) = runI call iX12_law (30, [some (.ref 72), some (.int x1)], [.int (1 : Int32), .ref 72], (mm L X I J)) := by
  refine Eq.trans (xiconst dX12_law_25 ci_1) ?_
  refine Eq.trans (go_to (tgt := 30) dX12_law_26 (by decide +kernel)) ?_
  rfl
theorem q_X12_law_30 {call : CALL} {L X : Nat} {I : Nat → Nat → Int32} {J : Nat → Nat → Int64} {x1 : Int32} {s1 : Int32} : runI call iX12_law (30, [some (.ref 72), some (.int x1)], [.int s1, .ref 72], (mm L X I J)) = bnd (call nX12_bad [.ref 72, .int s1, .int (1 : Int32), .int (1 : Int32)] (mm L X I J)) (fun v m' => runI call iX12_law (35, [some (.ref 72), some (.int x1)], v.toList ++ [], m')) := by
  refine Eq.trans (xiconst dX12_law_30 ci_1) ?_
  refine Eq.trans (xiconst dX12_law_31 ci_1) ?_
  exact iv0 dX12_law_32 rfl cp_12_182 rfl rfl (kd_ka ka_72) ka_72.1 (Nat.le_of_ble_eq_true rfl)
theorem q_X12_law_35 {call : CALL} {L X : Nat} {I : Nat → Nat → Int32} {J : Nat → Nat → Int64} {x1 : Int32} {s0 : Int32} : runI call iX12_law (35, [some (.ref 72), some (.int x1)], [.int s0], (mm L X I J)) = if s0 = 0 then bnd (call nX12_starts [.ref 72, .int x1] (mm L X I J)) (fun v m' => runI call iX12_law (45, [some (.ref 72), some (.int x1)], v.toList ++ [], m')) else some (.inl (some (.int (0 : Int32))), (mm L X I J)) := by
  refine Eq.trans (if_eq (tgt := 40) dX12_law_35 (by decide +kernel)) (ite_cong (fun _ => ?_) (fun _ => ?_))
  · refine Eq.trans (st1 dX12_law_40 rfl rfl) ?_
    refine Eq.trans (st1 dX12_law_41 rfl rfl) ?_
    exact iv0 dX12_law_42 rfl cp_12_186 rfl rfl (kd_ka ka_72) ka_72.1 (Nat.le_of_ble_eq_true rfl)
  · refine Eq.trans (xiconst dX12_law_38 ci_0) ?_
    exact ret0 dX12_law_39 rfl
theorem q_X12_law_45 {call : CALL} {L X : Nat} {I : Nat → Nat → Int32} {J : Nat → Nat → Int64} {u1 : Option Value} : runI call iX12_law (45, [some (.ref 72), u1], [], (mm L X I J)) = bnd (call nX12_sum [.ref 72] (mm L X (up2 I 72 20 (0 : Int32)) J)) (fun v m' => runI call iX12_law (54, [some (.ref 72), u1], v.toList ++ [], m')) := by
  refine Eq.trans (st1 dX12_law_45 rfl rfl) ?_
  refine Eq.trans (xiconst dX12_law_46 ci_0) ?_
  refine Eq.trans (putIm dX12_law_47 cp_12_217 ka_72 rfl) ?_
  refine Eq.trans (st1 dX12_law_50 rfl rfl) ?_
  exact iv0 dX12_law_51 rfl cp_12_239 rfl rfl (kd_ka ka_72) ka_72.1 (Nat.le_of_ble_eq_true rfl)
theorem q_X12_law_54 {call : CALL} {L X : Nat} {I : Nat → Nat → Int32} {J : Nat → Nat → Int64} {u1 : Option Value} : runI call iX12_law (54, [some (.ref 72), u1], [], (mm L X I J)) = bnd (call nX12_blanks [.ref 72] (mm L X I J)) (fun v m' => runI call iX12_law (58, [some (.ref 72), u1], v.toList ++ [], m')) := by
  refine Eq.trans (st1 dX12_law_54 rfl rfl) ?_
  exact iv0 dX12_law_55 rfl cp_12_125 rfl rfl (kd_ka ka_72) ka_72.1 (Nat.le_of_ble_eq_true rfl)
theorem q_X12_law_58 {call : CALL} {L X : Nat} {I : Nat → Nat → Int32} {J : Nat → Nat → Int64} {u1 : Option Value} : runI call iX12_law (58, [some (.ref 72), u1], [], (mm L X I J)) = if (I 72 5) = 0 then if (I 72 2) ≤ (I 72 4) then runI call iX12_law (85, [some (.ref 72), u1], [], (mm L X I J)) else bnd (call nX12_wrong [.ref 72, .int (1 : Int32), .int (I 72 4)] (mm L X I J)) (fun v m' => runI call iX12_law (85, [some (.ref 72), u1], v.toList ++ [], m')) else runI call iX12_law (85, [some (.ref 72), u1], [], (mm L X I J)) := by
  refine Eq.trans (st1 dX12_law_58 rfl rfl) ?_
  refine Eq.trans (getIm dX12_law_59 cp_12_119 ka_72 (.inl rfl)) ?_
  refine Eq.trans (if_ne (tgt := 85) dX12_law_62 (by decide +kernel)) (ite_cong (fun _ => ?_) (fun _ => ?_))
  · refine Eq.trans (st1 dX12_law_65 rfl rfl) ?_
    refine Eq.trans (getIm dX12_law_66 cp_12_112 ka_72 (.inl rfl)) ?_
    refine Eq.trans (st1 dX12_law_69 rfl rfl) ?_
    refine Eq.trans (getIm dX12_law_70 cp_12_109 ka_72 (.inl rfl)) ?_
    refine Eq.trans (ic_ge (tgt := 85) dX12_law_73 (by decide +kernel)) (ite_cong (fun _ => ?_) (fun _ => ?_))
    · rfl
    · refine Eq.trans (st1 dX12_law_76 rfl rfl) ?_
      refine Eq.trans (xiconst dX12_law_77 ci_1) ?_
      refine Eq.trans (st1 dX12_law_78 rfl rfl) ?_
      refine Eq.trans (getIm dX12_law_79 cp_12_112 ka_72 (.inl rfl)) ?_
      exact iv0 dX12_law_82 rfl cp_12_132 rfl rfl (kd_ka ka_72) ka_72.1 (Nat.le_of_ble_eq_true rfl)
  · rfl
theorem q_X12_law_85 {call : CALL} {L X : Nat} {I : Nat → Nat → Int32} {J : Nat → Nat → Int64} {u1 : Option Value} : runI call iX12_law (85, [some (.ref 72), u1], [], (mm L X I J)) = if (I 72 5) = 0 then bndN (call nX12_lays [.ref 275, .ref 114, .int ((up2 (up2 I 72 3 (-1 : Int32)) 72 19 ((up2 I 72 3 (-1 : Int32)) 72 20)) 72 19)] (mm L X (up2 (up2 I 72 3 (-1 : Int32)) 72 19 ((up2 I 72 3 (-1 : Int32)) 72 20)) J)) (fun v m' => runI call iX12_law (125, [some (.ref 72), u1], v.toList ++ [], m')) else bnd (call nX12_ends [.ref 72] (mm L X I J)) (fun v m' => runI call iX12_law (96, [some (.ref 72), u1], v.toList ++ [], m')) := by
  refine Eq.trans (st1 dX12_law_85 rfl rfl) ?_
  refine Eq.trans (getIm dX12_law_86 cp_12_119 ka_72 (.inl rfl)) ?_
  refine Eq.trans (if_eq (tgt := 97) dX12_law_89 (by decide +kernel)) (ite_cong (fun _ => ?_) (fun _ => ?_))
  · refine Eq.trans (st1 dX12_law_97 rfl rfl) ?_
    refine Eq.trans (xiconst dX12_law_98 ci_m1) ?_
    refine Eq.trans (putIm dX12_law_99 cp_12_9 ka_72 rfl) ?_
    refine Eq.trans (st1 dX12_law_102 rfl rfl) ?_
    refine Eq.trans (st1 dX12_law_103 rfl rfl) ?_
    refine Eq.trans (getIm dX12_law_104 cp_12_217 ka_72 (.inl rfl)) ?_
    refine Eq.trans (putIm dX12_law_107 cp_12_202 ka_72 rfl) ?_
    refine Eq.trans (st1 dX12_law_110 rfl rfl) ?_
    refine Eq.trans (getRm dX12_law_111 cp_12_49 ka_72 rfl r_72_22) ?_
    refine Eq.trans (st1 dX12_law_114 rfl rfl) ?_
    refine Eq.trans (getRm dX12_law_115 cp_12_46 ka_72 rfl r_72_21) ?_
    refine Eq.trans (st1 dX12_law_118 rfl rfl) ?_
    refine Eq.trans (getIm dX12_law_119 cp_12_202 ka_72 (.inl rfl)) ?_
    exact is2 dX12_law_122 cp_12_195 (Nat.le_of_ble_eq_true rfl) rfl rfl (Nat.le_of_ble_eq_true rfl)
  · refine Eq.trans (st1 dX12_law_92 rfl rfl) ?_
    exact iv0 dX12_law_93 rfl cp_12_192 rfl rfl (kd_ka ka_72) ka_72.1 (Nat.le_of_ble_eq_true rfl)
theorem q_X12_law_125 {call : CALL} {L X : Nat} {I : Nat → Nat → Int32} {J : Nat → Nat → Int64} {u0 : Option Value} {u1 : Option Value} : runI call iX12_law (125, [u0, u1], [], (mm L X I J)) = some (.inl (some (.int (1 : Int32))), (mm L X I J)) := by
  refine Eq.trans (xiconst dX12_law_125 ci_1) ?_
  exact ret0 dX12_law_126 rfl
theorem q_X12_law_96 {call : CALL} {L X : Nat} {I : Nat → Nat → Int32} {J : Nat → Nat → Int64} {u0 : Option Value} {u1 : Option Value} {s0 : Int32} : runI call iX12_law (96, [u0, u1], [.int s0], (mm L X I J)) = some (.inl (some (.int s0)), (mm L X I J)) := by
  exact ret0 dX12_law_96 rfl
theorem q_X12_sum_0 {call : CALL} {L X : Nat} {I : Nat → Nat → Int32} {J : Nat → Nat → Int64}  : runI call iX12_sum (0, [some (.ref 72), none], [], (mm L X I J)) = bnd (call nX12_product [.ref 72] (mm L X I J)) (fun v m' => runI call iX12_sum (4, [some (.ref 72), none], v.toList ++ [], m')) := by
  refine Eq.trans (st1 dX12_sum_0 rfl rfl) ?_
  exact iv0 dX12_sum_1 rfl cp_12_220 rfl rfl (kd_ka ka_72) ka_72.1 (Nat.le_of_ble_eq_true rfl)
theorem q_X12_sum_4 {call : CALL} {L X : Nat} {I : Nat → Nat → Int32} {J : Nat → Nat → Int64} {u1 : Option Value} : runI call iX12_sum (4, [some (.ref 72), u1], [], (mm L X I J)) = if (I 72 5) = 0 then bnd (call nX12_takesSign [.ref 72, .int (43 : Int32)] (mm L X I J)) (fun v m' => runI call iX12_sum (17, [some (.ref 72), u1], v.toList ++ [], m')) else some (.inl none, (mm L X I J)) := by
  refine Eq.trans (st1 dX12_sum_4 rfl rfl) ?_
  refine Eq.trans (getIm dX12_sum_5 cp_12_119 ka_72 (.inl rfl)) ?_
  refine Eq.trans (if_ne (tgt := 58) dX12_sum_8 (by decide +kernel)) (ite_cong (fun _ => ?_) (fun _ => ?_))
  · refine Eq.trans (st1 dX12_sum_11 rfl rfl) ?_
    refine Eq.trans (xbipush dX12_sum_12 cb_43) ?_
    exact iv0 dX12_sum_14 rfl cp_12_223 rfl rfl (kd_ka ka_72) ka_72.1 (Nat.le_of_ble_eq_true rfl)
  · exact ret3 dX12_sum_58 (.inl rfl)
theorem q_X12_sum_17 {call : CALL} {L X : Nat} {I : Nat → Nat → Int32} {J : Nat → Nat → Int64} {u1 : Option Value} {s0 : Int32} : runI call iX12_sum (17, [some (.ref 72), u1], [.int s0], (mm L X I J)) = if s0 = 0 then bnd (call nX12_takesSign [.ref 72, .int (45 : Int32)] (mm L X I J)) (fun v m' => runI call iX12_sum (30, [some (.ref 72), u1], v.toList ++ [], m')) else runI call iX12_sum (38, [some (.ref 72), u1], [.int (2 : Int32)], (mm L X I J)) := by
  refine Eq.trans (if_eq (tgt := 24) dX12_sum_17 (by decide +kernel)) (ite_cong (fun _ => ?_) (fun _ => ?_))
  · refine Eq.trans (st1 dX12_sum_24 rfl rfl) ?_
    refine Eq.trans (xbipush dX12_sum_25 cb_45) ?_
    exact iv0 dX12_sum_27 rfl cp_12_223 rfl rfl (kd_ka ka_72) ka_72.1 (Nat.le_of_ble_eq_true rfl)
  · refine Eq.trans (xiconst dX12_sum_20 ci_2) ?_
    refine Eq.trans (go_to (tgt := 38) dX12_sum_21 (by decide +kernel)) ?_
    rfl
theorem q_X12_sum_30 {call : CALL} {L X : Nat} {I : Nat → Nat → Int32} {J : Nat → Nat → Int64} {u1 : Option Value} {s0 : Int32} : runI call iX12_sum (30, [some (.ref 72), u1], [.int s0], (mm L X I J)) = if s0 = 0 then runI call iX12_sum (38, [some (.ref 72), u1], [.int (-1 : Int32)], (mm L X I J)) else runI call iX12_sum (38, [some (.ref 72), u1], [.int (3 : Int32)], (mm L X I J)) := by
  refine Eq.trans (if_eq (tgt := 37) dX12_sum_30 (by decide +kernel)) (ite_cong (fun _ => ?_) (fun _ => ?_))
  · refine Eq.trans (xiconst dX12_sum_37 ci_m1) ?_
    rfl
  · refine Eq.trans (xiconst dX12_sum_33 ci_3) ?_
    refine Eq.trans (go_to (tgt := 38) dX12_sum_34 (by decide +kernel)) ?_
    rfl
theorem q_X12_sum_38 {call : CALL} {L X : Nat} {I : Nat → Nat → Int32} {J : Nat → Nat → Int64} {u1 : Option Value} {s0 : Int32} : runI call iX12_sum (38, [some (.ref 72), u1], [.int s0], (mm L X I J)) = if s0 = (-1 : Int32) then some (.inl none, (mm L X I J)) else bnd (call nX12_product [.ref 72] (mm L X I J)) (fun v m' => runI call iX12_sum (49, [some (.ref 72), some (.int s0)], v.toList ++ [], m')) := by
  refine Eq.trans (st1 dX12_sum_38 rfl rfl) ?_
  refine Eq.trans (st1 dX12_sum_39 rfl rfl) ?_
  refine Eq.trans (xiconst dX12_sum_40 ci_m1) ?_
  refine Eq.trans (ic_ne (tgt := 45) dX12_sum_41 (by decide +kernel)) (ite_cong (fun _ => ?_) (fun _ => ?_))
  · exact ret3 dX12_sum_44 (.inl rfl)
  · refine Eq.trans (st1 dX12_sum_45 rfl rfl) ?_
    exact iv0 dX12_sum_46 rfl cp_12_220 rfl rfl (kd_ka ka_72) ka_72.1 (Nat.le_of_ble_eq_true rfl)
theorem q_X12_sum_49 {call : CALL} {L X : Nat} {I : Nat → Nat → Int32} {J : Nat → Nat → Int64} {x1 : Int32} : runI call iX12_sum (49, [some (.ref 72), some (.int x1)], [], (mm L X I J)) = bnd (call nX12_notes [.ref 72, .int x1, .int (0 : Int32)] (mm L X I J)) (fun v m' => runI call iX12_sum (55, [some (.ref 72), some (.int x1)], v.toList ++ [], m')) := by
  refine Eq.trans (st1 dX12_sum_49 rfl rfl) ?_
  refine Eq.trans (st1 dX12_sum_50 rfl rfl) ?_
  refine Eq.trans (xiconst dX12_sum_51 ci_0) ?_
  exact iv0 dX12_sum_52 rfl cp_12_226 rfl rfl (kd_ka ka_72) ka_72.1 (Nat.le_of_ble_eq_true rfl)
theorem q_X12_sum_55 {call : CALL} {L X : Nat} {I : Nat → Nat → Int32} {J : Nat → Nat → Int64} {u1 : Option Value} : runI call iX12_sum (55, [some (.ref 72), u1], [], (mm L X I J)) = runI call iX12_sum (4, [some (.ref 72), u1], [], (mm L X I J)) := by
  refine Eq.trans (go_to (tgt := 4) dX12_sum_55 (by decide +kernel)) ?_
  rfl
theorem q_X12_product_0 {call : CALL} {L X : Nat} {I : Nat → Nat → Int32} {J : Nat → Nat → Int64}  : runI call iX12_product (0, [some (.ref 72), none], [], (mm L X I J)) = bnd (call nX12_one [.ref 72] (mm L X I J)) (fun v m' => runI call iX12_product (4, [some (.ref 72), none], v.toList ++ [], m')) := by
  refine Eq.trans (st1 dX12_product_0 rfl rfl) ?_
  exact iv0 dX12_product_1 rfl cp_12_229 rfl rfl (kd_ka ka_72) ka_72.1 (Nat.le_of_ble_eq_true rfl)
theorem q_X12_product_4 {call : CALL} {L X : Nat} {I : Nat → Nat → Int32} {J : Nat → Nat → Int64} {u1 : Option Value} : runI call iX12_product (4, [some (.ref 72), u1], [], (mm L X I J)) = if (I 72 5) = 0 then bnd (call nX12_takesSign [.ref 72, .int (42 : Int32)] (mm L X I J)) (fun v m' => runI call iX12_product (17, [some (.ref 72), u1], v.toList ++ [], m')) else some (.inl none, (mm L X I J)) := by
  refine Eq.trans (st1 dX12_product_4 rfl rfl) ?_
  refine Eq.trans (getIm dX12_product_5 cp_12_119 ka_72 (.inl rfl)) ?_
  refine Eq.trans (if_ne (tgt := 72) dX12_product_8 (by decide +kernel)) (ite_cong (fun _ => ?_) (fun _ => ?_))
  · refine Eq.trans (st1 dX12_product_11 rfl rfl) ?_
    refine Eq.trans (xbipush dX12_product_12 cb_42) ?_
    exact iv0 dX12_product_14 rfl cp_12_223 rfl rfl (kd_ka ka_72) ka_72.1 (Nat.le_of_ble_eq_true rfl)
  · exact ret3 dX12_product_72 (.inl rfl)
theorem q_X12_product_17 {call : CALL} {L X : Nat} {I : Nat → Nat → Int32} {J : Nat → Nat → Int64} {u1 : Option Value} {s0 : Int32} : runI call iX12_product (17, [some (.ref 72), u1], [.int s0], (mm L X I J)) = if s0 = 0 then bnd (call nX12_takesSign [.ref 72, .int (47 : Int32)] (mm L X I J)) (fun v m' => runI call iX12_product (30, [some (.ref 72), u1], v.toList ++ [], m')) else runI call iX12_product (52, [some (.ref 72), u1], [.int (4 : Int32)], (mm L X I J)) := by
  refine Eq.trans (if_eq (tgt := 24) dX12_product_17 (by decide +kernel)) (ite_cong (fun _ => ?_) (fun _ => ?_))
  · refine Eq.trans (st1 dX12_product_24 rfl rfl) ?_
    refine Eq.trans (xbipush dX12_product_25 cb_47) ?_
    exact iv0 dX12_product_27 rfl cp_12_223 rfl rfl (kd_ka ka_72) ka_72.1 (Nat.le_of_ble_eq_true rfl)
  · refine Eq.trans (xiconst dX12_product_20 ci_4) ?_
    refine Eq.trans (go_to (tgt := 52) dX12_product_21 (by decide +kernel)) ?_
    rfl
theorem q_X12_product_30 {call : CALL} {L X : Nat} {I : Nat → Nat → Int32} {J : Nat → Nat → Int64} {u1 : Option Value} {s0 : Int32} : runI call iX12_product (30, [some (.ref 72), u1], [.int s0], (mm L X I J)) = if s0 = 0 then bnd (call nX12_takesSign [.ref 72, .int (37 : Int32)] (mm L X I J)) (fun v m' => runI call iX12_product (43, [some (.ref 72), u1], v.toList ++ [], m')) else runI call iX12_product (52, [some (.ref 72), u1], [.int (5 : Int32)], (mm L X I J)) := by
  refine Eq.trans (if_eq (tgt := 37) dX12_product_30 (by decide +kernel)) (ite_cong (fun _ => ?_) (fun _ => ?_))
  · refine Eq.trans (st1 dX12_product_37 rfl rfl) ?_
    refine Eq.trans (xbipush dX12_product_38 cb_37) ?_
    exact iv0 dX12_product_40 rfl cp_12_223 rfl rfl (kd_ka ka_72) ka_72.1 (Nat.le_of_ble_eq_true rfl)
  · refine Eq.trans (xiconst dX12_product_33 ci_5) ?_
    refine Eq.trans (go_to (tgt := 52) dX12_product_34 (by decide +kernel)) ?_
    rfl
theorem q_X12_product_52 {call : CALL} {L X : Nat} {I : Nat → Nat → Int32} {J : Nat → Nat → Int64} {u1 : Option Value} {s0 : Int32} : runI call iX12_product (52, [some (.ref 72), u1], [.int s0], (mm L X I J)) = if s0 = (-1 : Int32) then some (.inl none, (mm L X I J)) else bnd (call nX12_one [.ref 72] (mm L X I J)) (fun v m' => runI call iX12_product (63, [some (.ref 72), some (.int s0)], v.toList ++ [], m')) := by
  refine Eq.trans (st1 dX12_product_52 rfl rfl) ?_
  refine Eq.trans (st1 dX12_product_53 rfl rfl) ?_
  refine Eq.trans (xiconst dX12_product_54 ci_m1) ?_
  refine Eq.trans (ic_ne (tgt := 59) dX12_product_55 (by decide +kernel)) (ite_cong (fun _ => ?_) (fun _ => ?_))
  · exact ret3 dX12_product_58 (.inl rfl)
  · refine Eq.trans (st1 dX12_product_59 rfl rfl) ?_
    exact iv0 dX12_product_60 rfl cp_12_229 rfl rfl (kd_ka ka_72) ka_72.1 (Nat.le_of_ble_eq_true rfl)
theorem q_X12_product_43 {call : CALL} {L X : Nat} {I : Nat → Nat → Int32} {J : Nat → Nat → Int64} {u1 : Option Value} {s0 : Int32} : runI call iX12_product (43, [some (.ref 72), u1], [.int s0], (mm L X I J)) = if s0 = 0 then runI call iX12_product (52, [some (.ref 72), u1], [.int (-1 : Int32)], (mm L X I J)) else runI call iX12_product (52, [some (.ref 72), u1], [.int (6 : Int32)], (mm L X I J)) := by
  refine Eq.trans (if_eq (tgt := 51) dX12_product_43 (by decide +kernel)) (ite_cong (fun _ => ?_) (fun _ => ?_))
  · refine Eq.trans (xiconst dX12_product_51 ci_m1) ?_
    rfl
  · refine Eq.trans (xbipush dX12_product_46 cb_6) ?_
    refine Eq.trans (go_to (tgt := 52) dX12_product_48 (by decide +kernel)) ?_
    rfl
theorem q_X12_product_63 {call : CALL} {L X : Nat} {I : Nat → Nat → Int32} {J : Nat → Nat → Int64} {x1 : Int32} : runI call iX12_product (63, [some (.ref 72), some (.int x1)], [], (mm L X I J)) = bnd (call nX12_notes [.ref 72, .int x1, .int (0 : Int32)] (mm L X I J)) (fun v m' => runI call iX12_product (69, [some (.ref 72), some (.int x1)], v.toList ++ [], m')) := by
  refine Eq.trans (st1 dX12_product_63 rfl rfl) ?_
  refine Eq.trans (st1 dX12_product_64 rfl rfl) ?_
  refine Eq.trans (xiconst dX12_product_65 ci_0) ?_
  exact iv0 dX12_product_66 rfl cp_12_226 rfl rfl (kd_ka ka_72) ka_72.1 (Nat.le_of_ble_eq_true rfl)
theorem q_X12_product_69 {call : CALL} {L X : Nat} {I : Nat → Nat → Int32} {J : Nat → Nat → Int64} {u1 : Option Value} : runI call iX12_product (69, [some (.ref 72), u1], [], (mm L X I J)) = runI call iX12_product (4, [some (.ref 72), u1], [], (mm L X I J)) := by
  refine Eq.trans (go_to (tgt := 4) dX12_product_69 (by decide +kernel)) ?_
  rfl
theorem q_X12_one_0 {call : CALL} {L X : Nat} {I : Nat → Nat → Int32} {J : Nat → Nat → Int64}  : runI call iX12_one (0, [some (.ref 72), none, none], [], (mm L X I J)) = if (I 72 5) = 0 then bnd (call nX12_blanks [.ref 72] (mm L X I J)) (fun v m' => runI call iX12_one (12, [some (.ref 72), none, none], v.toList ++ [], m')) else some (.inl none, (mm L X I J)) := by
  refine Eq.trans (st1 dX12_one_0 rfl rfl) ?_
  refine Eq.trans (getIm dX12_one_1 cp_12_119 ka_72 (.inl rfl)) ?_
  refine Eq.trans (if_eq (tgt := 8) dX12_one_4 (by decide +kernel)) (ite_cong (fun _ => ?_) (fun _ => ?_))
  · refine Eq.trans (st1 dX12_one_8 rfl rfl) ?_
    exact iv0 dX12_one_9 rfl cp_12_125 rfl rfl (kd_ka ka_72) ka_72.1 (Nat.le_of_ble_eq_true rfl)
  · exact ret3 dX12_one_7 (.inl rfl)
theorem q_X12_one_12 {call : CALL} {L X : Nat} {I : Nat → Nat → Int32} {J : Nat → Nat → Int64} {u1 : Option Value} {u2 : Option Value} : runI call iX12_one (12, [some (.ref 72), u1, u2], [], (mm L X I J)) = bnd (call nX12_isWord [.ref 72, .int (12 : Int32), .int (5 : Int32), .int (1 : Int32), .int (19 : Int32), .int (20 : Int32), .int (0 : Int32)] (mm L X I J)) (fun v m' => runI call iX12_one (25, [some (.ref 72), u1, u2], v.toList ++ [], m')) := by
  refine Eq.trans (st1 dX12_one_12 rfl rfl) ?_
  refine Eq.trans (xbipush dX12_one_13 cb_12) ?_
  refine Eq.trans (xiconst dX12_one_15 ci_5) ?_
  refine Eq.trans (xiconst dX12_one_16 ci_1) ?_
  refine Eq.trans (xbipush dX12_one_17 cb_19) ?_
  refine Eq.trans (xbipush dX12_one_19 cb_20) ?_
  refine Eq.trans (xiconst dX12_one_21 ci_0) ?_
  exact iv0 dX12_one_22 rfl cp_12_152 rfl rfl (kd_ka ka_72) ka_72.1 (Nat.le_of_ble_eq_true rfl)
theorem q_X12_one_25 {call : CALL} {L X : Nat} {I : Nat → Nat → Int32} {J : Nat → Nat → Int64} {u1 : Option Value} {u2 : Option Value} {s0 : Int32} : runI call iX12_one (25, [some (.ref 72), u1, u2], [.int s0], (mm L X I J)) = if s0 = 0 then bnd (call nX12_isWord [.ref 72, .int (13 : Int32), .int (15 : Int32), .int (19 : Int32), .int (20 : Int32), .int (0 : Int32), .int (0 : Int32)] (mm L X I J)) (fun v m' => runI call iX12_one (47, [some (.ref 72), u1, u2], v.toList ++ [], m')) else runI call iX12_one (56, [some (.ref 72), u1, u2], [.int (7 : Int32)], (mm L X I J)) := by
  refine Eq.trans (if_eq (tgt := 33) dX12_one_25 (by decide +kernel)) (ite_cong (fun _ => ?_) (fun _ => ?_))
  · refine Eq.trans (st1 dX12_one_33 rfl rfl) ?_
    refine Eq.trans (xbipush dX12_one_34 cb_13) ?_
    refine Eq.trans (xbipush dX12_one_36 cb_15) ?_
    refine Eq.trans (xbipush dX12_one_38 cb_19) ?_
    refine Eq.trans (xbipush dX12_one_40 cb_20) ?_
    refine Eq.trans (xiconst dX12_one_42 ci_0) ?_
    refine Eq.trans (xiconst dX12_one_43 ci_0) ?_
    exact iv0 dX12_one_44 rfl cp_12_152 rfl rfl (kd_ka ka_72) ka_72.1 (Nat.le_of_ble_eq_true rfl)
  · refine Eq.trans (xbipush dX12_one_28 cb_7) ?_
    refine Eq.trans (go_to (tgt := 56) dX12_one_30 (by decide +kernel)) ?_
    rfl
theorem q_X12_one_47 {call : CALL} {L X : Nat} {I : Nat → Nat → Int32} {J : Nat → Nat → Int64} {u1 : Option Value} {u2 : Option Value} {s0 : Int32} : runI call iX12_one (47, [some (.ref 72), u1, u2], [.int s0], (mm L X I J)) = if s0 = 0 then runI call iX12_one (56, [some (.ref 72), u1, u2], [.int (-1 : Int32)], (mm L X I J)) else runI call iX12_one (56, [some (.ref 72), u1, u2], [.int (8 : Int32)], (mm L X I J)) := by
  refine Eq.trans (if_eq (tgt := 55) dX12_one_47 (by decide +kernel)) (ite_cong (fun _ => ?_) (fun _ => ?_))
  · refine Eq.trans (xiconst dX12_one_55 ci_m1) ?_
    rfl
  · refine Eq.trans (xbipush dX12_one_50 cb_8) ?_
    refine Eq.trans (go_to (tgt := 56) dX12_one_52 (by decide +kernel)) ?_
    rfl
theorem q_X12_one_56 {call : CALL} {L X : Nat} {I : Nat → Nat → Int32} {J : Nat → Nat → Int64} {u1 : Option Value} {u2 : Option Value} {s0 : Int32} : runI call iX12_one (56, [some (.ref 72), u1, u2], [.int s0], (mm L X I J)) = if s0 = (-1 : Int32) then bnd (call nX12_byteAt [.ref 72, .int (I 72 4)] (mm L X I J)) (fun v m' => runI call iX12_one (125, [some (.ref 72), some (.int s0), u2], v.toList ++ [], m')) else bnd (call nX12_opensOne [.ref 72] (mm L X I J)) (fun v m' => runI call iX12_one (66, [some (.ref 72), some (.int s0), u2], v.toList ++ [], m')) := by
  refine Eq.trans (st1 dX12_one_56 rfl rfl) ?_
  refine Eq.trans (st1 dX12_one_57 rfl rfl) ?_
  refine Eq.trans (xiconst dX12_one_58 ci_m1) ?_
  refine Eq.trans (ic_eq (tgt := 117) dX12_one_59 (by decide +kernel)) (ite_cong (fun _ => ?_) (fun _ => ?_))
  · refine Eq.trans (st1 dX12_one_117 rfl rfl) ?_
    refine Eq.trans (st1 dX12_one_118 rfl rfl) ?_
    refine Eq.trans (getIm dX12_one_119 cp_12_112 ka_72 (.inl rfl)) ?_
    exact iv0 dX12_one_122 rfl cp_12_115 rfl rfl (kd_ka ka_72) ka_72.1 (Nat.le_of_ble_eq_true rfl)
  · refine Eq.trans (st1 dX12_one_62 rfl rfl) ?_
    exact iv0 dX12_one_63 rfl cp_12_235 rfl rfl (kd_ka ka_72) ka_72.1 (Nat.le_of_ble_eq_true rfl)
theorem q_X12_one_125 {call : CALL} {L X : Nat} {I : Nat → Nat → Int32} {J : Nat → Nat → Int64} {u1 : Option Value} {u2 : Option Value} {s0 : Int32} : runI call iX12_one (125, [some (.ref 72), u1, u2], [.int s0], (mm L X I J)) = if s0 = (40 : Int32) then bnd (call nX12_opensOne [.ref 72] (mm L X I J)) (fun v m' => runI call iX12_one (134, [some (.ref 72), u1, u2], v.toList ++ [], m')) else bnd (call nX12_knownHere [.ref 72] (mm L X I J)) (fun v m' => runI call iX12_one (173, [some (.ref 72), u1, u2], v.toList ++ [], m')) := by
  refine Eq.trans (xbipush dX12_one_125 cb_40) ?_
  refine Eq.trans (ic_ne (tgt := 169) dX12_one_127 (by decide +kernel)) (ite_cong (fun _ => ?_) (fun _ => ?_))
  · refine Eq.trans (st1 dX12_one_130 rfl rfl) ?_
    exact iv0 dX12_one_131 rfl cp_12_235 rfl rfl (kd_ka ka_72) ka_72.1 (Nat.le_of_ble_eq_true rfl)
  · refine Eq.trans (st1 dX12_one_169 rfl rfl) ?_
    exact iv0 dX12_one_170 rfl cp_12_242 rfl rfl (kd_ka ka_72) ka_72.1 (Nat.le_of_ble_eq_true rfl)
theorem q_X12_one_66 {call : CALL} {L X : Nat} {I : Nat → Nat → Int32} {J : Nat → Nat → Int64} {x1 : Int32} {u2 : Option Value} {s0 : Int32} : runI call iX12_one (66, [some (.ref 72), some (.int x1), u2], [.int s0], (mm L X I J)) = if s0 = 0 then some (.inl none, (mm L X I J)) else bnd (call nX12_skipWord [.ref 72] (mm L X I J)) (fun v m' => runI call iX12_one (74, [some (.ref 72), some (.int x1), u2], v.toList ++ [], m')) := by
  refine Eq.trans (if_ne (tgt := 70) dX12_one_66 (by decide +kernel)) (ite_cong (fun _ => ?_) (fun _ => ?_))
  · exact ret3 dX12_one_69 (.inl rfl)
  · refine Eq.trans (st1 dX12_one_70 rfl rfl) ?_
    exact iv0 dX12_one_71 rfl cp_12_156 rfl rfl (kd_ka ka_72) ka_72.1 (Nat.le_of_ble_eq_true rfl)
theorem q_X12_one_173 {call : CALL} {L X : Nat} {I : Nat → Nat → Int32} {J : Nat → Nat → Int64} {u1 : Option Value} {u2 : Option Value} {s0 : Int32} (hu1 : okv u1 = true) : runI call iX12_one (173, [some (.ref 72), u1, u2], [.int s0], (mm L X I J)) = if s0 = (-1 : Int32) then bnd (call nX12_number [.ref 72, .int (0 : Int32), .int (999 : Int32)] (mm L X I J)) (fun v m' => runI call iX12_one (198, [some (.ref 72), u1, some (.int s0)], v.toList ++ [.int (0 : Int32), .ref 72], m')) else bnd (call nX12_notes [.ref 72, .int (1 : Int32), .int s0] (mm L X I J)) (fun v m' => runI call iX12_one (185, [some (.ref 72), u1, some (.int s0)], v.toList ++ [], m')) := by
  refine Eq.trans (xst1 (k := 2) dX12_one_173 hu1 rfl) ?_
  refine Eq.trans (st1 dX12_one_174 rfl rfl) ?_
  refine Eq.trans (xiconst dX12_one_175 ci_m1) ?_
  refine Eq.trans (ic_eq (tgt := 188) dX12_one_176 (by decide +kernel)) (ite_cong (fun _ => ?_) (fun _ => ?_))
  · refine Eq.trans (st1 dX12_one_188 rfl rfl) ?_
    refine Eq.trans (xiconst dX12_one_189 ci_0) ?_
    refine Eq.trans (st1 dX12_one_190 rfl rfl) ?_
    refine Eq.trans (xiconst dX12_one_191 ci_0) ?_
    refine Eq.trans (xsipush dX12_one_192 cs_999) ?_
    exact iv0 dX12_one_195 rfl cp_12_165 rfl rfl (kd_ka ka_72) ka_72.1 (Nat.le_of_ble_eq_true rfl)
  · refine Eq.trans (st1 dX12_one_179 rfl rfl) ?_
    refine Eq.trans (xiconst dX12_one_180 ci_1) ?_
    refine Eq.trans (st1 dX12_one_181 rfl rfl) ?_
    exact iv0 dX12_one_182 rfl cp_12_226 rfl rfl (kd_ka ka_72) ka_72.1 (Nat.le_of_ble_eq_true rfl)
theorem q_X12_one_134 {call : CALL} {L X : Nat} {I : Nat → Nat → Int32} {J : Nat → Nat → Int64} {u1 : Option Value} {u2 : Option Value} {s0 : Int32} : runI call iX12_one (134, [some (.ref 72), u1, u2], [.int s0], (mm L X I J)) = if s0 = 0 then some (.inl none, (mm L X I J)) else bnd (call nX12_sum [.ref 72] (mm L X (up2 I 72 4 ((I 72 4) + (1 : Int32))) J)) (fun v m' => runI call iX12_one (152, [some (.ref 72), u1, u2], v.toList ++ [], m')) := by
  refine Eq.trans (if_ne (tgt := 138) dX12_one_134 (by decide +kernel)) (ite_cong (fun _ => ?_) (fun _ => ?_))
  · exact ret3 dX12_one_137 (.inl rfl)
  · refine Eq.trans (st1 dX12_one_138 rfl rfl) ?_
    refine Eq.trans (st1 dX12_one_139 rfl rfl) ?_
    refine Eq.trans (getIm dX12_one_140 cp_12_112 ka_72 (.inl rfl)) ?_
    refine Eq.trans (xiconst dX12_one_143 ci_1) ?_
    refine Eq.trans (st1 dX12_one_144 rfl rfl) ?_
    refine Eq.trans (putIm dX12_one_145 cp_12_112 ka_72 rfl) ?_
    refine Eq.trans (st1 dX12_one_148 rfl rfl) ?_
    exact iv0 dX12_one_149 rfl cp_12_239 rfl rfl (kd_ka ka_72) ka_72.1 (Nat.le_of_ble_eq_true rfl)
theorem q_X12_one_74 {call : CALL} {L X : Nat} {I : Nat → Nat → Int32} {J : Nat → Nat → Int64} {x1 : Int32} {u2 : Option Value} : runI call iX12_one (74, [some (.ref 72), some (.int x1), u2], [], (mm L X I J)) = bnd (call nX12_sign [.ref 72, .int (91 : Int32)] (mm L X I J)) (fun v m' => runI call iX12_one (80, [some (.ref 72), some (.int x1), u2], v.toList ++ [], m')) := by
  refine Eq.trans (st1 dX12_one_74 rfl rfl) ?_
  refine Eq.trans (xbipush dX12_one_75 cb_91) ?_
  exact iv0 dX12_one_77 rfl cp_12_178 rfl rfl (kd_ka ka_72) ka_72.1 (Nat.le_of_ble_eq_true rfl)
theorem q_X12_one_198 {call : CALL} {L X : Nat} {I : Nat → Nat → Int32} {J : Nat → Nat → Int64} {u0 : Option Value} {u1 : Option Value} {u2 : Option Value} {s1 : Int32} {s2 : Int32} : runI call iX12_one (198, [u0, u1, u2], [.int s2, .int s1, .ref 72], (mm L X I J)) = bnd (call nX12_notes [.ref 72, .int s1, .int s2] (mm L X I J)) (fun v m' => runI call iX12_one (201, [u0, u1, u2], v.toList ++ [], m')) := by
  exact iv0 dX12_one_198 rfl cp_12_226 rfl rfl (kd_ka ka_72) ka_72.1 (Nat.le_of_ble_eq_true rfl)
theorem q_X12_one_185 {call : CALL} {L X : Nat} {I : Nat → Nat → Int32} {J : Nat → Nat → Int64} {u0 : Option Value} {u1 : Option Value} {u2 : Option Value} : runI call iX12_one (185, [u0, u1, u2], [], (mm L X I J)) = some (.inl none, (mm L X I J)) := by
  refine Eq.trans (go_to (tgt := 201) dX12_one_185 (by decide +kernel)) ?_
  exact ret3 dX12_one_201 (.inl rfl)
theorem q_X12_one_152 {call : CALL} {L X : Nat} {I : Nat → Nat → Int32} {J : Nat → Nat → Int64} {u1 : Option Value} {u2 : Option Value} : runI call iX12_one (152, [some (.ref 72), u1, u2], [], (mm L X I J)) = bnd (call nX12_sign [.ref 72, .int (41 : Int32)] (mm L X I J)) (fun v m' => runI call iX12_one (158, [some (.ref 72), u1, u2], v.toList ++ [], m')) := by
  refine Eq.trans (st1 dX12_one_152 rfl rfl) ?_
  refine Eq.trans (xbipush dX12_one_153 cb_41) ?_
  exact iv0 dX12_one_155 rfl cp_12_178 rfl rfl (kd_ka ka_72) ka_72.1 (Nat.le_of_ble_eq_true rfl)
theorem q_X12_one_80 {call : CALL} {L X : Nat} {I : Nat → Nat → Int32} {J : Nat → Nat → Int64} {x1 : Int32} {u2 : Option Value} : runI call iX12_one (80, [some (.ref 72), some (.int x1), u2], [], (mm L X I J)) = bnd (call nX12_sum [.ref 72] (mm L X I J)) (fun v m' => runI call iX12_one (84, [some (.ref 72), some (.int x1), u2], v.toList ++ [], m')) := by
  refine Eq.trans (st1 dX12_one_80 rfl rfl) ?_
  exact iv0 dX12_one_81 rfl cp_12_239 rfl rfl (kd_ka ka_72) ka_72.1 (Nat.le_of_ble_eq_true rfl)
theorem q_X12_one_201 {call : CALL} {L X : Nat} {I : Nat → Nat → Int32} {J : Nat → Nat → Int64} {u0 : Option Value} {u1 : Option Value} {u2 : Option Value} : runI call iX12_one (201, [u0, u1, u2], [], (mm L X I J)) = some (.inl none, (mm L X I J)) := by
  exact ret3 dX12_one_201 (.inl rfl)
theorem q_X12_one_158 {call : CALL} {L X : Nat} {I : Nat → Nat → Int32} {J : Nat → Nat → Int64} {u1 : Option Value} {u2 : Option Value} : runI call iX12_one (158, [some (.ref 72), u1, u2], [], (mm L X I J)) = some (.inl none, (mm L X (up2 I 72 8 ((I 72 8) - (1 : Int32))) J)) := by
  refine Eq.trans (st1 dX12_one_158 rfl rfl) ?_
  refine Eq.trans (st1 dX12_one_159 rfl rfl) ?_
  refine Eq.trans (getIm dX12_one_160 cp_12_162 ka_72 (.inl rfl)) ?_
  refine Eq.trans (xiconst dX12_one_163 ci_1) ?_
  refine Eq.trans (st1 dX12_one_164 rfl rfl) ?_
  refine Eq.trans (putIm dX12_one_165 cp_12_162 ka_72 rfl) ?_
  exact ret3 dX12_one_168 (.inl rfl)
theorem q_X12_one_84 {call : CALL} {L X : Nat} {I : Nat → Nat → Int32} {J : Nat → Nat → Int64} {x1 : Int32} {u2 : Option Value} : runI call iX12_one (84, [some (.ref 72), some (.int x1), u2], [], (mm L X I J)) = bnd (call nX12_sign [.ref 72, .int (44 : Int32)] (mm L X I J)) (fun v m' => runI call iX12_one (90, [some (.ref 72), some (.int x1), u2], v.toList ++ [], m')) := by
  refine Eq.trans (st1 dX12_one_84 rfl rfl) ?_
  refine Eq.trans (xbipush dX12_one_85 cb_44) ?_
  exact iv0 dX12_one_87 rfl cp_12_178 rfl rfl (kd_ka ka_72) ka_72.1 (Nat.le_of_ble_eq_true rfl)
theorem q_X12_one_90 {call : CALL} {L X : Nat} {I : Nat → Nat → Int32} {J : Nat → Nat → Int64} {x1 : Int32} {u2 : Option Value} : runI call iX12_one (90, [some (.ref 72), some (.int x1), u2], [], (mm L X I J)) = bnd (call nX12_sum [.ref 72] (mm L X I J)) (fun v m' => runI call iX12_one (94, [some (.ref 72), some (.int x1), u2], v.toList ++ [], m')) := by
  refine Eq.trans (st1 dX12_one_90 rfl rfl) ?_
  exact iv0 dX12_one_91 rfl cp_12_239 rfl rfl (kd_ka ka_72) ka_72.1 (Nat.le_of_ble_eq_true rfl)
theorem q_X12_one_94 {call : CALL} {L X : Nat} {I : Nat → Nat → Int32} {J : Nat → Nat → Int64} {x1 : Int32} {u2 : Option Value} : runI call iX12_one (94, [some (.ref 72), some (.int x1), u2], [], (mm L X I J)) = bnd (call nX12_sign [.ref 72, .int (93 : Int32)] (mm L X I J)) (fun v m' => runI call iX12_one (100, [some (.ref 72), some (.int x1), u2], v.toList ++ [], m')) := by
  refine Eq.trans (st1 dX12_one_94 rfl rfl) ?_
  refine Eq.trans (xbipush dX12_one_95 cb_93) ?_
  exact iv0 dX12_one_97 rfl cp_12_178 rfl rfl (kd_ka ka_72) ka_72.1 (Nat.le_of_ble_eq_true rfl)
theorem q_X12_one_100 {call : CALL} {L X : Nat} {I : Nat → Nat → Int32} {J : Nat → Nat → Int64} {x1 : Int32} {u2 : Option Value} : runI call iX12_one (100, [some (.ref 72), some (.int x1), u2], [], (mm L X I J)) = bnd (call nX12_notes [.ref 72, .int x1, .int (0 : Int32)] (mm L X I J)) (fun v m' => runI call iX12_one (106, [some (.ref 72), some (.int x1), u2], v.toList ++ [], m')) := by
  refine Eq.trans (st1 dX12_one_100 rfl rfl) ?_
  refine Eq.trans (st1 dX12_one_101 rfl rfl) ?_
  refine Eq.trans (xiconst dX12_one_102 ci_0) ?_
  exact iv0 dX12_one_103 rfl cp_12_226 rfl rfl (kd_ka ka_72) ka_72.1 (Nat.le_of_ble_eq_true rfl)
theorem q_X12_one_106 {call : CALL} {L X : Nat} {I : Nat → Nat → Int32} {J : Nat → Nat → Int64} {u1 : Option Value} {u2 : Option Value} : runI call iX12_one (106, [some (.ref 72), u1, u2], [], (mm L X I J)) = some (.inl none, (mm L X (up2 I 72 8 ((I 72 8) - (1 : Int32))) J)) := by
  refine Eq.trans (st1 dX12_one_106 rfl rfl) ?_
  refine Eq.trans (st1 dX12_one_107 rfl rfl) ?_
  refine Eq.trans (getIm dX12_one_108 cp_12_162 ka_72 (.inl rfl)) ?_
  refine Eq.trans (xiconst dX12_one_111 ci_1) ?_
  refine Eq.trans (st1 dX12_one_112 rfl rfl) ?_
  refine Eq.trans (putIm dX12_one_113 cp_12_162 ka_72 rfl) ?_
  exact ret3 dX12_one_116 (.inl rfl)
