/-! EQUATIONS OF THE METHODS (written by gen_eq.py) -/
theorem q_X10_live_0 {call : CALL} {L X : Nat} {I : Nat → Nat → Int32} {J : Nat → Nat → Int64} {a1 : Nat} {x2 : Int32} {x3 : Int32} {x4 : Int32} (h1 : oc3 a1) : runI call iX10_live (0, [some (.ref 66), some (.ref a1), some (.int x2), some (.int x3), some (.int x4), none], [], (mm L X I J)) = bnd (call nX3_become [.ref 67, .ref a1] (mm L X I J)) (fun v m' => runI call iX10_live (8, [some (.ref 66), some (.ref a1), some (.int x2), some (.int x3), some (.int x4), none], v.toList ++ [], m')) := by
  refine Eq.trans (st1 dX10_live_0 rfl rfl) ?_
  refine Eq.trans (getRm dX10_live_1 cp_10_10 ka_66 rfl r_66_2) ?_
  refine Eq.trans (st1 dX10_live_4 rfl rfl) ?_
  exact iv0 dX10_live_5 rfl cp_10_24 rfl rfl (kd_ka ka_67) ka_67.1 (Nat.le_of_ble_eq_true rfl)
theorem q_X10_live_8 {call : CALL} {L X : Nat} {I : Nat → Nat → Int32} {J : Nat → Nat → Int64} {u1 : Option Value} {x2 : Int32} {x3 : Int32} {x4 : Int32} {u5 : Option Value} : runI call iX10_live (8, [some (.ref 66), u1, some (.int x2), some (.int x3), some (.int x4), u5], [], (mm L X I J)) = runI call iX10_live (21, [some (.ref 66), u1, some (.int x2), some (.int x3), some (.int x4), some (.int (0 : Int32))], [], (mm L X (up2 (up2 I 66 4 x2) 66 3 (0 : Int32)) J)) := by
  refine Eq.trans (st1 dX10_live_8 rfl rfl) ?_
  refine Eq.trans (st1 dX10_live_9 rfl rfl) ?_
  refine Eq.trans (putIm dX10_live_10 cp_10_42 ka_66 rfl) ?_
  refine Eq.trans (st1 dX10_live_13 rfl rfl) ?_
  refine Eq.trans (xiconst dX10_live_14 ci_0) ?_
  refine Eq.trans (putIm dX10_live_15 cp_10_46 ka_66 rfl) ?_
  refine Eq.trans (xiconst dX10_live_18 ci_0) ?_
  refine Eq.trans (st1 dX10_live_19 rfl rfl) ?_
  rfl
theorem q_X10_live_21 {call : CALL} {L X : Nat} {I : Nat → Nat → Int32} {J : Nat → Nat → Int64} {u1 : Option Value} {u2 : Option Value} {x3 : Int32} {x4 : Int32} {x5 : Int32} : runI call iX10_live (21, [some (.ref 66), u1, u2, some (.int x3), some (.int x4), some (.int x5)], [], (mm L X I J)) = if x3 ≤ x5 then some (.inl none, (mm L X I J)) else if (I 3 0) ≤ 0 then runI call iX10_live (43, [some (.ref 66), u1, u2, some (.int x3), some (.int x4), some (.int x5)], [], (mm L X I J)) else bnd (call nX10_doDrawn [.ref 66, .int x4] (mm L X I J)) (fun v m' => runI call iX10_live (43, [some (.ref 66), u1, u2, some (.int x3), some (.int x4), some (.int x5)], v.toList ++ [], m')) := by
  refine Eq.trans (st1 dX10_live_21 rfl rfl) ?_
  refine Eq.trans (st1 dX10_live_23 rfl rfl) ?_
  refine Eq.trans (ic_ge (tgt := 76) dX10_live_24 (by decide +kernel)) (ite_cong (fun _ => ?_) (fun _ => ?_))
  · exact ret3 dX10_live_76 (.inl rfl)
  · refine Eq.trans (st1 dX10_live_27 rfl rfl) ?_
    refine Eq.trans (getRm dX10_live_28 cp_10_16 ka_66 rfl r_66_0) ?_
    refine Eq.trans (getIm dX10_live_31 cp_10_49 ka_3 (.inl rfl)) ?_
    refine Eq.trans (if_le (tgt := 43) dX10_live_34 (by decide +kernel)) (ite_cong (fun _ => ?_) (fun _ => ?_))
    · rfl
    · refine Eq.trans (st1 dX10_live_37 rfl rfl) ?_
      refine Eq.trans (st1 dX10_live_38 rfl rfl) ?_
      exact iv0 dX10_live_40 rfl cp_10_54 rfl rfl (kd_ka ka_66) ka_66.1 (Nat.le_of_ble_eq_true rfl)
theorem q_X10_live_43 {call : CALL} {L X : Nat} {I : Nat → Nat → Int32} {J : Nat → Nat → Int64} {u1 : Option Value} {u2 : Option Value} {x3 : Int32} {x4 : Int32} {x5 : Int32} : runI call iX10_live (43, [some (.ref 66), u1, u2, some (.int x3), some (.int x4), some (.int x5)], [], (mm L X I J)) = bnd (call nX8_reachedBits [.ref 52, .ref 67] (mm L X I J)) (fun v m' => runI call iX10_live (63, [some (.ref 66), u1, u2, some (.int x3), some (.int x4), some (.int x5)], v.toList ++ [.ref 67, .int (I 66 3), .ref 66], m')) := by
  refine Eq.trans (st1 dX10_live_43 rfl rfl) ?_
  refine Eq.trans (st1 dX10_live_44 rfl rfl) ?_
  refine Eq.trans (getIm dX10_live_45 cp_10_46 ka_66 (.inl rfl)) ?_
  refine Eq.trans (st1 dX10_live_48 rfl rfl) ?_
  refine Eq.trans (getRm dX10_live_49 cp_10_10 ka_66 rfl r_66_2) ?_
  refine Eq.trans (st1 dX10_live_52 rfl rfl) ?_
  refine Eq.trans (getRm dX10_live_53 cp_10_20 ka_66 rfl r_66_1) ?_
  refine Eq.trans (st1 dX10_live_56 rfl rfl) ?_
  refine Eq.trans (getRm dX10_live_57 cp_10_10 ka_66 rfl r_66_2) ?_
  exact iv0 dX10_live_60 rfl cp_10_28 rfl rfl (kd_ka ka_52) ka_52.1 (Nat.le_of_ble_eq_true rfl)
theorem q_X10_live_63 {call : CALL} {L X : Nat} {I : Nat → Nat → Int32} {J : Nat → Nat → Int64} {u1 : Option Value} {u2 : Option Value} {x3 : Int32} {x4 : Int32} {x5 : Int32} {s1 : Int32} {s3 : Int32} : runI call iX10_live (63, [some (.ref 66), u1, u2, some (.int x3), some (.int x4), some (.int x5)], [.int s3, .ref 67, .int s1, .ref 66], (mm L X I J)) = bnd (call nX3_passHour [.ref 67, .int s3] (mm L X I J)) (fun v m' => runI call iX10_live (66, [some (.ref 66), u1, u2, some (.int x3), some (.int x4), some (.int x5)], v.toList ++ [.int s1, .ref 66], m')) := by
  exact iv0 dX10_live_63 rfl cp_10_34 rfl rfl (kd_ka ka_67) ka_67.1 (Nat.le_of_ble_eq_true rfl)
theorem q_X10_live_66 {call : CALL} {L X : Nat} {I : Nat → Nat → Int32} {J : Nat → Nat → Int64} {u1 : Option Value} {u2 : Option Value} {x3 : Int32} {x4 : Int32} {x5 : Int32} {s1 : Int32} {s2 : Int32} : runI call iX10_live (66, [some (.ref 66), u1, u2, some (.int x3), some (.int x4), some (.int x5)], [.int s2, .int s1, .ref 66], (mm L X I J)) = runI call iX10_live (21, [some (.ref 66), u1, u2, some (.int x3), some (.int x4), some (.int (x5 + (1 : Int32)))], [], (mm L X (up2 I 66 3 (s1 + s2)) J)) := by
  refine Eq.trans (st1 dX10_live_66 rfl rfl) ?_
  refine Eq.trans (putIm dX10_live_67 cp_10_46 ka_66 rfl) ?_
  refine Eq.trans (xinc2 dX10_live_70 ci_1 rfl (Nat.le_of_ble_eq_true rfl) rfl) ?_
  refine Eq.trans (go_to (tgt := 21) dX10_live_73 (by decide +kernel)) ?_
  rfl
theorem q_X10_doDrawn_0 {call : CALL} {L X : Nat} {I : Nat → Nat → Int32} {J : Nat → Nat → Int64} {x1 : Int32} : runI call iX10_doDrawn (0, [some (.ref 66), some (.int x1), none], [], (mm L X I J)) = bnd (call nX10_drawn [.ref 66, .int (I 3 0)] (mm L X I J)) (fun v m' => runI call iX10_doDrawn (11, [some (.ref 66), some (.int x1), none], v.toList ++ [], m')) := by
  refine Eq.trans (st1 dX10_doDrawn_0 rfl rfl) ?_
  refine Eq.trans (st1 dX10_doDrawn_1 rfl rfl) ?_
  refine Eq.trans (getRm dX10_doDrawn_2 cp_10_16 ka_66 rfl r_66_0) ?_
  refine Eq.trans (getIm dX10_doDrawn_5 cp_10_49 ka_3 (.inl rfl)) ?_
  exact iv0 dX10_doDrawn_8 rfl cp_10_58 rfl rfl (kd_ka ka_66) ka_66.1 (Nat.le_of_ble_eq_true rfl)
theorem q_X10_doDrawn_11 {call : CALL} {L X : Nat} {I : Nat → Nat → Int32} {J : Nat → Nat → Int64} {x1 : Int32} {u2 : Option Value} {s0 : Int32} : runI call iX10_doDrawn (11, [some (.ref 66), some (.int x1), u2], [.int s0], (mm L X I J)) = bnd (call nX10_drawn [.ref 66, .int (4 : Int32)] (mm L X I J)) (fun v m' => runI call iX10_doDrawn (17, [some (.ref 66), some (.int x1), some (.int s0)], v.toList ++ [], m')) := by
  refine Eq.trans (st1 dX10_doDrawn_11 rfl rfl) ?_
  refine Eq.trans (st1 dX10_doDrawn_12 rfl rfl) ?_
  refine Eq.trans (xiconst dX10_doDrawn_13 ci_4) ?_
  exact iv0 dX10_doDrawn_14 rfl cp_10_58 rfl rfl (kd_ka ka_66) ka_66.1 (Nat.le_of_ble_eq_true rfl)
/- q_X10_doDrawn_17: a switch -/
theorem q_X10_drawn_0 {call : CALL} {L X : Nat} {I : Nat → Nat → Int32} {J : Nat → Nat → Int64} {x1 : Int32} : runI call iX10_drawn (0, [some (.ref 66), some (.int x1)], [], (mm L X I J)) = if x1 ≤ 0 then some (.inl (some (.int (0 : Int32))), (mm L X (up2 I 66 4 (((I 66 4) * (1103515245 : Int32)) + (12345 : Int32))) J)) else gd (nz x1) (some (.inl (some (.int ((((((up2 I 66 4 (((I 66 4) * (1103515245 : Int32)) + (12345 : Int32))) 66 4)).toUInt32 >>> (((16 : Int32)).toUInt32 &&& Int32.toUInt32 31)).toInt32 &&& (32767 : Int32)) - (((((up2 I 66 4 (((I 66 4) * (1103515245 : Int32)) + (12345 : Int32))) 66 4)).toUInt32 >>> (((16 : Int32)).toUInt32 &&& Int32.toUInt32 31)).toInt32 &&& (32767 : Int32)) / x1 * x1))), (mm L X (up2 I 66 4 (((I 66 4) * (1103515245 : Int32)) + (12345 : Int32))) J))) := by
  refine Eq.trans (st1 dX10_drawn_0 rfl rfl) ?_
  refine Eq.trans (st1 dX10_drawn_1 rfl rfl) ?_
  refine Eq.trans (getIm dX10_drawn_2 cp_10_42 ka_66 (.inl rfl)) ?_
  refine Eq.trans (xldc1 dX10_drawn_5 cp_10_79 cn_1103515245) ?_
  refine Eq.trans (st1 dX10_drawn_7 rfl rfl) ?_
  refine Eq.trans (xsipush dX10_drawn_8 cs_12345) ?_
  refine Eq.trans (st1 dX10_drawn_11 rfl rfl) ?_
  refine Eq.trans (putIm dX10_drawn_12 cp_10_42 ka_66 rfl) ?_
  refine Eq.trans (st1 dX10_drawn_15 rfl rfl) ?_
  refine Eq.trans (if_le (tgt := 35) dX10_drawn_16 (by decide +kernel)) (ite_cong (fun _ => ?_) (fun _ => ?_))
  · refine Eq.trans (xiconst dX10_drawn_35 ci_0) ?_
    exact ret0 dX10_drawn_36 rfl
  · refine Eq.trans (st1 dX10_drawn_19 rfl rfl) ?_
    refine Eq.trans (getIm dX10_drawn_20 cp_10_42 ka_66 (.inl rfl)) ?_
    refine Eq.trans (xbipush dX10_drawn_23 cb_16) ?_
    refine Eq.trans (st1 dX10_drawn_25 rfl rfl) ?_
    refine Eq.trans (xsipush dX10_drawn_26 cs_32767) ?_
    refine Eq.trans (st1 dX10_drawn_29 rfl rfl) ?_
    refine Eq.trans (st1 dX10_drawn_30 rfl rfl) ?_
    refine Eq.trans (irmg dX10_drawn_31) (gd_congr fun g1 => ?_)
    refine Eq.trans (go_to (tgt := 36) dX10_drawn_32 (by decide +kernel)) ?_
    exact ret0 dX10_drawn_36 rfl
theorem q_X11_feed_0 {call : CALL} {L X : Nat} {I : Nat → Nat → Int32} {J : Nat → Nat → Int64} {x1 : Int32} {x2 : Int32} {x3 : Int32} {x4 : Int32} {x5 : Int32} : runI call iX11_feed (0, [some (.ref 0), some (.int x1), some (.int x2), some (.int x3), some (.int x4), some (.int x5)], [], (mm L X I J)) = bnd (call nX7_hasRoom [.ref 1] (mm L X I J)) (fun v m' => runI call iX11_feed (7, [some (.ref 0), some (.int x1), some (.int x2), some (.int x3), some (.int x4), some (.int x5)], v.toList ++ [], m')) := by
  refine Eq.trans (st1 dX11_feed_0 rfl rfl) ?_
  refine Eq.trans (getRm dX11_feed_1 cp_11_10 ka_0 rfl r_0_0) ?_
  exact iv0 dX11_feed_4 rfl cp_11_109 rfl rfl (kd_ka ka_1) ka_1.1 (Nat.le_of_ble_eq_true rfl)
theorem q_X11_feed_7 {call : CALL} {L X : Nat} {I : Nat → Nat → Int32} {J : Nat → Nat → Int64} {x1 : Int32} {x2 : Int32} {x3 : Int32} {x4 : Int32} {x5 : Int32} {s0 : Int32} : runI call iX11_feed (7, [some (.ref 0), some (.int x1), some (.int x2), some (.int x3), some (.int x4), some (.int x5)], [.int s0], (mm L X I J)) = if s0 = 0 then some (.inl (some (.int (-1 : Int32))), (mm L X I J)) else bnd (call nX7_append [.ref 1, .int x1] (mm L X I J)) (fun v m' => runI call iX11_feed (20, [some (.ref 0), some (.int x1), some (.int x2), some (.int x3), some (.int x4), some (.int x5)], v.toList ++ [], m')) := by
  refine Eq.trans (if_ne (tgt := 12) dX11_feed_7 (by decide +kernel)) (ite_cong (fun _ => ?_) (fun _ => ?_))
  · refine Eq.trans (xiconst dX11_feed_10 ci_m1) ?_
    exact ret0 dX11_feed_11 rfl
  · refine Eq.trans (st1 dX11_feed_12 rfl rfl) ?_
    refine Eq.trans (getRm dX11_feed_13 cp_11_10 ka_0 rfl r_0_0) ?_
    refine Eq.trans (st1 dX11_feed_16 rfl rfl) ?_
    exact iv0 dX11_feed_17 rfl cp_11_113 rfl rfl (kd_ka ka_1) ka_1.1 (Nat.le_of_ble_eq_true rfl)
theorem q_X11_feed_20 {call : CALL} {L X : Nat} {I : Nat → Nat → Int32} {J : Nat → Nat → Int64} {u1 : Option Value} {x2 : Int32} {x3 : Int32} {x4 : Int32} {x5 : Int32} : runI call iX11_feed (20, [some (.ref 0), u1, some (.int x2), some (.int x3), some (.int x4), some (.int x5)], [], (mm L X I J)) = bnd (call nX7_append [.ref 1, .int x2] (mm L X I J)) (fun v m' => runI call iX11_feed (28, [some (.ref 0), u1, some (.int x2), some (.int x3), some (.int x4), some (.int x5)], v.toList ++ [], m')) := by
  refine Eq.trans (st1 dX11_feed_20 rfl rfl) ?_
  refine Eq.trans (getRm dX11_feed_21 cp_11_10 ka_0 rfl r_0_0) ?_
  refine Eq.trans (st1 dX11_feed_24 rfl rfl) ?_
  exact iv0 dX11_feed_25 rfl cp_11_113 rfl rfl (kd_ka ka_1) ka_1.1 (Nat.le_of_ble_eq_true rfl)
theorem q_X11_feed_28 {call : CALL} {L X : Nat} {I : Nat → Nat → Int32} {J : Nat → Nat → Int64} {u1 : Option Value} {u2 : Option Value} {x3 : Int32} {x4 : Int32} {x5 : Int32} : runI call iX11_feed (28, [some (.ref 0), u1, u2, some (.int x3), some (.int x4), some (.int x5)], [], (mm L X I J)) = bnd (call nX7_append [.ref 1, .int x3] (mm L X I J)) (fun v m' => runI call iX11_feed (36, [some (.ref 0), u1, u2, some (.int x3), some (.int x4), some (.int x5)], v.toList ++ [], m')) := by
  refine Eq.trans (st1 dX11_feed_28 rfl rfl) ?_
  refine Eq.trans (getRm dX11_feed_29 cp_11_10 ka_0 rfl r_0_0) ?_
  refine Eq.trans (st1 dX11_feed_32 rfl rfl) ?_
  exact iv0 dX11_feed_33 rfl cp_11_113 rfl rfl (kd_ka ka_1) ka_1.1 (Nat.le_of_ble_eq_true rfl)
theorem q_X11_feed_36 {call : CALL} {L X : Nat} {I : Nat → Nat → Int32} {J : Nat → Nat → Int64} {u1 : Option Value} {u2 : Option Value} {u3 : Option Value} {x4 : Int32} {x5 : Int32} : runI call iX11_feed (36, [some (.ref 0), u1, u2, u3, some (.int x4), some (.int x5)], [], (mm L X I J)) = bnd (call nX7_append [.ref 1, .int x4] (mm L X I J)) (fun v m' => runI call iX11_feed (45, [some (.ref 0), u1, u2, u3, some (.int x4), some (.int x5)], v.toList ++ [], m')) := by
  refine Eq.trans (st1 dX11_feed_36 rfl rfl) ?_
  refine Eq.trans (getRm dX11_feed_37 cp_11_10 ka_0 rfl r_0_0) ?_
  refine Eq.trans (st1 dX11_feed_40 rfl rfl) ?_
  exact iv0 dX11_feed_42 rfl cp_11_113 rfl rfl (kd_ka ka_1) ka_1.1 (Nat.le_of_ble_eq_true rfl)
theorem q_X11_feed_45 {call : CALL} {L X : Nat} {I : Nat → Nat → Int32} {J : Nat → Nat → Int64} {u1 : Option Value} {u2 : Option Value} {u3 : Option Value} {u4 : Option Value} {x5 : Int32} : runI call iX11_feed (45, [some (.ref 0), u1, u2, u3, u4, some (.int x5)], [], (mm L X I J)) = bnd (call nX7_append [.ref 1, .int x5] (mm L X I J)) (fun v m' => runI call iX11_feed (54, [some (.ref 0), u1, u2, u3, u4, some (.int x5)], v.toList ++ [], m')) := by
  refine Eq.trans (st1 dX11_feed_45 rfl rfl) ?_
  refine Eq.trans (getRm dX11_feed_46 cp_11_10 ka_0 rfl r_0_0) ?_
  refine Eq.trans (st1 dX11_feed_49 rfl rfl) ?_
  exact iv0 dX11_feed_51 rfl cp_11_113 rfl rfl (kd_ka ka_1) ka_1.1 (Nat.le_of_ble_eq_true rfl)
theorem q_X11_feed_54 {call : CALL} {L X : Nat} {I : Nat → Nat → Int32} {J : Nat → Nat → Int64} {u1 : Option Value} {u2 : Option Value} {u3 : Option Value} {u4 : Option Value} {u5 : Option Value} : runI call iX11_feed (54, [some (.ref 0), u1, u2, u3, u4, u5], [], (mm L X I J)) = some (.inl (some (.int (I 1 1))), (mm L X I J)) := by
  refine Eq.trans (st1 dX11_feed_54 rfl rfl) ?_
  refine Eq.trans (getRm dX11_feed_55 cp_11_10 ka_0 rfl r_0_0) ?_
  refine Eq.trans (getIm dX11_feed_58 cp_11_116 ka_1 (.inl rfl)) ?_
  exact ret0 dX11_feed_61 rfl
theorem q_X11_fault_0 {call : CALL} {L X : Nat} {I : Nat → Nat → Int32} {J : Nat → Nat → Int64}  : runI call iX11_fault (0, [some (.ref 0)], [], (mm L X I J)) = some (.inl (some (.int (I 1 3))), (mm L X I J)) := by
  refine Eq.trans (st1 dX11_fault_0 rfl rfl) ?_
  refine Eq.trans (getRm dX11_fault_1 cp_11_10 ka_0 rfl r_0_0) ?_
  refine Eq.trans (getIm dX11_fault_4 cp_11_180 ka_1 (.inl rfl)) ?_
  exact ret0 dX11_fault_7 rfl
theorem q_X11_undo_0 {call : CALL} {L X : Nat} {I : Nat → Nat → Int32} {J : Nat → Nat → Int64}  : runI call iX11_undo (0, [some (.ref 0)], [], (mm L X I J)) = if 0 < (I 48 3) then bnd (call nX4_pop [.ref 48, .ref 43] (mm L X I J)) (fun v m' => runI call iX11_undo (23, [some (.ref 0)], v.toList ++ [], m')) else some (.inl (some (.int (-1 : Int32))), (mm L X I J)) := by
  refine Eq.trans (st1 dX11_undo_0 rfl rfl) ?_
  refine Eq.trans (getRm dX11_undo_1 cp_11_63 ka_0 rfl r_0_9) ?_
  refine Eq.trans (getIm dX11_undo_4 cp_11_183 ka_48 (.inl rfl)) ?_
  refine Eq.trans (if_gt (tgt := 12) dX11_undo_7 (by decide +kernel)) (ite_cong (fun _ => ?_) (fun _ => ?_))
  · refine Eq.trans (st1 dX11_undo_12 rfl rfl) ?_
    refine Eq.trans (getRm dX11_undo_13 cp_11_63 ka_0 rfl r_0_9) ?_
    refine Eq.trans (st1 dX11_undo_16 rfl rfl) ?_
    refine Eq.trans (getRm dX11_undo_17 cp_11_56 ka_0 rfl r_0_8) ?_
    exact iv0 dX11_undo_20 rfl cp_11_186 rfl rfl (kd_ka ka_48) ka_48.1 (Nat.le_of_ble_eq_true rfl)
  · refine Eq.trans (xiconst dX11_undo_10 ci_m1) ?_
    exact ret0 dX11_undo_11 rfl
theorem q_X11_undo_23 {call : CALL} {L X : Nat} {I : Nat → Nat → Int32} {J : Nat → Nat → Int64}  : runI call iX11_undo (23, [some (.ref 0)], [], (mm L X I J)) = bnd (call nX5_forgetShort [.ref 56] (mm L X (up2 I 37 7 (0 : Int32)) J)) (fun v m' => runI call iX11_undo (38, [some (.ref 0)], v.toList ++ [], m')) := by
  refine Eq.trans (st1 dX11_undo_23 rfl rfl) ?_
  refine Eq.trans (getRm dX11_undo_24 cp_11_49 ka_0 rfl r_0_7) ?_
  refine Eq.trans (xiconst dX11_undo_27 ci_0) ?_
  refine Eq.trans (putIm dX11_undo_28 cp_11_143 ka_37 rfl) ?_
  refine Eq.trans (st1 dX11_undo_31 rfl rfl) ?_
  refine Eq.trans (getRm dX11_undo_32 cp_11_81 ka_0 rfl r_0_11) ?_
  exact iv0 dX11_undo_35 rfl cp_11_156 rfl rfl (kd_ka ka_56) ka_56.1 (Nat.le_of_ble_eq_true rfl)
theorem q_X11_undo_38 {call : CALL} {L X : Nat} {I : Nat → Nat → Int32} {J : Nat → Nat → Int64}  : runI call iX11_undo (38, [some (.ref 0)], [], (mm L X I J)) = some (.inl (some (.int (I 48 3))), (mm L X I J)) := by
  refine Eq.trans (st1 dX11_undo_38 rfl rfl) ?_
  refine Eq.trans (getRm dX11_undo_39 cp_11_63 ka_0 rfl r_0_9) ?_
  refine Eq.trans (getIm dX11_undo_42 cp_11_183 ka_48 (.inl rfl)) ?_
  exact ret0 dX11_undo_45 rfl
theorem q_X11_wed_0 {call : CALL} {L X : Nat} {I : Nat → Nat → Int32} {J : Nat → Nat → Int64}  : runI call iX11_wed (0, [some (.ref 0)], [], (mm L X I J)) = bnd (call nX5_mostPairs [.ref 56] (mm L X I J)) (fun v m' => runI call iX11_wed (7, [some (.ref 0)], v.toList ++ [], m')) := by
  refine Eq.trans (st1 dX11_wed_0 rfl rfl) ?_
  refine Eq.trans (getRm dX11_wed_1 cp_11_81 ka_0 rfl r_0_11) ?_
  exact iv0 dX11_wed_4 rfl cp_11_370 rfl rfl (kd_ka ka_56) ka_56.1 (Nat.le_of_ble_eq_true rfl)
theorem q_X11_wed_7 {call : CALL} {L X : Nat} {I : Nat → Nat → Int32} {J : Nat → Nat → Int64} {u0 : Option Value} {s0 : Int32} : runI call iX11_wed (7, [u0], [.int s0], (mm L X I J)) = some (.inl (some (.int s0)), (mm L X I J)) := by
  exact ret0 dX11_wed_7 rfl
theorem q_X11_bit_0 {call : CALL} {L X : Nat} {I : Nat → Nat → Int32} {J : Nat → Nat → Int64} {x0 : Int32} {x1 : Int32} : runI call iX11_bit (0, [some (.int x0), some (.int x1)], [], (mm L X I J)) = some (.inl (some (.int ((x0 >>> (x1 &&& 31)) &&& (1 : Int32)))), (mm L X I J)) := by
  refine Eq.trans (st1 dX11_bit_0 rfl rfl) ?_
  refine Eq.trans (st1 dX11_bit_1 rfl rfl) ?_
  refine Eq.trans (st1 dX11_bit_2 rfl rfl) ?_
  refine Eq.trans (xiconst dX11_bit_3 ci_1) ?_
  refine Eq.trans (st1 dX11_bit_4 rfl rfl) ?_
  exact ret0 dX11_bit_5 rfl
theorem q_X11_pick_0 {call : CALL} {L X : Nat} {I : Nat → Nat → Int32} {J : Nat → Nat → Int64} {r0 : Nat} {n0 : Nat} {x1 : Int32} (k0 : ka r0 1 n0) : runI call iX11_pick (0, [some (.ref r0), some (.int x1)], [], (mm L X I J)) = if x1 < 0 then some (.inl (some (.int (0 : Int32))), (mm L X I J)) else if (Int32.ofNat n0) ≤ x1 then some (.inl (some (.int (0 : Int32))), (mm L X I J)) else gd (inb x1 n0) (some (.inl (some (.int (I r0 (x1).toNatClampNeg))), (mm L X I J))) := by
  refine Eq.trans (st1 dX11_pick_0 rfl rfl) ?_
  refine Eq.trans (if_lt (tgt := 16) dX11_pick_1 (by decide +kernel)) (ite_cong (fun _ => ?_) (fun _ => ?_))
  · refine Eq.trans (xiconst dX11_pick_16 ci_0) ?_
    exact ret0 dX11_pick_17 rfl
  · refine Eq.trans (st1 dX11_pick_4 rfl rfl) ?_
    refine Eq.trans (st1 dX11_pick_5 rfl rfl) ?_
    refine Eq.trans (alen dX11_pick_6 (kd_ka k0) (.inl ⟨k0.1, by decide⟩)) ?_
    refine Eq.trans (ic_ge (tgt := 16) dX11_pick_7 (by decide +kernel)) (ite_cong (fun _ => ?_) (fun _ => ?_))
    · refine Eq.trans (xiconst dX11_pick_16 ci_0) ?_
      exact ret0 dX11_pick_17 rfl
    · refine Eq.trans (st1 dX11_pick_10 rfl rfl) ?_
      refine Eq.trans (st1 dX11_pick_11 rfl rfl) ?_
      refine Eq.trans (al1m dX11_pick_12 k0) (gd_congr fun g1 => ?_)
      refine Eq.trans (go_to (tgt := 17) dX11_pick_13 (by decide +kernel)) ?_
      exact ret0 dX11_pick_17 rfl
theorem q_X11_image_0 {call : CALL} {L X : Nat} {I : Nat → Nat → Int32} {J : Nat → Nat → Int64}  : runI call iX11_image (0, [some (.ref 0)], [], (mm L X I J)) = bnd (call nX4_canKeep [.ref 48] (mm L X I J)) (fun v m' => runI call iX11_image (7, [some (.ref 0)], v.toList ++ [], m')) := by
  refine Eq.trans (st1 dX11_image_0 rfl rfl) ?_
  refine Eq.trans (getRm dX11_image_1 cp_11_63 ka_0 rfl r_0_9) ?_
  exact iv0 dX11_image_4 rfl cp_11_422 rfl rfl (kd_ka ka_48) ka_48.1 (Nat.le_of_ble_eq_true rfl)
theorem q_X11_image_7 {call : CALL} {L X : Nat} {I : Nat → Nat → Int32} {J : Nat → Nat → Int64} {s0 : Int32} : runI call iX11_image (7, [some (.ref 0)], [.int s0], (mm L X I J)) = if s0 = 0 then some (.inl (some (.int (-1 : Int32))), (mm L X I J)) else bnd (call nX4_keep [.ref 48, .ref 43] (mm L X I J)) (fun v m' => runI call iX11_image (23, [some (.ref 0)], v.toList ++ [], m')) := by
  refine Eq.trans (if_ne (tgt := 12) dX11_image_7 (by decide +kernel)) (ite_cong (fun _ => ?_) (fun _ => ?_))
  · refine Eq.trans (xiconst dX11_image_10 ci_m1) ?_
    exact ret0 dX11_image_11 rfl
  · refine Eq.trans (st1 dX11_image_12 rfl rfl) ?_
    refine Eq.trans (getRm dX11_image_13 cp_11_63 ka_0 rfl r_0_9) ?_
    refine Eq.trans (st1 dX11_image_16 rfl rfl) ?_
    refine Eq.trans (getRm dX11_image_17 cp_11_56 ka_0 rfl r_0_8) ?_
    exact iv0 dX11_image_20 rfl cp_11_425 rfl rfl (kd_ka ka_48) ka_48.1 (Nat.le_of_ble_eq_true rfl)
theorem q_X11_image_23 {call : CALL} {L X : Nat} {I : Nat → Nat → Int32} {J : Nat → Nat → Int64}  : runI call iX11_image (23, [some (.ref 0)], [], (mm L X I J)) = some (.inl (some (.int (I 48 4))), (mm L X I J)) := by
  refine Eq.trans (st1 dX11_image_23 rfl rfl) ?_
  refine Eq.trans (getRm dX11_image_24 cp_11_63 ka_0 rfl r_0_9) ?_
  refine Eq.trans (getIm dX11_image_27 cp_11_428 ka_48 (.inl rfl)) ?_
  exact ret0 dX11_image_30 rfl
theorem q_X11_restore_0 {call : CALL} {L X : Nat} {I : Nat → Nat → Int32} {J : Nat → Nat → Int64}  : runI call iX11_restore (0, [some (.ref 0)], [], (mm L X I J)) = if 0 < (I 48 4) then bnd (call nX4_bringBack [.ref 48, .ref 43] (mm L X I J)) (fun v m' => runI call iX11_restore (23, [some (.ref 0)], v.toList ++ [], m')) else some (.inl (some (.int (-1 : Int32))), (mm L X I J)) := by
  refine Eq.trans (st1 dX11_restore_0 rfl rfl) ?_
  refine Eq.trans (getRm dX11_restore_1 cp_11_63 ka_0 rfl r_0_9) ?_
  refine Eq.trans (getIm dX11_restore_4 cp_11_428 ka_48 (.inl rfl)) ?_
  refine Eq.trans (if_gt (tgt := 12) dX11_restore_7 (by decide +kernel)) (ite_cong (fun _ => ?_) (fun _ => ?_))
  · refine Eq.trans (st1 dX11_restore_12 rfl rfl) ?_
    refine Eq.trans (getRm dX11_restore_13 cp_11_63 ka_0 rfl r_0_9) ?_
    refine Eq.trans (st1 dX11_restore_16 rfl rfl) ?_
    refine Eq.trans (getRm dX11_restore_17 cp_11_56 ka_0 rfl r_0_8) ?_
    exact iv0 dX11_restore_20 rfl cp_11_431 rfl rfl (kd_ka ka_48) ka_48.1 (Nat.le_of_ble_eq_true rfl)
  · refine Eq.trans (xiconst dX11_restore_10 ci_m1) ?_
    exact ret0 dX11_restore_11 rfl
theorem q_X11_restore_23 {call : CALL} {L X : Nat} {I : Nat → Nat → Int32} {J : Nat → Nat → Int64}  : runI call iX11_restore (23, [some (.ref 0)], [], (mm L X I J)) = bnd (call nX5_forgetShort [.ref 56] (mm L X (up2 I 37 7 (0 : Int32)) J)) (fun v m' => runI call iX11_restore (38, [some (.ref 0)], v.toList ++ [], m')) := by
  refine Eq.trans (st1 dX11_restore_23 rfl rfl) ?_
  refine Eq.trans (getRm dX11_restore_24 cp_11_49 ka_0 rfl r_0_7) ?_
  refine Eq.trans (xiconst dX11_restore_27 ci_0) ?_
  refine Eq.trans (putIm dX11_restore_28 cp_11_143 ka_37 rfl) ?_
  refine Eq.trans (st1 dX11_restore_31 rfl rfl) ?_
  refine Eq.trans (getRm dX11_restore_32 cp_11_81 ka_0 rfl r_0_11) ?_
  exact iv0 dX11_restore_35 rfl cp_11_156 rfl rfl (kd_ka ka_56) ka_56.1 (Nat.le_of_ble_eq_true rfl)
theorem q_X11_restore_38 {call : CALL} {L X : Nat} {I : Nat → Nat → Int32} {J : Nat → Nat → Int64}  : runI call iX11_restore (38, [some (.ref 0)], [], (mm L X I J)) = some (.inl (some (.int (I 48 4))), (mm L X I J)) := by
  refine Eq.trans (st1 dX11_restore_38 rfl rfl) ?_
  refine Eq.trans (getRm dX11_restore_39 cp_11_63 ka_0 rfl r_0_9) ?_
  refine Eq.trans (getIm dX11_restore_42 cp_11_428 ka_48 (.inl rfl)) ?_
  exact ret0 dX11_restore_45 rfl
theorem q_X11_status_0 {call : CALL} {L X : Nat} {I : Nat → Nat → Int32} {J : Nat → Nat → Int64} {x1 : Int32} : runI call iX11_status (0, [some (.ref 0), some (.int x1)], [], (mm L X I J)) = if x1 = 0 then some (.inl (some (.int (I 0 14))), (mm L X I J)) else if x1 = (1 : Int32) then some (.inl (some (.int (I 0 15))), (mm L X I J)) else some (.inl (some (.int (-1 : Int32))), (mm L X I J)) := by
  refine Eq.trans (st1 dX11_status_0 rfl rfl) ?_
  refine Eq.trans (if_ne (tgt := 11) dX11_status_1 (by decide +kernel)) (ite_cong (fun _ => ?_) (fun _ => ?_))
  · refine Eq.trans (st1 dX11_status_4 rfl rfl) ?_
    refine Eq.trans (getIm dX11_status_5 cp_11_434 ka_0 (.inl rfl)) ?_
    refine Eq.trans (go_to (tgt := 24) dX11_status_8 (by decide +kernel)) ?_
    exact ret0 dX11_status_24 rfl
  · refine Eq.trans (st1 dX11_status_11 rfl rfl) ?_
    refine Eq.trans (xiconst dX11_status_12 ci_1) ?_
    refine Eq.trans (ic_ne (tgt := 23) dX11_status_13 (by decide +kernel)) (ite_cong (fun _ => ?_) (fun _ => ?_))
    · refine Eq.trans (st1 dX11_status_16 rfl rfl) ?_
      refine Eq.trans (getIm dX11_status_17 cp_11_437 ka_0 (.inl rfl)) ?_
      refine Eq.trans (go_to (tgt := 24) dX11_status_20 (by decide +kernel)) ?_
      exact ret0 dX11_status_24 rfl
    · refine Eq.trans (xiconst dX11_status_23 ci_m1) ?_
      exact ret0 dX11_status_24 rfl
theorem q_X11_count_0 {call : CALL} {L X : Nat} {I : Nat → Nat → Int32} {J : Nat → Nat → Int64} {x1 : Int32} : runI call iX11_count (0, [some (.ref 0), some (.int x1)], [], (mm L X I J)) = runI call iX11_count (1, [some (.ref 0), some (.int x1)], [.int x1], (mm L X I J)) := by
  refine Eq.trans (st1 dX11_count_0 rfl rfl) ?_
  rfl
/- q_X11_count_1: a switch -/
theorem q_X11_house_0 {call : CALL} {L X : Nat} {I : Nat → Nat → Int32} {J : Nat → Nat → Int64} {x1 : Int32} : runI call iX11_house (0, [some (.ref 0), some (.int x1)], [], (mm L X I J)) = bnd (call nX11_open [.ref 0, .int x1, .int (600 : Int32)] (mm L X I J)) (fun v m' => runI call iX11_house (8, [some (.ref 0), some (.int x1)], v.toList ++ [], m')) := by
  refine Eq.trans (st1 dX11_house_0 rfl rfl) ?_
  refine Eq.trans (st1 dX11_house_1 rfl rfl) ?_
  refine Eq.trans (xsipush dX11_house_2 cs_600) ?_
  exact iv0 dX11_house_5 rfl cp_11_119 rfl rfl (kd_ka ka_0) ka_0.1 (Nat.le_of_ble_eq_true rfl)
theorem q_X11_house_8 {call : CALL} {L X : Nat} {I : Nat → Nat → Int32} {J : Nat → Nat → Int64} {u1 : Option Value} : runI call iX11_house (8, [some (.ref 0), u1], [], (mm L X I J)) = bnd (call nX1_readFrom [.ref 13, .ref 1] (mm L X I J)) (fun v m' => runI call iX11_house (19, [some (.ref 0), u1], v.toList ++ [], m')) := by
  refine Eq.trans (st1 dX11_house_8 rfl rfl) ?_
  refine Eq.trans (getRm dX11_house_9 cp_11_23 ka_0 rfl r_0_2) ?_
  refine Eq.trans (st1 dX11_house_12 rfl rfl) ?_
  refine Eq.trans (getRm dX11_house_13 cp_11_10 ka_0 rfl r_0_0) ?_
  exact iv0 dX11_house_16 rfl cp_11_123 rfl rfl (kd_ka ka_13) ka_13.1 (Nat.le_of_ble_eq_true rfl)
theorem q_X11_house_19 {call : CALL} {L X : Nat} {I : Nat → Nat → Int32} {J : Nat → Nat → Int64} {u1 : Option Value} {s0 : Int32} : runI call iX11_house (19, [some (.ref 0), u1], [.int s0], (mm L X I J)) = if s0 = 0 then some (.inl (some (.int ((I 1 2) - (10 : Int32)))), (mm L X I J)) else bnd (call nX1_become [.ref 3, .ref 13] (mm L X I J)) (fun v m' => runI call iX11_house (44, [some (.ref 0), u1], v.toList ++ [], m')) := by
  refine Eq.trans (if_ne (tgt := 33) dX11_house_19 (by decide +kernel)) (ite_cong (fun _ => ?_) (fun _ => ?_))
  · refine Eq.trans (st1 dX11_house_22 rfl rfl) ?_
    refine Eq.trans (getRm dX11_house_23 cp_11_10 ka_0 rfl r_0_0) ?_
    refine Eq.trans (getIm dX11_house_26 cp_11_127 ka_1 (.inl rfl)) ?_
    refine Eq.trans (xbipush dX11_house_29 cb_10) ?_
    refine Eq.trans (st1 dX11_house_31 rfl rfl) ?_
    exact ret0 dX11_house_32 rfl
  · refine Eq.trans (st1 dX11_house_33 rfl rfl) ?_
    refine Eq.trans (getRm dX11_house_34 cp_11_19 ka_0 rfl r_0_1) ?_
    refine Eq.trans (st1 dX11_house_37 rfl rfl) ?_
    refine Eq.trans (getRm dX11_house_38 cp_11_23 ka_0 rfl r_0_2) ?_
    exact iv0 dX11_house_41 rfl cp_11_130 rfl rfl (kd_ka ka_3) ka_3.1 (Nat.le_of_ble_eq_true rfl)
theorem q_X11_house_44 {call : CALL} {L X : Nat} {I : Nat → Nat → Int32} {J : Nat → Nat → Int64} {u1 : Option Value} : runI call iX11_house (44, [some (.ref 0), u1], [], (mm L X I J)) = bnd (call nX2_beUntold [.ref 23] (mm L X I J)) (fun v m' => runI call iX11_house (51, [some (.ref 0), u1], v.toList ++ [], m')) := by
  refine Eq.trans (st1 dX11_house_44 rfl rfl) ?_
  refine Eq.trans (getRm dX11_house_45 cp_11_29 ka_0 rfl r_0_3) ?_
  exact iv0 dX11_house_48 rfl cp_11_134 rfl rfl (kd_ka ka_23) ka_23.1 (Nat.le_of_ble_eq_true rfl)
theorem q_X11_house_51 {call : CALL} {L X : Nat} {I : Nat → Nat → Int32} {J : Nat → Nat → Int64} {u1 : Option Value} : runI call iX11_house (51, [some (.ref 0), u1], [], (mm L X I J)) = bnd (call nX0_clear [.ref 31] (mm L X I J)) (fun v m' => runI call iX11_house (58, [some (.ref 0), u1], v.toList ++ [], m')) := by
  refine Eq.trans (st1 dX11_house_51 rfl rfl) ?_
  refine Eq.trans (getRm dX11_house_52 cp_11_39 ka_0 rfl r_0_5) ?_
  exact iv0 dX11_house_55 rfl cp_11_137 rfl rfl (kd_ka ka_31) ka_31.1 (Nat.le_of_ble_eq_true rfl)
theorem q_X11_house_58 {call : CALL} {L X : Nat} {I : Nat → Nat → Int32} {J : Nat → Nat → Int64} {u1 : Option Value} : runI call iX11_house (58, [some (.ref 0), u1], [], (mm L X I J)) = bnd (call nX4_forget [.ref 48] (mm L X I J)) (fun v m' => runI call iX11_house (65, [some (.ref 0), u1], v.toList ++ [], m')) := by
  refine Eq.trans (st1 dX11_house_58 rfl rfl) ?_
  refine Eq.trans (getRm dX11_house_59 cp_11_63 ka_0 rfl r_0_9) ?_
  exact iv0 dX11_house_62 rfl cp_11_140 rfl rfl (kd_ka ka_48) ka_48.1 (Nat.le_of_ble_eq_true rfl)
theorem q_X11_house_65 {call : CALL} {L X : Nat} {I : Nat → Nat → Int32} {J : Nat → Nat → Int64} {u1 : Option Value} : runI call iX11_house (65, [some (.ref 0), u1], [], (mm L X I J)) = bnd (call nX3_begin [.ref 43, .int (I 3 3)] (mm L X I J)) (fun v m' => runI call iX11_house (79, [some (.ref 0), u1], v.toList ++ [], m')) := by
  refine Eq.trans (st1 dX11_house_65 rfl rfl) ?_
  refine Eq.trans (getRm dX11_house_66 cp_11_56 ka_0 rfl r_0_8) ?_
  refine Eq.trans (st1 dX11_house_69 rfl rfl) ?_
  refine Eq.trans (getRm dX11_house_70 cp_11_19 ka_0 rfl r_0_1) ?_
  refine Eq.trans (getIm dX11_house_73 cp_11_101 ka_3 (.inl rfl)) ?_
  exact iv0 dX11_house_76 rfl cp_11_105 rfl rfl (kd_ka ka_43) ka_43.1 (Nat.le_of_ble_eq_true rfl)
theorem q_X11_house_79 {call : CALL} {L X : Nat} {I : Nat → Nat → Int32} {J : Nat → Nat → Int64} {u1 : Option Value} : runI call iX11_house (79, [some (.ref 0), u1], [], (mm L X I J)) = bnd (call nX5_forgetHouse [.ref 56] (mm L X (up2 I 37 7 (0 : Int32)) J)) (fun v m' => runI call iX11_house (94, [some (.ref 0), u1], v.toList ++ [], m')) := by
  refine Eq.trans (st1 dX11_house_79 rfl rfl) ?_
  refine Eq.trans (getRm dX11_house_80 cp_11_49 ka_0 rfl r_0_7) ?_
  refine Eq.trans (xiconst dX11_house_83 ci_0) ?_
  refine Eq.trans (putIm dX11_house_84 cp_11_143 ka_37 rfl) ?_
  refine Eq.trans (st1 dX11_house_87 rfl rfl) ?_
  refine Eq.trans (getRm dX11_house_88 cp_11_81 ka_0 rfl r_0_11) ?_
  exact iv0 dX11_house_91 rfl cp_11_146 rfl rfl (kd_ka ka_56) ka_56.1 (Nat.le_of_ble_eq_true rfl)
theorem q_X11_house_94 {call : CALL} {L X : Nat} {I : Nat → Nat → Int32} {J : Nat → Nat → Int64} {u1 : Option Value} : runI call iX11_house (94, [some (.ref 0), u1], [], (mm L X I J)) = some (.inl (some (.int (I 3 0))), (mm L X I J)) := by
  refine Eq.trans (st1 dX11_house_94 rfl rfl) ?_
  refine Eq.trans (getRm dX11_house_95 cp_11_19 ka_0 rfl r_0_1) ?_
  refine Eq.trans (getIm dX11_house_98 cp_11_149 ka_3 (.inl rfl)) ?_
  exact ret0 dX11_house_101 rfl
theorem q_X11_open_0 {call : CALL} {L X : Nat} {I : Nat → Nat → Int32} {J : Nat → Nat → Int64} {x1 : Int32} {x2 : Int32} : runI call iX11_open (0, [some (.ref 0), some (.int x1), some (.int x2)], [], (mm L X I J)) = if x1 < 0 then runI call iX11_open (25, [some (.ref 0), some (.int x1), some (.int x2)], [.ref 0], (mm L X I J)) else if x2 < x1 then runI call iX11_open (25, [some (.ref 0), some (.int x1), some (.int x2)], [.ref 0], (mm L X I J)) else if (I 1 1) < x1 then runI call iX11_open (25, [some (.ref 0), some (.int x1), some (.int x2)], [.ref 0], (mm L X I J)) else runI call iX11_open (26, [some (.ref 0), some (.int x1), some (.int x2)], [.int (1 : Int32), .ref 0], (mm L X I J)) := by
  refine Eq.trans (st1 dX11_open_0 rfl rfl) ?_
  refine Eq.trans (st1 dX11_open_1 rfl rfl) ?_
  refine Eq.trans (if_lt (tgt := 25) dX11_open_2 (by decide +kernel)) (ite_cong (fun _ => ?_) (fun _ => ?_))
  · rfl
  · refine Eq.trans (st1 dX11_open_5 rfl rfl) ?_
    refine Eq.trans (st1 dX11_open_6 rfl rfl) ?_
    refine Eq.trans (ic_gt (tgt := 25) dX11_open_7 (by decide +kernel)) (ite_cong (fun _ => ?_) (fun _ => ?_))
    · rfl
    · refine Eq.trans (st1 dX11_open_10 rfl rfl) ?_
      refine Eq.trans (st1 dX11_open_11 rfl rfl) ?_
      refine Eq.trans (getRm dX11_open_12 cp_11_10 ka_0 rfl r_0_0) ?_
      refine Eq.trans (getIm dX11_open_15 cp_11_116 ka_1 (.inl rfl)) ?_
      refine Eq.trans (ic_gt (tgt := 25) dX11_open_18 (by decide +kernel)) (ite_cong (fun _ => ?_) (fun _ => ?_))
      · rfl
      · refine Eq.trans (xiconst dX11_open_21 ci_1) ?_
        refine Eq.trans (go_to (tgt := 26) dX11_open_22 (by decide +kernel)) ?_
        rfl
theorem q_X11_open_25 {call : CALL} {L X : Nat} {I : Nat → Nat → Int32} {J : Nat → Nat → Int64} {x1 : Int32} {u2 : Option Value} : runI call iX11_open (25, [some (.ref 0), some (.int x1), u2], [.ref 0], (mm L X I J)) = runI call iX11_open (26, [some (.ref 0), some (.int x1), u2], [.int (0 : Int32), .ref 0], (mm L X I J)) := by
  refine Eq.trans (xiconst dX11_open_25 ci_0) ?_
  rfl
theorem q_X11_open_26 {call : CALL} {L X : Nat} {I : Nat → Nat → Int32} {J : Nat → Nat → Int64} {x1 : Int32} {u2 : Option Value} {s1 : Int32} : runI call iX11_open (26, [some (.ref 0), some (.int x1), u2], [.int s1, .ref 0], (mm L X I J)) = bnd (call nX11_expect [.ref 0, .int s1] (mm L X I J)) (fun v m' => runI call iX11_open (29, [some (.ref 0), some (.int x1), u2], v.toList ++ [], m')) := by
  exact iv0 dX11_open_26 rfl cp_11_193 rfl rfl (kd_ka ka_0) ka_0.1 (Nat.le_of_ble_eq_true rfl)
theorem q_X11_open_29 {call : CALL} {L X : Nat} {I : Nat → Nat → Int32} {J : Nat → Nat → Int64} {x1 : Int32} {u2 : Option Value} : runI call iX11_open (29, [some (.ref 0), some (.int x1), u2], [], (mm L X I J)) = bnd (call nX7_begin [.ref 1, .int x1] (mm L X I J)) (fun v m' => runI call iX11_open (37, [some (.ref 0), some (.int x1), u2], v.toList ++ [], m')) := by
  refine Eq.trans (st1 dX11_open_29 rfl rfl) ?_
  refine Eq.trans (getRm dX11_open_30 cp_11_10 ka_0 rfl r_0_0) ?_
  refine Eq.trans (st1 dX11_open_33 rfl rfl) ?_
  exact iv0 dX11_open_34 rfl cp_11_440 rfl rfl (kd_ka ka_1) ka_1.1 (Nat.le_of_ble_eq_true rfl)
theorem q_X11_open_37 {call : CALL} {L X : Nat} {I : Nat → Nat → Int32} {J : Nat → Nat → Int64} {u0 : Option Value} {u1 : Option Value} {u2 : Option Value} : runI call iX11_open (37, [u0, u1, u2], [], (mm L X I J)) = some (.inl none, (mm L X I J)) := by
  exact ret3 dX11_open_37 (.inl rfl)
theorem q_X11_expect_0 {call : CALL} {L X : Nat} {I : Nat → Nat → Int32} {J : Nat → Nat → Int64} {x1 : Int32} : runI call iX11_expect (0, [some (.ref 0), some (.int x1)], [], (mm L X I J)) = if x1 = 0 then some (.inr 1, mm L (X + 1) (up2 I 0 15 ((I 0 15) + (1 : Int32))) J) else some (.inl none, (mm L X I J)) := by
  refine Eq.trans (st1 dX11_expect_0 rfl rfl) ?_
  refine Eq.trans (if_ne (tgt := 25) dX11_expect_1 (by decide +kernel)) (ite_cong (fun _ => ?_) (fun _ => ?_))
  · refine Eq.trans (st1 dX11_expect_4 rfl rfl) ?_
    refine Eq.trans (st1 dX11_expect_5 rfl rfl) ?_
    refine Eq.trans (getIm dX11_expect_6 cp_11_437 ka_0 (.inl rfl)) ?_
    refine Eq.trans (xiconst dX11_expect_9 ci_1) ?_
    refine Eq.trans (st1 dX11_expect_10 rfl rfl) ?_
    refine Eq.trans (putIm dX11_expect_11 cp_11_437 ka_0 rfl) ?_
    exact ithr dX11_expect_14 cp_11_441 rfl dX11_expect_17 dX11_expect_18 dX11_expect_21 dX11_expect_24 rfl
  · exact ret3 dX11_expect_25 (.inl rfl)
theorem q_X11_within_0 {call : CALL} {L X : Nat} {I : Nat → Nat → Int32} {J : Nat → Nat → Int64} {x0 : Int32} {x1 : Int32} {x2 : Int32} : runI call iX11_within (0, [some (.int x0), some (.int x1), some (.int x2)], [], (mm L X I J)) = if x0 < x1 then some (.inl (some (.int (0 : Int32))), (mm L X I J)) else if x2 < x0 then some (.inl (some (.int (0 : Int32))), (mm L X I J)) else some (.inl (some (.int (1 : Int32))), (mm L X I J)) := by
  refine Eq.trans (st1 dX11_within_0 rfl rfl) ?_
  refine Eq.trans (st1 dX11_within_1 rfl rfl) ?_
  refine Eq.trans (ic_lt (tgt := 14) dX11_within_2 (by decide +kernel)) (ite_cong (fun _ => ?_) (fun _ => ?_))
  · refine Eq.trans (xiconst dX11_within_14 ci_0) ?_
    exact ret1 dX11_within_15 rfl (.inl rfl)
  · refine Eq.trans (st1 dX11_within_5 rfl rfl) ?_
    refine Eq.trans (st1 dX11_within_6 rfl rfl) ?_
    refine Eq.trans (ic_gt (tgt := 14) dX11_within_7 (by decide +kernel)) (ite_cong (fun _ => ?_) (fun _ => ?_))
    · refine Eq.trans (xiconst dX11_within_14 ci_0) ?_
      exact ret1 dX11_within_15 rfl (.inl rfl)
    · refine Eq.trans (xiconst dX11_within_10 ci_1) ?_
      refine Eq.trans (go_to (tgt := 15) dX11_within_11 (by decide +kernel)) ?_
      exact ret1 dX11_within_15 rfl (.inr rfl)
theorem q_X11_put_0 {call : CALL} {L X : Nat} {I : Nat → Nat → Int32} {J : Nat → Nat → Int64} {r0 : Nat} {n0 : Nat} {x1 : Int32} {x2 : Int32} (k0 : ka r0 1 n0) : runI call iX11_put (0, [some (.ref r0), some (.int x1), some (.int x2)], [], (mm L X I J)) = if x1 < 0 then some (.inl none, (mm L X I J)) else if (Int32.ofNat n0) ≤ x1 then some (.inl none, (mm L X I J)) else gd (inb x1 n0) (some (.inl none, (mm L X (up2 I r0 (x1).toNatClampNeg x2) J))) := by
  refine Eq.trans (st1 dX11_put_0 rfl rfl) ?_
  refine Eq.trans (if_lt (tgt := 14) dX11_put_1 (by decide +kernel)) (ite_cong (fun _ => ?_) (fun _ => ?_))
  · exact ret3 dX11_put_14 (.inl rfl)
  · refine Eq.trans (st1 dX11_put_4 rfl rfl) ?_
    refine Eq.trans (st1 dX11_put_5 rfl rfl) ?_
    refine Eq.trans (alen dX11_put_6 (kd_ka k0) (.inl ⟨k0.1, by decide⟩)) ?_
    refine Eq.trans (ic_ge (tgt := 14) dX11_put_7 (by decide +kernel)) (ite_cong (fun _ => ?_) (fun _ => ?_))
    · exact ret3 dX11_put_14 (.inl rfl)
    · refine Eq.trans (st1 dX11_put_10 rfl rfl) ?_
      refine Eq.trans (st1 dX11_put_11 rfl rfl) ?_
      refine Eq.trans (st1 dX11_put_12 rfl rfl) ?_
      refine Eq.trans (as1m dX11_put_13 k0) (gd_congr fun g1 => ?_)
      exact ret3 dX11_put_14 (.inl rfl)
theorem q_X11_law_0 {call : CALL} {L X : Nat} {I : Nat → Nat → Int32} {J : Nat → Nat → Int64} {x1 : Int32} : runI call iX11_law (0, [some (.ref 0), some (.int x1)], [], (mm L X I J)) = bnd (call nX11_open [.ref 0, .int x1, .int (150 : Int32)] (mm L X I J)) (fun v m' => runI call iX11_law (8, [some (.ref 0), some (.int x1)], v.toList ++ [], m')) := by
  refine Eq.trans (st1 dX11_law_0 rfl rfl) ?_
  refine Eq.trans (st1 dX11_law_1 rfl rfl) ?_
  refine Eq.trans (xsipush dX11_law_2 cs_150) ?_
  exact iv0 dX11_law_5 rfl cp_11_119 rfl rfl (kd_ka ka_0) ka_0.1 (Nat.le_of_ble_eq_true rfl)
theorem q_X11_law_8 {call : CALL} {L X : Nat} {I : Nat → Nat → Int32} {J : Nat → Nat → Int64} {u1 : Option Value} : runI call iX11_law (8, [some (.ref 0), u1], [], (mm L X I J)) = bnd (call nX2_readFrom [.ref 27, .ref 1] (mm L X I J)) (fun v m' => runI call iX11_law (19, [some (.ref 0), u1], v.toList ++ [], m')) := by
  refine Eq.trans (st1 dX11_law_8 rfl rfl) ?_
  refine Eq.trans (getRm dX11_law_9 cp_11_33 ka_0 rfl r_0_4) ?_
  refine Eq.trans (st1 dX11_law_12 rfl rfl) ?_
  refine Eq.trans (getRm dX11_law_13 cp_11_10 ka_0 rfl r_0_0) ?_
  exact iv0 dX11_law_16 rfl cp_11_152 rfl rfl (kd_ka ka_27) ka_27.1 (Nat.le_of_ble_eq_true rfl)
theorem q_X11_law_19 {call : CALL} {L X : Nat} {I : Nat → Nat → Int32} {J : Nat → Nat → Int64} {u1 : Option Value} {s0 : Int32} : runI call iX11_law (19, [some (.ref 0), u1], [.int s0], (mm L X I J)) = if s0 = 0 then some (.inl (some (.int ((I 1 2) - (10 : Int32)))), (mm L X I J)) else bnd (call nX2_become [.ref 23, .ref 27] (mm L X I J)) (fun v m' => runI call iX11_law (44, [some (.ref 0), u1], v.toList ++ [], m')) := by
  refine Eq.trans (if_ne (tgt := 33) dX11_law_19 (by decide +kernel)) (ite_cong (fun _ => ?_) (fun _ => ?_))
  · refine Eq.trans (st1 dX11_law_22 rfl rfl) ?_
    refine Eq.trans (getRm dX11_law_23 cp_11_10 ka_0 rfl r_0_0) ?_
    refine Eq.trans (getIm dX11_law_26 cp_11_127 ka_1 (.inl rfl)) ?_
    refine Eq.trans (xbipush dX11_law_29 cb_10) ?_
    refine Eq.trans (st1 dX11_law_31 rfl rfl) ?_
    exact ret0 dX11_law_32 rfl
  · refine Eq.trans (st1 dX11_law_33 rfl rfl) ?_
    refine Eq.trans (getRm dX11_law_34 cp_11_29 ka_0 rfl r_0_3) ?_
    refine Eq.trans (st1 dX11_law_37 rfl rfl) ?_
    refine Eq.trans (getRm dX11_law_38 cp_11_33 ka_0 rfl r_0_4) ?_
    exact iv0 dX11_law_41 rfl cp_11_153 rfl rfl (kd_ka ka_23) ka_23.1 (Nat.le_of_ble_eq_true rfl)
theorem q_X11_law_44 {call : CALL} {L X : Nat} {I : Nat → Nat → Int32} {J : Nat → Nat → Int64} {u1 : Option Value} : runI call iX11_law (44, [some (.ref 0), u1], [], (mm L X I J)) = bnd (call nX5_forgetShort [.ref 56] (mm L X I J)) (fun v m' => runI call iX11_law (51, [some (.ref 0), u1], v.toList ++ [], m')) := by
  refine Eq.trans (st1 dX11_law_44 rfl rfl) ?_
  refine Eq.trans (getRm dX11_law_45 cp_11_81 ka_0 rfl r_0_11) ?_
  exact iv0 dX11_law_48 rfl cp_11_156 rfl rfl (kd_ka ka_56) ka_56.1 (Nat.le_of_ble_eq_true rfl)
theorem q_X11_law_51 {call : CALL} {L X : Nat} {I : Nat → Nat → Int32} {J : Nat → Nat → Int64} {u0 : Option Value} {u1 : Option Value} : runI call iX11_law (51, [u0, u1], [], (mm L X I J)) = some (.inl (some (.int (1 : Int32))), (mm L X I J)) := by
  refine Eq.trans (xiconst dX11_law_51 ci_1) ?_
  exact ret0 dX11_law_52 rfl
theorem q_X11_work_0 {call : CALL} {L X : Nat} {I : Nat → Nat → Int32} {J : Nat → Nat → Int64} {x1 : Int32} : runI call iX11_work (0, [some (.ref 0), some (.int x1)], [], (mm L X I J)) = bnd (call nX11_open [.ref 0, .int x1, .int (150 : Int32)] (mm L X I J)) (fun v m' => runI call iX11_work (8, [some (.ref 0), some (.int x1)], v.toList ++ [], m')) := by
  refine Eq.trans (st1 dX11_work_0 rfl rfl) ?_
  refine Eq.trans (st1 dX11_work_1 rfl rfl) ?_
  refine Eq.trans (xsipush dX11_work_2 cs_150) ?_
  exact iv0 dX11_work_5 rfl cp_11_119 rfl rfl (kd_ka ka_0) ka_0.1 (Nat.le_of_ble_eq_true rfl)
theorem q_X11_work_8 {call : CALL} {L X : Nat} {I : Nat → Nat → Int32} {J : Nat → Nat → Int64} {u1 : Option Value} : runI call iX11_work (8, [some (.ref 0), u1], [], (mm L X I J)) = bnd (call nX4_isFull [.ref 48] (mm L X I J)) (fun v m' => runI call iX11_work (15, [some (.ref 0), u1], v.toList ++ [], m')) := by
  refine Eq.trans (st1 dX11_work_8 rfl rfl) ?_
  refine Eq.trans (getRm dX11_work_9 cp_11_63 ka_0 rfl r_0_9) ?_
  exact iv0 dX11_work_12 rfl cp_11_159 rfl rfl (kd_ka ka_48) ka_48.1 (Nat.le_of_ble_eq_true rfl)
theorem q_X11_work_15 {call : CALL} {L X : Nat} {I : Nat → Nat → Int32} {J : Nat → Nat → Int64} {u1 : Option Value} {s0 : Int32} : runI call iX11_work (15, [some (.ref 0), u1], [.int s0], (mm L X I J)) = if s0 = 0 then bnd (call nX9_readFrom [.ref 37, .ref 1, .int (I 3 0)] (mm L X I J)) (fun v m' => runI call iX11_work (39, [some (.ref 0), u1], v.toList ++ [], m')) else some (.inl (some (.int (-20 : Int32))), (mm L X I J)) := by
  refine Eq.trans (if_eq (tgt := 21) dX11_work_15 (by decide +kernel)) (ite_cong (fun _ => ?_) (fun _ => ?_))
  · refine Eq.trans (st1 dX11_work_21 rfl rfl) ?_
    refine Eq.trans (getRm dX11_work_22 cp_11_49 ka_0 rfl r_0_7) ?_
    refine Eq.trans (st1 dX11_work_25 rfl rfl) ?_
    refine Eq.trans (getRm dX11_work_26 cp_11_10 ka_0 rfl r_0_0) ?_
    refine Eq.trans (st1 dX11_work_29 rfl rfl) ?_
    refine Eq.trans (getRm dX11_work_30 cp_11_19 ka_0 rfl r_0_1) ?_
    refine Eq.trans (getIm dX11_work_33 cp_11_149 ka_3 (.inl rfl)) ?_
    exact iv0 dX11_work_36 rfl cp_11_162 rfl rfl (kd_ka ka_37) ka_37.1 (Nat.le_of_ble_eq_true rfl)
  · refine Eq.trans (xbipush dX11_work_18 cb_m20) ?_
    exact ret0 dX11_work_20 rfl
theorem q_X11_work_39 {call : CALL} {L X : Nat} {I : Nat → Nat → Int32} {J : Nat → Nat → Int64} {u1 : Option Value} {s0 : Int32} : runI call iX11_work (39, [some (.ref 0), u1], [.int s0], (mm L X I J)) = if s0 = 0 then some (.inl (some (.int ((I 1 2) - (10 : Int32)))), (mm L X I J)) else bnd (call nX4_push [.ref 48, .ref 43] (mm L X I J)) (fun v m' => runI call iX11_work (64, [some (.ref 0), u1], v.toList ++ [], m')) := by
  refine Eq.trans (if_ne (tgt := 53) dX11_work_39 (by decide +kernel)) (ite_cong (fun _ => ?_) (fun _ => ?_))
  · refine Eq.trans (st1 dX11_work_42 rfl rfl) ?_
    refine Eq.trans (getRm dX11_work_43 cp_11_10 ka_0 rfl r_0_0) ?_
    refine Eq.trans (getIm dX11_work_46 cp_11_127 ka_1 (.inl rfl)) ?_
    refine Eq.trans (xbipush dX11_work_49 cb_10) ?_
    refine Eq.trans (st1 dX11_work_51 rfl rfl) ?_
    exact ret0 dX11_work_52 rfl
  · refine Eq.trans (st1 dX11_work_53 rfl rfl) ?_
    refine Eq.trans (getRm dX11_work_54 cp_11_63 ka_0 rfl r_0_9) ?_
    refine Eq.trans (st1 dX11_work_57 rfl rfl) ?_
    refine Eq.trans (getRm dX11_work_58 cp_11_56 ka_0 rfl r_0_8) ?_
    exact iv0 dX11_work_61 rfl cp_11_165 rfl rfl (kd_ka ka_48) ka_48.1 (Nat.le_of_ble_eq_true rfl)
theorem q_X11_work_64 {call : CALL} {L X : Nat} {I : Nat → Nat → Int32} {J : Nat → Nat → Int64} {u1 : Option Value} : runI call iX11_work (64, [some (.ref 0), u1], [], (mm L X I J)) = bnd (call nX5_forgetShort [.ref 56] (mm L X I J)) (fun v m' => runI call iX11_work (71, [some (.ref 0), u1], v.toList ++ [], m')) := by
  refine Eq.trans (st1 dX11_work_64 rfl rfl) ?_
  refine Eq.trans (getRm dX11_work_65 cp_11_81 ka_0 rfl r_0_11) ?_
  exact iv0 dX11_work_68 rfl cp_11_156 rfl rfl (kd_ka ka_56) ka_56.1 (Nat.le_of_ble_eq_true rfl)
theorem q_X11_work_71 {call : CALL} {L X : Nat} {I : Nat → Nat → Int32} {J : Nat → Nat → Int64} {u1 : Option Value} : runI call iX11_work (71, [some (.ref 0), u1], [], (mm L X I J)) = bnd (call nX9_doneOn [.ref 37, .ref 43, .ref 3, .ref 52] (mm L X I J)) (fun v m' => runI call iX11_work (90, [some (.ref 0), u1], v.toList ++ [], m')) := by
  refine Eq.trans (st1 dX11_work_71 rfl rfl) ?_
  refine Eq.trans (getRm dX11_work_72 cp_11_49 ka_0 rfl r_0_7) ?_
  refine Eq.trans (st1 dX11_work_75 rfl rfl) ?_
  refine Eq.trans (getRm dX11_work_76 cp_11_56 ka_0 rfl r_0_8) ?_
  refine Eq.trans (st1 dX11_work_79 rfl rfl) ?_
  refine Eq.trans (getRm dX11_work_80 cp_11_19 ka_0 rfl r_0_1) ?_
  refine Eq.trans (st1 dX11_work_83 rfl rfl) ?_
  refine Eq.trans (getRm dX11_work_84 cp_11_72 ka_0 rfl r_0_10) ?_
  exact iv0 dX11_work_87 rfl cp_11_169 rfl rfl (kd_ka ka_37) ka_37.1 (Nat.le_of_ble_eq_true rfl)
theorem q_X11_work_90 {call : CALL} {L X : Nat} {I : Nat → Nat → Int32} {J : Nat → Nat → Int64} {u0 : Option Value} {u1 : Option Value} {s0 : Int32} : runI call iX11_work (90, [u0, u1], [.int s0], (mm L X I J)) = some (.inl (some (.int s0)), (mm L X I J)) := by
  exact ret0 dX11_work_90 rfl
theorem q_X11_book_0 {call : CALL} {L X : Nat} {I : Nat → Nat → Int32} {J : Nat → Nat → Int64} {x1 : Int32} : runI call iX11_book (0, [some (.ref 0), some (.int x1)], [], (mm L X I J)) = bnd (call nX11_open [.ref 0, .int x1, .int (60 : Int32)] (mm L X I J)) (fun v m' => runI call iX11_book (7, [some (.ref 0), some (.int x1)], v.toList ++ [], m')) := by
  refine Eq.trans (st1 dX11_book_0 rfl rfl) ?_
  refine Eq.trans (st1 dX11_book_1 rfl rfl) ?_
  refine Eq.trans (xbipush dX11_book_2 cb_60) ?_
  exact iv0 dX11_book_4 rfl cp_11_119 rfl rfl (kd_ka ka_0) ka_0.1 (Nat.le_of_ble_eq_true rfl)
theorem q_X11_book_7 {call : CALL} {L X : Nat} {I : Nat → Nat → Int32} {J : Nat → Nat → Int64} {u1 : Option Value} : runI call iX11_book (7, [some (.ref 0), u1], [], (mm L X I J)) = bnd (call nX0_readFrom [.ref 34, .ref 1] (mm L X I J)) (fun v m' => runI call iX11_book (18, [some (.ref 0), u1], v.toList ++ [], m')) := by
  refine Eq.trans (st1 dX11_book_7 rfl rfl) ?_
  refine Eq.trans (getRm dX11_book_8 cp_11_43 ka_0 rfl r_0_6) ?_
  refine Eq.trans (st1 dX11_book_11 rfl rfl) ?_
  refine Eq.trans (getRm dX11_book_12 cp_11_10 ka_0 rfl r_0_0) ?_
  exact iv0 dX11_book_15 rfl cp_11_173 rfl rfl (kd_ka ka_34) ka_34.1 (Nat.le_of_ble_eq_true rfl)
theorem q_X11_book_18 {call : CALL} {L X : Nat} {I : Nat → Nat → Int32} {J : Nat → Nat → Int64} {u1 : Option Value} {s0 : Int32} : runI call iX11_book (18, [some (.ref 0), u1], [.int s0], (mm L X I J)) = if s0 = 0 then some (.inl (some (.int ((I 1 2) - (10 : Int32)))), (mm L X I J)) else bnd (call nX0_become [.ref 31, .ref 34] (mm L X I J)) (fun v m' => runI call iX11_book (43, [some (.ref 0), u1], v.toList ++ [], m')) := by
  refine Eq.trans (if_ne (tgt := 32) dX11_book_18 (by decide +kernel)) (ite_cong (fun _ => ?_) (fun _ => ?_))
  · refine Eq.trans (st1 dX11_book_21 rfl rfl) ?_
    refine Eq.trans (getRm dX11_book_22 cp_11_10 ka_0 rfl r_0_0) ?_
    refine Eq.trans (getIm dX11_book_25 cp_11_127 ka_1 (.inl rfl)) ?_
    refine Eq.trans (xbipush dX11_book_28 cb_10) ?_
    refine Eq.trans (st1 dX11_book_30 rfl rfl) ?_
    exact ret0 dX11_book_31 rfl
  · refine Eq.trans (st1 dX11_book_32 rfl rfl) ?_
    refine Eq.trans (getRm dX11_book_33 cp_11_39 ka_0 rfl r_0_5) ?_
    refine Eq.trans (st1 dX11_book_36 rfl rfl) ?_
    refine Eq.trans (getRm dX11_book_37 cp_11_43 ka_0 rfl r_0_6) ?_
    exact iv0 dX11_book_40 rfl cp_11_174 rfl rfl (kd_ka ka_31) ka_31.1 (Nat.le_of_ble_eq_true rfl)
theorem q_X11_book_43 {call : CALL} {L X : Nat} {I : Nat → Nat → Int32} {J : Nat → Nat → Int64} {u1 : Option Value} : runI call iX11_book (43, [some (.ref 0), u1], [], (mm L X I J)) = some (.inl (some (.int (I 31 0))), (mm L X I J)) := by
  refine Eq.trans (st1 dX11_book_43 rfl rfl) ?_
  refine Eq.trans (getRm dX11_book_44 cp_11_39 ka_0 rfl r_0_5) ?_
  refine Eq.trans (getIm dX11_book_47 cp_11_177 ka_31 (.inl rfl)) ?_
  exact ret0 dX11_book_50 rfl
theorem q_X11_told_0 {call : CALL} {L X : Nat} {I : Nat → Nat → Int32} {J : Nat → Nat → Int64} {x1 : Int32} : runI call iX11_told (0, [some (.ref 0), some (.int x1)], [], (mm L X I J)) = bndN (call nX11_within [.int x1, .int (0 : Int32), .int (11 : Int32)] (mm L X I J)) (fun v m' => runI call iX11_told (8, [some (.ref 0), some (.int x1)], v.toList ++ [.ref 0], m')) := by
  refine Eq.trans (st1 dX11_told_0 rfl rfl) ?_
  refine Eq.trans (st1 dX11_told_1 rfl rfl) ?_
  refine Eq.trans (xiconst dX11_told_2 ci_0) ?_
  refine Eq.trans (xbipush dX11_told_3 cb_11) ?_
  exact is2 dX11_told_5 cp_11_189 (Nat.le_of_ble_eq_true rfl) rfl rfl (Nat.le_of_ble_eq_true rfl)
theorem q_X11_told_8 {call : CALL} {L X : Nat} {I : Nat → Nat → Int32} {J : Nat → Nat → Int64} {x1 : Int32} {s1 : Int32} : runI call iX11_told (8, [some (.ref 0), some (.int x1)], [.int s1, .ref 0], (mm L X I J)) = bnd (call nX11_expect [.ref 0, .int s1] (mm L X I J)) (fun v m' => runI call iX11_told (11, [some (.ref 0), some (.int x1)], v.toList ++ [], m')) := by
  exact iv0 dX11_told_8 rfl cp_11_193 rfl rfl (kd_ka ka_0) ka_0.1 (Nat.le_of_ble_eq_true rfl)
theorem q_X11_told_11 {call : CALL} {L X : Nat} {I : Nat → Nat → Int32} {J : Nat → Nat → Int64} {x1 : Int32} : runI call iX11_told (11, [some (.ref 0), some (.int x1)], [], (mm L X I J)) = runI call iX11_told (12, [some (.ref 0), some (.int x1)], [.int x1], (mm L X I J)) := by
  refine Eq.trans (st1 dX11_told_11 rfl rfl) ?_
  rfl
/- q_X11_told_12: a switch -/
theorem q_X11_piece_0 {call : CALL} {L X : Nat} {I : Nat → Nat → Int32} {J : Nat → Nat → Int64} {x1 : Int32} {x2 : Int32} : runI call iX11_piece (0, [some (.ref 0), some (.int x1), some (.int x2)], [], (mm L X I J)) = bnd (call nX11_expectPiece [.ref 0, .int x1] (mm L X I J)) (fun v m' => runI call iX11_piece (5, [some (.ref 0), some (.int x1), some (.int x2)], v.toList ++ [], m')) := by
  refine Eq.trans (st1 dX11_piece_0 rfl rfl) ?_
  refine Eq.trans (st1 dX11_piece_1 rfl rfl) ?_
  exact iv0 dX11_piece_2 rfl cp_11_225 rfl rfl (kd_ka ka_0) ka_0.1 (Nat.le_of_ble_eq_true rfl)
theorem q_X11_piece_5 {call : CALL} {L X : Nat} {I : Nat → Nat → Int32} {J : Nat → Nat → Int64} {x1 : Int32} {x2 : Int32} : runI call iX11_piece (5, [some (.ref 0), some (.int x1), some (.int x2)], [], (mm L X I J)) = bndN (call nX11_within [.int x2, .int (0 : Int32), .int (7 : Int32)] (mm L X I J)) (fun v m' => runI call iX11_piece (13, [some (.ref 0), some (.int x1), some (.int x2)], v.toList ++ [.ref 0], m')) := by
  refine Eq.trans (st1 dX11_piece_5 rfl rfl) ?_
  refine Eq.trans (st1 dX11_piece_6 rfl rfl) ?_
  refine Eq.trans (xiconst dX11_piece_7 ci_0) ?_
  refine Eq.trans (xbipush dX11_piece_8 cb_7) ?_
  exact is2 dX11_piece_10 cp_11_189 (Nat.le_of_ble_eq_true rfl) rfl rfl (Nat.le_of_ble_eq_true rfl)
theorem q_X11_piece_13 {call : CALL} {L X : Nat} {I : Nat → Nat → Int32} {J : Nat → Nat → Int64} {x1 : Int32} {x2 : Int32} {s1 : Int32} : runI call iX11_piece (13, [some (.ref 0), some (.int x1), some (.int x2)], [.int s1, .ref 0], (mm L X I J)) = bnd (call nX11_expect [.ref 0, .int s1] (mm L X I J)) (fun v m' => runI call iX11_piece (16, [some (.ref 0), some (.int x1), some (.int x2)], v.toList ++ [], m')) := by
  exact iv0 dX11_piece_13 rfl cp_11_193 rfl rfl (kd_ka ka_0) ka_0.1 (Nat.le_of_ble_eq_true rfl)
theorem q_X11_piece_16 {call : CALL} {L X : Nat} {I : Nat → Nat → Int32} {J : Nat → Nat → Int64} {x1 : Int32} {x2 : Int32} : runI call iX11_piece (16, [some (.ref 0), some (.int x1), some (.int x2)], [], (mm L X I J)) = runI call iX11_piece (17, [some (.ref 0), some (.int x1), some (.int x2)], [.int x2], (mm L X I J)) := by
  refine Eq.trans (st1 dX11_piece_16 rfl rfl) ?_
  rfl
/- q_X11_piece_17: a switch -/
theorem q_X11_expectPiece_0 {call : CALL} {L X : Nat} {I : Nat → Nat → Int32} {J : Nat → Nat → Int64} {x1 : Int32} : runI call iX11_expectPiece (0, [some (.ref 0), some (.int x1)], [], (mm L X I J)) = bndN (call nX11_within [.int x1, .int (0 : Int32), .int ((I 3 0) - (1 : Int32))] (mm L X I J)) (fun v m' => runI call iX11_expectPiece (15, [some (.ref 0), some (.int x1)], v.toList ++ [.ref 0], m')) := by
  refine Eq.trans (st1 dX11_expectPiece_0 rfl rfl) ?_
  refine Eq.trans (st1 dX11_expectPiece_1 rfl rfl) ?_
  refine Eq.trans (xiconst dX11_expectPiece_2 ci_0) ?_
  refine Eq.trans (st1 dX11_expectPiece_3 rfl rfl) ?_
  refine Eq.trans (getRm dX11_expectPiece_4 cp_11_19 ka_0 rfl r_0_1) ?_
  refine Eq.trans (getIm dX11_expectPiece_7 cp_11_149 ka_3 (.inl rfl)) ?_
  refine Eq.trans (xiconst dX11_expectPiece_10 ci_1) ?_
  refine Eq.trans (st1 dX11_expectPiece_11 rfl rfl) ?_
  exact is2 dX11_expectPiece_12 cp_11_189 (Nat.le_of_ble_eq_true rfl) rfl rfl (Nat.le_of_ble_eq_true rfl)
theorem q_X11_expectPiece_15 {call : CALL} {L X : Nat} {I : Nat → Nat → Int32} {J : Nat → Nat → Int64} {u0 : Option Value} {u1 : Option Value} {s1 : Int32} : runI call iX11_expectPiece (15, [u0, u1], [.int s1, .ref 0], (mm L X I J)) = bnd (call nX11_expectThere [.ref 0, .int s1] (mm L X I J)) (fun v m' => runI call iX11_expectPiece (18, [u0, u1], v.toList ++ [], m')) := by
  exact iv0 dX11_expectPiece_15 rfl cp_11_265 rfl rfl (kd_ka ka_0) ka_0.1 (Nat.le_of_ble_eq_true rfl)
theorem q_X11_expectPiece_18 {call : CALL} {L X : Nat} {I : Nat → Nat → Int32} {J : Nat → Nat → Int64} {u0 : Option Value} {u1 : Option Value} : runI call iX11_expectPiece (18, [u0, u1], [], (mm L X I J)) = some (.inl none, (mm L X I J)) := by
  exact ret3 dX11_expectPiece_18 (.inl rfl)
theorem q_X11_expectThere_0 {call : CALL} {L X : Nat} {I : Nat → Nat → Int32} {J : Nat → Nat → Int64} {x1 : Int32} : runI call iX11_expectThere (0, [some (.ref 0), some (.int x1)], [], (mm L X I J)) = if x1 = 0 then some (.inr 0, mm L (X + 1) (up2 I 0 14 ((I 0 14) + (1 : Int32))) J) else some (.inl none, (mm L X I J)) := by
  refine Eq.trans (st1 dX11_expectThere_0 rfl rfl) ?_
  refine Eq.trans (if_ne (tgt := 25) dX11_expectThere_1 (by decide +kernel)) (ite_cong (fun _ => ?_) (fun _ => ?_))
  · refine Eq.trans (st1 dX11_expectThere_4 rfl rfl) ?_
    refine Eq.trans (st1 dX11_expectThere_5 rfl rfl) ?_
    refine Eq.trans (getIm dX11_expectThere_6 cp_11_434 ka_0 (.inl rfl)) ?_
    refine Eq.trans (xiconst dX11_expectThere_9 ci_1) ?_
    refine Eq.trans (st1 dX11_expectThere_10 rfl rfl) ?_
    refine Eq.trans (putIm dX11_expectThere_11 cp_11_434 ka_0 rfl) ?_
    exact ithr dX11_expectThere_14 cp_11_448 rfl dX11_expectThere_17 dX11_expectThere_18 dX11_expectThere_21 dX11_expectThere_24 rfl
  · exact ret3 dX11_expectThere_25 (.inl rfl)
theorem q_X11_collar_0 {call : CALL} {L X : Nat} {I : Nat → Nat → Int32} {J : Nat → Nat → Int64} {x1 : Int32} {x2 : Int32} : runI call iX11_collar (0, [some (.ref 0), some (.int x1), some (.int x2)], [], (mm L X I J)) = bndN (call nX11_within [.int x1, .int (0 : Int32), .int ((I 3 1) - (1 : Int32))] (mm L X I J)) (fun v m' => runI call iX11_collar (15, [some (.ref 0), some (.int x1), some (.int x2)], v.toList ++ [.ref 0], m')) := by
  refine Eq.trans (st1 dX11_collar_0 rfl rfl) ?_
  refine Eq.trans (st1 dX11_collar_1 rfl rfl) ?_
  refine Eq.trans (xiconst dX11_collar_2 ci_0) ?_
  refine Eq.trans (st1 dX11_collar_3 rfl rfl) ?_
  refine Eq.trans (getRm dX11_collar_4 cp_11_19 ka_0 rfl r_0_1) ?_
  refine Eq.trans (getIm dX11_collar_7 cp_11_197 ka_3 (.inl rfl)) ?_
  refine Eq.trans (xiconst dX11_collar_10 ci_1) ?_
  refine Eq.trans (st1 dX11_collar_11 rfl rfl) ?_
  exact is2 dX11_collar_12 cp_11_189 (Nat.le_of_ble_eq_true rfl) rfl rfl (Nat.le_of_ble_eq_true rfl)
theorem q_X11_collar_15 {call : CALL} {L X : Nat} {I : Nat → Nat → Int32} {J : Nat → Nat → Int64} {x1 : Int32} {x2 : Int32} {s1 : Int32} : runI call iX11_collar (15, [some (.ref 0), some (.int x1), some (.int x2)], [.int s1, .ref 0], (mm L X I J)) = bnd (call nX11_expectThere [.ref 0, .int s1] (mm L X I J)) (fun v m' => runI call iX11_collar (18, [some (.ref 0), some (.int x1), some (.int x2)], v.toList ++ [], m')) := by
  exact iv0 dX11_collar_15 rfl cp_11_265 rfl rfl (kd_ka ka_0) ka_0.1 (Nat.le_of_ble_eq_true rfl)
theorem q_X11_collar_18 {call : CALL} {L X : Nat} {I : Nat → Nat → Int32} {J : Nat → Nat → Int64} {x1 : Int32} {x2 : Int32} : runI call iX11_collar (18, [some (.ref 0), some (.int x1), some (.int x2)], [], (mm L X I J)) = bndN (call nX11_within [.int x2, .int (0 : Int32), .int (1 : Int32)] (mm L X I J)) (fun v m' => runI call iX11_collar (25, [some (.ref 0), some (.int x1), some (.int x2)], v.toList ++ [.ref 0], m')) := by
  refine Eq.trans (st1 dX11_collar_18 rfl rfl) ?_
  refine Eq.trans (st1 dX11_collar_19 rfl rfl) ?_
  refine Eq.trans (xiconst dX11_collar_20 ci_0) ?_
  refine Eq.trans (xiconst dX11_collar_21 ci_1) ?_
  exact is2 dX11_collar_22 cp_11_189 (Nat.le_of_ble_eq_true rfl) rfl rfl (Nat.le_of_ble_eq_true rfl)
theorem q_X11_collar_25 {call : CALL} {L X : Nat} {I : Nat → Nat → Int32} {J : Nat → Nat → Int64} {x1 : Int32} {x2 : Int32} {s1 : Int32} : runI call iX11_collar (25, [some (.ref 0), some (.int x1), some (.int x2)], [.int s1, .ref 0], (mm L X I J)) = bnd (call nX11_expect [.ref 0, .int s1] (mm L X I J)) (fun v m' => runI call iX11_collar (28, [some (.ref 0), some (.int x1), some (.int x2)], v.toList ++ [], m')) := by
  exact iv0 dX11_collar_25 rfl cp_11_193 rfl rfl (kd_ka ka_0) ka_0.1 (Nat.le_of_ble_eq_true rfl)
theorem q_X11_collar_28 {call : CALL} {L X : Nat} {I : Nat → Nat → Int32} {J : Nat → Nat → Int64} {x1 : Int32} {x2 : Int32} : runI call iX11_collar (28, [some (.ref 0), some (.int x1), some (.int x2)], [], (mm L X I J)) = if x2 = 0 then bndN (call nX11_pick [.ref 8, .int x1] (mm L X I J)) (fun v m' => runI call iX11_collar (43, [some (.ref 0), some (.int x1), some (.int x2)], v.toList ++ [], m')) else bndN (call nX11_pick [.ref 9, .int x1] (mm L X I J)) (fun v m' => runI call iX11_collar (57, [some (.ref 0), some (.int x1), some (.int x2)], v.toList ++ [], m')) := by
  refine Eq.trans (st1 dX11_collar_28 rfl rfl) ?_
  refine Eq.trans (if_ne (tgt := 46) dX11_collar_29 (by decide +kernel)) (ite_cong (fun _ => ?_) (fun _ => ?_))
  · refine Eq.trans (st1 dX11_collar_32 rfl rfl) ?_
    refine Eq.trans (getRm dX11_collar_33 cp_11_19 ka_0 rfl r_0_1) ?_
    refine Eq.trans (getRm dX11_collar_36 cp_11_268 ka_3 rfl r_3_8) ?_
    refine Eq.trans (st1 dX11_collar_39 rfl rfl) ?_
    exact is2 dX11_collar_40 cp_11_232 (Nat.le_of_ble_eq_true rfl) rfl rfl (Nat.le_of_ble_eq_true rfl)
  · refine Eq.trans (st1 dX11_collar_46 rfl rfl) ?_
    refine Eq.trans (getRm dX11_collar_47 cp_11_19 ka_0 rfl r_0_1) ?_
    refine Eq.trans (getRm dX11_collar_50 cp_11_271 ka_3 rfl r_3_9) ?_
    refine Eq.trans (st1 dX11_collar_53 rfl rfl) ?_
    exact is2 dX11_collar_54 cp_11_232 (Nat.le_of_ble_eq_true rfl) rfl rfl (Nat.le_of_ble_eq_true rfl)
theorem q_X11_collar_57 {call : CALL} {L X : Nat} {I : Nat → Nat → Int32} {J : Nat → Nat → Int64} {u0 : Option Value} {u1 : Option Value} {u2 : Option Value} {s0 : Int32} : runI call iX11_collar (57, [u0, u1, u2], [.int s0], (mm L X I J)) = some (.inl (some (.int s0)), (mm L X I J)) := by
  exact ret0 dX11_collar_57 rfl
theorem q_X11_collar_43 {call : CALL} {L X : Nat} {I : Nat → Nat → Int32} {J : Nat → Nat → Int64} {u0 : Option Value} {u1 : Option Value} {u2 : Option Value} {s0 : Int32} : runI call iX11_collar (43, [u0, u1, u2], [.int s0], (mm L X I J)) = some (.inl (some (.int s0)), (mm L X I J)) := by
  refine Eq.trans (go_to (tgt := 57) dX11_collar_43 (by decide +kernel)) ?_
  exact ret0 dX11_collar_57 rfl
theorem q_X11_fire_0 {call : CALL} {L X : Nat} {I : Nat → Nat → Int32} {J : Nat → Nat → Int64} {x1 : Int32} {x2 : Int32} : runI call iX11_fire (0, [some (.ref 0), some (.int x1), some (.int x2)], [], (mm L X I J)) = bnd (call nX11_expectFire [.ref 0, .int x1] (mm L X I J)) (fun v m' => runI call iX11_fire (5, [some (.ref 0), some (.int x1), some (.int x2)], v.toList ++ [], m')) := by
  refine Eq.trans (st1 dX11_fire_0 rfl rfl) ?_
  refine Eq.trans (st1 dX11_fire_1 rfl rfl) ?_
  exact iv0 dX11_fire_2 rfl cp_11_274 rfl rfl (kd_ka ka_0) ka_0.1 (Nat.le_of_ble_eq_true rfl)
theorem q_X11_fire_5 {call : CALL} {L X : Nat} {I : Nat → Nat → Int32} {J : Nat → Nat → Int64} {x1 : Int32} {x2 : Int32} : runI call iX11_fire (5, [some (.ref 0), some (.int x1), some (.int x2)], [], (mm L X I J)) = bndN (call nX11_within [.int x2, .int (0 : Int32), .int (3 : Int32)] (mm L X I J)) (fun v m' => runI call iX11_fire (12, [some (.ref 0), some (.int x1), some (.int x2)], v.toList ++ [.ref 0], m')) := by
  refine Eq.trans (st1 dX11_fire_5 rfl rfl) ?_
  refine Eq.trans (st1 dX11_fire_6 rfl rfl) ?_
  refine Eq.trans (xiconst dX11_fire_7 ci_0) ?_
  refine Eq.trans (xiconst dX11_fire_8 ci_3) ?_
  exact is2 dX11_fire_9 cp_11_189 (Nat.le_of_ble_eq_true rfl) rfl rfl (Nat.le_of_ble_eq_true rfl)
theorem q_X11_fire_12 {call : CALL} {L X : Nat} {I : Nat → Nat → Int32} {J : Nat → Nat → Int64} {x1 : Int32} {x2 : Int32} {s1 : Int32} : runI call iX11_fire (12, [some (.ref 0), some (.int x1), some (.int x2)], [.int s1, .ref 0], (mm L X I J)) = bnd (call nX11_expect [.ref 0, .int s1] (mm L X I J)) (fun v m' => runI call iX11_fire (15, [some (.ref 0), some (.int x1), some (.int x2)], v.toList ++ [], m')) := by
  exact iv0 dX11_fire_12 rfl cp_11_193 rfl rfl (kd_ka ka_0) ka_0.1 (Nat.le_of_ble_eq_true rfl)
theorem q_X11_fire_15 {call : CALL} {L X : Nat} {I : Nat → Nat → Int32} {J : Nat → Nat → Int64} {x1 : Int32} {x2 : Int32} : runI call iX11_fire (15, [some (.ref 0), some (.int x1), some (.int x2)], [], (mm L X I J)) = runI call iX11_fire (16, [some (.ref 0), some (.int x1), some (.int x2)], [.int x2], (mm L X I J)) := by
  refine Eq.trans (st1 dX11_fire_15 rfl rfl) ?_
  rfl
/- q_X11_fire_16: a switch -/
theorem q_X11_expectFire_0 {call : CALL} {L X : Nat} {I : Nat → Nat → Int32} {J : Nat → Nat → Int64} {x1 : Int32} : runI call iX11_expectFire (0, [some (.ref 0), some (.int x1)], [], (mm L X I J)) = bndN (call nX11_within [.int x1, .int (0 : Int32), .int ((I 3 2) - (1 : Int32))] (mm L X I J)) (fun v m' => runI call iX11_expectFire (15, [some (.ref 0), some (.int x1)], v.toList ++ [.ref 0], m')) := by
  refine Eq.trans (st1 dX11_expectFire_0 rfl rfl) ?_
  refine Eq.trans (st1 dX11_expectFire_1 rfl rfl) ?_
  refine Eq.trans (xiconst dX11_expectFire_2 ci_0) ?_
  refine Eq.trans (st1 dX11_expectFire_3 rfl rfl) ?_
  refine Eq.trans (getRm dX11_expectFire_4 cp_11_19 ka_0 rfl r_0_1) ?_
  refine Eq.trans (getIm dX11_expectFire_7 cp_11_200 ka_3 (.inl rfl)) ?_
  refine Eq.trans (xiconst dX11_expectFire_10 ci_1) ?_
  refine Eq.trans (st1 dX11_expectFire_11 rfl rfl) ?_
  exact is2 dX11_expectFire_12 cp_11_189 (Nat.le_of_ble_eq_true rfl) rfl rfl (Nat.le_of_ble_eq_true rfl)
theorem q_X11_expectFire_15 {call : CALL} {L X : Nat} {I : Nat → Nat → Int32} {J : Nat → Nat → Int64} {u0 : Option Value} {u1 : Option Value} {s1 : Int32} : runI call iX11_expectFire (15, [u0, u1], [.int s1, .ref 0], (mm L X I J)) = bnd (call nX11_expectThere [.ref 0, .int s1] (mm L X I J)) (fun v m' => runI call iX11_expectFire (18, [u0, u1], v.toList ++ [], m')) := by
  exact iv0 dX11_expectFire_15 rfl cp_11_265 rfl rfl (kd_ka ka_0) ka_0.1 (Nat.le_of_ble_eq_true rfl)
theorem q_X11_expectFire_18 {call : CALL} {L X : Nat} {I : Nat → Nat → Int32} {J : Nat → Nat → Int64} {u0 : Option Value} {u1 : Option Value} : runI call iX11_expectFire (18, [u0, u1], [], (mm L X I J)) = some (.inl none, (mm L X I J)) := by
  exact ret3 dX11_expectFire_18 (.inl rfl)
theorem q_X11_row_0 {call : CALL} {L X : Nat} {I : Nat → Nat → Int32} {J : Nat → Nat → Int64} {x1 : Int32} : runI call iX11_row (0, [some (.ref 0), some (.int x1)], [], (mm L X I J)) = if x1 < 0 then runI call iX11_row (10, [some (.ref 0), some (.int x1)], [.int (0 : Int32), .ref 0], (mm L X I J)) else runI call iX11_row (10, [some (.ref 0), some (.int x1)], [.int (1 : Int32), .ref 0], (mm L X I J)) := by
  refine Eq.trans (st1 dX11_row_0 rfl rfl) ?_
  refine Eq.trans (st1 dX11_row_1 rfl rfl) ?_
  refine Eq.trans (if_lt (tgt := 9) dX11_row_2 (by decide +kernel)) (ite_cong (fun _ => ?_) (fun _ => ?_))
  · refine Eq.trans (xiconst dX11_row_9 ci_0) ?_
    rfl
  · refine Eq.trans (xiconst dX11_row_5 ci_1) ?_
    refine Eq.trans (go_to (tgt := 10) dX11_row_6 (by decide +kernel)) ?_
    rfl
theorem q_X11_row_10 {call : CALL} {L X : Nat} {I : Nat → Nat → Int32} {J : Nat → Nat → Int64} {x1 : Int32} {s1 : Int32} : runI call iX11_row (10, [some (.ref 0), some (.int x1)], [.int s1, .ref 0], (mm L X I J)) = bnd (call nX11_expect [.ref 0, .int s1] (mm L X I J)) (fun v m' => runI call iX11_row (13, [some (.ref 0), some (.int x1)], v.toList ++ [], m')) := by
  exact iv0 dX11_row_10 rfl cp_11_193 rfl rfl (kd_ka ka_0) ka_0.1 (Nat.le_of_ble_eq_true rfl)
theorem q_X11_row_13 {call : CALL} {L X : Nat} {I : Nat → Nat → Int32} {J : Nat → Nat → Int64} {x1 : Int32} : runI call iX11_row (13, [some (.ref 0), some (.int x1)], [], (mm L X I J)) = if (I 43 5) ≤ x1 then some (.inl (some (.int (-1 : Int32))), (mm L X I J)) else bndN (call nX11_pick [.ref 44, .int x1] (mm L X I J)) (fun v m' => runI call iX11_row (35, [some (.ref 0), some (.int x1)], v.toList ++ [], m')) := by
  refine Eq.trans (st1 dX11_row_13 rfl rfl) ?_
  refine Eq.trans (st1 dX11_row_14 rfl rfl) ?_
  refine Eq.trans (getRm dX11_row_15 cp_11_56 ka_0 rfl r_0_8) ?_
  refine Eq.trans (getIm dX11_row_18 cp_11_206 ka_43 (.inl rfl)) ?_
  refine Eq.trans (ic_ge (tgt := 38) dX11_row_21 (by decide +kernel)) (ite_cong (fun _ => ?_) (fun _ => ?_))
  · refine Eq.trans (xiconst dX11_row_38 ci_m1) ?_
    exact ret0 dX11_row_39 rfl
  · refine Eq.trans (st1 dX11_row_24 rfl rfl) ?_
    refine Eq.trans (getRm dX11_row_25 cp_11_56 ka_0 rfl r_0_8) ?_
    refine Eq.trans (getRm dX11_row_28 cp_11_290 ka_43 rfl r_43_0) ?_
    refine Eq.trans (st1 dX11_row_31 rfl rfl) ?_
    exact is2 dX11_row_32 cp_11_232 (Nat.le_of_ble_eq_true rfl) rfl rfl (Nat.le_of_ble_eq_true rfl)
theorem q_X11_row_35 {call : CALL} {L X : Nat} {I : Nat → Nat → Int32} {J : Nat → Nat → Int64} {u0 : Option Value} {u1 : Option Value} {s0 : Int32} : runI call iX11_row (35, [u0, u1], [.int s0], (mm L X I J)) = some (.inl (some (.int s0)), (mm L X I J)) := by
  refine Eq.trans (go_to (tgt := 39) dX11_row_35 (by decide +kernel)) ?_
  exact ret0 dX11_row_39 rfl
theorem q_X11_behind_0 {call : CALL} {L X : Nat} {I : Nat → Nat → Int32} {J : Nat → Nat → Int64} {x1 : Int32} : runI call iX11_behind (0, [some (.ref 0), some (.int x1)], [], (mm L X I J)) = if x1 < 0 then runI call iX11_behind (10, [some (.ref 0), some (.int x1)], [.int (0 : Int32), .ref 0], (mm L X I J)) else runI call iX11_behind (10, [some (.ref 0), some (.int x1)], [.int (1 : Int32), .ref 0], (mm L X I J)) := by
  refine Eq.trans (st1 dX11_behind_0 rfl rfl) ?_
  refine Eq.trans (st1 dX11_behind_1 rfl rfl) ?_
  refine Eq.trans (if_lt (tgt := 9) dX11_behind_2 (by decide +kernel)) (ite_cong (fun _ => ?_) (fun _ => ?_))
  · refine Eq.trans (xiconst dX11_behind_9 ci_0) ?_
    rfl
  · refine Eq.trans (xiconst dX11_behind_5 ci_1) ?_
    refine Eq.trans (go_to (tgt := 10) dX11_behind_6 (by decide +kernel)) ?_
    rfl
theorem q_X11_behind_10 {call : CALL} {L X : Nat} {I : Nat → Nat → Int32} {J : Nat → Nat → Int64} {x1 : Int32} {s1 : Int32} : runI call iX11_behind (10, [some (.ref 0), some (.int x1)], [.int s1, .ref 0], (mm L X I J)) = bnd (call nX11_expect [.ref 0, .int s1] (mm L X I J)) (fun v m' => runI call iX11_behind (13, [some (.ref 0), some (.int x1)], v.toList ++ [], m')) := by
  exact iv0 dX11_behind_10 rfl cp_11_193 rfl rfl (kd_ka ka_0) ka_0.1 (Nat.le_of_ble_eq_true rfl)
theorem q_X11_behind_13 {call : CALL} {L X : Nat} {I : Nat → Nat → Int32} {J : Nat → Nat → Int64} {x1 : Int32} : runI call iX11_behind (13, [some (.ref 0), some (.int x1)], [], (mm L X I J)) = if x1 < (I 43 5) then bnd (call nX8_arriving [.ref 52, .ref 43, .int (I 43 7)] (mm L X I J)) (fun v m' => runI call iX11_behind (44, [some (.ref 0), some (.int x1)], v.toList ++ [], m')) else some (.inl (some (.int (-1 : Int32))), (mm L X I J)) := by
  refine Eq.trans (st1 dX11_behind_13 rfl rfl) ?_
  refine Eq.trans (st1 dX11_behind_14 rfl rfl) ?_
  refine Eq.trans (getRm dX11_behind_15 cp_11_56 ka_0 rfl r_0_8) ?_
  refine Eq.trans (getIm dX11_behind_18 cp_11_206 ka_43 (.inl rfl)) ?_
  refine Eq.trans (ic_lt (tgt := 26) dX11_behind_21 (by decide +kernel)) (ite_cong (fun _ => ?_) (fun _ => ?_))
  · refine Eq.trans (st1 dX11_behind_26 rfl rfl) ?_
    refine Eq.trans (getRm dX11_behind_27 cp_11_72 ka_0 rfl r_0_10) ?_
    refine Eq.trans (st1 dX11_behind_30 rfl rfl) ?_
    refine Eq.trans (getRm dX11_behind_31 cp_11_56 ka_0 rfl r_0_8) ?_
    refine Eq.trans (st1 dX11_behind_34 rfl rfl) ?_
    refine Eq.trans (getRm dX11_behind_35 cp_11_56 ka_0 rfl r_0_8) ?_
    refine Eq.trans (getIm dX11_behind_38 cp_11_217 ka_43 (.inl rfl)) ?_
    exact iv0 dX11_behind_41 rfl cp_11_218 rfl rfl (kd_ka ka_52) ka_52.1 (Nat.le_of_ble_eq_true rfl)
  · refine Eq.trans (xiconst dX11_behind_24 ci_m1) ?_
    exact ret0 dX11_behind_25 rfl
theorem q_X11_behind_44 {call : CALL} {L X : Nat} {I : Nat → Nat → Int32} {J : Nat → Nat → Int64} {x1 : Int32} {s0 : Int32} : runI call iX11_behind (44, [some (.ref 0), some (.int x1)], [.int s0], (mm L X I J)) = bndN (call nX11_pick [.ref 53, .int x1] (mm L X I J)) (fun v m' => runI call iX11_behind (56, [some (.ref 0), some (.int x1)], v.toList ++ [], m')) := by
  refine Eq.trans (st1 dX11_behind_44 rfl rfl) ?_
  refine Eq.trans (st1 dX11_behind_45 rfl rfl) ?_
  refine Eq.trans (getRm dX11_behind_46 cp_11_72 ka_0 rfl r_0_10) ?_
  refine Eq.trans (getRm dX11_behind_49 cp_11_293 ka_52 rfl r_52_2) ?_
  refine Eq.trans (st1 dX11_behind_52 rfl rfl) ?_
  exact is2 dX11_behind_53 cp_11_232 (Nat.le_of_ble_eq_true rfl) rfl rfl (Nat.le_of_ble_eq_true rfl)
theorem q_X11_behind_56 {call : CALL} {L X : Nat} {I : Nat → Nat → Int32} {J : Nat → Nat → Int64} {u0 : Option Value} {u1 : Option Value} {s0 : Int32} : runI call iX11_behind (56, [u0, u1], [.int s0], (mm L X I J)) = some (.inl (some (.int s0)), (mm L X I J)) := by
  exact ret0 dX11_behind_56 rfl
theorem q_X11_would_0 {call : CALL} {L X : Nat} {I : Nat → Nat → Int32} {J : Nat → Nat → Int64} {x1 : Int32} {x2 : Int32} {x3 : Int32} {x4 : Int32} {x5 : Int32} {x6 : Int32} {x7 : Int32} {x8 : Int32} {x9 : Int32} : runI call iX11_would (0, [some (.ref 0), some (.int x1), some (.int x2), some (.int x3), some (.int x4), some (.int x5), some (.int x6), some (.int x7), some (.int x8), some (.int x9)], [], (mm L X I J)) = bndN (call nX11_within [.int x1, .int (0 : Int32), .int (99 : Int32)] (mm L X I J)) (fun v m' => runI call iX11_would (8, [some (.ref 0), some (.int x1), some (.int x2), some (.int x3), some (.int x4), some (.int x5), some (.int x6), some (.int x7), some (.int x8), some (.int x9)], v.toList ++ [.ref 0], m')) := by
  refine Eq.trans (st1 dX11_would_0 rfl rfl) ?_
  refine Eq.trans (st1 dX11_would_1 rfl rfl) ?_
  refine Eq.trans (xiconst dX11_would_2 ci_0) ?_
  refine Eq.trans (xbipush dX11_would_3 cb_99) ?_
  exact is2 dX11_would_5 cp_11_189 (Nat.le_of_ble_eq_true rfl) rfl rfl (Nat.le_of_ble_eq_true rfl)
theorem q_X11_would_8 {call : CALL} {L X : Nat} {I : Nat → Nat → Int32} {J : Nat → Nat → Int64} {x1 : Int32} {x2 : Int32} {x3 : Int32} {x4 : Int32} {x5 : Int32} {x6 : Int32} {x7 : Int32} {x8 : Int32} {x9 : Int32} {s1 : Int32} : runI call iX11_would (8, [some (.ref 0), some (.int x1), some (.int x2), some (.int x3), some (.int x4), some (.int x5), some (.int x6), some (.int x7), some (.int x8), some (.int x9)], [.int s1, .ref 0], (mm L X I J)) = if s1 = 0 then runI call iX11_would (35, [some (.ref 0), some (.int x1), some (.int x2), some (.int x3), some (.int x4), some (.int x5), some (.int x6), some (.int x7), some (.int x8), some (.int x9)], [.ref 0], (mm L X I J)) else bndN (call nX11_within [.int x2, .int (0 : Int32), .int (9 : Int32)] (mm L X I J)) (fun v m' => runI call iX11_would (18, [some (.ref 0), some (.int x1), some (.int x2), some (.int x3), some (.int x4), some (.int x5), some (.int x6), some (.int x7), some (.int x8), some (.int x9)], v.toList ++ [.ref 0], m')) := by
  refine Eq.trans (if_eq (tgt := 35) dX11_would_8 (by decide +kernel)) (ite_cong (fun _ => ?_) (fun _ => ?_))
  · rfl
  · refine Eq.trans (st1 dX11_would_11 rfl rfl) ?_
    refine Eq.trans (xiconst dX11_would_12 ci_0) ?_
    refine Eq.trans (xbipush dX11_would_13 cb_9) ?_
    exact is2 dX11_would_15 cp_11_189 (Nat.le_of_ble_eq_true rfl) rfl rfl (Nat.le_of_ble_eq_true rfl)
theorem q_X11_would_35 {call : CALL} {L X : Nat} {I : Nat → Nat → Int32} {J : Nat → Nat → Int64} {x1 : Int32} {x2 : Int32} {x3 : Int32} {x4 : Int32} {x5 : Int32} {x6 : Int32} {x7 : Int32} {x8 : Int32} {x9 : Int32} : runI call iX11_would (35, [some (.ref 0), some (.int x1), some (.int x2), some (.int x3), some (.int x4), some (.int x5), some (.int x6), some (.int x7), some (.int x8), some (.int x9)], [.ref 0], (mm L X I J)) = runI call iX11_would (36, [some (.ref 0), some (.int x1), some (.int x2), some (.int x3), some (.int x4), some (.int x5), some (.int x6), some (.int x7), some (.int x8), some (.int x9)], [.int (0 : Int32), .ref 0], (mm L X I J)) := by
  refine Eq.trans (xiconst dX11_would_35 ci_0) ?_
  rfl
theorem q_X11_would_18 {call : CALL} {L X : Nat} {I : Nat → Nat → Int32} {J : Nat → Nat → Int64} {x1 : Int32} {x2 : Int32} {x3 : Int32} {x4 : Int32} {x5 : Int32} {x6 : Int32} {x7 : Int32} {x8 : Int32} {x9 : Int32} {s1 : Int32} : runI call iX11_would (18, [some (.ref 0), some (.int x1), some (.int x2), some (.int x3), some (.int x4), some (.int x5), some (.int x6), some (.int x7), some (.int x8), some (.int x9)], [.int s1, .ref 0], (mm L X I J)) = if s1 = 0 then runI call iX11_would (35, [some (.ref 0), some (.int x1), some (.int x2), some (.int x3), some (.int x4), some (.int x5), some (.int x6), some (.int x7), some (.int x8), some (.int x9)], [.ref 0], (mm L X I J)) else bndN (call nX11_within [.int x3, .int (1 : Int32), .int (30 : Int32)] (mm L X I J)) (fun v m' => runI call iX11_would (28, [some (.ref 0), some (.int x1), some (.int x2), some (.int x3), some (.int x4), some (.int x5), some (.int x6), some (.int x7), some (.int x8), some (.int x9)], v.toList ++ [.ref 0], m')) := by
  refine Eq.trans (if_eq (tgt := 35) dX11_would_18 (by decide +kernel)) (ite_cong (fun _ => ?_) (fun _ => ?_))
  · rfl
  · refine Eq.trans (st1 dX11_would_21 rfl rfl) ?_
    refine Eq.trans (xiconst dX11_would_22 ci_1) ?_
    refine Eq.trans (xbipush dX11_would_23 cb_30) ?_
    exact is2 dX11_would_25 cp_11_189 (Nat.le_of_ble_eq_true rfl) rfl rfl (Nat.le_of_ble_eq_true rfl)
theorem q_X11_would_36 {call : CALL} {L X : Nat} {I : Nat → Nat → Int32} {J : Nat → Nat → Int64} {x1 : Int32} {x2 : Int32} {x3 : Int32} {x4 : Int32} {x5 : Int32} {x6 : Int32} {x7 : Int32} {x8 : Int32} {x9 : Int32} {s1 : Int32} : runI call iX11_would (36, [some (.ref 0), some (.int x1), some (.int x2), some (.int x3), some (.int x4), some (.int x5), some (.int x6), some (.int x7), some (.int x8), some (.int x9)], [.int s1, .ref 0], (mm L X I J)) = bnd (call nX11_expect [.ref 0, .int s1] (mm L X I J)) (fun v m' => runI call iX11_would (39, [some (.ref 0), some (.int x1), some (.int x2), some (.int x3), some (.int x4), some (.int x5), some (.int x6), some (.int x7), some (.int x8), some (.int x9)], v.toList ++ [], m')) := by
  exact iv0 dX11_would_36 rfl cp_11_193 rfl rfl (kd_ka ka_0) ka_0.1 (Nat.le_of_ble_eq_true rfl)
theorem q_X11_would_28 {call : CALL} {L X : Nat} {I : Nat → Nat → Int32} {J : Nat → Nat → Int64} {x1 : Int32} {x2 : Int32} {x3 : Int32} {x4 : Int32} {x5 : Int32} {x6 : Int32} {x7 : Int32} {x8 : Int32} {x9 : Int32} {s1 : Int32} : runI call iX11_would (28, [some (.ref 0), some (.int x1), some (.int x2), some (.int x3), some (.int x4), some (.int x5), some (.int x6), some (.int x7), some (.int x8), some (.int x9)], [.int s1, .ref 0], (mm L X I J)) = if s1 = 0 then runI call iX11_would (35, [some (.ref 0), some (.int x1), some (.int x2), some (.int x3), some (.int x4), some (.int x5), some (.int x6), some (.int x7), some (.int x8), some (.int x9)], [.ref 0], (mm L X I J)) else runI call iX11_would (36, [some (.ref 0), some (.int x1), some (.int x2), some (.int x3), some (.int x4), some (.int x5), some (.int x6), some (.int x7), some (.int x8), some (.int x9)], [.int (1 : Int32), .ref 0], (mm L X I J)) := by
  refine Eq.trans (if_eq (tgt := 35) dX11_would_28 (by decide +kernel)) (ite_cong (fun _ => ?_) (fun _ => ?_))
  · rfl
  · refine Eq.trans (xiconst dX11_would_31 ci_1) ?_
    refine Eq.trans (go_to (tgt := 36) dX11_would_32 (by decide +kernel)) ?_
    rfl
theorem q_X11_would_39 {call : CALL} {L X : Nat} {I : Nat → Nat → Int32} {J : Nat → Nat → Int64} {x1 : Int32} {x2 : Int32} {x3 : Int32} {x4 : Int32} {x5 : Int32} {x6 : Int32} {x7 : Int32} {x8 : Int32} {x9 : Int32} : runI call iX11_would (39, [some (.ref 0), some (.int x1), some (.int x2), some (.int x3), some (.int x4), some (.int x5), some (.int x6), some (.int x7), some (.int x8), some (.int x9)], [], (mm L X I J)) = bndN (call nX11_within [.int x4, .int (0 : Int32), .int (9 : Int32)] (mm L X I J)) (fun v m' => runI call iX11_would (48, [some (.ref 0), some (.int x1), some (.int x2), some (.int x3), some (.int x4), some (.int x5), some (.int x6), some (.int x7), some (.int x8), some (.int x9)], v.toList ++ [.ref 0], m')) := by
  refine Eq.trans (st1 dX11_would_39 rfl rfl) ?_
  refine Eq.trans (st1 dX11_would_40 rfl rfl) ?_
  refine Eq.trans (xiconst dX11_would_42 ci_0) ?_
  refine Eq.trans (xbipush dX11_would_43 cb_9) ?_
  exact is2 dX11_would_45 cp_11_189 (Nat.le_of_ble_eq_true rfl) rfl rfl (Nat.le_of_ble_eq_true rfl)
theorem q_X11_would_48 {call : CALL} {L X : Nat} {I : Nat → Nat → Int32} {J : Nat → Nat → Int64} {x1 : Int32} {x2 : Int32} {x3 : Int32} {x4 : Int32} {x5 : Int32} {x6 : Int32} {x7 : Int32} {x8 : Int32} {x9 : Int32} {s1 : Int32} : runI call iX11_would (48, [some (.ref 0), some (.int x1), some (.int x2), some (.int x3), some (.int x4), some (.int x5), some (.int x6), some (.int x7), some (.int x8), some (.int x9)], [.int s1, .ref 0], (mm L X I J)) = if s1 = 0 then runI call iX11_would (76, [some (.ref 0), some (.int x1), some (.int x2), some (.int x3), some (.int x4), some (.int x5), some (.int x6), some (.int x7), some (.int x8), some (.int x9)], [.ref 0], (mm L X I J)) else bndN (call nX11_within [.int x5, .int (0 : Int32), .int (9 : Int32)] (mm L X I J)) (fun v m' => runI call iX11_would (59, [some (.ref 0), some (.int x1), some (.int x2), some (.int x3), some (.int x4), some (.int x5), some (.int x6), some (.int x7), some (.int x8), some (.int x9)], v.toList ++ [.ref 0], m')) := by
  refine Eq.trans (if_eq (tgt := 76) dX11_would_48 (by decide +kernel)) (ite_cong (fun _ => ?_) (fun _ => ?_))
  · rfl
  · refine Eq.trans (st1 dX11_would_51 rfl rfl) ?_
    refine Eq.trans (xiconst dX11_would_53 ci_0) ?_
    refine Eq.trans (xbipush dX11_would_54 cb_9) ?_
    exact is2 dX11_would_56 cp_11_189 (Nat.le_of_ble_eq_true rfl) rfl rfl (Nat.le_of_ble_eq_true rfl)
theorem q_X11_would_76 {call : CALL} {L X : Nat} {I : Nat → Nat → Int32} {J : Nat → Nat → Int64} {x1 : Int32} {x2 : Int32} {x3 : Int32} {x4 : Int32} {x5 : Int32} {x6 : Int32} {x7 : Int32} {x8 : Int32} {x9 : Int32} : runI call iX11_would (76, [some (.ref 0), some (.int x1), some (.int x2), some (.int x3), some (.int x4), some (.int x5), some (.int x6), some (.int x7), some (.int x8), some (.int x9)], [.ref 0], (mm L X I J)) = runI call iX11_would (77, [some (.ref 0), some (.int x1), some (.int x2), some (.int x3), some (.int x4), some (.int x5), some (.int x6), some (.int x7), some (.int x8), some (.int x9)], [.int (0 : Int32), .ref 0], (mm L X I J)) := by
  refine Eq.trans (xiconst dX11_would_76 ci_0) ?_
  rfl
theorem q_X11_would_59 {call : CALL} {L X : Nat} {I : Nat → Nat → Int32} {J : Nat → Nat → Int64} {x1 : Int32} {x2 : Int32} {x3 : Int32} {x4 : Int32} {x5 : Int32} {x6 : Int32} {x7 : Int32} {x8 : Int32} {x9 : Int32} {s1 : Int32} : runI call iX11_would (59, [some (.ref 0), some (.int x1), some (.int x2), some (.int x3), some (.int x4), some (.int x5), some (.int x6), some (.int x7), some (.int x8), some (.int x9)], [.int s1, .ref 0], (mm L X I J)) = if s1 = 0 then runI call iX11_would (76, [some (.ref 0), some (.int x1), some (.int x2), some (.int x3), some (.int x4), some (.int x5), some (.int x6), some (.int x7), some (.int x8), some (.int x9)], [.ref 0], (mm L X I J)) else bndN (call nX11_within [.int x6, .int (0 : Int32), .int (5 : Int32)] (mm L X I J)) (fun v m' => runI call iX11_would (69, [some (.ref 0), some (.int x1), some (.int x2), some (.int x3), some (.int x4), some (.int x5), some (.int x6), some (.int x7), some (.int x8), some (.int x9)], v.toList ++ [.ref 0], m')) := by
  refine Eq.trans (if_eq (tgt := 76) dX11_would_59 (by decide +kernel)) (ite_cong (fun _ => ?_) (fun _ => ?_))
  · rfl
  · refine Eq.trans (st1 dX11_would_62 rfl rfl) ?_
    refine Eq.trans (xiconst dX11_would_64 ci_0) ?_
    refine Eq.trans (xiconst dX11_would_65 ci_5) ?_
    exact is2 dX11_would_66 cp_11_189 (Nat.le_of_ble_eq_true rfl) rfl rfl (Nat.le_of_ble_eq_true rfl)
theorem q_X11_would_77 {call : CALL} {L X : Nat} {I : Nat → Nat → Int32} {J : Nat → Nat → Int64} {x1 : Int32} {x2 : Int32} {x3 : Int32} {x4 : Int32} {x5 : Int32} {x6 : Int32} {x7 : Int32} {x8 : Int32} {x9 : Int32} {s1 : Int32} : runI call iX11_would (77, [some (.ref 0), some (.int x1), some (.int x2), some (.int x3), some (.int x4), some (.int x5), some (.int x6), some (.int x7), some (.int x8), some (.int x9)], [.int s1, .ref 0], (mm L X I J)) = bnd (call nX11_expect [.ref 0, .int s1] (mm L X I J)) (fun v m' => runI call iX11_would (80, [some (.ref 0), some (.int x1), some (.int x2), some (.int x3), some (.int x4), some (.int x5), some (.int x6), some (.int x7), some (.int x8), some (.int x9)], v.toList ++ [], m')) := by
  exact iv0 dX11_would_77 rfl cp_11_193 rfl rfl (kd_ka ka_0) ka_0.1 (Nat.le_of_ble_eq_true rfl)
theorem q_X11_would_69 {call : CALL} {L X : Nat} {I : Nat → Nat → Int32} {J : Nat → Nat → Int64} {x1 : Int32} {x2 : Int32} {x3 : Int32} {x4 : Int32} {x5 : Int32} {x6 : Int32} {x7 : Int32} {x8 : Int32} {x9 : Int32} {s1 : Int32} : runI call iX11_would (69, [some (.ref 0), some (.int x1), some (.int x2), some (.int x3), some (.int x4), some (.int x5), some (.int x6), some (.int x7), some (.int x8), some (.int x9)], [.int s1, .ref 0], (mm L X I J)) = if s1 = 0 then runI call iX11_would (76, [some (.ref 0), some (.int x1), some (.int x2), some (.int x3), some (.int x4), some (.int x5), some (.int x6), some (.int x7), some (.int x8), some (.int x9)], [.ref 0], (mm L X I J)) else runI call iX11_would (77, [some (.ref 0), some (.int x1), some (.int x2), some (.int x3), some (.int x4), some (.int x5), some (.int x6), some (.int x7), some (.int x8), some (.int x9)], [.int (1 : Int32), .ref 0], (mm L X I J)) := by
  refine Eq.trans (if_eq (tgt := 76) dX11_would_69 (by decide +kernel)) (ite_cong (fun _ => ?_) (fun _ => ?_))
  · rfl
  · refine Eq.trans (xiconst dX11_would_72 ci_1) ?_
    refine Eq.trans (go_to (tgt := 77) dX11_would_73 (by decide +kernel)) ?_
    rfl
theorem q_X11_would_80 {call : CALL} {L X : Nat} {I : Nat → Nat → Int32} {J : Nat → Nat → Int64} {x1 : Int32} {x2 : Int32} {x3 : Int32} {x4 : Int32} {x5 : Int32} {x6 : Int32} {x7 : Int32} {x8 : Int32} {x9 : Int32} : runI call iX11_would (80, [some (.ref 0), some (.int x1), some (.int x2), some (.int x3), some (.int x4), some (.int x5), some (.int x6), some (.int x7), some (.int x8), some (.int x9)], [], (mm L X I J)) = bndN (call nX11_within [.int x7, .int (0 : Int32), .int (1 : Int32)] (mm L X I J)) (fun v m' => runI call iX11_would (88, [some (.ref 0), some (.int x1), some (.int x2), some (.int x3), some (.int x4), some (.int x5), some (.int x6), some (.int x7), some (.int x8), some (.int x9)], v.toList ++ [.ref 0], m')) := by
  refine Eq.trans (st1 dX11_would_80 rfl rfl) ?_
  refine Eq.trans (st1 dX11_would_81 rfl rfl) ?_
  refine Eq.trans (xiconst dX11_would_83 ci_0) ?_
  refine Eq.trans (xiconst dX11_would_84 ci_1) ?_
  exact is2 dX11_would_85 cp_11_189 (Nat.le_of_ble_eq_true rfl) rfl rfl (Nat.le_of_ble_eq_true rfl)
theorem q_X11_would_88 {call : CALL} {L X : Nat} {I : Nat → Nat → Int32} {J : Nat → Nat → Int64} {x1 : Int32} {x2 : Int32} {x3 : Int32} {x4 : Int32} {x5 : Int32} {x6 : Int32} {x7 : Int32} {x8 : Int32} {x9 : Int32} {s1 : Int32} : runI call iX11_would (88, [some (.ref 0), some (.int x1), some (.int x2), some (.int x3), some (.int x4), some (.int x5), some (.int x6), some (.int x7), some (.int x8), some (.int x9)], [.int s1, .ref 0], (mm L X I J)) = if s1 = 0 then runI call iX11_would (116, [some (.ref 0), some (.int x1), some (.int x2), some (.int x3), some (.int x4), some (.int x5), some (.int x6), some (.int x7), some (.int x8), some (.int x9)], [.ref 0], (mm L X I J)) else bndN (call nX11_within [.int x8, .int (0 : Int32), .int (99 : Int32)] (mm L X I J)) (fun v m' => runI call iX11_would (99, [some (.ref 0), some (.int x1), some (.int x2), some (.int x3), some (.int x4), some (.int x5), some (.int x6), some (.int x7), some (.int x8), some (.int x9)], v.toList ++ [.ref 0], m')) := by
  refine Eq.trans (if_eq (tgt := 116) dX11_would_88 (by decide +kernel)) (ite_cong (fun _ => ?_) (fun _ => ?_))
  · rfl
  · refine Eq.trans (st1 dX11_would_91 rfl rfl) ?_
    refine Eq.trans (xiconst dX11_would_93 ci_0) ?_
    refine Eq.trans (xbipush dX11_would_94 cb_99) ?_
    exact is2 dX11_would_96 cp_11_189 (Nat.le_of_ble_eq_true rfl) rfl rfl (Nat.le_of_ble_eq_true rfl)
theorem q_X11_would_116 {call : CALL} {L X : Nat} {I : Nat → Nat → Int32} {J : Nat → Nat → Int64} {x1 : Int32} {x2 : Int32} {x3 : Int32} {x4 : Int32} {x5 : Int32} {x6 : Int32} {x7 : Int32} {x8 : Int32} {x9 : Int32} : runI call iX11_would (116, [some (.ref 0), some (.int x1), some (.int x2), some (.int x3), some (.int x4), some (.int x5), some (.int x6), some (.int x7), some (.int x8), some (.int x9)], [.ref 0], (mm L X I J)) = runI call iX11_would (117, [some (.ref 0), some (.int x1), some (.int x2), some (.int x3), some (.int x4), some (.int x5), some (.int x6), some (.int x7), some (.int x8), some (.int x9)], [.int (0 : Int32), .ref 0], (mm L X I J)) := by
  refine Eq.trans (xiconst dX11_would_116 ci_0) ?_
  rfl
theorem q_X11_would_99 {call : CALL} {L X : Nat} {I : Nat → Nat → Int32} {J : Nat → Nat → Int64} {x1 : Int32} {x2 : Int32} {x3 : Int32} {x4 : Int32} {x5 : Int32} {x6 : Int32} {x7 : Int32} {x8 : Int32} {x9 : Int32} {s1 : Int32} : runI call iX11_would (99, [some (.ref 0), some (.int x1), some (.int x2), some (.int x3), some (.int x4), some (.int x5), some (.int x6), some (.int x7), some (.int x8), some (.int x9)], [.int s1, .ref 0], (mm L X I J)) = if s1 = 0 then runI call iX11_would (116, [some (.ref 0), some (.int x1), some (.int x2), some (.int x3), some (.int x4), some (.int x5), some (.int x6), some (.int x7), some (.int x8), some (.int x9)], [.ref 0], (mm L X I J)) else bndN (call nX11_within [.int x9, .int (0 : Int32), .int (5 : Int32)] (mm L X I J)) (fun v m' => runI call iX11_would (109, [some (.ref 0), some (.int x1), some (.int x2), some (.int x3), some (.int x4), some (.int x5), some (.int x6), some (.int x7), some (.int x8), some (.int x9)], v.toList ++ [.ref 0], m')) := by
  refine Eq.trans (if_eq (tgt := 116) dX11_would_99 (by decide +kernel)) (ite_cong (fun _ => ?_) (fun _ => ?_))
  · rfl
  · refine Eq.trans (st1 dX11_would_102 rfl rfl) ?_
    refine Eq.trans (xiconst dX11_would_104 ci_0) ?_
    refine Eq.trans (xiconst dX11_would_105 ci_5) ?_
    exact is2 dX11_would_106 cp_11_189 (Nat.le_of_ble_eq_true rfl) rfl rfl (Nat.le_of_ble_eq_true rfl)
theorem q_X11_would_117 {call : CALL} {L X : Nat} {I : Nat → Nat → Int32} {J : Nat → Nat → Int64} {x1 : Int32} {x2 : Int32} {x3 : Int32} {x4 : Int32} {x5 : Int32} {x6 : Int32} {x7 : Int32} {x8 : Int32} {x9 : Int32} {s1 : Int32} : runI call iX11_would (117, [some (.ref 0), some (.int x1), some (.int x2), some (.int x3), some (.int x4), some (.int x5), some (.int x6), some (.int x7), some (.int x8), some (.int x9)], [.int s1, .ref 0], (mm L X I J)) = bnd (call nX11_expect [.ref 0, .int s1] (mm L X I J)) (fun v m' => runI call iX11_would (120, [some (.ref 0), some (.int x1), some (.int x2), some (.int x3), some (.int x4), some (.int x5), some (.int x6), some (.int x7), some (.int x8), some (.int x9)], v.toList ++ [], m')) := by
  exact iv0 dX11_would_117 rfl cp_11_193 rfl rfl (kd_ka ka_0) ka_0.1 (Nat.le_of_ble_eq_true rfl)
theorem q_X11_would_109 {call : CALL} {L X : Nat} {I : Nat → Nat → Int32} {J : Nat → Nat → Int64} {x1 : Int32} {x2 : Int32} {x3 : Int32} {x4 : Int32} {x5 : Int32} {x6 : Int32} {x7 : Int32} {x8 : Int32} {x9 : Int32} {s1 : Int32} : runI call iX11_would (109, [some (.ref 0), some (.int x1), some (.int x2), some (.int x3), some (.int x4), some (.int x5), some (.int x6), some (.int x7), some (.int x8), some (.int x9)], [.int s1, .ref 0], (mm L X I J)) = if s1 = 0 then runI call iX11_would (116, [some (.ref 0), some (.int x1), some (.int x2), some (.int x3), some (.int x4), some (.int x5), some (.int x6), some (.int x7), some (.int x8), some (.int x9)], [.ref 0], (mm L X I J)) else runI call iX11_would (117, [some (.ref 0), some (.int x1), some (.int x2), some (.int x3), some (.int x4), some (.int x5), some (.int x6), some (.int x7), some (.int x8), some (.int x9)], [.int (1 : Int32), .ref 0], (mm L X I J)) := by
  refine Eq.trans (if_eq (tgt := 116) dX11_would_109 (by decide +kernel)) (ite_cong (fun _ => ?_) (fun _ => ?_))
  · rfl
  · refine Eq.trans (xiconst dX11_would_112 ci_1) ?_
    refine Eq.trans (go_to (tgt := 117) dX11_would_113 (by decide +kernel)) ?_
    rfl
theorem q_X11_would_120 {call : CALL} {L X : Nat} {I : Nat → Nat → Int32} {J : Nat → Nat → Int64} {x1 : Int32} {x2 : Int32} {x3 : Int32} {x4 : Int32} {x5 : Int32} {x6 : Int32} {x7 : Int32} {x8 : Int32} {x9 : Int32} : runI call iX11_would (120, [some (.ref 0), some (.int x1), some (.int x2), some (.int x3), some (.int x4), some (.int x5), some (.int x6), some (.int x7), some (.int x8), some (.int x9)], [], (mm L X I J)) = bnd (call nX2_tellPiece [.ref 23, .int x2, .int x3, .int x7, .int x9] (mm L X I J)) (fun v m' => runI call iX11_would (133, [some (.ref 0), some (.int x1), some (.int x2), some (.int x3), some (.int x4), some (.int x5), some (.int x6), some (.int x7), some (.int x8), some (.int x9)], v.toList ++ [], m')) := by
  refine Eq.trans (st1 dX11_would_120 rfl rfl) ?_
  refine Eq.trans (getRm dX11_would_121 cp_11_29 ka_0 rfl r_0_3) ?_
  refine Eq.trans (st1 dX11_would_124 rfl rfl) ?_
  refine Eq.trans (st1 dX11_would_125 rfl rfl) ?_
  refine Eq.trans (st1 dX11_would_126 rfl rfl) ?_
  refine Eq.trans (st1 dX11_would_128 rfl rfl) ?_
  exact iv0 dX11_would_130 rfl cp_11_296 rfl rfl (kd_ka ka_23) ka_23.1 (Nat.le_of_ble_eq_true rfl)
theorem q_X11_would_133 {call : CALL} {L X : Nat} {I : Nat → Nat → Int32} {J : Nat → Nat → Int64} {x1 : Int32} {u2 : Option Value} {u3 : Option Value} {x4 : Int32} {x5 : Int32} {x6 : Int32} {u7 : Option Value} {x8 : Int32} {u9 : Option Value} : runI call iX11_would (133, [some (.ref 0), some (.int x1), u2, u3, some (.int x4), some (.int x5), some (.int x6), u7, some (.int x8), u9], [], (mm L X I J)) = bnd (call nX2_tellNow [.ref 23, .int x1, .int x4, .int x5, .int x6, .int x8] (mm L X I J)) (fun v m' => runI call iX11_would (149, [some (.ref 0), some (.int x1), u2, u3, some (.int x4), some (.int x5), some (.int x6), u7, some (.int x8), u9], v.toList ++ [], m')) := by
  refine Eq.trans (st1 dX11_would_133 rfl rfl) ?_
  refine Eq.trans (getRm dX11_would_134 cp_11_29 ka_0 rfl r_0_3) ?_
  refine Eq.trans (st1 dX11_would_137 rfl rfl) ?_
  refine Eq.trans (st1 dX11_would_138 rfl rfl) ?_
  refine Eq.trans (st1 dX11_would_140 rfl rfl) ?_
  refine Eq.trans (st1 dX11_would_142 rfl rfl) ?_
  refine Eq.trans (st1 dX11_would_144 rfl rfl) ?_
  exact iv0 dX11_would_146 rfl cp_11_300 rfl rfl (kd_ka ka_23) ka_23.1 (Nat.le_of_ble_eq_true rfl)
theorem q_X11_would_149 {call : CALL} {L X : Nat} {I : Nat → Nat → Int32} {J : Nat → Nat → Int64} {u1 : Option Value} {u2 : Option Value} {u3 : Option Value} {u4 : Option Value} {u5 : Option Value} {u6 : Option Value} {u7 : Option Value} {u8 : Option Value} {u9 : Option Value} : runI call iX11_would (149, [some (.ref 0), u1, u2, u3, u4, u5, u6, u7, u8, u9], [], (mm L X I J)) = bnd (call nX2_left [.ref 23] (mm L X I J)) (fun v m' => runI call iX11_would (156, [some (.ref 0), u1, u2, u3, u4, u5, u6, u7, u8, u9], v.toList ++ [], m')) := by
  refine Eq.trans (st1 dX11_would_149 rfl rfl) ?_
  refine Eq.trans (getRm dX11_would_150 cp_11_29 ka_0 rfl r_0_3) ?_
  exact iv0 dX11_would_153 rfl cp_11_304 rfl rfl (kd_ka ka_23) ka_23.1 (Nat.le_of_ble_eq_true rfl)
theorem q_X11_would_156 {call : CALL} {L X : Nat} {I : Nat → Nat → Int32} {J : Nat → Nat → Int64} {u0 : Option Value} {u1 : Option Value} {u2 : Option Value} {u3 : Option Value} {u4 : Option Value} {u5 : Option Value} {u6 : Option Value} {u7 : Option Value} {u8 : Option Value} {u9 : Option Value} {s0 : Int32} : runI call iX11_would (156, [u0, u1, u2, u3, u4, u5, u6, u7, u8, u9], [.int s0], (mm L X I J)) = some (.inl (some (.int s0)), (mm L X I J)) := by
  exact ret0 dX11_would_156 rfl
theorem q_X11_fits_0 {call : CALL} {L X : Nat} {I : Nat → Nat → Int32} {J : Nat → Nat → Int64} {x1 : Int32} {x2 : Int32} : runI call iX11_fits (0, [some (.ref 0), some (.int x1), some (.int x2)], [], (mm L X I J)) = bnd (call nX11_expectThread [.ref 0, .int x1] (mm L X I J)) (fun v m' => runI call iX11_fits (5, [some (.ref 0), some (.int x1), some (.int x2)], v.toList ++ [], m')) := by
  refine Eq.trans (st1 dX11_fits_0 rfl rfl) ?_
  refine Eq.trans (st1 dX11_fits_1 rfl rfl) ?_
  exact iv0 dX11_fits_2 rfl cp_11_306 rfl rfl (kd_ka ka_0) ka_0.1 (Nat.le_of_ble_eq_true rfl)
theorem q_X11_fits_5 {call : CALL} {L X : Nat} {I : Nat → Nat → Int32} {J : Nat → Nat → Int64} {x1 : Int32} {x2 : Int32} : runI call iX11_fits (5, [some (.ref 0), some (.int x1), some (.int x2)], [], (mm L X I J)) = bnd (call nX11_expectThread [.ref 0, .int x2] (mm L X I J)) (fun v m' => runI call iX11_fits (10, [some (.ref 0), some (.int x1), some (.int x2)], v.toList ++ [], m')) := by
  refine Eq.trans (st1 dX11_fits_5 rfl rfl) ?_
  refine Eq.trans (st1 dX11_fits_6 rfl rfl) ?_
  exact iv0 dX11_fits_7 rfl cp_11_306 rfl rfl (kd_ka ka_0) ka_0.1 (Nat.le_of_ble_eq_true rfl)
theorem q_X11_fits_10 {call : CALL} {L X : Nat} {I : Nat → Nat → Int32} {J : Nat → Nat → Int64} {x1 : Int32} {x2 : Int32} : runI call iX11_fits (10, [some (.ref 0), some (.int x1), some (.int x2)], [], (mm L X I J)) = bnd (call nX1_joins [.ref 3, .int x1, .int x2] (mm L X I J)) (fun v m' => runI call iX11_fits (19, [some (.ref 0), some (.int x1), some (.int x2)], v.toList ++ [], m')) := by
  refine Eq.trans (st1 dX11_fits_10 rfl rfl) ?_
  refine Eq.trans (getRm dX11_fits_11 cp_11_19 ka_0 rfl r_0_1) ?_
  refine Eq.trans (st1 dX11_fits_14 rfl rfl) ?_
  refine Eq.trans (st1 dX11_fits_15 rfl rfl) ?_
  exact iv0 dX11_fits_16 rfl cp_11_309 rfl rfl (kd_ka ka_3) ka_3.1 (Nat.le_of_ble_eq_true rfl)
theorem q_X11_fits_19 {call : CALL} {L X : Nat} {I : Nat → Nat → Int32} {J : Nat → Nat → Int64} {u0 : Option Value} {u1 : Option Value} {u2 : Option Value} {s0 : Int32} : runI call iX11_fits (19, [u0, u1, u2], [.int s0], (mm L X I J)) = gd (b01 s0) (some (.inl (some (.int s0)), (mm L X I J))) := by
  exact ret1g dX11_fits_19 rfl
theorem q_X11_expectThread_0 {call : CALL} {L X : Nat} {I : Nat → Nat → Int32} {J : Nat → Nat → Int64} {x1 : Int32} : runI call iX11_expectThread (0, [some (.ref 0), some (.int x1)], [], (mm L X I J)) = bndN (call nX11_within [.int x1, .int (0 : Int32), .int (9 : Int32)] (mm L X I J)) (fun v m' => runI call iX11_expectThread (8, [some (.ref 0), some (.int x1)], v.toList ++ [.ref 0], m')) := by
  refine Eq.trans (st1 dX11_expectThread_0 rfl rfl) ?_
  refine Eq.trans (st1 dX11_expectThread_1 rfl rfl) ?_
  refine Eq.trans (xiconst dX11_expectThread_2 ci_0) ?_
  refine Eq.trans (xbipush dX11_expectThread_3 cb_9) ?_
  exact is2 dX11_expectThread_5 cp_11_189 (Nat.le_of_ble_eq_true rfl) rfl rfl (Nat.le_of_ble_eq_true rfl)
theorem q_X11_expectThread_8 {call : CALL} {L X : Nat} {I : Nat → Nat → Int32} {J : Nat → Nat → Int64} {u0 : Option Value} {u1 : Option Value} {s1 : Int32} : runI call iX11_expectThread (8, [u0, u1], [.int s1, .ref 0], (mm L X I J)) = bnd (call nX11_expect [.ref 0, .int s1] (mm L X I J)) (fun v m' => runI call iX11_expectThread (11, [u0, u1], v.toList ++ [], m')) := by
  exact iv0 dX11_expectThread_8 rfl cp_11_193 rfl rfl (kd_ka ka_0) ka_0.1 (Nat.le_of_ble_eq_true rfl)
theorem q_X11_expectThread_11 {call : CALL} {L X : Nat} {I : Nat → Nat → Int32} {J : Nat → Nat → Int64} {u0 : Option Value} {u1 : Option Value} : runI call iX11_expectThread (11, [u0, u1], [], (mm L X I J)) = some (.inl none, (mm L X I J)) := by
  exact ret3 dX11_expectThread_11 (.inl rfl)
theorem q_X11_can_0 {call : CALL} {L X : Nat} {I : Nat → Nat → Int32} {J : Nat → Nat → Int64} {x1 : Int32} : runI call iX11_can (0, [some (.ref 0), some (.int x1)], [], (mm L X I J)) = bnd (call nX11_expectPiece [.ref 0, .int x1] (mm L X I J)) (fun v m' => runI call iX11_can (5, [some (.ref 0), some (.int x1)], v.toList ++ [], m')) := by
  refine Eq.trans (st1 dX11_can_0 rfl rfl) ?_
  refine Eq.trans (st1 dX11_can_1 rfl rfl) ?_
  exact iv0 dX11_can_2 rfl cp_11_225 rfl rfl (kd_ka ka_0) ka_0.1 (Nat.le_of_ble_eq_true rfl)
theorem q_X11_can_5 {call : CALL} {L X : Nat} {I : Nat → Nat → Int32} {J : Nat → Nat → Int64} {x1 : Int32} : runI call iX11_can (5, [some (.ref 0), some (.int x1)], [], (mm L X I J)) = bnd (call nX3_wayOf [.ref 43, .int x1] (mm L X I J)) (fun v m' => runI call iX11_can (21, [some (.ref 0), some (.int x1)], v.toList ++ [.ref 3, .ref 43], m')) := by
  refine Eq.trans (st1 dX11_can_5 rfl rfl) ?_
  refine Eq.trans (getRm dX11_can_6 cp_11_56 ka_0 rfl r_0_8) ?_
  refine Eq.trans (st1 dX11_can_9 rfl rfl) ?_
  refine Eq.trans (getRm dX11_can_10 cp_11_19 ka_0 rfl r_0_1) ?_
  refine Eq.trans (st1 dX11_can_13 rfl rfl) ?_
  refine Eq.trans (getRm dX11_can_14 cp_11_56 ka_0 rfl r_0_8) ?_
  refine Eq.trans (st1 dX11_can_17 rfl rfl) ?_
  exact iv0 dX11_can_18 rfl cp_11_236 rfl rfl (kd_ka ka_43) ka_43.1 (Nat.le_of_ble_eq_true rfl)
theorem q_X11_can_21 {call : CALL} {L X : Nat} {I : Nat → Nat → Int32} {J : Nat → Nat → Int64} {u0 : Option Value} {u1 : Option Value} {s2 : Int32} : runI call iX11_can (21, [u0, u1], [.int s2, .ref 3, .ref 43], (mm L X I J)) = bnd (call nX3_canLay [.ref 43, .ref 3, .int s2] (mm L X I J)) (fun v m' => runI call iX11_can (24, [u0, u1], v.toList ++ [], m')) := by
  exact iv0 dX11_can_21 rfl cp_11_313 rfl rfl (kd_ka ka_43) ka_43.1 (Nat.le_of_ble_eq_true rfl)
theorem q_X11_can_24 {call : CALL} {L X : Nat} {I : Nat → Nat → Int32} {J : Nat → Nat → Int64} {u0 : Option Value} {u1 : Option Value} {s0 : Int32} : runI call iX11_can (24, [u0, u1], [.int s0], (mm L X I J)) = gd (b01 s0) (some (.inl (some (.int s0)), (mm L X I J))) := by
  exact ret1g dX11_can_24 rfl
theorem q_X11_ahead_0 {call : CALL} {L X : Nat} {I : Nat → Nat → Int32} {J : Nat → Nat → Int64} {x1 : Int32} : runI call iX11_ahead (0, [some (.ref 0), some (.int x1)], [], (mm L X I J)) = bndN (call nX11_within [.int x1, .int (0 : Int32), .int (99 : Int32)] (mm L X I J)) (fun v m' => runI call iX11_ahead (8, [some (.ref 0), some (.int x1)], v.toList ++ [.ref 0], m')) := by
  refine Eq.trans (st1 dX11_ahead_0 rfl rfl) ?_
  refine Eq.trans (st1 dX11_ahead_1 rfl rfl) ?_
  refine Eq.trans (xiconst dX11_ahead_2 ci_0) ?_
  refine Eq.trans (xbipush dX11_ahead_3 cb_99) ?_
  exact is2 dX11_ahead_5 cp_11_189 (Nat.le_of_ble_eq_true rfl) rfl rfl (Nat.le_of_ble_eq_true rfl)
theorem q_X11_ahead_8 {call : CALL} {L X : Nat} {I : Nat → Nat → Int32} {J : Nat → Nat → Int64} {x1 : Int32} {s1 : Int32} : runI call iX11_ahead (8, [some (.ref 0), some (.int x1)], [.int s1, .ref 0], (mm L X I J)) = bnd (call nX11_expect [.ref 0, .int s1] (mm L X I J)) (fun v m' => runI call iX11_ahead (11, [some (.ref 0), some (.int x1)], v.toList ++ [], m')) := by
  exact iv0 dX11_ahead_8 rfl cp_11_193 rfl rfl (kd_ka ka_0) ka_0.1 (Nat.le_of_ble_eq_true rfl)
theorem q_X11_ahead_11 {call : CALL} {L X : Nat} {I : Nat → Nat → Int32} {J : Nat → Nat → Int64} {x1 : Int32} : runI call iX11_ahead (11, [some (.ref 0), some (.int x1)], [], (mm L X I J)) = bnd (call nX10_outAfter [.ref 66, .ref 43, .int x1] (mm L X I J)) (fun v m' => runI call iX11_ahead (23, [some (.ref 0), some (.int x1)], v.toList ++ [], m')) := by
  refine Eq.trans (st1 dX11_ahead_11 rfl rfl) ?_
  refine Eq.trans (getRm dX11_ahead_12 cp_11_97 ka_0 rfl r_0_13) ?_
  refine Eq.trans (st1 dX11_ahead_15 rfl rfl) ?_
  refine Eq.trans (getRm dX11_ahead_16 cp_11_56 ka_0 rfl r_0_8) ?_
  refine Eq.trans (st1 dX11_ahead_19 rfl rfl) ?_
  exact iv0 dX11_ahead_20 rfl cp_11_317 rfl rfl (kd_ka ka_66) ka_66.1 (Nat.le_of_ble_eq_true rfl)
theorem q_X11_ahead_23 {call : CALL} {L X : Nat} {I : Nat → Nat → Int32} {J : Nat → Nat → Int64} {u0 : Option Value} {u1 : Option Value} {s0 : Int32} : runI call iX11_ahead (23, [u0, u1], [.int s0], (mm L X I J)) = some (.inl (some (.int s0)), (mm L X I J)) := by
  exact ret0 dX11_ahead_23 rfl
theorem q_X11_chain_0 {call : CALL} {L X : Nat} {I : Nat → Nat → Int32} {J : Nat → Nat → Int64} {x1 : Int32} : runI call iX11_chain (0, [some (.ref 0), some (.int x1)], [], (mm L X I J)) = bndN (call nX11_within [.int x1, .int (0 : Int32), .int (1 : Int32)] (mm L X I J)) (fun v m' => runI call iX11_chain (7, [some (.ref 0), some (.int x1)], v.toList ++ [.ref 0], m')) := by
  refine Eq.trans (st1 dX11_chain_0 rfl rfl) ?_
  refine Eq.trans (st1 dX11_chain_1 rfl rfl) ?_
  refine Eq.trans (xiconst dX11_chain_2 ci_0) ?_
  refine Eq.trans (xiconst dX11_chain_3 ci_1) ?_
  exact is2 dX11_chain_4 cp_11_189 (Nat.le_of_ble_eq_true rfl) rfl rfl (Nat.le_of_ble_eq_true rfl)
theorem q_X11_chain_7 {call : CALL} {L X : Nat} {I : Nat → Nat → Int32} {J : Nat → Nat → Int64} {x1 : Int32} {s1 : Int32} : runI call iX11_chain (7, [some (.ref 0), some (.int x1)], [.int s1, .ref 0], (mm L X I J)) = bnd (call nX11_expect [.ref 0, .int s1] (mm L X I J)) (fun v m' => runI call iX11_chain (10, [some (.ref 0), some (.int x1)], v.toList ++ [], m')) := by
  exact iv0 dX11_chain_7 rfl cp_11_193 rfl rfl (kd_ka ka_0) ka_0.1 (Nat.le_of_ble_eq_true rfl)
theorem q_X11_chain_10 {call : CALL} {L X : Nat} {I : Nat → Nat → Int32} {J : Nat → Nat → Int64} {x1 : Int32} : runI call iX11_chain (10, [some (.ref 0), some (.int x1)], [], (mm L X I J)) = bnd (call nX5_findChain [.ref 56] (mm L X I J)) (fun v m' => runI call iX11_chain (17, [some (.ref 0), some (.int x1)], v.toList ++ [], m')) := by
  refine Eq.trans (st1 dX11_chain_10 rfl rfl) ?_
  refine Eq.trans (getRm dX11_chain_11 cp_11_81 ka_0 rfl r_0_11) ?_
  exact iv0 dX11_chain_14 rfl cp_11_320 rfl rfl (kd_ka ka_56) ka_56.1 (Nat.le_of_ble_eq_true rfl)
theorem q_X11_chain_17 {call : CALL} {L X : Nat} {I : Nat → Nat → Int32} {J : Nat → Nat → Int64} {x1 : Int32} : runI call iX11_chain (17, [some (.ref 0), some (.int x1)], [], (mm L X I J)) = if x1 = 0 then some (.inl (some (.int (I 56 7))), (mm L X I J)) else some (.inl (some (.int (I 56 6))), (mm L X I J)) := by
  refine Eq.trans (st1 dX11_chain_17 rfl rfl) ?_
  refine Eq.trans (if_ne (tgt := 31) dX11_chain_18 (by decide +kernel)) (ite_cong (fun _ => ?_) (fun _ => ?_))
  · refine Eq.trans (st1 dX11_chain_21 rfl rfl) ?_
    refine Eq.trans (getRm dX11_chain_22 cp_11_81 ka_0 rfl r_0_11) ?_
    refine Eq.trans (getIm dX11_chain_25 cp_11_323 ka_56 (.inl rfl)) ?_
    refine Eq.trans (go_to (tgt := 38) dX11_chain_28 (by decide +kernel)) ?_
    exact ret0 dX11_chain_38 rfl
  · refine Eq.trans (st1 dX11_chain_31 rfl rfl) ?_
    refine Eq.trans (getRm dX11_chain_32 cp_11_81 ka_0 rfl r_0_11) ?_
    refine Eq.trans (getIm dX11_chain_35 cp_11_326 ka_56 (.inl rfl)) ?_
    exact ret0 dX11_chain_38 rfl
theorem q_X11_chained_0 {call : CALL} {L X : Nat} {I : Nat → Nat → Int32} {J : Nat → Nat → Int64} {x1 : Int32} : runI call iX11_chained (0, [some (.ref 0), some (.int x1)], [], (mm L X I J)) = if x1 < 0 then runI call iX11_chained (10, [some (.ref 0), some (.int x1)], [.int (0 : Int32), .ref 0], (mm L X I J)) else runI call iX11_chained (10, [some (.ref 0), some (.int x1)], [.int (1 : Int32), .ref 0], (mm L X I J)) := by
  refine Eq.trans (st1 dX11_chained_0 rfl rfl) ?_
  refine Eq.trans (st1 dX11_chained_1 rfl rfl) ?_
  refine Eq.trans (if_lt (tgt := 9) dX11_chained_2 (by decide +kernel)) (ite_cong (fun _ => ?_) (fun _ => ?_))
  · refine Eq.trans (xiconst dX11_chained_9 ci_0) ?_
    rfl
  · refine Eq.trans (xiconst dX11_chained_5 ci_1) ?_
    refine Eq.trans (go_to (tgt := 10) dX11_chained_6 (by decide +kernel)) ?_
    rfl
theorem q_X11_chained_10 {call : CALL} {L X : Nat} {I : Nat → Nat → Int32} {J : Nat → Nat → Int64} {x1 : Int32} {s1 : Int32} : runI call iX11_chained (10, [some (.ref 0), some (.int x1)], [.int s1, .ref 0], (mm L X I J)) = bnd (call nX11_expect [.ref 0, .int s1] (mm L X I J)) (fun v m' => runI call iX11_chained (13, [some (.ref 0), some (.int x1)], v.toList ++ [], m')) := by
  exact iv0 dX11_chained_10 rfl cp_11_193 rfl rfl (kd_ka ka_0) ka_0.1 (Nat.le_of_ble_eq_true rfl)
theorem q_X11_chained_13 {call : CALL} {L X : Nat} {I : Nat → Nat → Int32} {J : Nat → Nat → Int64} {x1 : Int32} : runI call iX11_chained (13, [some (.ref 0), some (.int x1)], [], (mm L X I J)) = bnd (call nX5_findChain [.ref 56] (mm L X I J)) (fun v m' => runI call iX11_chained (20, [some (.ref 0), some (.int x1)], v.toList ++ [], m')) := by
  refine Eq.trans (st1 dX11_chained_13 rfl rfl) ?_
  refine Eq.trans (getRm dX11_chained_14 cp_11_81 ka_0 rfl r_0_11) ?_
  exact iv0 dX11_chained_17 rfl cp_11_320 rfl rfl (kd_ka ka_56) ka_56.1 (Nat.le_of_ble_eq_true rfl)
theorem q_X11_chained_20 {call : CALL} {L X : Nat} {I : Nat → Nat → Int32} {J : Nat → Nat → Int64} {x1 : Int32} : runI call iX11_chained (20, [some (.ref 0), some (.int x1)], [], (mm L X I J)) = if (I 56 6) ≤ x1 then some (.inl (some (.int (-1 : Int32))), (mm L X I J)) else bndN (call nX11_pick [.ref 59, .int x1] (mm L X I J)) (fun v m' => runI call iX11_chained (42, [some (.ref 0), some (.int x1)], v.toList ++ [], m')) := by
  refine Eq.trans (st1 dX11_chained_20 rfl rfl) ?_
  refine Eq.trans (st1 dX11_chained_21 rfl rfl) ?_
  refine Eq.trans (getRm dX11_chained_22 cp_11_81 ka_0 rfl r_0_11) ?_
  refine Eq.trans (getIm dX11_chained_25 cp_11_326 ka_56 (.inl rfl)) ?_
  refine Eq.trans (ic_ge (tgt := 45) dX11_chained_28 (by decide +kernel)) (ite_cong (fun _ => ?_) (fun _ => ?_))
  · refine Eq.trans (xiconst dX11_chained_45 ci_m1) ?_
    exact ret0 dX11_chained_46 rfl
  · refine Eq.trans (st1 dX11_chained_31 rfl rfl) ?_
    refine Eq.trans (getRm dX11_chained_32 cp_11_81 ka_0 rfl r_0_11) ?_
    refine Eq.trans (getRm dX11_chained_35 cp_11_329 ka_56 rfl r_56_5) ?_
    refine Eq.trans (st1 dX11_chained_38 rfl rfl) ?_
    exact is2 dX11_chained_39 cp_11_232 (Nat.le_of_ble_eq_true rfl) rfl rfl (Nat.le_of_ble_eq_true rfl)
theorem q_X11_chained_42 {call : CALL} {L X : Nat} {I : Nat → Nat → Int32} {J : Nat → Nat → Int64} {u0 : Option Value} {u1 : Option Value} {s0 : Int32} : runI call iX11_chained (42, [u0, u1], [.int s0], (mm L X I J)) = some (.inl (some (.int s0)), (mm L X I J)) := by
  refine Eq.trans (go_to (tgt := 46) dX11_chained_42 (by decide +kernel)) ?_
  exact ret0 dX11_chained_46 rfl
theorem q_X11_brief_0 {call : CALL} {L X : Nat} {I : Nat → Nat → Int32} {J : Nat → Nat → Int64} {x1 : Int32} : runI call iX11_brief (0, [some (.ref 0), some (.int x1)], [], (mm L X I J)) = bnd (call nX11_expectFire [.ref 0, .int x1] (mm L X I J)) (fun v m' => runI call iX11_brief (5, [some (.ref 0), some (.int x1)], v.toList ++ [], m')) := by
  refine Eq.trans (st1 dX11_brief_0 rfl rfl) ?_
  refine Eq.trans (st1 dX11_brief_1 rfl rfl) ?_
  exact iv0 dX11_brief_2 rfl cp_11_274 rfl rfl (kd_ka ka_0) ka_0.1 (Nat.le_of_ble_eq_true rfl)
theorem q_X11_brief_5 {call : CALL} {L X : Nat} {I : Nat → Nat → Int32} {J : Nat → Nat → Int64} {x1 : Int32} : runI call iX11_brief (5, [some (.ref 0), some (.int x1)], [], (mm L X I J)) = bnd (call nX5_findShort [.ref 56, .ref 43, .int x1] (mm L X I J)) (fun v m' => runI call iX11_brief (17, [some (.ref 0), some (.int x1)], v.toList ++ [], m')) := by
  refine Eq.trans (st1 dX11_brief_5 rfl rfl) ?_
  refine Eq.trans (getRm dX11_brief_6 cp_11_81 ka_0 rfl r_0_11) ?_
  refine Eq.trans (st1 dX11_brief_9 rfl rfl) ?_
  refine Eq.trans (getRm dX11_brief_10 cp_11_56 ka_0 rfl r_0_8) ?_
  refine Eq.trans (st1 dX11_brief_13 rfl rfl) ?_
  exact iv0 dX11_brief_14 rfl cp_11_332 rfl rfl (kd_ka ka_56) ka_56.1 (Nat.le_of_ble_eq_true rfl)
theorem q_X11_brief_17 {call : CALL} {L X : Nat} {I : Nat → Nat → Int32} {J : Nat → Nat → Int64} {u1 : Option Value} : runI call iX11_brief (17, [some (.ref 0), u1], [], (mm L X I J)) = some (.inl (some (.int (I 56 13))), (mm L X I J)) := by
  refine Eq.trans (st1 dX11_brief_17 rfl rfl) ?_
  refine Eq.trans (getRm dX11_brief_18 cp_11_81 ka_0 rfl r_0_11) ?_
  refine Eq.trans (getIm dX11_brief_21 cp_11_336 ka_56 (.inl rfl)) ?_
  exact ret0 dX11_brief_24 rfl
theorem q_X11_briefly_0 {call : CALL} {L X : Nat} {I : Nat → Nat → Int32} {J : Nat → Nat → Int64} {x1 : Int32} {x2 : Int32} : runI call iX11_briefly (0, [some (.ref 0), some (.int x1), some (.int x2)], [], (mm L X I J)) = bnd (call nX11_expectFire [.ref 0, .int x1] (mm L X I J)) (fun v m' => runI call iX11_briefly (5, [some (.ref 0), some (.int x1), some (.int x2)], v.toList ++ [], m')) := by
  refine Eq.trans (st1 dX11_briefly_0 rfl rfl) ?_
  refine Eq.trans (st1 dX11_briefly_1 rfl rfl) ?_
  exact iv0 dX11_briefly_2 rfl cp_11_274 rfl rfl (kd_ka ka_0) ka_0.1 (Nat.le_of_ble_eq_true rfl)
theorem q_X11_briefly_5 {call : CALL} {L X : Nat} {I : Nat → Nat → Int32} {J : Nat → Nat → Int64} {x1 : Int32} {x2 : Int32} : runI call iX11_briefly (5, [some (.ref 0), some (.int x1), some (.int x2)], [], (mm L X I J)) = if x2 < 0 then runI call iX11_briefly (15, [some (.ref 0), some (.int x1), some (.int x2)], [.int (0 : Int32), .ref 0], (mm L X I J)) else runI call iX11_briefly (15, [some (.ref 0), some (.int x1), some (.int x2)], [.int (1 : Int32), .ref 0], (mm L X I J)) := by
  refine Eq.trans (st1 dX11_briefly_5 rfl rfl) ?_
  refine Eq.trans (st1 dX11_briefly_6 rfl rfl) ?_
  refine Eq.trans (if_lt (tgt := 14) dX11_briefly_7 (by decide +kernel)) (ite_cong (fun _ => ?_) (fun _ => ?_))
  · refine Eq.trans (xiconst dX11_briefly_14 ci_0) ?_
    rfl
  · refine Eq.trans (xiconst dX11_briefly_10 ci_1) ?_
    refine Eq.trans (go_to (tgt := 15) dX11_briefly_11 (by decide +kernel)) ?_
    rfl
theorem q_X11_briefly_15 {call : CALL} {L X : Nat} {I : Nat → Nat → Int32} {J : Nat → Nat → Int64} {x1 : Int32} {x2 : Int32} {s1 : Int32} : runI call iX11_briefly (15, [some (.ref 0), some (.int x1), some (.int x2)], [.int s1, .ref 0], (mm L X I J)) = bnd (call nX11_expect [.ref 0, .int s1] (mm L X I J)) (fun v m' => runI call iX11_briefly (18, [some (.ref 0), some (.int x1), some (.int x2)], v.toList ++ [], m')) := by
  exact iv0 dX11_briefly_15 rfl cp_11_193 rfl rfl (kd_ka ka_0) ka_0.1 (Nat.le_of_ble_eq_true rfl)
theorem q_X11_briefly_18 {call : CALL} {L X : Nat} {I : Nat → Nat → Int32} {J : Nat → Nat → Int64} {x1 : Int32} {x2 : Int32} : runI call iX11_briefly (18, [some (.ref 0), some (.int x1), some (.int x2)], [], (mm L X I J)) = bnd (call nX5_findShort [.ref 56, .ref 43, .int x1] (mm L X I J)) (fun v m' => runI call iX11_briefly (30, [some (.ref 0), some (.int x1), some (.int x2)], v.toList ++ [], m')) := by
  refine Eq.trans (st1 dX11_briefly_18 rfl rfl) ?_
  refine Eq.trans (getRm dX11_briefly_19 cp_11_81 ka_0 rfl r_0_11) ?_
  refine Eq.trans (st1 dX11_briefly_22 rfl rfl) ?_
  refine Eq.trans (getRm dX11_briefly_23 cp_11_56 ka_0 rfl r_0_8) ?_
  refine Eq.trans (st1 dX11_briefly_26 rfl rfl) ?_
  exact iv0 dX11_briefly_27 rfl cp_11_332 rfl rfl (kd_ka ka_56) ka_56.1 (Nat.le_of_ble_eq_true rfl)
theorem q_X11_briefly_30 {call : CALL} {L X : Nat} {I : Nat → Nat → Int32} {J : Nat → Nat → Int64} {u1 : Option Value} {x2 : Int32} : runI call iX11_briefly (30, [some (.ref 0), u1, some (.int x2)], [], (mm L X I J)) = if (I 56 13) ≤ x2 then some (.inl (some (.int (-1 : Int32))), (mm L X I J)) else bndN (call nX11_pick [.ref 60, .int x2] (mm L X I J)) (fun v m' => runI call iX11_briefly (52, [some (.ref 0), u1, some (.int x2)], v.toList ++ [], m')) := by
  refine Eq.trans (st1 dX11_briefly_30 rfl rfl) ?_
  refine Eq.trans (st1 dX11_briefly_31 rfl rfl) ?_
  refine Eq.trans (getRm dX11_briefly_32 cp_11_81 ka_0 rfl r_0_11) ?_
  refine Eq.trans (getIm dX11_briefly_35 cp_11_336 ka_56 (.inl rfl)) ?_
  refine Eq.trans (ic_ge (tgt := 55) dX11_briefly_38 (by decide +kernel)) (ite_cong (fun _ => ?_) (fun _ => ?_))
  · refine Eq.trans (xiconst dX11_briefly_55 ci_m1) ?_
    exact ret0 dX11_briefly_56 rfl
  · refine Eq.trans (st1 dX11_briefly_41 rfl rfl) ?_
    refine Eq.trans (getRm dX11_briefly_42 cp_11_81 ka_0 rfl r_0_11) ?_
    refine Eq.trans (getRm dX11_briefly_45 cp_11_339 ka_56 rfl r_56_12) ?_
    refine Eq.trans (st1 dX11_briefly_48 rfl rfl) ?_
    exact is2 dX11_briefly_49 cp_11_232 (Nat.le_of_ble_eq_true rfl) rfl rfl (Nat.le_of_ble_eq_true rfl)
theorem q_X11_briefly_52 {call : CALL} {L X : Nat} {I : Nat → Nat → Int32} {J : Nat → Nat → Int64} {u0 : Option Value} {u1 : Option Value} {u2 : Option Value} {s0 : Int32} : runI call iX11_briefly (52, [u0, u1, u2], [.int s0], (mm L X I J)) = some (.inl (some (.int s0)), (mm L X I J)) := by
  refine Eq.trans (go_to (tgt := 56) dX11_briefly_52 (by decide +kernel)) ?_
  exact ret0 dX11_briefly_56 rfl
theorem q_X11_joiner_0 {call : CALL} {L X : Nat} {I : Nat → Nat → Int32} {J : Nat → Nat → Int64} {x1 : Int32} : runI call iX11_joiner (0, [some (.ref 0), some (.int x1)], [], (mm L X I J)) = bndN (call nX11_within [.int x1, .int (0 : Int32), .int (1 : Int32)] (mm L X I J)) (fun v m' => runI call iX11_joiner (7, [some (.ref 0), some (.int x1)], v.toList ++ [.ref 0], m')) := by
  refine Eq.trans (st1 dX11_joiner_0 rfl rfl) ?_
  refine Eq.trans (st1 dX11_joiner_1 rfl rfl) ?_
  refine Eq.trans (xiconst dX11_joiner_2 ci_0) ?_
  refine Eq.trans (xiconst dX11_joiner_3 ci_1) ?_
  exact is2 dX11_joiner_4 cp_11_189 (Nat.le_of_ble_eq_true rfl) rfl rfl (Nat.le_of_ble_eq_true rfl)
theorem q_X11_joiner_7 {call : CALL} {L X : Nat} {I : Nat → Nat → Int32} {J : Nat → Nat → Int64} {x1 : Int32} {s1 : Int32} : runI call iX11_joiner (7, [some (.ref 0), some (.int x1)], [.int s1, .ref 0], (mm L X I J)) = bnd (call nX11_expect [.ref 0, .int s1] (mm L X I J)) (fun v m' => runI call iX11_joiner (10, [some (.ref 0), some (.int x1)], v.toList ++ [], m')) := by
  exact iv0 dX11_joiner_7 rfl cp_11_193 rfl rfl (kd_ka ka_0) ka_0.1 (Nat.le_of_ble_eq_true rfl)
theorem q_X11_joiner_10 {call : CALL} {L X : Nat} {I : Nat → Nat → Int32} {J : Nat → Nat → Int64} {x1 : Int32} : runI call iX11_joiner (10, [some (.ref 0), some (.int x1)], [], (mm L X I J)) = bnd (call nX5_findCollar [.ref 56] (mm L X I J)) (fun v m' => runI call iX11_joiner (17, [some (.ref 0), some (.int x1)], v.toList ++ [], m')) := by
  refine Eq.trans (st1 dX11_joiner_10 rfl rfl) ?_
  refine Eq.trans (getRm dX11_joiner_11 cp_11_81 ka_0 rfl r_0_11) ?_
  exact iv0 dX11_joiner_14 rfl cp_11_342 rfl rfl (kd_ka ka_56) ka_56.1 (Nat.le_of_ble_eq_true rfl)
theorem q_X11_joiner_17 {call : CALL} {L X : Nat} {I : Nat → Nat → Int32} {J : Nat → Nat → Int64} {x1 : Int32} : runI call iX11_joiner (17, [some (.ref 0), some (.int x1)], [], (mm L X I J)) = if x1 = 0 then some (.inl (some (.int (I 56 9))), (mm L X I J)) else some (.inl (some (.int (I 56 10))), (mm L X I J)) := by
  refine Eq.trans (st1 dX11_joiner_17 rfl rfl) ?_
  refine Eq.trans (if_ne (tgt := 31) dX11_joiner_18 (by decide +kernel)) (ite_cong (fun _ => ?_) (fun _ => ?_))
  · refine Eq.trans (st1 dX11_joiner_21 rfl rfl) ?_
    refine Eq.trans (getRm dX11_joiner_22 cp_11_81 ka_0 rfl r_0_11) ?_
    refine Eq.trans (getIm dX11_joiner_25 cp_11_345 ka_56 (.inl rfl)) ?_
    refine Eq.trans (go_to (tgt := 38) dX11_joiner_28 (by decide +kernel)) ?_
    exact ret0 dX11_joiner_38 rfl
  · refine Eq.trans (st1 dX11_joiner_31 rfl rfl) ?_
    refine Eq.trans (getRm dX11_joiner_32 cp_11_81 ka_0 rfl r_0_11) ?_
    refine Eq.trans (getIm dX11_joiner_35 cp_11_348 ka_56 (.inl rfl)) ?_
    exact ret0 dX11_joiner_38 rfl
theorem q_X11_leaks_0 {call : CALL} {L X : Nat} {I : Nat → Nat → Int32} {J : Nat → Nat → Int64} {x1 : Int32} : runI call iX11_leaks (0, [some (.ref 0), some (.int x1)], [], (mm L X I J)) = bndN (call nX11_within [.int x1, .int (0 : Int32), .int (1 : Int32)] (mm L X I J)) (fun v m' => runI call iX11_leaks (7, [some (.ref 0), some (.int x1)], v.toList ++ [.ref 0], m')) := by
  refine Eq.trans (st1 dX11_leaks_0 rfl rfl) ?_
  refine Eq.trans (st1 dX11_leaks_1 rfl rfl) ?_
  refine Eq.trans (xiconst dX11_leaks_2 ci_0) ?_
  refine Eq.trans (xiconst dX11_leaks_3 ci_1) ?_
  exact is2 dX11_leaks_4 cp_11_189 (Nat.le_of_ble_eq_true rfl) rfl rfl (Nat.le_of_ble_eq_true rfl)
theorem q_X11_leaks_7 {call : CALL} {L X : Nat} {I : Nat → Nat → Int32} {J : Nat → Nat → Int64} {x1 : Int32} {s1 : Int32} : runI call iX11_leaks (7, [some (.ref 0), some (.int x1)], [.int s1, .ref 0], (mm L X I J)) = bnd (call nX11_expect [.ref 0, .int s1] (mm L X I J)) (fun v m' => runI call iX11_leaks (10, [some (.ref 0), some (.int x1)], v.toList ++ [], m')) := by
  exact iv0 dX11_leaks_7 rfl cp_11_193 rfl rfl (kd_ka ka_0) ka_0.1 (Nat.le_of_ble_eq_true rfl)
theorem q_X11_leaks_10 {call : CALL} {L X : Nat} {I : Nat → Nat → Int32} {J : Nat → Nat → Int64} {x1 : Int32} : runI call iX11_leaks (10, [some (.ref 0), some (.int x1)], [], (mm L X I J)) = bnd (call nX0_findLeaks [.ref 31, .ref 43, .ref 52] (mm L X I J)) (fun v m' => runI call iX11_leaks (25, [some (.ref 0), some (.int x1)], v.toList ++ [], m')) := by
  refine Eq.trans (st1 dX11_leaks_10 rfl rfl) ?_
  refine Eq.trans (getRm dX11_leaks_11 cp_11_39 ka_0 rfl r_0_5) ?_
  refine Eq.trans (st1 dX11_leaks_14 rfl rfl) ?_
  refine Eq.trans (getRm dX11_leaks_15 cp_11_56 ka_0 rfl r_0_8) ?_
  refine Eq.trans (st1 dX11_leaks_18 rfl rfl) ?_
  refine Eq.trans (getRm dX11_leaks_19 cp_11_72 ka_0 rfl r_0_10) ?_
  exact iv0 dX11_leaks_22 rfl cp_11_351 rfl rfl (kd_ka ka_31) ka_31.1 (Nat.le_of_ble_eq_true rfl)
theorem q_X11_leaks_25 {call : CALL} {L X : Nat} {I : Nat → Nat → Int32} {J : Nat → Nat → Int64} {x1 : Int32} : runI call iX11_leaks (25, [some (.ref 0), some (.int x1)], [], (mm L X I J)) = if x1 = 0 then some (.inl (some (.int (I 31 3))), (mm L X I J)) else some (.inl (some (.int (I 31 4))), (mm L X I J)) := by
  refine Eq.trans (st1 dX11_leaks_25 rfl rfl) ?_
  refine Eq.trans (if_ne (tgt := 39) dX11_leaks_26 (by decide +kernel)) (ite_cong (fun _ => ?_) (fun _ => ?_))
  · refine Eq.trans (st1 dX11_leaks_29 rfl rfl) ?_
    refine Eq.trans (getRm dX11_leaks_30 cp_11_39 ka_0 rfl r_0_5) ?_
    refine Eq.trans (getIm dX11_leaks_33 cp_11_355 ka_31 (.inl rfl)) ?_
    refine Eq.trans (go_to (tgt := 46) dX11_leaks_36 (by decide +kernel)) ?_
    exact ret0 dX11_leaks_46 rfl
  · refine Eq.trans (st1 dX11_leaks_39 rfl rfl) ?_
    refine Eq.trans (getRm dX11_leaks_40 cp_11_39 ka_0 rfl r_0_5) ?_
    refine Eq.trans (getIm dX11_leaks_43 cp_11_358 ka_31 (.inl rfl)) ?_
    exact ret0 dX11_leaks_46 rfl
theorem q_X11_look_0 {call : CALL} {L X : Nat} {I : Nat → Nat → Int32} {J : Nat → Nat → Int64} {x1 : Int32} : runI call iX11_look (0, [some (.ref 0), some (.int x1)], [], (mm L X I J)) = bndN (call nX11_within [.int x1, .int (0 : Int32), .int (1 : Int32)] (mm L X I J)) (fun v m' => runI call iX11_look (7, [some (.ref 0), some (.int x1)], v.toList ++ [.ref 0], m')) := by
  refine Eq.trans (st1 dX11_look_0 rfl rfl) ?_
  refine Eq.trans (st1 dX11_look_1 rfl rfl) ?_
  refine Eq.trans (xiconst dX11_look_2 ci_0) ?_
  refine Eq.trans (xiconst dX11_look_3 ci_1) ?_
  exact is2 dX11_look_4 cp_11_189 (Nat.le_of_ble_eq_true rfl) rfl rfl (Nat.le_of_ble_eq_true rfl)
theorem q_X11_look_7 {call : CALL} {L X : Nat} {I : Nat → Nat → Int32} {J : Nat → Nat → Int64} {x1 : Int32} {s1 : Int32} : runI call iX11_look (7, [some (.ref 0), some (.int x1)], [.int s1, .ref 0], (mm L X I J)) = bnd (call nX11_expect [.ref 0, .int s1] (mm L X I J)) (fun v m' => runI call iX11_look (10, [some (.ref 0), some (.int x1)], v.toList ++ [], m')) := by
  exact iv0 dX11_look_7 rfl cp_11_193 rfl rfl (kd_ka ka_0) ka_0.1 (Nat.le_of_ble_eq_true rfl)
theorem q_X11_look_10 {call : CALL} {L X : Nat} {I : Nat → Nat → Int32} {J : Nat → Nat → Int64} {x1 : Int32} : runI call iX11_look (10, [some (.ref 0), some (.int x1)], [], (mm L X I J)) = bnd (call nX0_findLook [.ref 31, .ref 43, .ref 52] (mm L X I J)) (fun v m' => runI call iX11_look (25, [some (.ref 0), some (.int x1)], v.toList ++ [], m')) := by
  refine Eq.trans (st1 dX11_look_10 rfl rfl) ?_
  refine Eq.trans (getRm dX11_look_11 cp_11_39 ka_0 rfl r_0_5) ?_
  refine Eq.trans (st1 dX11_look_14 rfl rfl) ?_
  refine Eq.trans (getRm dX11_look_15 cp_11_56 ka_0 rfl r_0_8) ?_
  refine Eq.trans (st1 dX11_look_18 rfl rfl) ?_
  refine Eq.trans (getRm dX11_look_19 cp_11_72 ka_0 rfl r_0_10) ?_
  exact iv0 dX11_look_22 rfl cp_11_361 rfl rfl (kd_ka ka_31) ka_31.1 (Nat.le_of_ble_eq_true rfl)
theorem q_X11_look_25 {call : CALL} {L X : Nat} {I : Nat → Nat → Int32} {J : Nat → Nat → Int64} {x1 : Int32} : runI call iX11_look (25, [some (.ref 0), some (.int x1)], [], (mm L X I J)) = if x1 = 0 then some (.inl (some (.int (I 31 5))), (mm L X I J)) else some (.inl (some (.int (I 31 6))), (mm L X I J)) := by
  refine Eq.trans (st1 dX11_look_25 rfl rfl) ?_
  refine Eq.trans (if_ne (tgt := 39) dX11_look_26 (by decide +kernel)) (ite_cong (fun _ => ?_) (fun _ => ?_))
  · refine Eq.trans (st1 dX11_look_29 rfl rfl) ?_
    refine Eq.trans (getRm dX11_look_30 cp_11_39 ka_0 rfl r_0_5) ?_
    refine Eq.trans (getIm dX11_look_33 cp_11_364 ka_31 (.inl rfl)) ?_
    refine Eq.trans (go_to (tgt := 46) dX11_look_36 (by decide +kernel)) ?_
    exact ret0 dX11_look_46 rfl
  · refine Eq.trans (st1 dX11_look_39 rfl rfl) ?_
    refine Eq.trans (getRm dX11_look_40 cp_11_39 ka_0 rfl r_0_5) ?_
    refine Eq.trans (getIm dX11_look_43 cp_11_367 ka_31 (.inl rfl)) ?_
    exact ret0 dX11_look_46 rfl
theorem q_X11_sure_0 {call : CALL} {L X : Nat} {I : Nat → Nat → Int32} {J : Nat → Nat → Int64} {x1 : Int32} {x2 : Int32} {x3 : Int32} : runI call iX11_sure (0, [some (.ref 0), some (.int x1), some (.int x2), some (.int x3), none, none, none, none, none], [], (mm L X I J)) = bnd (call nX11_expectFire [.ref 0, .int x1] (mm L X I J)) (fun v m' => runI call iX11_sure (5, [some (.ref 0), some (.int x1), some (.int x2), some (.int x3), none, none, none, none, none], v.toList ++ [], m')) := by
  refine Eq.trans (st1 dX11_sure_0 rfl rfl) ?_
  refine Eq.trans (st1 dX11_sure_1 rfl rfl) ?_
  exact iv0 dX11_sure_2 rfl cp_11_274 rfl rfl (kd_ka ka_0) ka_0.1 (Nat.le_of_ble_eq_true rfl)
theorem q_X11_sure_5 {call : CALL} {L X : Nat} {I : Nat → Nat → Int32} {J : Nat → Nat → Int64} {x1 : Int32} {x2 : Int32} {x3 : Int32} {u4 : Option Value} {u5 : Option Value} {u6 : Option Value} {u7 : Option Value} {u8 : Option Value} : runI call iX11_sure (5, [some (.ref 0), some (.int x1), some (.int x2), some (.int x3), u4, u5, u6, u7, u8], [], (mm L X I J)) = bndN (call nX11_within [.int x2, .int (0 : Int32), .int (16 : Int32)] (mm L X I J)) (fun v m' => runI call iX11_sure (13, [some (.ref 0), some (.int x1), some (.int x2), some (.int x3), u4, u5, u6, u7, u8], v.toList ++ [.ref 0], m')) := by
  refine Eq.trans (st1 dX11_sure_5 rfl rfl) ?_
  refine Eq.trans (st1 dX11_sure_6 rfl rfl) ?_
  refine Eq.trans (xiconst dX11_sure_7 ci_0) ?_
  refine Eq.trans (xbipush dX11_sure_8 cb_16) ?_
  exact is2 dX11_sure_10 cp_11_189 (Nat.le_of_ble_eq_true rfl) rfl rfl (Nat.le_of_ble_eq_true rfl)
theorem q_X11_sure_13 {call : CALL} {L X : Nat} {I : Nat → Nat → Int32} {J : Nat → Nat → Int64} {x1 : Int32} {x2 : Int32} {x3 : Int32} {u4 : Option Value} {u5 : Option Value} {u6 : Option Value} {u7 : Option Value} {u8 : Option Value} {s1 : Int32} : runI call iX11_sure (13, [some (.ref 0), some (.int x1), some (.int x2), some (.int x3), u4, u5, u6, u7, u8], [.int s1, .ref 0], (mm L X I J)) = if s1 = 0 then runI call iX11_sure (29, [some (.ref 0), some (.int x1), some (.int x2), some (.int x3), u4, u5, u6, u7, u8], [.ref 0], (mm L X I J)) else bndN (call nX11_within [.int x3, .int (0 : Int32), .int (1 : Int32)] (mm L X I J)) (fun v m' => runI call iX11_sure (22, [some (.ref 0), some (.int x1), some (.int x2), some (.int x3), u4, u5, u6, u7, u8], v.toList ++ [.ref 0], m')) := by
  refine Eq.trans (if_eq (tgt := 29) dX11_sure_13 (by decide +kernel)) (ite_cong (fun _ => ?_) (fun _ => ?_))
  · rfl
  · refine Eq.trans (st1 dX11_sure_16 rfl rfl) ?_
    refine Eq.trans (xiconst dX11_sure_17 ci_0) ?_
    refine Eq.trans (xiconst dX11_sure_18 ci_1) ?_
    exact is2 dX11_sure_19 cp_11_189 (Nat.le_of_ble_eq_true rfl) rfl rfl (Nat.le_of_ble_eq_true rfl)
theorem q_X11_sure_29 {call : CALL} {L X : Nat} {I : Nat → Nat → Int32} {J : Nat → Nat → Int64} {x1 : Int32} {x2 : Int32} {x3 : Int32} {u4 : Option Value} {u5 : Option Value} {u6 : Option Value} {u7 : Option Value} {u8 : Option Value} : runI call iX11_sure (29, [some (.ref 0), some (.int x1), some (.int x2), some (.int x3), u4, u5, u6, u7, u8], [.ref 0], (mm L X I J)) = runI call iX11_sure (30, [some (.ref 0), some (.int x1), some (.int x2), some (.int x3), u4, u5, u6, u7, u8], [.int (0 : Int32), .ref 0], (mm L X I J)) := by
  refine Eq.trans (xiconst dX11_sure_29 ci_0) ?_
  rfl
theorem q_X11_sure_22 {call : CALL} {L X : Nat} {I : Nat → Nat → Int32} {J : Nat → Nat → Int64} {x1 : Int32} {x2 : Int32} {x3 : Int32} {u4 : Option Value} {u5 : Option Value} {u6 : Option Value} {u7 : Option Value} {u8 : Option Value} {s1 : Int32} : runI call iX11_sure (22, [some (.ref 0), some (.int x1), some (.int x2), some (.int x3), u4, u5, u6, u7, u8], [.int s1, .ref 0], (mm L X I J)) = if s1 = 0 then runI call iX11_sure (29, [some (.ref 0), some (.int x1), some (.int x2), some (.int x3), u4, u5, u6, u7, u8], [.ref 0], (mm L X I J)) else runI call iX11_sure (30, [some (.ref 0), some (.int x1), some (.int x2), some (.int x3), u4, u5, u6, u7, u8], [.int (1 : Int32), .ref 0], (mm L X I J)) := by
  refine Eq.trans (if_eq (tgt := 29) dX11_sure_22 (by decide +kernel)) (ite_cong (fun _ => ?_) (fun _ => ?_))
  · rfl
  · refine Eq.trans (xiconst dX11_sure_25 ci_1) ?_
    refine Eq.trans (go_to (tgt := 30) dX11_sure_26 (by decide +kernel)) ?_
    rfl
theorem q_X11_sure_30 {call : CALL} {L X : Nat} {I : Nat → Nat → Int32} {J : Nat → Nat → Int64} {x1 : Int32} {x2 : Int32} {x3 : Int32} {u4 : Option Value} {u5 : Option Value} {u6 : Option Value} {u7 : Option Value} {u8 : Option Value} {s1 : Int32} : runI call iX11_sure (30, [some (.ref 0), some (.int x1), some (.int x2), some (.int x3), u4, u5, u6, u7, u8], [.int s1, .ref 0], (mm L X I J)) = bnd (call nX11_expect [.ref 0, .int s1] (mm L X I J)) (fun v m' => runI call iX11_sure (33, [some (.ref 0), some (.int x1), some (.int x2), some (.int x3), u4, u5, u6, u7, u8], v.toList ++ [], m')) := by
  exact iv0 dX11_sure_30 rfl cp_11_193 rfl rfl (kd_ka ka_0) ka_0.1 (Nat.le_of_ble_eq_true rfl)
theorem q_X11_sure_33 {call : CALL} {L X : Nat} {I : Nat → Nat → Int32} {J : Nat → Nat → Int64} {x1 : Int32} {x2 : Int32} {x3 : Int32} {u4 : Option Value} {u5 : Option Value} {u6 : Option Value} {u7 : Option Value} {u8 : Option Value} : runI call iX11_sure (33, [some (.ref 0), some (.int x1), some (.int x2), some (.int x3), u4, u5, u6, u7, u8], [], (mm L X I J)) = bnd (call nX8_chanceOf [.ref 52, .ref 43, .int x1, .int x2] (mm L X I J)) (fun v m' => runI call iX11_sure (46, [some (.ref 0), some (.int x1), some (.int x2), some (.int x3), u4, u5, u6, u7, u8], v.toList ++ [], m')) := by
  refine Eq.trans (st1 dX11_sure_33 rfl rfl) ?_
  refine Eq.trans (getRm dX11_sure_34 cp_11_72 ka_0 rfl r_0_10) ?_
  refine Eq.trans (st1 dX11_sure_37 rfl rfl) ?_
  refine Eq.trans (getRm dX11_sure_38 cp_11_56 ka_0 rfl r_0_8) ?_
  refine Eq.trans (st1 dX11_sure_41 rfl rfl) ?_
  refine Eq.trans (st1 dX11_sure_42 rfl rfl) ?_
  exact iv0 dX11_sure_43 rfl cp_11_373 rfl rfl (kd_ka ka_52) ka_52.1 (Nat.le_of_ble_eq_true rfl)
theorem q_X11_sure_46 {call : CALL} {L X : Nat} {I : Nat → Nat → Int32} {J : Nat → Nat → Int64} {u1 : Option Value} {u2 : Option Value} {x3 : Int32} {u4 : Option Value} {u5 : Option Value} {u6 : Option Value} {u7 : Option Value} {u8 : Option Value} {z0 : Int64} : runI call iX11_sure (46, [some (.ref 0), u1, u2, some (.int x3), u4, u5, u6, u7, u8], [.long z0], (mm L X I J)) = runI call iX11_sure (64, [some (.ref 0), u1, u2, some (.int x3), some (.long z0), none, some (.long ((Int64.ofNat 1) <<< ((((4 : Int32) * (I 43 5))).toInt64 &&& 63))), none, some (.int (0 : Int32))], [], (mm L X I J)) := by
  refine Eq.trans (st1 dX11_sure_46 rfl rfl) ?_
  refine Eq.trans (st1 dX11_sure_48 rfl rfl) ?_
  refine Eq.trans (xiconst dX11_sure_49 ci_4) ?_
  refine Eq.trans (st1 dX11_sure_50 rfl rfl) ?_
  refine Eq.trans (getRm dX11_sure_51 cp_11_56 ka_0 rfl r_0_8) ?_
  refine Eq.trans (getIm dX11_sure_54 cp_11_206 ka_43 (.inl rfl)) ?_
  refine Eq.trans (st1 dX11_sure_57 rfl rfl) ?_
  refine Eq.trans (st1 dX11_sure_58 rfl rfl) ?_
  refine Eq.trans (st1 dX11_sure_59 rfl rfl) ?_
  refine Eq.trans (xiconst dX11_sure_61 ci_0) ?_
  refine Eq.trans (st1 dX11_sure_62 rfl rfl) ?_
  rfl
theorem q_X11_sure_64 {call : CALL} {L X : Nat} {I : Nat → Nat → Int32} {J : Nat → Nat → Int64} {u0 : Option Value} {u1 : Option Value} {u2 : Option Value} {x3 : Int32} {y4 : Int64} {y6 : Int64} {x8 : Int32} : runI call iX11_sure (64, [u0, u1, u2, some (.int x3), some (.long y4), none, some (.long y6), none, some (.int x8)], [], (mm L X I J)) = if (24 : Int32) ≤ x8 then runI call iX11_sure (105, [u0, u1, u2, some (.int x3), some (.long y4), none, some (.long y6), none, some (.int x8)], [], (mm L X I J)) else if (lg_cmp y6 (Int64.ofNat 1)) ≤ 0 then runI call iX11_sure (105, [u0, u1, u2, some (.int x3), some (.long y4), none, some (.long y6), none, some (.int x8)], [], (mm L X I J)) else if (lg_cmp (y4 &&& (Int64.ofNat 1)) (Int64.ofNat 0)) = 0 then runI call iX11_sure (64, [u0, u1, u2, some (.int x3), some (.long (y4 >>> (((1 : Int32)).toInt64 &&& 63))), none, some (.long (y6 >>> (((1 : Int32)).toInt64 &&& 63))), none, some (.int (x8 + (1 : Int32)))], [], (mm L X I J)) else runI call iX11_sure (105, [u0, u1, u2, some (.int x3), some (.long y4), none, some (.long y6), none, some (.int x8)], [], (mm L X I J)) := by
  refine Eq.trans (st1 dX11_sure_64 rfl rfl) ?_
  refine Eq.trans (xbipush dX11_sure_66 cb_24) ?_
  refine Eq.trans (ic_ge (tgt := 105) dX11_sure_68 (by decide +kernel)) (ite_cong (fun _ => ?_) (fun _ => ?_))
  · rfl
  · refine Eq.trans (st1 dX11_sure_71 rfl rfl) ?_
    refine Eq.trans (st1 dX11_sure_73 rfl rfl) ?_
    refine Eq.trans (st1 dX11_sure_74 rfl rfl) ?_
    refine Eq.trans (if_le (tgt := 105) dX11_sure_75 (by decide +kernel)) (ite_cong (fun _ => ?_) (fun _ => ?_))
    · rfl
    · refine Eq.trans (st1 dX11_sure_78 rfl rfl) ?_
      refine Eq.trans (st1 dX11_sure_80 rfl rfl) ?_
      refine Eq.trans (st1 dX11_sure_81 rfl rfl) ?_
      refine Eq.trans (st1 dX11_sure_82 rfl rfl) ?_
      refine Eq.trans (st1 dX11_sure_83 rfl rfl) ?_
      refine Eq.trans (if_ne (tgt := 105) dX11_sure_84 (by decide +kernel)) (ite_cong (fun _ => ?_) (fun _ => ?_))
      · refine Eq.trans (st1 dX11_sure_87 rfl rfl) ?_
        refine Eq.trans (xiconst dX11_sure_89 ci_1) ?_
        refine Eq.trans (st1 dX11_sure_90 rfl rfl) ?_
        refine Eq.trans (st1 dX11_sure_91 rfl rfl) ?_
        refine Eq.trans (st1 dX11_sure_93 rfl rfl) ?_
        refine Eq.trans (xiconst dX11_sure_95 ci_1) ?_
        refine Eq.trans (st1 dX11_sure_96 rfl rfl) ?_
        refine Eq.trans (st1 dX11_sure_97 rfl rfl) ?_
        refine Eq.trans (xinc2 dX11_sure_99 ci_1 rfl (Nat.le_of_ble_eq_true rfl) rfl) ?_
        refine Eq.trans (go_to (tgt := 64) dX11_sure_102 (by decide +kernel)) ?_
        rfl
      · rfl
theorem q_X11_sure_105 {call : CALL} {L X : Nat} {I : Nat → Nat → Int32} {J : Nat → Nat → Int64} {u0 : Option Value} {u1 : Option Value} {u2 : Option Value} {x3 : Int32} {y4 : Int64} {y6 : Int64} {u8 : Option Value} : runI call iX11_sure (105, [u0, u1, u2, some (.int x3), some (.long y4), none, some (.long y6), none, u8], [], (mm L X I J)) = if x3 = 0 then some (.inl (some (.long y4)), (mm L X I J)) else some (.inl (some (.long y6)), (mm L X I J)) := by
  refine Eq.trans (st1 dX11_sure_105 rfl rfl) ?_
  refine Eq.trans (if_ne (tgt := 114) dX11_sure_106 (by decide +kernel)) (ite_cong (fun _ => ?_) (fun _ => ?_))
  · refine Eq.trans (st1 dX11_sure_109 rfl rfl) ?_
    refine Eq.trans (go_to (tgt := 116) dX11_sure_111 (by decide +kernel)) ?_
    exact ret2 dX11_sure_116 rfl
  · refine Eq.trans (st1 dX11_sure_114 rfl rfl) ?_
    exact ret2 dX11_sure_116 rfl
theorem q_X11_street_0 {call : CALL} {L X : Nat} {I : Nat → Nat → Int32} {J : Nat → Nat → Int64} {x1 : Int32} {x2 : Int32} {x3 : Int32} : runI call iX11_street (0, [some (.ref 0), some (.int x1), some (.int x2), some (.int x3)], [], (mm L X I J)) = bndN (call nX11_within [.int x1, .int (0 : Int32), .int (99 : Int32)] (mm L X I J)) (fun v m' => runI call iX11_street (8, [some (.ref 0), some (.int x1), some (.int x2), some (.int x3)], v.toList ++ [.ref 0], m')) := by
  refine Eq.trans (st1 dX11_street_0 rfl rfl) ?_
  refine Eq.trans (st1 dX11_street_1 rfl rfl) ?_
  refine Eq.trans (xiconst dX11_street_2 ci_0) ?_
  refine Eq.trans (xbipush dX11_street_3 cb_99) ?_
  exact is2 dX11_street_5 cp_11_189 (Nat.le_of_ble_eq_true rfl) rfl rfl (Nat.le_of_ble_eq_true rfl)
theorem q_X11_street_8 {call : CALL} {L X : Nat} {I : Nat → Nat → Int32} {J : Nat → Nat → Int64} {x1 : Int32} {x2 : Int32} {x3 : Int32} {s1 : Int32} : runI call iX11_street (8, [some (.ref 0), some (.int x1), some (.int x2), some (.int x3)], [.int s1, .ref 0], (mm L X I J)) = if s1 = 0 then runI call iX11_street (34, [some (.ref 0), some (.int x1), some (.int x2), some (.int x3)], [.ref 0], (mm L X I J)) else bndN (call nX11_within [.int x2, .int (0 : Int32), .int (9 : Int32)] (mm L X I J)) (fun v m' => runI call iX11_street (18, [some (.ref 0), some (.int x1), some (.int x2), some (.int x3)], v.toList ++ [.ref 0], m')) := by
  refine Eq.trans (if_eq (tgt := 34) dX11_street_8 (by decide +kernel)) (ite_cong (fun _ => ?_) (fun _ => ?_))
  · rfl
  · refine Eq.trans (st1 dX11_street_11 rfl rfl) ?_
    refine Eq.trans (xiconst dX11_street_12 ci_0) ?_
    refine Eq.trans (xbipush dX11_street_13 cb_9) ?_
    exact is2 dX11_street_15 cp_11_189 (Nat.le_of_ble_eq_true rfl) rfl rfl (Nat.le_of_ble_eq_true rfl)
theorem q_X11_street_34 {call : CALL} {L X : Nat} {I : Nat → Nat → Int32} {J : Nat → Nat → Int64} {x1 : Int32} {x2 : Int32} {x3 : Int32} : runI call iX11_street (34, [some (.ref 0), some (.int x1), some (.int x2), some (.int x3)], [.ref 0], (mm L X I J)) = runI call iX11_street (35, [some (.ref 0), some (.int x1), some (.int x2), some (.int x3)], [.int (0 : Int32), .ref 0], (mm L X I J)) := by
  refine Eq.trans (xiconst dX11_street_34 ci_0) ?_
  rfl
theorem q_X11_street_18 {call : CALL} {L X : Nat} {I : Nat → Nat → Int32} {J : Nat → Nat → Int64} {x1 : Int32} {x2 : Int32} {x3 : Int32} {s1 : Int32} : runI call iX11_street (18, [some (.ref 0), some (.int x1), some (.int x2), some (.int x3)], [.int s1, .ref 0], (mm L X I J)) = if s1 = 0 then runI call iX11_street (34, [some (.ref 0), some (.int x1), some (.int x2), some (.int x3)], [.ref 0], (mm L X I J)) else bndN (call nX11_within [.int x3, .int (0 : Int32), .int (2 : Int32)] (mm L X I J)) (fun v m' => runI call iX11_street (27, [some (.ref 0), some (.int x1), some (.int x2), some (.int x3)], v.toList ++ [.ref 0], m')) := by
  refine Eq.trans (if_eq (tgt := 34) dX11_street_18 (by decide +kernel)) (ite_cong (fun _ => ?_) (fun _ => ?_))
  · rfl
  · refine Eq.trans (st1 dX11_street_21 rfl rfl) ?_
    refine Eq.trans (xiconst dX11_street_22 ci_0) ?_
    refine Eq.trans (xiconst dX11_street_23 ci_2) ?_
    exact is2 dX11_street_24 cp_11_189 (Nat.le_of_ble_eq_true rfl) rfl rfl (Nat.le_of_ble_eq_true rfl)
theorem q_X11_street_35 {call : CALL} {L X : Nat} {I : Nat → Nat → Int32} {J : Nat → Nat → Int64} {x1 : Int32} {x2 : Int32} {x3 : Int32} {s1 : Int32} : runI call iX11_street (35, [some (.ref 0), some (.int x1), some (.int x2), some (.int x3)], [.int s1, .ref 0], (mm L X I J)) = bnd (call nX11_expect [.ref 0, .int s1] (mm L X I J)) (fun v m' => runI call iX11_street (38, [some (.ref 0), some (.int x1), some (.int x2), some (.int x3)], v.toList ++ [], m')) := by
  exact iv0 dX11_street_35 rfl cp_11_193 rfl rfl (kd_ka ka_0) ka_0.1 (Nat.le_of_ble_eq_true rfl)
theorem q_X11_street_27 {call : CALL} {L X : Nat} {I : Nat → Nat → Int32} {J : Nat → Nat → Int64} {x1 : Int32} {x2 : Int32} {x3 : Int32} {s1 : Int32} : runI call iX11_street (27, [some (.ref 0), some (.int x1), some (.int x2), some (.int x3)], [.int s1, .ref 0], (mm L X I J)) = if s1 = 0 then runI call iX11_street (34, [some (.ref 0), some (.int x1), some (.int x2), some (.int x3)], [.ref 0], (mm L X I J)) else runI call iX11_street (35, [some (.ref 0), some (.int x1), some (.int x2), some (.int x3)], [.int (1 : Int32), .ref 0], (mm L X I J)) := by
  refine Eq.trans (if_eq (tgt := 34) dX11_street_27 (by decide +kernel)) (ite_cong (fun _ => ?_) (fun _ => ?_))
  · rfl
  · refine Eq.trans (xiconst dX11_street_30 ci_1) ?_
    refine Eq.trans (go_to (tgt := 35) dX11_street_31 (by decide +kernel)) ?_
    rfl
theorem q_X11_street_38 {call : CALL} {L X : Nat} {I : Nat → Nat → Int32} {J : Nat → Nat → Int64} {x1 : Int32} {x2 : Int32} {x3 : Int32} : runI call iX11_street (38, [some (.ref 0), some (.int x1), some (.int x2), some (.int x3)], [], (mm L X I J)) = bnd (call nX6_findRests [.ref 64, .ref 43, .int x2] (mm L X I J)) (fun v m' => runI call iX11_street (50, [some (.ref 0), some (.int x1), some (.int x2), some (.int x3)], v.toList ++ [], m')) := by
  refine Eq.trans (st1 dX11_street_38 rfl rfl) ?_
  refine Eq.trans (getRm dX11_street_39 cp_11_90 ka_0 rfl r_0_12) ?_
  refine Eq.trans (st1 dX11_street_42 rfl rfl) ?_
  refine Eq.trans (getRm dX11_street_43 cp_11_56 ka_0 rfl r_0_8) ?_
  refine Eq.trans (st1 dX11_street_46 rfl rfl) ?_
  exact iv0 dX11_street_47 rfl cp_11_377 rfl rfl (kd_ka ka_64) ka_64.1 (Nat.le_of_ble_eq_true rfl)
theorem q_X11_street_50 {call : CALL} {L X : Nat} {I : Nat → Nat → Int32} {J : Nat → Nat → Int64} {x1 : Int32} {u2 : Option Value} {x3 : Int32} : runI call iX11_street (50, [some (.ref 0), some (.int x1), u2, some (.int x3)], [], (mm L X I J)) = runI call iX11_street (51, [some (.ref 0), some (.int x1), u2, some (.int x3)], [.int x3], (mm L X I J)) := by
  refine Eq.trans (st1 dX11_street_50 rfl rfl) ?_
  rfl
/- q_X11_street_51: a switch -/
theorem q_X11_share_0 {call : CALL} {L X : Nat} {I : Nat → Nat → Int32} {J : Nat → Nat → Int64} {x1 : Int32} {x2 : Int32} {x3 : Int32} : runI call iX11_share (0, [some (.ref 0), some (.int x1), some (.int x2), some (.int x3)], [], (mm L X I J)) = bnd (call nX11_expectFire [.ref 0, .int x1] (mm L X I J)) (fun v m' => runI call iX11_share (5, [some (.ref 0), some (.int x1), some (.int x2), some (.int x3)], v.toList ++ [], m')) := by
  refine Eq.trans (st1 dX11_share_0 rfl rfl) ?_
  refine Eq.trans (st1 dX11_share_1 rfl rfl) ?_
  exact iv0 dX11_share_2 rfl cp_11_274 rfl rfl (kd_ka ka_0) ka_0.1 (Nat.le_of_ble_eq_true rfl)
theorem q_X11_share_5 {call : CALL} {L X : Nat} {I : Nat → Nat → Int32} {J : Nat → Nat → Int64} {x1 : Int32} {x2 : Int32} {x3 : Int32} : runI call iX11_share (5, [some (.ref 0), some (.int x1), some (.int x2), some (.int x3)], [], (mm L X I J)) = bndN (call nX11_within [.int x2, .int (0 : Int32), .int (((1 : Int32) <<< ((I 3 2) &&& 31)) - (1 : Int32))] (mm L X I J)) (fun v m' => runI call iX11_share (22, [some (.ref 0), some (.int x1), some (.int x2), some (.int x3)], v.toList ++ [.ref 0], m')) := by
  refine Eq.trans (st1 dX11_share_5 rfl rfl) ?_
  refine Eq.trans (st1 dX11_share_6 rfl rfl) ?_
  refine Eq.trans (xiconst dX11_share_7 ci_0) ?_
  refine Eq.trans (xiconst dX11_share_8 ci_1) ?_
  refine Eq.trans (st1 dX11_share_9 rfl rfl) ?_
  refine Eq.trans (getRm dX11_share_10 cp_11_19 ka_0 rfl r_0_1) ?_
  refine Eq.trans (getIm dX11_share_13 cp_11_200 ka_3 (.inl rfl)) ?_
  refine Eq.trans (st1 dX11_share_16 rfl rfl) ?_
  refine Eq.trans (xiconst dX11_share_17 ci_1) ?_
  refine Eq.trans (st1 dX11_share_18 rfl rfl) ?_
  exact is2 dX11_share_19 cp_11_189 (Nat.le_of_ble_eq_true rfl) rfl rfl (Nat.le_of_ble_eq_true rfl)
theorem q_X11_share_22 {call : CALL} {L X : Nat} {I : Nat → Nat → Int32} {J : Nat → Nat → Int64} {x1 : Int32} {x2 : Int32} {x3 : Int32} {s1 : Int32} : runI call iX11_share (22, [some (.ref 0), some (.int x1), some (.int x2), some (.int x3)], [.int s1, .ref 0], (mm L X I J)) = if s1 = 0 then runI call iX11_share (40, [some (.ref 0), some (.int x1), some (.int x2), some (.int x3)], [.ref 0], (mm L X I J)) else bndN (call nX11_within [.int x3, .int (0 : Int32), .int (999 : Int32)] (mm L X I J)) (fun v m' => runI call iX11_share (33, [some (.ref 0), some (.int x1), some (.int x2), some (.int x3)], v.toList ++ [.ref 0], m')) := by
  refine Eq.trans (if_eq (tgt := 40) dX11_share_22 (by decide +kernel)) (ite_cong (fun _ => ?_) (fun _ => ?_))
  · rfl
  · refine Eq.trans (st1 dX11_share_25 rfl rfl) ?_
    refine Eq.trans (xiconst dX11_share_26 ci_0) ?_
    refine Eq.trans (xsipush dX11_share_27 cs_999) ?_
    exact is2 dX11_share_30 cp_11_189 (Nat.le_of_ble_eq_true rfl) rfl rfl (Nat.le_of_ble_eq_true rfl)
theorem q_X11_share_40 {call : CALL} {L X : Nat} {I : Nat → Nat → Int32} {J : Nat → Nat → Int64} {x1 : Int32} {x2 : Int32} {x3 : Int32} : runI call iX11_share (40, [some (.ref 0), some (.int x1), some (.int x2), some (.int x3)], [.ref 0], (mm L X I J)) = runI call iX11_share (41, [some (.ref 0), some (.int x1), some (.int x2), some (.int x3)], [.int (0 : Int32), .ref 0], (mm L X I J)) := by
  refine Eq.trans (xiconst dX11_share_40 ci_0) ?_
  rfl
theorem q_X11_share_33 {call : CALL} {L X : Nat} {I : Nat → Nat → Int32} {J : Nat → Nat → Int64} {x1 : Int32} {x2 : Int32} {x3 : Int32} {s1 : Int32} : runI call iX11_share (33, [some (.ref 0), some (.int x1), some (.int x2), some (.int x3)], [.int s1, .ref 0], (mm L X I J)) = if s1 = 0 then runI call iX11_share (40, [some (.ref 0), some (.int x1), some (.int x2), some (.int x3)], [.ref 0], (mm L X I J)) else runI call iX11_share (41, [some (.ref 0), some (.int x1), some (.int x2), some (.int x3)], [.int (1 : Int32), .ref 0], (mm L X I J)) := by
  refine Eq.trans (if_eq (tgt := 40) dX11_share_33 (by decide +kernel)) (ite_cong (fun _ => ?_) (fun _ => ?_))
  · rfl
  · refine Eq.trans (xiconst dX11_share_36 ci_1) ?_
    refine Eq.trans (go_to (tgt := 41) dX11_share_37 (by decide +kernel)) ?_
    rfl
theorem q_X11_share_41 {call : CALL} {L X : Nat} {I : Nat → Nat → Int32} {J : Nat → Nat → Int64} {x1 : Int32} {x2 : Int32} {x3 : Int32} {s1 : Int32} : runI call iX11_share (41, [some (.ref 0), some (.int x1), some (.int x2), some (.int x3)], [.int s1, .ref 0], (mm L X I J)) = bnd (call nX11_expect [.ref 0, .int s1] (mm L X I J)) (fun v m' => runI call iX11_share (44, [some (.ref 0), some (.int x1), some (.int x2), some (.int x3)], v.toList ++ [], m')) := by
  exact iv0 dX11_share_41 rfl cp_11_193 rfl rfl (kd_ka ka_0) ka_0.1 (Nat.le_of_ble_eq_true rfl)
theorem q_X11_share_44 {call : CALL} {L X : Nat} {I : Nat → Nat → Int32} {J : Nat → Nat → Int64} {x1 : Int32} {x2 : Int32} {x3 : Int32} : runI call iX11_share (44, [some (.ref 0), some (.int x1), some (.int x2), some (.int x3)], [], (mm L X I J)) = bndN (call nX11_bit [.int x2, .int x1] (mm L X I J)) (fun v m' => runI call iX11_share (49, [some (.ref 0), some (.int x1), some (.int x2), some (.int x3)], v.toList ++ [], m')) := by
  refine Eq.trans (st1 dX11_share_44 rfl rfl) ?_
  refine Eq.trans (st1 dX11_share_45 rfl rfl) ?_
  exact is2 dX11_share_46 cp_11_258 (Nat.le_of_ble_eq_true rfl) rfl rfl (Nat.le_of_ble_eq_true rfl)
theorem q_X11_share_49 {call : CALL} {L X : Nat} {I : Nat → Nat → Int32} {J : Nat → Nat → Int64} {x1 : Int32} {x2 : Int32} {x3 : Int32} {s0 : Int32} : runI call iX11_share (49, [some (.ref 0), some (.int x1), some (.int x2), some (.int x3)], [.int s0], (mm L X I J)) = if s0 = 0 then some (.inl (some (.int (0 : Int32))), (mm L X I J)) else bndN (call nX11_pick [.ref 11, .int x1] (mm L X I J)) (fun v m' => runI call iX11_share (65, [some (.ref 0), some (.int x1), some (.int x2), some (.int x3)], v.toList ++ [], m')) := by
  refine Eq.trans (if_ne (tgt := 54) dX11_share_49 (by decide +kernel)) (ite_cong (fun _ => ?_) (fun _ => ?_))
  · refine Eq.trans (xiconst dX11_share_52 ci_0) ?_
    exact ret0 dX11_share_53 rfl
  · refine Eq.trans (st1 dX11_share_54 rfl rfl) ?_
    refine Eq.trans (getRm dX11_share_55 cp_11_19 ka_0 rfl r_0_1) ?_
    refine Eq.trans (getRm dX11_share_58 cp_11_280 ka_3 rfl r_3_11) ?_
    refine Eq.trans (st1 dX11_share_61 rfl rfl) ?_
    exact is2 dX11_share_62 cp_11_232 (Nat.le_of_ble_eq_true rfl) rfl rfl (Nat.le_of_ble_eq_true rfl)
theorem q_X11_share_65 {call : CALL} {L X : Nat} {I : Nat → Nat → Int32} {J : Nat → Nat → Int64} {u1 : Option Value} {x2 : Int32} {x3 : Int32} {s0 : Int32} : runI call iX11_share (65, [some (.ref 0), u1, some (.int x2), some (.int x3)], [.int s0], (mm L X I J)) = bnd (call nX1_level [.ref 3, .int x2, .int x3] (mm L X I J)) (fun v m' => runI call iX11_share (74, [some (.ref 0), u1, some (.int x2), some (.int x3)], v.toList ++ [.int s0], m')) := by
  refine Eq.trans (st1 dX11_share_65 rfl rfl) ?_
  refine Eq.trans (getRm dX11_share_66 cp_11_19 ka_0 rfl r_0_1) ?_
  refine Eq.trans (st1 dX11_share_69 rfl rfl) ?_
  refine Eq.trans (st1 dX11_share_70 rfl rfl) ?_
  exact iv0 dX11_share_71 rfl cp_11_389 rfl rfl (kd_ka ka_3) ka_3.1 (Nat.le_of_ble_eq_true rfl)
theorem q_X11_share_74 {call : CALL} {L X : Nat} {I : Nat → Nat → Int32} {J : Nat → Nat → Int64} {u0 : Option Value} {u1 : Option Value} {u2 : Option Value} {u3 : Option Value} {s0 : Int32} {s1 : Int32} : runI call iX11_share (74, [u0, u1, u2, u3], [.int s1, .int s0], (mm L X I J)) = some (.inl (some (.int (if s1 < s0 then s1 else s0))), (mm L X I J)) := by
  refine Eq.trans (imin dX11_share_74 cp_11_392 (Nat.le_of_ble_eq_true rfl)) ?_
  exact ret0 dX11_share_77 rfl
theorem q_X11_next_0 {call : CALL} {L X : Nat} {I : Nat → Nat → Int32} {J : Nat → Nat → Int64} {x1 : Int32} : runI call iX11_next (0, [some (.ref 0), some (.int x1), none, none], [], (mm L X I J)) = bndN (call nX11_within [.int x1, .int (0 : Int32), .int (1 : Int32)] (mm L X I J)) (fun v m' => runI call iX11_next (7, [some (.ref 0), some (.int x1), none, none], v.toList ++ [.ref 0], m')) := by
  refine Eq.trans (st1 dX11_next_0 rfl rfl) ?_
  refine Eq.trans (st1 dX11_next_1 rfl rfl) ?_
  refine Eq.trans (xiconst dX11_next_2 ci_0) ?_
  refine Eq.trans (xiconst dX11_next_3 ci_1) ?_
  exact is2 dX11_next_4 cp_11_189 (Nat.le_of_ble_eq_true rfl) rfl rfl (Nat.le_of_ble_eq_true rfl)
theorem q_X11_next_7 {call : CALL} {L X : Nat} {I : Nat → Nat → Int32} {J : Nat → Nat → Int64} {x1 : Int32} {u2 : Option Value} {u3 : Option Value} {s1 : Int32} : runI call iX11_next (7, [some (.ref 0), some (.int x1), u2, u3], [.int s1, .ref 0], (mm L X I J)) = bnd (call nX11_expect [.ref 0, .int s1] (mm L X I J)) (fun v m' => runI call iX11_next (10, [some (.ref 0), some (.int x1), u2, u3], v.toList ++ [], m')) := by
  exact iv0 dX11_next_7 rfl cp_11_193 rfl rfl (kd_ka ka_0) ka_0.1 (Nat.le_of_ble_eq_true rfl)
theorem q_X11_next_10 {call : CALL} {L X : Nat} {I : Nat → Nat → Int32} {J : Nat → Nat → Int64} {x1 : Int32} {u2 : Option Value} {u3 : Option Value} : runI call iX11_next (10, [some (.ref 0), some (.int x1), u2, u3], [], (mm L X I J)) = runI call iX11_next (14, [some (.ref 0), some (.int x1), some (.int (0 : Int32)), some (.int (0 : Int32))], [], (mm L X I J)) := by
  refine Eq.trans (xiconst dX11_next_10 ci_0) ?_
  refine Eq.trans (st1 dX11_next_11 rfl rfl) ?_
  refine Eq.trans (xiconst dX11_next_12 ci_0) ?_
  refine Eq.trans (st1 dX11_next_13 rfl rfl) ?_
  rfl
theorem q_X11_next_14 {call : CALL} {L X : Nat} {I : Nat → Nat → Int32} {J : Nat → Nat → Int64} {x1 : Int32} {x2 : Int32} {x3 : Int32} : runI call iX11_next (14, [some (.ref 0), some (.int x1), some (.int x2), some (.int x3)], [], (mm L X I J)) = if (I 3 0) ≤ x3 then some (.inl (some (.int x2)), (mm L X I J)) else bnd (call nX3_wayOf [.ref 43, .int x3] (mm L X I J)) (fun v m' => runI call iX11_next (41, [some (.ref 0), some (.int x1), some (.int x2), some (.int x3)], v.toList ++ [.ref 3, .ref 43], m')) := by
  refine Eq.trans (st1 dX11_next_14 rfl rfl) ?_
  refine Eq.trans (st1 dX11_next_15 rfl rfl) ?_
  refine Eq.trans (getRm dX11_next_16 cp_11_19 ka_0 rfl r_0_1) ?_
  refine Eq.trans (getIm dX11_next_19 cp_11_149 ka_3 (.inl rfl)) ?_
  refine Eq.trans (ic_ge (tgt := 61) dX11_next_22 (by decide +kernel)) (ite_cong (fun _ => ?_) (fun _ => ?_))
  · refine Eq.trans (st1 dX11_next_61 rfl rfl) ?_
    exact ret0 dX11_next_62 rfl
  · refine Eq.trans (st1 dX11_next_25 rfl rfl) ?_
    refine Eq.trans (getRm dX11_next_26 cp_11_56 ka_0 rfl r_0_8) ?_
    refine Eq.trans (st1 dX11_next_29 rfl rfl) ?_
    refine Eq.trans (getRm dX11_next_30 cp_11_19 ka_0 rfl r_0_1) ?_
    refine Eq.trans (st1 dX11_next_33 rfl rfl) ?_
    refine Eq.trans (getRm dX11_next_34 cp_11_56 ka_0 rfl r_0_8) ?_
    refine Eq.trans (st1 dX11_next_37 rfl rfl) ?_
    exact iv0 dX11_next_38 rfl cp_11_236 rfl rfl (kd_ka ka_43) ka_43.1 (Nat.le_of_ble_eq_true rfl)
theorem q_X11_next_41 {call : CALL} {L X : Nat} {I : Nat → Nat → Int32} {J : Nat → Nat → Int64} {x1 : Int32} {x2 : Int32} {x3 : Int32} {s2 : Int32} : runI call iX11_next (41, [some (.ref 0), some (.int x1), some (.int x2), some (.int x3)], [.int s2, .ref 3, .ref 43], (mm L X I J)) = bnd (call nX3_canLay [.ref 43, .ref 3, .int (s2 ^^^ x1)] (mm L X I J)) (fun v m' => runI call iX11_next (46, [some (.ref 0), some (.int x1), some (.int x2), some (.int x3)], v.toList ++ [], m')) := by
  refine Eq.trans (st1 dX11_next_41 rfl rfl) ?_
  refine Eq.trans (st1 dX11_next_42 rfl rfl) ?_
  exact iv0 dX11_next_43 rfl cp_11_313 rfl rfl (kd_ka ka_43) ka_43.1 (Nat.le_of_ble_eq_true rfl)
theorem q_X11_next_46 {call : CALL} {L X : Nat} {I : Nat → Nat → Int32} {J : Nat → Nat → Int64} {x1 : Int32} {x2 : Int32} {x3 : Int32} {s0 : Int32} : runI call iX11_next (46, [some (.ref 0), some (.int x1), some (.int x2), some (.int x3)], [.int s0], (mm L X I J)) = if s0 = 0 then runI call iX11_next (55, [some (.ref 0), some (.int x1), some (.int x2), some (.int x3)], [], (mm L X I J)) else runI call iX11_next (55, [some (.ref 0), some (.int x1), some (.int (x2 ||| ((1 : Int32) <<< (x3 &&& 31)))), some (.int x3)], [], (mm L X I J)) := by
  refine Eq.trans (if_eq (tgt := 55) dX11_next_46 (by decide +kernel)) (ite_cong (fun _ => ?_) (fun _ => ?_))
  · rfl
  · refine Eq.trans (st1 dX11_next_49 rfl rfl) ?_
    refine Eq.trans (xiconst dX11_next_50 ci_1) ?_
    refine Eq.trans (st1 dX11_next_51 rfl rfl) ?_
    refine Eq.trans (st1 dX11_next_52 rfl rfl) ?_
    refine Eq.trans (st1 dX11_next_53 rfl rfl) ?_
    refine Eq.trans (st1 dX11_next_54 rfl rfl) ?_
    rfl
theorem q_X11_next_55 {call : CALL} {L X : Nat} {I : Nat → Nat → Int32} {J : Nat → Nat → Int64} {x1 : Int32} {x2 : Int32} {x3 : Int32} : runI call iX11_next (55, [some (.ref 0), some (.int x1), some (.int x2), some (.int x3)], [], (mm L X I J)) = runI call iX11_next (14, [some (.ref 0), some (.int x1), some (.int x2), some (.int (x3 + (1 : Int32)))], [], (mm L X I J)) := by
  refine Eq.trans (xinc2 dX11_next_55 ci_1 rfl (Nat.le_of_ble_eq_true rfl) rfl) ?_
  refine Eq.trans (go_to (tgt := 14) dX11_next_58 (by decide +kernel)) ?_
  rfl
