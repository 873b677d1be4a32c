/-! EQUATIONS OF THE METHODS (written by gen_eq.py) -/
theorem q_L_can_0 {call : CALL} {L X : Nat} {I : Nat → Nat → Int32} {J : Nat → Nat → Int64} {x1 : Int32} : runI call iL_can (0, [some (.ref 0), some (.int x1), some (.ref 632), none], [], (mm L X I J)) = bndH (call nX11_can [.ref 0, .int x1] (mm L X I J)) (fun v m' => runI call iL_can (7, [some (.ref 0), some (.int x1), some (.ref 632), none], v.toList ++ [.int (nI 0), .ref 632], m')) (hdl call iL_can 4 [some (.ref 0), some (.int x1), some (.ref 632), none]) := by
  refine Eq.trans (st1 dL_can_0 rfl rfl) ?_
  refine Eq.trans (xiconst dL_can_1 ci_0) ?_
  refine Eq.trans (st1 dL_can_2 rfl rfl) ?_
  refine Eq.trans (st1 dL_can_3 rfl rfl) ?_
  exact ivH dL_can_4 cp_13_53 rfl rfl (kd_ka ka_0) ka_0.1 (Nat.le_of_ble_eq_true rfl)
theorem q_L_can_20 {call : CALL} {L X : Nat} {I : Nat → Nat → Int32} {J : Nat → Nat → Int64} {u0 : Option Value} {u1 : Option Value} {u2 : Option Value} {u3 : Option Value} : runI call iL_can (20, [u0, u1, u2, u3], [], (mm L X I J)) = some (.inl (some (.int (nI 1))), (mm L X I J)) := by
  refine Eq.trans (xiconst dL_can_20 ci_1) ?_
  exact ret0 dL_can_21 rfl
theorem q_L_can_7 {call : CALL} {L X : Nat} {I : Nat → Nat → Int32} {J : Nat → Nat → Int64} {u0 : Option Value} {u1 : Option Value} {u2 : Option Value} {u3 : Option Value} {s1 : Int32} {s2 : Int32} : runI call iL_can (7, [u0, u1, u2, u3], [.int s2, .int s1, .ref 632], (mm L X I J)) = if s2 = (nI 0) then runI call iL_can (15, [u0, u1, u2, u3], [.long (lN 0), .int s1, .ref 632], (mm L X I J)) else runI call iL_can (15, [u0, u1, u2, u3], [.long (lN 1), .int s1, .ref 632], (mm L X I J)) := by
  refine Eq.trans (if_eq (tgt := 14) dL_can_7 (by decide +kernel)) (ite_cong (fun _ => ?_) (fun _ => ?_))
  · refine Eq.trans (st1 dL_can_14 rfl rfl) ?_
    rfl
  · refine Eq.trans (st1 dL_can_10 rfl rfl) ?_
    refine Eq.trans (go_to (tgt := 15) dL_can_11 (by decide +kernel)) ?_
    rfl
theorem q_L_can_15 {call : CALL} {L X : Nat} {I : Nat → Nat → Int32} {J : Nat → Nat → Int64} {u0 : Option Value} {u1 : Option Value} {u2 : Option Value} {u3 : Option Value} {s1 : Int32} {z2 : Int64} : runI call iL_can (15, [u0, u1, u2, u3], [.long z2, .int s1, .ref 632], (mm L X I J)) = gd (inb s1 1) (some (.inl (some (.int (nI 0))), (mm L X I (up2 J 632 (s1).toNatClampNeg z2)))) := by
  refine Eq.trans (as3m dL_can_15 ka_632) (gd_congr fun g1 => ?_)
  refine Eq.trans (go_to (tgt := 22) dL_can_16 (by decide +kernel)) ?_
  refine Eq.trans (xiconst dL_can_22 ci_0) ?_
  exact ret0 dL_can_23 rfl
theorem hd_L_can_4_0 {call : CALL} {L X : Nat} {I : Nat → Nat → Int32} {J : Nat → Nat → Int64} {x1 : Int32} : hdl call iL_can 4 [some (.ref 0), some (.int x1), some (.ref 632), none] 0 (mm L X I J) = runI call iL_can (20, [some (.ref 0), some (.int x1), some (.ref 632), none], [], (mm L X I J)) := hdl_of (h := 19) rfl (by decide +kernel) (by unfold xcat; rw [show decode iL_can.2.1 19 = _ from dL_can_19]; rfl)
theorem q_L_ahead_0 {call : CALL} {L X : Nat} {I : Nat → Nat → Int32} {J : Nat → Nat → Int64} {x1 : Int32} : runI call iL_ahead (0, [some (.ref 0), some (.int x1), some (.ref 632), none], [], (mm L X I J)) = bndH (call nX11_ahead [.ref 0, .int x1] (mm L X I J)) (fun v m' => runI call iL_ahead (7, [some (.ref 0), some (.int x1), some (.ref 632), none], v.toList ++ [.int (nI 0), .ref 632], m')) (hdl call iL_ahead 4 [some (.ref 0), some (.int x1), some (.ref 632), none]) := by
  refine Eq.trans (st1 dL_ahead_0 rfl rfl) ?_
  refine Eq.trans (xiconst dL_ahead_1 ci_0) ?_
  refine Eq.trans (st1 dL_ahead_2 rfl rfl) ?_
  refine Eq.trans (st1 dL_ahead_3 rfl rfl) ?_
  exact ivH dL_ahead_4 cp_13_57 rfl rfl (kd_ka ka_0) ka_0.1 (Nat.le_of_ble_eq_true rfl)
theorem q_L_ahead_13 {call : CALL} {L X : Nat} {I : Nat → Nat → Int32} {J : Nat → Nat → Int64} {u0 : Option Value} {u1 : Option Value} {u2 : Option Value} {u3 : Option Value} : runI call iL_ahead (13, [u0, u1, u2, u3], [], (mm L X I J)) = some (.inl (some (.int (nI 1))), (mm L X I J)) := by
  refine Eq.trans (xiconst dL_ahead_13 ci_1) ?_
  exact ret0 dL_ahead_14 rfl
theorem q_L_ahead_7 {call : CALL} {L X : Nat} {I : Nat → Nat → Int32} {J : Nat → Nat → Int64} {u0 : Option Value} {u1 : Option Value} {u2 : Option Value} {u3 : Option Value} {s1 : Int32} {s2 : Int32} : runI call iL_ahead (7, [u0, u1, u2, u3], [.int s2, .int s1, .ref 632], (mm L X I J)) = gd (inb s1 1) (some (.inl (some (.int (nI 0))), (mm L X I (up2 J 632 (s1).toNatClampNeg (s2).toInt64)))) := by
  refine Eq.trans (st1 dL_ahead_7 rfl rfl) ?_
  refine Eq.trans (as3m dL_ahead_8 ka_632) (gd_congr fun g1 => ?_)
  refine Eq.trans (go_to (tgt := 15) dL_ahead_9 (by decide +kernel)) ?_
  refine Eq.trans (xiconst dL_ahead_15 ci_0) ?_
  exact ret0 dL_ahead_16 rfl
theorem hd_L_ahead_4_1 {call : CALL} {L X : Nat} {I : Nat → Nat → Int32} {J : Nat → Nat → Int64} {x1 : Int32} : hdl call iL_ahead 4 [some (.ref 0), some (.int x1), some (.ref 632), none] 1 (mm L X I J) = runI call iL_ahead (13, [some (.ref 0), some (.int x1), some (.ref 632), none], [], (mm L X I J)) := hdl_of (h := 12) rfl (by decide +kernel) (by unfold xcat; rw [show decode iL_ahead.2.1 12 = _ from dL_ahead_12]; rfl)
theorem q_L_chain_0 {call : CALL} {L X : Nat} {I : Nat → Nat → Int32} {J : Nat → Nat → Int64} {x1 : Int32} : runI call iL_chain (0, [some (.ref 0), some (.int x1), some (.ref 632), none], [], (mm L X I J)) = bndH (call nX11_chain [.ref 0, .int x1] (mm L X I J)) (fun v m' => runI call iL_chain (7, [some (.ref 0), some (.int x1), some (.ref 632), none], v.toList ++ [.int (nI 0), .ref 632], m')) (hdl call iL_chain 4 [some (.ref 0), some (.int x1), some (.ref 632), none]) := by
  refine Eq.trans (st1 dL_chain_0 rfl rfl) ?_
  refine Eq.trans (xiconst dL_chain_1 ci_0) ?_
  refine Eq.trans (st1 dL_chain_2 rfl rfl) ?_
  refine Eq.trans (st1 dL_chain_3 rfl rfl) ?_
  exact ivH dL_chain_4 cp_13_60 rfl rfl (kd_ka ka_0) ka_0.1 (Nat.le_of_ble_eq_true rfl)
theorem q_L_chain_13 {call : CALL} {L X : Nat} {I : Nat → Nat → Int32} {J : Nat → Nat → Int64} {u0 : Option Value} {u1 : Option Value} {u2 : Option Value} {u3 : Option Value} : runI call iL_chain (13, [u0, u1, u2, u3], [], (mm L X I J)) = some (.inl (some (.int (nI 1))), (mm L X I J)) := by
  refine Eq.trans (xiconst dL_chain_13 ci_1) ?_
  exact ret0 dL_chain_14 rfl
theorem q_L_chain_7 {call : CALL} {L X : Nat} {I : Nat → Nat → Int32} {J : Nat → Nat → Int64} {u0 : Option Value} {u1 : Option Value} {u2 : Option Value} {u3 : Option Value} {s1 : Int32} {s2 : Int32} : runI call iL_chain (7, [u0, u1, u2, u3], [.int s2, .int s1, .ref 632], (mm L X I J)) = gd (inb s1 1) (some (.inl (some (.int (nI 0))), (mm L X I (up2 J 632 (s1).toNatClampNeg (s2).toInt64)))) := by
  refine Eq.trans (st1 dL_chain_7 rfl rfl) ?_
  refine Eq.trans (as3m dL_chain_8 ka_632) (gd_congr fun g1 => ?_)
  refine Eq.trans (go_to (tgt := 15) dL_chain_9 (by decide +kernel)) ?_
  refine Eq.trans (xiconst dL_chain_15 ci_0) ?_
  exact ret0 dL_chain_16 rfl
theorem hd_L_chain_4_1 {call : CALL} {L X : Nat} {I : Nat → Nat → Int32} {J : Nat → Nat → Int64} {x1 : Int32} : hdl call iL_chain 4 [some (.ref 0), some (.int x1), some (.ref 632), none] 1 (mm L X I J) = runI call iL_chain (13, [some (.ref 0), some (.int x1), some (.ref 632), none], [], (mm L X I J)) := hdl_of (h := 12) rfl (by decide +kernel) (by unfold xcat; rw [show decode iL_chain.2.1 12 = _ from dL_chain_12]; rfl)
theorem q_L_chained_0 {call : CALL} {L X : Nat} {I : Nat → Nat → Int32} {J : Nat → Nat → Int64} {x1 : Int32} : runI call iL_chained (0, [some (.ref 0), some (.int x1), some (.ref 632), none], [], (mm L X I J)) = bndH (call nX11_chained [.ref 0, .int x1] (mm L X I J)) (fun v m' => runI call iL_chained (7, [some (.ref 0), some (.int x1), some (.ref 632), none], v.toList ++ [.int (nI 0), .ref 632], m')) (hdl call iL_chained 4 [some (.ref 0), some (.int x1), some (.ref 632), none]) := by
  refine Eq.trans (st1 dL_chained_0 rfl rfl) ?_
  refine Eq.trans (xiconst dL_chained_1 ci_0) ?_
  refine Eq.trans (st1 dL_chained_2 rfl rfl) ?_
  refine Eq.trans (st1 dL_chained_3 rfl rfl) ?_
  exact ivH dL_chained_4 cp_13_63 rfl rfl (kd_ka ka_0) ka_0.1 (Nat.le_of_ble_eq_true rfl)
theorem q_L_chained_13 {call : CALL} {L X : Nat} {I : Nat → Nat → Int32} {J : Nat → Nat → Int64} {u0 : Option Value} {u1 : Option Value} {u2 : Option Value} {u3 : Option Value} : runI call iL_chained (13, [u0, u1, u2, u3], [], (mm L X I J)) = some (.inl (some (.int (nI 1))), (mm L X I J)) := by
  refine Eq.trans (xiconst dL_chained_13 ci_1) ?_
  exact ret0 dL_chained_14 rfl
theorem q_L_chained_7 {call : CALL} {L X : Nat} {I : Nat → Nat → Int32} {J : Nat → Nat → Int64} {u0 : Option Value} {u1 : Option Value} {u2 : Option Value} {u3 : Option Value} {s1 : Int32} {s2 : Int32} : runI call iL_chained (7, [u0, u1, u2, u3], [.int s2, .int s1, .ref 632], (mm L X I J)) = gd (inb s1 1) (some (.inl (some (.int (nI 0))), (mm L X I (up2 J 632 (s1).toNatClampNeg (s2).toInt64)))) := by
  refine Eq.trans (st1 dL_chained_7 rfl rfl) ?_
  refine Eq.trans (as3m dL_chained_8 ka_632) (gd_congr fun g1 => ?_)
  refine Eq.trans (go_to (tgt := 15) dL_chained_9 (by decide +kernel)) ?_
  refine Eq.trans (xiconst dL_chained_15 ci_0) ?_
  exact ret0 dL_chained_16 rfl
theorem hd_L_chained_4_1 {call : CALL} {L X : Nat} {I : Nat → Nat → Int32} {J : Nat → Nat → Int64} {x1 : Int32} : hdl call iL_chained 4 [some (.ref 0), some (.int x1), some (.ref 632), none] 1 (mm L X I J) = runI call iL_chained (13, [some (.ref 0), some (.int x1), some (.ref 632), none], [], (mm L X I J)) := hdl_of (h := 12) rfl (by decide +kernel) (by unfold xcat; rw [show decode iL_chained.2.1 12 = _ from dL_chained_12]; rfl)
theorem q_L_brief_0 {call : CALL} {L X : Nat} {I : Nat → Nat → Int32} {J : Nat → Nat → Int64} {x1 : Int32} : runI call iL_brief (0, [some (.ref 0), some (.int x1), some (.ref 632), none], [], (mm L X I J)) = bndH (call nX11_brief [.ref 0, .int x1] (mm L X I J)) (fun v m' => runI call iL_brief (7, [some (.ref 0), some (.int x1), some (.ref 632), none], v.toList ++ [.int (nI 0), .ref 632], m')) (hdl call iL_brief 4 [some (.ref 0), some (.int x1), some (.ref 632), none]) := by
  refine Eq.trans (st1 dL_brief_0 rfl rfl) ?_
  refine Eq.trans (xiconst dL_brief_1 ci_0) ?_
  refine Eq.trans (st1 dL_brief_2 rfl rfl) ?_
  refine Eq.trans (st1 dL_brief_3 rfl rfl) ?_
  exact ivH dL_brief_4 cp_13_66 rfl rfl (kd_ka ka_0) ka_0.1 (Nat.le_of_ble_eq_true rfl)
theorem q_L_brief_13 {call : CALL} {L X : Nat} {I : Nat → Nat → Int32} {J : Nat → Nat → Int64} {u0 : Option Value} {u1 : Option Value} {u2 : Option Value} {u3 : Option Value} : runI call iL_brief (13, [u0, u1, u2, u3], [], (mm L X I J)) = some (.inl (some (.int (nI 1))), (mm L X I J)) := by
  refine Eq.trans (xiconst dL_brief_13 ci_1) ?_
  exact ret0 dL_brief_14 rfl
theorem q_L_brief_7 {call : CALL} {L X : Nat} {I : Nat → Nat → Int32} {J : Nat → Nat → Int64} {u0 : Option Value} {u1 : Option Value} {u2 : Option Value} {u3 : Option Value} {s1 : Int32} {s2 : Int32} : runI call iL_brief (7, [u0, u1, u2, u3], [.int s2, .int s1, .ref 632], (mm L X I J)) = gd (inb s1 1) (some (.inl (some (.int (nI 0))), (mm L X I (up2 J 632 (s1).toNatClampNeg (s2).toInt64)))) := by
  refine Eq.trans (st1 dL_brief_7 rfl rfl) ?_
  refine Eq.trans (as3m dL_brief_8 ka_632) (gd_congr fun g1 => ?_)
  refine Eq.trans (go_to (tgt := 15) dL_brief_9 (by decide +kernel)) ?_
  refine Eq.trans (xiconst dL_brief_15 ci_0) ?_
  exact ret0 dL_brief_16 rfl
theorem hd_L_brief_4_0 {call : CALL} {L X : Nat} {I : Nat → Nat → Int32} {J : Nat → Nat → Int64} {x1 : Int32} : hdl call iL_brief 4 [some (.ref 0), some (.int x1), some (.ref 632), none] 0 (mm L X I J) = runI call iL_brief (13, [some (.ref 0), some (.int x1), some (.ref 632), none], [], (mm L X I J)) := hdl_of (h := 12) rfl (by decide +kernel) (by unfold xcat; rw [show decode iL_brief.2.1 12 = _ from dL_brief_12]; rfl)
theorem q_L_briefly_0 {call : CALL} {L X : Nat} {I : Nat → Nat → Int32} {J : Nat → Nat → Int64} {x1 : Int32} {x2 : Int32} : runI call iL_briefly (0, [some (.ref 0), some (.int x1), some (.int x2), some (.ref 632), none], [], (mm L X I J)) = bndH (call nX11_briefly [.ref 0, .int x1, .int x2] (mm L X I J)) (fun v m' => runI call iL_briefly (8, [some (.ref 0), some (.int x1), some (.int x2), some (.ref 632), none], v.toList ++ [.int (nI 0), .ref 632], m')) (hdl call iL_briefly 5 [some (.ref 0), some (.int x1), some (.int x2), some (.ref 632), none]) := by
  refine Eq.trans (st1 dL_briefly_0 rfl rfl) ?_
  refine Eq.trans (xiconst dL_briefly_1 ci_0) ?_
  refine Eq.trans (st1 dL_briefly_2 rfl rfl) ?_
  refine Eq.trans (st1 dL_briefly_3 rfl rfl) ?_
  refine Eq.trans (st1 dL_briefly_4 rfl rfl) ?_
  exact ivH dL_briefly_5 cp_13_69 rfl rfl (kd_ka ka_0) ka_0.1 (Nat.le_of_ble_eq_true rfl)
theorem q_L_briefly_15 {call : CALL} {L X : Nat} {I : Nat → Nat → Int32} {J : Nat → Nat → Int64} {u0 : Option Value} {u1 : Option Value} {u2 : Option Value} {u3 : Option Value} {u4 : Option Value} : runI call iL_briefly (15, [u0, u1, u2, u3, u4], [], (mm L X I J)) = some (.inl (some (.int (nI 1))), (mm L X I J)) := by
  refine Eq.trans (xiconst dL_briefly_15 ci_1) ?_
  exact ret0 dL_briefly_16 rfl
theorem q_L_briefly_19 {call : CALL} {L X : Nat} {I : Nat → Nat → Int32} {J : Nat → Nat → Int64} {u0 : Option Value} {u1 : Option Value} {u2 : Option Value} {u3 : Option Value} {u4 : Option Value} : runI call iL_briefly (19, [u0, u1, u2, u3, u4], [], (mm L X I J)) = some (.inl (some (.int (nI 2))), (mm L X I J)) := by
  refine Eq.trans (xiconst dL_briefly_19 ci_2) ?_
  exact ret0 dL_briefly_20 rfl
theorem q_L_briefly_8 {call : CALL} {L X : Nat} {I : Nat → Nat → Int32} {J : Nat → Nat → Int64} {u0 : Option Value} {u1 : Option Value} {u2 : Option Value} {u3 : Option Value} {u4 : Option Value} {s1 : Int32} {s2 : Int32} : runI call iL_briefly (8, [u0, u1, u2, u3, u4], [.int s2, .int s1, .ref 632], (mm L X I J)) = gd (inb s1 1) (some (.inl (some (.int (nI 0))), (mm L X I (up2 J 632 (s1).toNatClampNeg (s2).toInt64)))) := by
  refine Eq.trans (st1 dL_briefly_8 rfl rfl) ?_
  refine Eq.trans (as3m dL_briefly_9 ka_632) (gd_congr fun g1 => ?_)
  refine Eq.trans (go_to (tgt := 21) dL_briefly_10 (by decide +kernel)) ?_
  refine Eq.trans (xiconst dL_briefly_21 ci_0) ?_
  exact ret0 dL_briefly_22 rfl
theorem hd_L_briefly_5_0 {call : CALL} {L X : Nat} {I : Nat → Nat → Int32} {J : Nat → Nat → Int64} {x1 : Int32} {x2 : Int32} : hdl call iL_briefly 5 [some (.ref 0), some (.int x1), some (.int x2), some (.ref 632), none] 0 (mm L X I J) = runI call iL_briefly (15, [some (.ref 0), some (.int x1), some (.int x2), some (.ref 632), none], [], (mm L X I J)) := hdl_of (h := 13) rfl (by decide +kernel) (by unfold xcat; rw [show decode iL_briefly.2.1 13 = _ from dL_briefly_13]; rfl)
theorem hd_L_briefly_5_1 {call : CALL} {L X : Nat} {I : Nat → Nat → Int32} {J : Nat → Nat → Int64} {x1 : Int32} {x2 : Int32} : hdl call iL_briefly 5 [some (.ref 0), some (.int x1), some (.int x2), some (.ref 632), none] 1 (mm L X I J) = runI call iL_briefly (19, [some (.ref 0), some (.int x1), some (.int x2), some (.ref 632), none], [], (mm L X I J)) := hdl_of (h := 17) rfl (by decide +kernel) (by unfold xcat; rw [show decode iL_briefly.2.1 17 = _ from dL_briefly_17]; rfl)
theorem q_L_joiner_0 {call : CALL} {L X : Nat} {I : Nat → Nat → Int32} {J : Nat → Nat → Int64} {x1 : Int32} : runI call iL_joiner (0, [some (.ref 0), some (.int x1), some (.ref 632), none], [], (mm L X I J)) = bndH (call nX11_joiner [.ref 0, .int x1] (mm L X I J)) (fun v m' => runI call iL_joiner (7, [some (.ref 0), some (.int x1), some (.ref 632), none], v.toList ++ [.int (nI 0), .ref 632], m')) (hdl call iL_joiner 4 [some (.ref 0), some (.int x1), some (.ref 632), none]) := by
  refine Eq.trans (st1 dL_joiner_0 rfl rfl) ?_
  refine Eq.trans (xiconst dL_joiner_1 ci_0) ?_
  refine Eq.trans (st1 dL_joiner_2 rfl rfl) ?_
  refine Eq.trans (st1 dL_joiner_3 rfl rfl) ?_
  exact ivH dL_joiner_4 cp_13_72 rfl rfl (kd_ka ka_0) ka_0.1 (Nat.le_of_ble_eq_true rfl)
theorem q_L_joiner_13 {call : CALL} {L X : Nat} {I : Nat → Nat → Int32} {J : Nat → Nat → Int64} {u0 : Option Value} {u1 : Option Value} {u2 : Option Value} {u3 : Option Value} : runI call iL_joiner (13, [u0, u1, u2, u3], [], (mm L X I J)) = some (.inl (some (.int (nI 1))), (mm L X I J)) := by
  refine Eq.trans (xiconst dL_joiner_13 ci_1) ?_
  exact ret0 dL_joiner_14 rfl
theorem q_L_joiner_7 {call : CALL} {L X : Nat} {I : Nat → Nat → Int32} {J : Nat → Nat → Int64} {u0 : Option Value} {u1 : Option Value} {u2 : Option Value} {u3 : Option Value} {s1 : Int32} {s2 : Int32} : runI call iL_joiner (7, [u0, u1, u2, u3], [.int s2, .int s1, .ref 632], (mm L X I J)) = gd (inb s1 1) (some (.inl (some (.int (nI 0))), (mm L X I (up2 J 632 (s1).toNatClampNeg (s2).toInt64)))) := by
  refine Eq.trans (st1 dL_joiner_7 rfl rfl) ?_
  refine Eq.trans (as3m dL_joiner_8 ka_632) (gd_congr fun g1 => ?_)
  refine Eq.trans (go_to (tgt := 15) dL_joiner_9 (by decide +kernel)) ?_
  refine Eq.trans (xiconst dL_joiner_15 ci_0) ?_
  exact ret0 dL_joiner_16 rfl
theorem hd_L_joiner_4_1 {call : CALL} {L X : Nat} {I : Nat → Nat → Int32} {J : Nat → Nat → Int64} {x1 : Int32} : hdl call iL_joiner 4 [some (.ref 0), some (.int x1), some (.ref 632), none] 1 (mm L X I J) = runI call iL_joiner (13, [some (.ref 0), some (.int x1), some (.ref 632), none], [], (mm L X I J)) := hdl_of (h := 12) rfl (by decide +kernel) (by unfold xcat; rw [show decode iL_joiner.2.1 12 = _ from dL_joiner_12]; rfl)
theorem q_L_leaks_0 {call : CALL} {L X : Nat} {I : Nat → Nat → Int32} {J : Nat → Nat → Int64} {x1 : Int32} : runI call iL_leaks (0, [some (.ref 0), some (.int x1), some (.ref 632), none], [], (mm L X I J)) = bndH (call nX11_leaks [.ref 0, .int x1] (mm L X I J)) (fun v m' => runI call iL_leaks (7, [some (.ref 0), some (.int x1), some (.ref 632), none], v.toList ++ [.int (nI 0), .ref 632], m')) (hdl call iL_leaks 4 [some (.ref 0), some (.int x1), some (.ref 632), none]) := by
  refine Eq.trans (st1 dL_leaks_0 rfl rfl) ?_
  refine Eq.trans (xiconst dL_leaks_1 ci_0) ?_
  refine Eq.trans (st1 dL_leaks_2 rfl rfl) ?_
  refine Eq.trans (st1 dL_leaks_3 rfl rfl) ?_
  exact ivH dL_leaks_4 cp_13_75 rfl rfl (kd_ka ka_0) ka_0.1 (Nat.le_of_ble_eq_true rfl)
theorem q_L_leaks_13 {call : CALL} {L X : Nat} {I : Nat → Nat → Int32} {J : Nat → Nat → Int64} {u0 : Option Value} {u1 : Option Value} {u2 : Option Value} {u3 : Option Value} : runI call iL_leaks (13, [u0, u1, u2, u3], [], (mm L X I J)) = some (.inl (some (.int (nI 1))), (mm L X I J)) := by
  refine Eq.trans (xiconst dL_leaks_13 ci_1) ?_
  exact ret0 dL_leaks_14 rfl
theorem q_L_leaks_7 {call : CALL} {L X : Nat} {I : Nat → Nat → Int32} {J : Nat → Nat → Int64} {u0 : Option Value} {u1 : Option Value} {u2 : Option Value} {u3 : Option Value} {s1 : Int32} {s2 : Int32} : runI call iL_leaks (7, [u0, u1, u2, u3], [.int s2, .int s1, .ref 632], (mm L X I J)) = gd (inb s1 1) (some (.inl (some (.int (nI 0))), (mm L X I (up2 J 632 (s1).toNatClampNeg (s2).toInt64)))) := by
  refine Eq.trans (st1 dL_leaks_7 rfl rfl) ?_
  refine Eq.trans (as3m dL_leaks_8 ka_632) (gd_congr fun g1 => ?_)
  refine Eq.trans (go_to (tgt := 15) dL_leaks_9 (by decide +kernel)) ?_
  refine Eq.trans (xiconst dL_leaks_15 ci_0) ?_
  exact ret0 dL_leaks_16 rfl
theorem hd_L_leaks_4_1 {call : CALL} {L X : Nat} {I : Nat → Nat → Int32} {J : Nat → Nat → Int64} {x1 : Int32} : hdl call iL_leaks 4 [some (.ref 0), some (.int x1), some (.ref 632), none] 1 (mm L X I J) = runI call iL_leaks (13, [some (.ref 0), some (.int x1), some (.ref 632), none], [], (mm L X I J)) := hdl_of (h := 12) rfl (by decide +kernel) (by unfold xcat; rw [show decode iL_leaks.2.1 12 = _ from dL_leaks_12]; rfl)
theorem q_L_look_0 {call : CALL} {L X : Nat} {I : Nat → Nat → Int32} {J : Nat → Nat → Int64} {x1 : Int32} : runI call iL_look (0, [some (.ref 0), some (.int x1), some (.ref 632), none], [], (mm L X I J)) = bndH (call nX11_look [.ref 0, .int x1] (mm L X I J)) (fun v m' => runI call iL_look (7, [some (.ref 0), some (.int x1), some (.ref 632), none], v.toList ++ [.int (nI 0), .ref 632], m')) (hdl call iL_look 4 [some (.ref 0), some (.int x1), some (.ref 632), none]) := by
  refine Eq.trans (st1 dL_look_0 rfl rfl) ?_
  refine Eq.trans (xiconst dL_look_1 ci_0) ?_
  refine Eq.trans (st1 dL_look_2 rfl rfl) ?_
  refine Eq.trans (st1 dL_look_3 rfl rfl) ?_
  exact ivH dL_look_4 cp_13_78 rfl rfl (kd_ka ka_0) ka_0.1 (Nat.le_of_ble_eq_true rfl)
theorem q_L_look_13 {call : CALL} {L X : Nat} {I : Nat → Nat → Int32} {J : Nat → Nat → Int64} {u0 : Option Value} {u1 : Option Value} {u2 : Option Value} {u3 : Option Value} : runI call iL_look (13, [u0, u1, u2, u3], [], (mm L X I J)) = some (.inl (some (.int (nI 1))), (mm L X I J)) := by
  refine Eq.trans (xiconst dL_look_13 ci_1) ?_
  exact ret0 dL_look_14 rfl
theorem q_L_look_7 {call : CALL} {L X : Nat} {I : Nat → Nat → Int32} {J : Nat → Nat → Int64} {u0 : Option Value} {u1 : Option Value} {u2 : Option Value} {u3 : Option Value} {s1 : Int32} {s2 : Int32} : runI call iL_look (7, [u0, u1, u2, u3], [.int s2, .int s1, .ref 632], (mm L X I J)) = gd (inb s1 1) (some (.inl (some (.int (nI 0))), (mm L X I (up2 J 632 (s1).toNatClampNeg (s2).toInt64)))) := by
  refine Eq.trans (st1 dL_look_7 rfl rfl) ?_
  refine Eq.trans (as3m dL_look_8 ka_632) (gd_congr fun g1 => ?_)
  refine Eq.trans (go_to (tgt := 15) dL_look_9 (by decide +kernel)) ?_
  refine Eq.trans (xiconst dL_look_15 ci_0) ?_
  exact ret0 dL_look_16 rfl
theorem hd_L_look_4_1 {call : CALL} {L X : Nat} {I : Nat → Nat → Int32} {J : Nat → Nat → Int64} {x1 : Int32} : hdl call iL_look 4 [some (.ref 0), some (.int x1), some (.ref 632), none] 1 (mm L X I J) = runI call iL_look (13, [some (.ref 0), some (.int x1), some (.ref 632), none], [], (mm L X I J)) := hdl_of (h := 12) rfl (by decide +kernel) (by unfold xcat; rw [show decode iL_look.2.1 12 = _ from dL_look_12]; rfl)
theorem q_L_sure_0 {call : CALL} {L X : Nat} {I : Nat → Nat → Int32} {J : Nat → Nat → Int64} {x1 : Int32} {x2 : Int32} {x3 : Int32} : runI call iL_sure (0, [some (.ref 0), some (.int x1), some (.int x2), some (.int x3), some (.ref 632), none], [], (mm L X I J)) = bndH (call nX11_sure [.ref 0, .int x1, .int x2, .int x3] (mm L X I J)) (fun v m' => runI call iL_sure (10, [some (.ref 0), some (.int x1), some (.int x2), some (.int x3), some (.ref 632), none], v.toList ++ [.int (nI 0), .ref 632], m')) (hdl call iL_sure 7 [some (.ref 0), some (.int x1), some (.int x2), some (.int x3), some (.ref 632), none]) := by
  refine Eq.trans (st1 dL_sure_0 rfl rfl) ?_
  refine Eq.trans (xiconst dL_sure_2 ci_0) ?_
  refine Eq.trans (st1 dL_sure_3 rfl rfl) ?_
  refine Eq.trans (st1 dL_sure_4 rfl rfl) ?_
  refine Eq.trans (st1 dL_sure_5 rfl rfl) ?_
  refine Eq.trans (st1 dL_sure_6 rfl rfl) ?_
  exact ivH dL_sure_7 cp_13_81 rfl rfl (kd_ka ka_0) ka_0.1 (Nat.le_of_ble_eq_true rfl)
theorem q_L_sure_16 {call : CALL} {L X : Nat} {I : Nat → Nat → Int32} {J : Nat → Nat → Int64} {u0 : Option Value} {u1 : Option Value} {u2 : Option Value} {u3 : Option Value} {u4 : Option Value} {u5 : Option Value} : runI call iL_sure (16, [u0, u1, u2, u3, u4, u5], [], (mm L X I J)) = some (.inl (some (.int (nI 1))), (mm L X I J)) := by
  refine Eq.trans (xiconst dL_sure_16 ci_1) ?_
  exact ret0 dL_sure_17 rfl
theorem q_L_sure_20 {call : CALL} {L X : Nat} {I : Nat → Nat → Int32} {J : Nat → Nat → Int64} {u0 : Option Value} {u1 : Option Value} {u2 : Option Value} {u3 : Option Value} {u4 : Option Value} {u5 : Option Value} : runI call iL_sure (20, [u0, u1, u2, u3, u4, u5], [], (mm L X I J)) = some (.inl (some (.int (nI 2))), (mm L X I J)) := by
  refine Eq.trans (xiconst dL_sure_20 ci_2) ?_
  exact ret0 dL_sure_21 rfl
theorem q_L_sure_10 {call : CALL} {L X : Nat} {I : Nat → Nat → Int32} {J : Nat → Nat → Int64} {u0 : Option Value} {u1 : Option Value} {u2 : Option Value} {u3 : Option Value} {u4 : Option Value} {u5 : Option Value} {s1 : Int32} {z2 : Int64} : runI call iL_sure (10, [u0, u1, u2, u3, u4, u5], [.long z2, .int s1, .ref 632], (mm L X I J)) = gd (inb s1 1) (some (.inl (some (.int (nI 0))), (mm L X I (up2 J 632 (s1).toNatClampNeg z2)))) := by
  refine Eq.trans (as3m dL_sure_10 ka_632) (gd_congr fun g1 => ?_)
  refine Eq.trans (go_to (tgt := 22) dL_sure_11 (by decide +kernel)) ?_
  refine Eq.trans (xiconst dL_sure_22 ci_0) ?_
  exact ret0 dL_sure_23 rfl
theorem hd_L_sure_7_0 {call : CALL} {L X : Nat} {I : Nat → Nat → Int32} {J : Nat → Nat → Int64} {x1 : Int32} {x2 : Int32} {x3 : Int32} : hdl call iL_sure 7 [some (.ref 0), some (.int x1), some (.int x2), some (.int x3), some (.ref 632), none] 0 (mm L X I J) = runI call iL_sure (16, [some (.ref 0), some (.int x1), some (.int x2), some (.int x3), some (.ref 632), none], [], (mm L X I J)) := hdl_of (h := 14) rfl (by decide +kernel) (by unfold xcat; rw [show decode iL_sure.2.1 14 = _ from dL_sure_14]; rfl)
theorem hd_L_sure_7_1 {call : CALL} {L X : Nat} {I : Nat → Nat → Int32} {J : Nat → Nat → Int64} {x1 : Int32} {x2 : Int32} {x3 : Int32} : hdl call iL_sure 7 [some (.ref 0), some (.int x1), some (.int x2), some (.int x3), some (.ref 632), none] 1 (mm L X I J) = runI call iL_sure (20, [some (.ref 0), some (.int x1), some (.int x2), some (.int x3), some (.ref 632), none], [], (mm L X I J)) := hdl_of (h := 18) rfl (by decide +kernel) (by unfold xcat; rw [show decode iL_sure.2.1 18 = _ from dL_sure_18]; rfl)
theorem q_L_street_0 {call : CALL} {L X : Nat} {I : Nat → Nat → Int32} {J : Nat → Nat → Int64} {x1 : Int32} {x2 : Int32} {x3 : Int32} : runI call iL_street (0, [some (.ref 0), some (.int x1), some (.int x2), some (.int x3), some (.ref 632), none], [], (mm L X I J)) = bndH (call nX11_street [.ref 0, .int x1, .int x2, .int x3] (mm L X I J)) (fun v m' => runI call iL_street (10, [some (.ref 0), some (.int x1), some (.int x2), some (.int x3), some (.ref 632), none], v.toList ++ [.int (nI 0), .ref 632], m')) (hdl call iL_street 7 [some (.ref 0), some (.int x1), some (.int x2), some (.int x3), some (.ref 632), none]) := by
  refine Eq.trans (st1 dL_street_0 rfl rfl) ?_
  refine Eq.trans (xiconst dL_street_2 ci_0) ?_
  refine Eq.trans (st1 dL_street_3 rfl rfl) ?_
  refine Eq.trans (st1 dL_street_4 rfl rfl) ?_
  refine Eq.trans (st1 dL_street_5 rfl rfl) ?_
  refine Eq.trans (st1 dL_street_6 rfl rfl) ?_
  exact ivH dL_street_7 cp_13_85 rfl rfl (kd_ka ka_0) ka_0.1 (Nat.le_of_ble_eq_true rfl)
theorem q_L_street_17 {call : CALL} {L X : Nat} {I : Nat → Nat → Int32} {J : Nat → Nat → Int64} {u0 : Option Value} {u1 : Option Value} {u2 : Option Value} {u3 : Option Value} {u4 : Option Value} {u5 : Option Value} : runI call iL_street (17, [u0, u1, u2, u3, u4, u5], [], (mm L X I J)) = some (.inl (some (.int (nI 1))), (mm L X I J)) := by
  refine Eq.trans (xiconst dL_street_17 ci_1) ?_
  exact ret0 dL_street_18 rfl
theorem q_L_street_10 {call : CALL} {L X : Nat} {I : Nat → Nat → Int32} {J : Nat → Nat → Int64} {u0 : Option Value} {u1 : Option Value} {u2 : Option Value} {u3 : Option Value} {u4 : Option Value} {u5 : Option Value} {s1 : Int32} {s2 : Int32} : runI call iL_street (10, [u0, u1, u2, u3, u4, u5], [.int s2, .int s1, .ref 632], (mm L X I J)) = gd (inb s1 1) (some (.inl (some (.int (nI 0))), (mm L X I (up2 J 632 (s1).toNatClampNeg (s2).toInt64)))) := by
  refine Eq.trans (st1 dL_street_10 rfl rfl) ?_
  refine Eq.trans (as3m dL_street_11 ka_632) (gd_congr fun g1 => ?_)
  refine Eq.trans (go_to (tgt := 19) dL_street_12 (by decide +kernel)) ?_
  refine Eq.trans (xiconst dL_street_19 ci_0) ?_
  exact ret0 dL_street_20 rfl
theorem hd_L_street_7_1 {call : CALL} {L X : Nat} {I : Nat → Nat → Int32} {J : Nat → Nat → Int64} {x1 : Int32} {x2 : Int32} {x3 : Int32} : hdl call iL_street 7 [some (.ref 0), some (.int x1), some (.int x2), some (.int x3), some (.ref 632), none] 1 (mm L X I J) = runI call iL_street (17, [some (.ref 0), some (.int x1), some (.int x2), some (.int x3), some (.ref 632), none], [], (mm L X I J)) := hdl_of (h := 15) rfl (by decide +kernel) (by unfold xcat; rw [show decode iL_street.2.1 15 = _ from dL_street_15]; rfl)
theorem q_L_share_0 {call : CALL} {L X : Nat} {I : Nat → Nat → Int32} {J : Nat → Nat → Int64} {x1 : Int32} {x2 : Int32} {x3 : Int32} : runI call iL_share (0, [some (.ref 0), some (.int x1), some (.int x2), some (.int x3), some (.ref 632), none], [], (mm L X I J)) = bndH (call nX11_share [.ref 0, .int x1, .int x2, .int x3] (mm L X I J)) (fun v m' => runI call iL_share (10, [some (.ref 0), some (.int x1), some (.int x2), some (.int x3), some (.ref 632), none], v.toList ++ [.int (nI 0), .ref 632], m')) (hdl call iL_share 7 [some (.ref 0), some (.int x1), some (.int x2), some (.int x3), some (.ref 632), none]) := by
  refine Eq.trans (st1 dL_share_0 rfl rfl) ?_
  refine Eq.trans (xiconst dL_share_2 ci_0) ?_
  refine Eq.trans (st1 dL_share_3 rfl rfl) ?_
  refine Eq.trans (st1 dL_share_4 rfl rfl) ?_
  refine Eq.trans (st1 dL_share_5 rfl rfl) ?_
  refine Eq.trans (st1 dL_share_6 rfl rfl) ?_
  exact ivH dL_share_7 cp_13_89 rfl rfl (kd_ka ka_0) ka_0.1 (Nat.le_of_ble_eq_true rfl)
theorem q_L_share_17 {call : CALL} {L X : Nat} {I : Nat → Nat → Int32} {J : Nat → Nat → Int64} {u0 : Option Value} {u1 : Option Value} {u2 : Option Value} {u3 : Option Value} {u4 : Option Value} {u5 : Option Value} : runI call iL_share (17, [u0, u1, u2, u3, u4, u5], [], (mm L X I J)) = some (.inl (some (.int (nI 1))), (mm L X I J)) := by
  refine Eq.trans (xiconst dL_share_17 ci_1) ?_
  exact ret0 dL_share_18 rfl
theorem q_L_share_21 {call : CALL} {L X : Nat} {I : Nat → Nat → Int32} {J : Nat → Nat → Int64} {u0 : Option Value} {u1 : Option Value} {u2 : Option Value} {u3 : Option Value} {u4 : Option Value} {u5 : Option Value} : runI call iL_share (21, [u0, u1, u2, u3, u4, u5], [], (mm L X I J)) = some (.inl (some (.int (nI 2))), (mm L X I J)) := by
  refine Eq.trans (xiconst dL_share_21 ci_2) ?_
  exact ret0 dL_share_22 rfl
theorem q_L_share_10 {call : CALL} {L X : Nat} {I : Nat → Nat → Int32} {J : Nat → Nat → Int64} {u0 : Option Value} {u1 : Option Value} {u2 : Option Value} {u3 : Option Value} {u4 : Option Value} {u5 : Option Value} {s1 : Int32} {s2 : Int32} : runI call iL_share (10, [u0, u1, u2, u3, u4, u5], [.int s2, .int s1, .ref 632], (mm L X I J)) = gd (inb s1 1) (some (.inl (some (.int (nI 0))), (mm L X I (up2 J 632 (s1).toNatClampNeg (s2).toInt64)))) := by
  refine Eq.trans (st1 dL_share_10 rfl rfl) ?_
  refine Eq.trans (as3m dL_share_11 ka_632) (gd_congr fun g1 => ?_)
  refine Eq.trans (go_to (tgt := 23) dL_share_12 (by decide +kernel)) ?_
  refine Eq.trans (xiconst dL_share_23 ci_0) ?_
  exact ret0 dL_share_24 rfl
theorem hd_L_share_7_0 {call : CALL} {L X : Nat} {I : Nat → Nat → Int32} {J : Nat → Nat → Int64} {x1 : Int32} {x2 : Int32} {x3 : Int32} : hdl call iL_share 7 [some (.ref 0), some (.int x1), some (.int x2), some (.int x3), some (.ref 632), none] 0 (mm L X I J) = runI call iL_share (17, [some (.ref 0), some (.int x1), some (.int x2), some (.int x3), some (.ref 632), none], [], (mm L X I J)) := hdl_of (h := 15) rfl (by decide +kernel) (by unfold xcat; rw [show decode iL_share.2.1 15 = _ from dL_share_15]; rfl)
theorem hd_L_share_7_1 {call : CALL} {L X : Nat} {I : Nat → Nat → Int32} {J : Nat → Nat → Int64} {x1 : Int32} {x2 : Int32} {x3 : Int32} : hdl call iL_share 7 [some (.ref 0), some (.int x1), some (.int x2), some (.int x3), some (.ref 632), none] 1 (mm L X I J) = runI call iL_share (21, [some (.ref 0), some (.int x1), some (.int x2), some (.int x3), some (.ref 632), none], [], (mm L X I J)) := hdl_of (h := 19) rfl (by decide +kernel) (by unfold xcat; rw [show decode iL_share.2.1 19 = _ from dL_share_19]; rfl)
theorem q_L_next_0 {call : CALL} {L X : Nat} {I : Nat → Nat → Int32} {J : Nat → Nat → Int64} {x1 : Int32} : runI call iL_next (0, [some (.ref 0), some (.int x1), some (.ref 632), none], [], (mm L X I J)) = bndH (call nX11_next [.ref 0, .int x1] (mm L X I J)) (fun v m' => runI call iL_next (7, [some (.ref 0), some (.int x1), some (.ref 632), none], v.toList ++ [.int (nI 0), .ref 632], m')) (hdl call iL_next 4 [some (.ref 0), some (.int x1), some (.ref 632), none]) := by
  refine Eq.trans (st1 dL_next_0 rfl rfl) ?_
  refine Eq.trans (xiconst dL_next_1 ci_0) ?_
  refine Eq.trans (st1 dL_next_2 rfl rfl) ?_
  refine Eq.trans (st1 dL_next_3 rfl rfl) ?_
  exact ivH dL_next_4 cp_13_92 rfl rfl (kd_ka ka_0) ka_0.1 (Nat.le_of_ble_eq_true rfl)
theorem q_L_next_13 {call : CALL} {L X : Nat} {I : Nat → Nat → Int32} {J : Nat → Nat → Int64} {u0 : Option Value} {u1 : Option Value} {u2 : Option Value} {u3 : Option Value} : runI call iL_next (13, [u0, u1, u2, u3], [], (mm L X I J)) = some (.inl (some (.int (nI 1))), (mm L X I J)) := by
  refine Eq.trans (xiconst dL_next_13 ci_1) ?_
  exact ret0 dL_next_14 rfl
theorem q_L_next_7 {call : CALL} {L X : Nat} {I : Nat → Nat → Int32} {J : Nat → Nat → Int64} {u0 : Option Value} {u1 : Option Value} {u2 : Option Value} {u3 : Option Value} {s1 : Int32} {s2 : Int32} : runI call iL_next (7, [u0, u1, u2, u3], [.int s2, .int s1, .ref 632], (mm L X I J)) = gd (inb s1 1) (some (.inl (some (.int (nI 0))), (mm L X I (up2 J 632 (s1).toNatClampNeg (s2).toInt64)))) := by
  refine Eq.trans (st1 dL_next_7 rfl rfl) ?_
  refine Eq.trans (as3m dL_next_8 ka_632) (gd_congr fun g1 => ?_)
  refine Eq.trans (go_to (tgt := 15) dL_next_9 (by decide +kernel)) ?_
  refine Eq.trans (xiconst dL_next_15 ci_0) ?_
  exact ret0 dL_next_16 rfl
theorem hd_L_next_4_1 {call : CALL} {L X : Nat} {I : Nat → Nat → Int32} {J : Nat → Nat → Int64} {x1 : Int32} : hdl call iL_next 4 [some (.ref 0), some (.int x1), some (.ref 632), none] 1 (mm L X I J) = runI call iL_next (13, [some (.ref 0), some (.int x1), some (.ref 632), none], [], (mm L X I J)) := hdl_of (h := 12) rfl (by decide +kernel) (by unfold xcat; rw [show decode iL_next.2.1 12 = _ from dL_next_12]; rfl)
theorem q_L_worst_0 {call : CALL} {L X : Nat} {I : Nat → Nat → Int32} {J : Nat → Nat → Int64} {x1 : Int32} : runI call iL_worst (0, [some (.ref 0), some (.int x1), some (.ref 632), none], [], (mm L X I J)) = bndH (call nX11_worst [.ref 0, .int x1] (mm L X I J)) (fun v m' => runI call iL_worst (7, [some (.ref 0), some (.int x1), some (.ref 632), none], v.toList ++ [.int (nI 0), .ref 632], m')) (hdl call iL_worst 4 [some (.ref 0), some (.int x1), some (.ref 632), none]) := by
  refine Eq.trans (st1 dL_worst_0 rfl rfl) ?_
  refine Eq.trans (xiconst dL_worst_1 ci_0) ?_
  refine Eq.trans (st1 dL_worst_2 rfl rfl) ?_
  refine Eq.trans (st1 dL_worst_3 rfl rfl) ?_
  exact ivH dL_worst_4 cp_13_95 rfl rfl (kd_ka ka_0) ka_0.1 (Nat.le_of_ble_eq_true rfl)
theorem q_L_worst_13 {call : CALL} {L X : Nat} {I : Nat → Nat → Int32} {J : Nat → Nat → Int64} {u0 : Option Value} {u1 : Option Value} {u2 : Option Value} {u3 : Option Value} : runI call iL_worst (13, [u0, u1, u2, u3], [], (mm L X I J)) = some (.inl (some (.int (nI 1))), (mm L X I J)) := by
  refine Eq.trans (xiconst dL_worst_13 ci_1) ?_
  exact ret0 dL_worst_14 rfl
theorem q_L_worst_7 {call : CALL} {L X : Nat} {I : Nat → Nat → Int32} {J : Nat → Nat → Int64} {u0 : Option Value} {u1 : Option Value} {u2 : Option Value} {u3 : Option Value} {s1 : Int32} {s2 : Int32} : runI call iL_worst (7, [u0, u1, u2, u3], [.int s2, .int s1, .ref 632], (mm L X I J)) = gd (inb s1 1) (some (.inl (some (.int (nI 0))), (mm L X I (up2 J 632 (s1).toNatClampNeg (s2).toInt64)))) := by
  refine Eq.trans (st1 dL_worst_7 rfl rfl) ?_
  refine Eq.trans (as3m dL_worst_8 ka_632) (gd_congr fun g1 => ?_)
  refine Eq.trans (go_to (tgt := 15) dL_worst_9 (by decide +kernel)) ?_
  refine Eq.trans (xiconst dL_worst_15 ci_0) ?_
  exact ret0 dL_worst_16 rfl
theorem hd_L_worst_4_1 {call : CALL} {L X : Nat} {I : Nat → Nat → Int32} {J : Nat → Nat → Int64} {x1 : Int32} : hdl call iL_worst 4 [some (.ref 0), some (.int x1), some (.ref 632), none] 1 (mm L X I J) = runI call iL_worst (13, [some (.ref 0), some (.int x1), some (.ref 632), none], [], (mm L X I J)) := hdl_of (h := 12) rfl (by decide +kernel) (by unfold xcat; rw [show decode iL_worst.2.1 12 = _ from dL_worst_12]; rfl)
theorem q_L_needed_0 {call : CALL} {L X : Nat} {I : Nat → Nat → Int32} {J : Nat → Nat → Int64} {x1 : Int32} : runI call iL_needed (0, [some (.ref 0), some (.int x1), some (.ref 632), none], [], (mm L X I J)) = bndH (call nX11_needed [.ref 0, .int x1] (mm L X I J)) (fun v m' => runI call iL_needed (7, [some (.ref 0), some (.int x1), some (.ref 632), none], v.toList ++ [.int (nI 0), .ref 632], m')) (hdl call iL_needed 4 [some (.ref 0), some (.int x1), some (.ref 632), none]) := by
  refine Eq.trans (st1 dL_needed_0 rfl rfl) ?_
  refine Eq.trans (xiconst dL_needed_1 ci_0) ?_
  refine Eq.trans (st1 dL_needed_2 rfl rfl) ?_
  refine Eq.trans (st1 dL_needed_3 rfl rfl) ?_
  exact ivH dL_needed_4 cp_13_98 rfl rfl (kd_ka ka_0) ka_0.1 (Nat.le_of_ble_eq_true rfl)
theorem q_L_needed_13 {call : CALL} {L X : Nat} {I : Nat → Nat → Int32} {J : Nat → Nat → Int64} {u0 : Option Value} {u1 : Option Value} {u2 : Option Value} {u3 : Option Value} : runI call iL_needed (13, [u0, u1, u2, u3], [], (mm L X I J)) = some (.inl (some (.int (nI 1))), (mm L X I J)) := by
  refine Eq.trans (xiconst dL_needed_13 ci_1) ?_
  exact ret0 dL_needed_14 rfl
theorem q_L_needed_7 {call : CALL} {L X : Nat} {I : Nat → Nat → Int32} {J : Nat → Nat → Int64} {u0 : Option Value} {u1 : Option Value} {u2 : Option Value} {u3 : Option Value} {s1 : Int32} {s2 : Int32} : runI call iL_needed (7, [u0, u1, u2, u3], [.int s2, .int s1, .ref 632], (mm L X I J)) = gd (inb s1 1) (some (.inl (some (.int (nI 0))), (mm L X I (up2 J 632 (s1).toNatClampNeg (s2).toInt64)))) := by
  refine Eq.trans (st1 dL_needed_7 rfl rfl) ?_
  refine Eq.trans (as3m dL_needed_8 ka_632) (gd_congr fun g1 => ?_)
  refine Eq.trans (go_to (tgt := 15) dL_needed_9 (by decide +kernel)) ?_
  refine Eq.trans (xiconst dL_needed_15 ci_0) ?_
  exact ret0 dL_needed_16 rfl
theorem hd_L_needed_4_0 {call : CALL} {L X : Nat} {I : Nat → Nat → Int32} {J : Nat → Nat → Int64} {x1 : Int32} : hdl call iL_needed 4 [some (.ref 0), some (.int x1), some (.ref 632), none] 0 (mm L X I J) = runI call iL_needed (13, [some (.ref 0), some (.int x1), some (.ref 632), none], [], (mm L X I J)) := hdl_of (h := 12) rfl (by decide +kernel) (by unfold xcat; rw [show decode iL_needed.2.1 12 = _ from dL_needed_12]; rfl)
theorem q_L_kin_0 {call : CALL} {L X : Nat} {I : Nat → Nat → Int32} {J : Nat → Nat → Int64} {x1 : Int32} : runI call iL_kin (0, [some (.ref 0), some (.int x1), some (.ref 632), none], [], (mm L X I J)) = bndH (call nX11_kin [.ref 0, .int x1] (mm L X I J)) (fun v m' => runI call iL_kin (7, [some (.ref 0), some (.int x1), some (.ref 632), none], v.toList ++ [.int (nI 0), .ref 632], m')) (hdl call iL_kin 4 [some (.ref 0), some (.int x1), some (.ref 632), none]) := by
  refine Eq.trans (st1 dL_kin_0 rfl rfl) ?_
  refine Eq.trans (xiconst dL_kin_1 ci_0) ?_
  refine Eq.trans (st1 dL_kin_2 rfl rfl) ?_
  refine Eq.trans (st1 dL_kin_3 rfl rfl) ?_
  exact ivH dL_kin_4 cp_13_101 rfl rfl (kd_ka ka_0) ka_0.1 (Nat.le_of_ble_eq_true rfl)
theorem q_L_kin_13 {call : CALL} {L X : Nat} {I : Nat → Nat → Int32} {J : Nat → Nat → Int64} {u0 : Option Value} {u1 : Option Value} {u2 : Option Value} {u3 : Option Value} : runI call iL_kin (13, [u0, u1, u2, u3], [], (mm L X I J)) = some (.inl (some (.int (nI 1))), (mm L X I J)) := by
  refine Eq.trans (xiconst dL_kin_13 ci_1) ?_
  exact ret0 dL_kin_14 rfl
theorem q_L_kin_7 {call : CALL} {L X : Nat} {I : Nat → Nat → Int32} {J : Nat → Nat → Int64} {u0 : Option Value} {u1 : Option Value} {u2 : Option Value} {u3 : Option Value} {s1 : Int32} {s2 : Int32} : runI call iL_kin (7, [u0, u1, u2, u3], [.int s2, .int s1, .ref 632], (mm L X I J)) = gd (inb s1 1) (some (.inl (some (.int (nI 0))), (mm L X I (up2 J 632 (s1).toNatClampNeg (s2).toInt64)))) := by
  refine Eq.trans (st1 dL_kin_7 rfl rfl) ?_
  refine Eq.trans (as3m dL_kin_8 ka_632) (gd_congr fun g1 => ?_)
  refine Eq.trans (go_to (tgt := 15) dL_kin_9 (by decide +kernel)) ?_
  refine Eq.trans (xiconst dL_kin_15 ci_0) ?_
  exact ret0 dL_kin_16 rfl
theorem hd_L_kin_4_1 {call : CALL} {L X : Nat} {I : Nat → Nat → Int32} {J : Nat → Nat → Int64} {x1 : Int32} : hdl call iL_kin 4 [some (.ref 0), some (.int x1), some (.ref 632), none] 1 (mm L X I J) = runI call iL_kin (13, [some (.ref 0), some (.int x1), some (.ref 632), none], [], (mm L X I J)) := hdl_of (h := 12) rfl (by decide +kernel) (by unfold xcat; rw [show decode iL_kin.2.1 12 = _ from dL_kin_12]; rfl)
theorem q_L_year_0 {call : CALL} {L X : Nat} {I : Nat → Nat → Int32} {J : Nat → Nat → Int64} {x1 : Int32} {x2 : Int32} {x3 : Int32} {x4 : Int32} : runI call iL_year (0, [some (.ref 0), some (.int x1), some (.int x2), some (.int x3), some (.int x4), some (.ref 632), none], [], (mm L X I J)) = bndH (call nX11_year [.ref 0, .int x1, .int x2, .int x3, .int x4] (mm L X I J)) (fun v m' => runI call iL_year (12, [some (.ref 0), some (.int x1), some (.int x2), some (.int x3), some (.int x4), some (.ref 632), none], v.toList ++ [.int (nI 0), .ref 632], m')) (hdl call iL_year 9 [some (.ref 0), some (.int x1), some (.int x2), some (.int x3), some (.int x4), some (.ref 632), none]) := by
  refine Eq.trans (st1 dL_year_0 rfl rfl) ?_
  refine Eq.trans (xiconst dL_year_2 ci_0) ?_
  refine Eq.trans (st1 dL_year_3 rfl rfl) ?_
  refine Eq.trans (st1 dL_year_4 rfl rfl) ?_
  refine Eq.trans (st1 dL_year_5 rfl rfl) ?_
  refine Eq.trans (st1 dL_year_6 rfl rfl) ?_
  refine Eq.trans (st1 dL_year_7 rfl rfl) ?_
  exact ivH dL_year_9 cp_13_104 rfl rfl (kd_ka ka_0) ka_0.1 (Nat.le_of_ble_eq_true rfl)
theorem q_L_year_19 {call : CALL} {L X : Nat} {I : Nat → Nat → Int32} {J : Nat → Nat → Int64} {u0 : Option Value} {u1 : Option Value} {u2 : Option Value} {u3 : Option Value} {u4 : Option Value} {u5 : Option Value} {u6 : Option Value} : runI call iL_year (19, [u0, u1, u2, u3, u4, u5, u6], [], (mm L X I J)) = some (.inl (some (.int (nI 1))), (mm L X I J)) := by
  refine Eq.trans (xiconst dL_year_19 ci_1) ?_
  exact ret0 dL_year_20 rfl
theorem q_L_year_12 {call : CALL} {L X : Nat} {I : Nat → Nat → Int32} {J : Nat → Nat → Int64} {u0 : Option Value} {u1 : Option Value} {u2 : Option Value} {u3 : Option Value} {u4 : Option Value} {u5 : Option Value} {u6 : Option Value} {s1 : Int32} {s2 : Int32} : runI call iL_year (12, [u0, u1, u2, u3, u4, u5, u6], [.int s2, .int s1, .ref 632], (mm L X I J)) = gd (inb s1 1) (some (.inl (some (.int (nI 0))), (mm L X I (up2 J 632 (s1).toNatClampNeg (s2).toInt64)))) := by
  refine Eq.trans (st1 dL_year_12 rfl rfl) ?_
  refine Eq.trans (as3m dL_year_13 ka_632) (gd_congr fun g1 => ?_)
  refine Eq.trans (go_to (tgt := 21) dL_year_14 (by decide +kernel)) ?_
  refine Eq.trans (xiconst dL_year_21 ci_0) ?_
  exact ret0 dL_year_22 rfl
theorem hd_L_year_9_1 {call : CALL} {L X : Nat} {I : Nat → Nat → Int32} {J : Nat → Nat → Int64} {x1 : Int32} {x2 : Int32} {x3 : Int32} {x4 : Int32} : hdl call iL_year 9 [some (.ref 0), some (.int x1), some (.int x2), some (.int x3), some (.int x4), some (.ref 632), none] 1 (mm L X I J) = runI call iL_year (19, [some (.ref 0), some (.int x1), some (.int x2), some (.int x3), some (.int x4), some (.ref 632), none], [], (mm L X I J)) := hdl_of (h := 17) rfl (by decide +kernel) (by unfold xcat; rw [show decode iL_year.2.1 17 = _ from dL_year_17]; rfl)
theorem q_L_span_0 {call : CALL} {L X : Nat} {I : Nat → Nat → Int32} {J : Nat → Nat → Int64} {x1 : Int32} {x2 : Int32} {x3 : Int32} {x4 : Int32} {x5 : Int32} {x6 : Int32} : runI call iL_span (0, [some (.ref 0), some (.int x1), some (.int x2), some (.int x3), some (.int x4), some (.int x5), some (.int x6), some (.ref 632), none], [], (mm L X I J)) = bndH (call nX11_span [.ref 0, .int x1, .int x2, .int x3, .int x4, .int x5, .int x6] (mm L X I J)) (fun v m' => runI call iL_span (16, [some (.ref 0), some (.int x1), some (.int x2), some (.int x3), some (.int x4), some (.int x5), some (.int x6), some (.ref 632), none], v.toList ++ [.int (nI 0), .ref 632], m')) (hdl call iL_span 13 [some (.ref 0), some (.int x1), some (.int x2), some (.int x3), some (.int x4), some (.int x5), some (.int x6), some (.ref 632), none]) := by
  refine Eq.trans (st1 dL_span_0 rfl rfl) ?_
  refine Eq.trans (xiconst dL_span_2 ci_0) ?_
  refine Eq.trans (st1 dL_span_3 rfl rfl) ?_
  refine Eq.trans (st1 dL_span_4 rfl rfl) ?_
  refine Eq.trans (st1 dL_span_5 rfl rfl) ?_
  refine Eq.trans (st1 dL_span_6 rfl rfl) ?_
  refine Eq.trans (st1 dL_span_7 rfl rfl) ?_
  refine Eq.trans (st1 dL_span_9 rfl rfl) ?_
  refine Eq.trans (st1 dL_span_11 rfl rfl) ?_
  exact ivH dL_span_13 cp_13_108 rfl rfl (kd_ka ka_0) ka_0.1 (Nat.le_of_ble_eq_true rfl)
theorem q_L_span_23 {call : CALL} {L X : Nat} {I : Nat → Nat → Int32} {J : Nat → Nat → Int64} {u0 : Option Value} {u1 : Option Value} {u2 : Option Value} {u3 : Option Value} {u4 : Option Value} {u5 : Option Value} {u6 : Option Value} {u7 : Option Value} {u8 : Option Value} : runI call iL_span (23, [u0, u1, u2, u3, u4, u5, u6, u7, u8], [], (mm L X I J)) = some (.inl (some (.int (nI 1))), (mm L X I J)) := by
  refine Eq.trans (xiconst dL_span_23 ci_1) ?_
  exact ret0 dL_span_24 rfl
theorem q_L_span_16 {call : CALL} {L X : Nat} {I : Nat → Nat → Int32} {J : Nat → Nat → Int64} {u0 : Option Value} {u1 : Option Value} {u2 : Option Value} {u3 : Option Value} {u4 : Option Value} {u5 : Option Value} {u6 : Option Value} {u7 : Option Value} {u8 : Option Value} {s1 : Int32} {s2 : Int32} : runI call iL_span (16, [u0, u1, u2, u3, u4, u5, u6, u7, u8], [.int s2, .int s1, .ref 632], (mm L X I J)) = gd (inb s1 1) (some (.inl (some (.int (nI 0))), (mm L X I (up2 J 632 (s1).toNatClampNeg (s2).toInt64)))) := by
  refine Eq.trans (st1 dL_span_16 rfl rfl) ?_
  refine Eq.trans (as3m dL_span_17 ka_632) (gd_congr fun g1 => ?_)
  refine Eq.trans (go_to (tgt := 25) dL_span_18 (by decide +kernel)) ?_
  refine Eq.trans (xiconst dL_span_25 ci_0) ?_
  exact ret0 dL_span_26 rfl
theorem hd_L_span_13_1 {call : CALL} {L X : Nat} {I : Nat → Nat → Int32} {J : Nat → Nat → Int64} {x1 : Int32} {x2 : Int32} {x3 : Int32} {x4 : Int32} {x5 : Int32} {x6 : Int32} : hdl call iL_span 13 [some (.ref 0), some (.int x1), some (.int x2), some (.int x3), some (.int x4), some (.int x5), some (.int x6), some (.ref 632), none] 1 (mm L X I J) = runI call iL_span (23, [some (.ref 0), some (.int x1), some (.int x2), some (.int x3), some (.int x4), some (.int x5), some (.int x6), some (.ref 632), none], [], (mm L X I J)) := hdl_of (h := 21) rfl (by decide +kernel) (by unfold xcat; rw [show decode iL_span.2.1 21 = _ from dL_span_21]; rfl)
theorem q_J7_fill_53178_0 {call : CALL} {L X : Nat} {I : Nat → Nat → Int32} {J : Nat → Nat → Int64} {r0 : Nat} {n0 : Nat} {x1 : Int32} (k0 : ka r0 1 n0) : runI call iJ7_fill_53178 (0, [some (.ref r0), some (.int x1), none, none], [], (mm L X I J)) = runI call iJ7_fill_53178 (5, [some (.ref r0), some (.int x1), some (.int (nI 0)), some (.int (nI n0))], [], (mm L X I J)) := by
  refine Eq.trans (xiconst dJ7_fill_53178_0 ci_0) ?_
  refine Eq.trans (st1 dJ7_fill_53178_1 rfl rfl) ?_
  refine Eq.trans (st1 dJ7_fill_53178_2 rfl rfl) ?_
  refine Eq.trans (alen dJ7_fill_53178_3 (kd_ka k0) (.inl ⟨k0.1, by decide⟩)) ?_
  refine Eq.trans (st1 dJ7_fill_53178_4 rfl rfl) ?_
  rfl
theorem q_J7_fill_53178_5 {call : CALL} {L X : Nat} {I : Nat → Nat → Int32} {J : Nat → Nat → Int64} {r0 : Nat} {n0 : Nat} {x1 : Int32} {x2 : Int32} {x3 : Int32} (k0 : ka r0 1 n0) : runI call iJ7_fill_53178 (5, [some (.ref r0), some (.int x1), some (.int x2), some (.int x3)], [], (mm L X I J)) = if x3 ≤ x2 then some (.inl none, (mm L X I J)) else gd (inb x2 n0) (runI call iJ7_fill_53178 (5, [some (.ref r0), some (.int x1), some (.int (x2 + (nI 1))), some (.int x3)], [], (mm L X (up2 I r0 (x2).toNatClampNeg x1) J))) := by
  refine Eq.trans (st1 dJ7_fill_53178_5 rfl rfl) ?_
  refine Eq.trans (st1 dJ7_fill_53178_6 rfl rfl) ?_
  refine Eq.trans (ic_ge (tgt := 20) dJ7_fill_53178_7 (by decide +kernel)) (ite_cong (fun _ => ?_) (fun _ => ?_))
  · exact ret3 dJ7_fill_53178_20 (.inl rfl)
  · refine Eq.trans (st1 dJ7_fill_53178_10 rfl rfl) ?_
    refine Eq.trans (st1 dJ7_fill_53178_11 rfl rfl) ?_
    refine Eq.trans (st1 dJ7_fill_53178_12 rfl rfl) ?_
    refine Eq.trans (as1m dJ7_fill_53178_13 k0) (gd_congr fun g1 => ?_)
    refine Eq.trans (xinc2 dJ7_fill_53178_14 ci_1 rfl (Nat.le_of_ble_eq_true rfl) rfl) ?_
    refine Eq.trans (go_to (tgt := 5) dJ7_fill_53178_17 (by decide +kernel)) ?_
    rfl
theorem q_J7_fill_d0a16_0 {call : CALL} {L X : Nat} {I : Nat → Nat → Int32} {J : Nat → Nat → Int64} {r0 : Nat} {n0 : Nat} {y1 : Int64} (k0 : ka r0 3 n0) : runI call iJ7_fill_d0a16 (0, [some (.ref r0), some (.long y1), none, none, none], [], (mm L X I J)) = runI call iJ7_fill_d0a16 (6, [some (.ref r0), some (.long y1), none, some (.int (nI 0)), some (.int (nI n0))], [], (mm L X I J)) := by
  refine Eq.trans (xiconst dJ7_fill_d0a16_0 ci_0) ?_
  refine Eq.trans (st1 dJ7_fill_d0a16_1 rfl rfl) ?_
  refine Eq.trans (st1 dJ7_fill_d0a16_2 rfl rfl) ?_
  refine Eq.trans (alen dJ7_fill_d0a16_3 (kd_ka k0) (.inl ⟨k0.1, by decide⟩)) ?_
  refine Eq.trans (st1 dJ7_fill_d0a16_4 rfl rfl) ?_
  rfl
theorem q_J7_fill_d0a16_6 {call : CALL} {L X : Nat} {I : Nat → Nat → Int32} {J : Nat → Nat → Int64} {r0 : Nat} {n0 : Nat} {y1 : Int64} {x3 : Int32} {x4 : Int32} (k0 : ka r0 3 n0) : runI call iJ7_fill_d0a16 (6, [some (.ref r0), some (.long y1), none, some (.int x3), some (.int x4)], [], (mm L X I J)) = if x4 ≤ x3 then some (.inl none, (mm L X I J)) else gd (inb x3 n0) (runI call iJ7_fill_d0a16 (6, [some (.ref r0), some (.long y1), none, some (.int (x3 + (nI 1))), some (.int x4)], [], (mm L X I (up2 J r0 (x3).toNatClampNeg y1)))) := by
  refine Eq.trans (st1 dJ7_fill_d0a16_6 rfl rfl) ?_
  refine Eq.trans (st1 dJ7_fill_d0a16_7 rfl rfl) ?_
  refine Eq.trans (ic_ge (tgt := 22) dJ7_fill_d0a16_9 (by decide +kernel)) (ite_cong (fun _ => ?_) (fun _ => ?_))
  · exact ret3 dJ7_fill_d0a16_22 (.inl rfl)
  · refine Eq.trans (st1 dJ7_fill_d0a16_12 rfl rfl) ?_
    refine Eq.trans (st1 dJ7_fill_d0a16_13 rfl rfl) ?_
    refine Eq.trans (st1 dJ7_fill_d0a16_14 rfl rfl) ?_
    refine Eq.trans (as3m dJ7_fill_d0a16_15 k0) (gd_congr fun g1 => ?_)
    refine Eq.trans (xinc2 dJ7_fill_d0a16_16 ci_1 rfl (Nat.le_of_ble_eq_true rfl) rfl) ?_
    refine Eq.trans (go_to (tgt := 6) dJ7_fill_d0a16_19 (by decide +kernel)) ?_
    rfl
