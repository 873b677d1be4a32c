/-! EQUATIONS OF THE METHODS (written by gen_eq.py) -/
theorem q_X12_by_0 {call : CALL} {L X : Nat} {I : Nat → Nat → Int32} {J : Nat → Nat → Int64} {x0 : Int32} {x1 : Int32} {x2 : Int32} : runI call iX12_by (0, [some (.int x0), some (.int x1), some (.int x2)], [], (mm L X I J)) = runI call iX12_by (1, [some (.int x0), some (.int x1), some (.int x2)], [.int x0], (mm L X I J)) := by
  refine Eq.trans (st1 dX12_by_0 rfl rfl) ?_
  rfl
theorem q_X12_by_1 {call : CALL} {L X : Nat} {I : Nat → Nat → Int32} {J : Nat → Nat → Int64} {u0 : Option Value} {x1 : Int32} {x2 : Int32} {s0 : Int32} : runI call iX12_by (1, [u0, some (.int x1), some (.int x2)], [.int s0], (mm L X I J)) = if s0 = (nI 2) then runI call iX12_by (40, [u0, some (.int x1), some (.int x2)], [], (mm L X I J)) else if s0 = (nI 3) then runI call iX12_by (44, [u0, some (.int x1), some (.int x2)], [], (mm L X I J)) else if s0 = (nI 4) then runI call iX12_by (48, [u0, some (.int x1), some (.int x2)], [], (mm L X I J)) else if s0 = (nI 5) then runI call iX12_by (52, [u0, some (.int x1), some (.int x2)], [], (mm L X I J)) else if s0 = (nI 6) then runI call iX12_by (74, [u0, some (.int x1), some (.int x2)], [], (mm L X I J)) else if s0 = (nI 7) then runI call iX12_by (91, [u0, some (.int x1), some (.int x2)], [], (mm L X I J)) else runI call iX12_by (97, [u0, some (.int x1), some (.int x2)], [], (mm L X I J)) := by
  refine ite_cong2 (fun e2 => sw_t dX12_by_1 (by rw [e2]; decide +kernel)) (fun e2 => ?_)
  refine ite_cong2 (fun e3 => sw_t dX12_by_1 (by rw [e3]; decide +kernel)) (fun e3 => ?_)
  refine ite_cong2 (fun e4 => sw_t dX12_by_1 (by rw [e4]; decide +kernel)) (fun e4 => ?_)
  refine ite_cong2 (fun e5 => sw_t dX12_by_1 (by rw [e5]; decide +kernel)) (fun e5 => ?_)
  refine ite_cong2 (fun e6 => sw_t dX12_by_1 (by rw [e6]; decide +kernel)) (fun e6 => ?_)
  refine ite_cong2 (fun e7 => sw_t dX12_by_1 (by rw [e7]; decide +kernel)) (fun e7 => ?_)
  exact sw_t dX12_by_1 (swT_dflt (vs := [(2 : Int), (3 : Int), (4 : Int), (5 : Int), (6 : Int), (7 : Int)]) (by decide +kernel) (fun v hv => by simp only [List.mem_cons, List.not_mem_nil, or_false] at hv; rcases hv with rfl | rfl | rfl | rfl | rfl | rfl <;> first | exact ne_toInt (by decide +kernel) e2 | exact ne_toInt (by decide +kernel) e3 | exact ne_toInt (by decide +kernel) e4 | exact ne_toInt (by decide +kernel) e5 | exact ne_toInt (by decide +kernel) e6 | exact ne_toInt (by decide +kernel) e7))
theorem q_X12_by_40 {call : CALL} {L X : Nat} {I : Nat → Nat → Int32} {J : Nat → Nat → Int64} {u0 : Option Value} {x1 : Int32} {x2 : Int32} : runI call iX12_by (40, [u0, some (.int x1), some (.int x2)], [], (mm L X I J)) = some (.inl (some (.int (x1 + x2))), (mm L X I J)) := by
  refine Eq.trans (st1 dX12_by_40 rfl rfl) ?_
  refine Eq.trans (st1 dX12_by_41 rfl rfl) ?_
  refine Eq.trans (st1 dX12_by_42 rfl rfl) ?_
  exact ret0 dX12_by_43 rfl
theorem q_X12_by_44 {call : CALL} {L X : Nat} {I : Nat → Nat → Int32} {J : Nat → Nat → Int64} {u0 : Option Value} {x1 : Int32} {x2 : Int32} : runI call iX12_by (44, [u0, some (.int x1), some (.int x2)], [], (mm L X I J)) = some (.inl (some (.int (x1 - x2))), (mm L X I J)) := by
  refine Eq.trans (st1 dX12_by_44 rfl rfl) ?_
  refine Eq.trans (st1 dX12_by_45 rfl rfl) ?_
  refine Eq.trans (st1 dX12_by_46 rfl rfl) ?_
  exact ret0 dX12_by_47 rfl
theorem q_X12_by_48 {call : CALL} {L X : Nat} {I : Nat → Nat → Int32} {J : Nat → Nat → Int64} {u0 : Option Value} {x1 : Int32} {x2 : Int32} : runI call iX12_by (48, [u0, some (.int x1), some (.int x2)], [], (mm L X I J)) = some (.inl (some (.int (x1 * x2))), (mm L X I J)) := by
  refine Eq.trans (st1 dX12_by_48 rfl rfl) ?_
  refine Eq.trans (st1 dX12_by_49 rfl rfl) ?_
  refine Eq.trans (st1 dX12_by_50 rfl rfl) ?_
  exact ret0 dX12_by_51 rfl
theorem q_X12_by_52 {call : CALL} {L X : Nat} {I : Nat → Nat → Int32} {J : Nat → Nat → Int64} {u0 : Option Value} {x1 : Int32} {x2 : Int32} : runI call iX12_by (52, [u0, some (.int x1), some (.int x2)], [], (mm L X I J)) = if x2 = (nI 0) then some (.inl (some (.int (nI 0))), (mm L X I J)) else if x2 = (-1 : Int32) then some (.inl (some (.int (-x1))), (mm L X I J)) else gd (nz x2) (some (.inl (some (.int (x1 / x2))), (mm L X I J))) := by
  refine Eq.trans (st1 dX12_by_52 rfl rfl) ?_
  refine Eq.trans (if_ne (tgt := 60) dX12_by_53 (by decide +kernel)) (ite_cong (fun _ => ?_) (fun _ => ?_))
  · refine Eq.trans (xiconst dX12_by_56 ci_0) ?_
    refine Eq.trans (go_to (tgt := 73) dX12_by_57 (by decide +kernel)) ?_
    exact ret0 dX12_by_73 rfl
  · refine Eq.trans (st1 dX12_by_60 rfl rfl) ?_
    refine Eq.trans (xiconst dX12_by_61 ci_m1) ?_
    refine Eq.trans (ic_ne (tgt := 70) dX12_by_62 (by decide +kernel)) (ite_cong (fun _ => ?_) (fun _ => ?_))
    · refine Eq.trans (st1 dX12_by_65 rfl rfl) ?_
      refine Eq.trans (st1 dX12_by_66 rfl rfl) ?_
      refine Eq.trans (go_to (tgt := 73) dX12_by_67 (by decide +kernel)) ?_
      exact ret0 dX12_by_73 rfl
    · refine Eq.trans (st1 dX12_by_70 rfl rfl) ?_
      refine Eq.trans (st1 dX12_by_71 rfl rfl) ?_
      refine Eq.trans (idvg dX12_by_72) (gd_congr fun g1 => ?_)
      exact ret0 dX12_by_73 rfl
theorem q_X12_by_74 {call : CALL} {L X : Nat} {I : Nat → Nat → Int32} {J : Nat → Nat → Int64} {u0 : Option Value} {x1 : Int32} {x2 : Int32} : runI call iX12_by (74, [u0, some (.int x1), some (.int x2)], [], (mm L X I J)) = if x2 = (nI 0) then some (.inl (some (.int (nI 0))), (mm L X I J)) else if x2 = (-1 : Int32) then some (.inl (some (.int (nI 0))), (mm L X I J)) else gd (nz x2) (some (.inl (some (.int (x1 - x1 / x2 * x2))), (mm L X I J))) := by
  refine Eq.trans (st1 dX12_by_74 rfl rfl) ?_
  refine Eq.trans (if_eq (tgt := 83) dX12_by_75 (by decide +kernel)) (ite_cong (fun _ => ?_) (fun _ => ?_))
  · refine Eq.trans (xiconst dX12_by_83 ci_0) ?_
    refine Eq.trans (go_to (tgt := 90) dX12_by_84 (by decide +kernel)) ?_
    exact ret0 dX12_by_90 rfl
  · refine Eq.trans (st1 dX12_by_78 rfl rfl) ?_
    refine Eq.trans (xiconst dX12_by_79 ci_m1) ?_
    refine Eq.trans (ic_ne (tgt := 87) dX12_by_80 (by decide +kernel)) (ite_cong (fun _ => ?_) (fun _ => ?_))
    · refine Eq.trans (xiconst dX12_by_83 ci_0) ?_
      refine Eq.trans (go_to (tgt := 90) dX12_by_84 (by decide +kernel)) ?_
      exact ret0 dX12_by_90 rfl
    · refine Eq.trans (st1 dX12_by_87 rfl rfl) ?_
      refine Eq.trans (st1 dX12_by_88 rfl rfl) ?_
      refine Eq.trans (irmg dX12_by_89) (gd_congr fun g1 => ?_)
      exact ret0 dX12_by_90 rfl
theorem q_X12_by_91 {call : CALL} {L X : Nat} {I : Nat → Nat → Int32} {J : Nat → Nat → Int64} {u0 : Option Value} {x1 : Int32} {x2 : Int32} : runI call iX12_by (91, [u0, some (.int x1), some (.int x2)], [], (mm L X I J)) = bndN (call nX12_less [.int x1, .int x2] (mm L X I J)) (fun v m' => runI call iX12_by (96, [u0, some (.int x1), some (.int x2)], v.toList ++ [], m')) := by
  refine Eq.trans (st1 dX12_by_91 rfl rfl) ?_
  refine Eq.trans (st1 dX12_by_92 rfl rfl) ?_
  exact is2 dX12_by_93 cp_12_245 (Nat.le_of_ble_eq_true rfl) rfl rfl (Nat.le_of_ble_eq_true rfl)
theorem q_X12_by_97 {call : CALL} {L X : Nat} {I : Nat → Nat → Int32} {J : Nat → Nat → Int64} {u0 : Option Value} {x1 : Int32} {x2 : Int32} : runI call iX12_by (97, [u0, some (.int x1), some (.int x2)], [], (mm L X I J)) = bndN (call nX12_more [.int x1, .int x2] (mm L X I J)) (fun v m' => runI call iX12_by (102, [u0, some (.int x1), some (.int x2)], v.toList ++ [], m')) := by
  refine Eq.trans (st1 dX12_by_97 rfl rfl) ?_
  refine Eq.trans (st1 dX12_by_98 rfl rfl) ?_
  exact is2 dX12_by_99 cp_12_248 (Nat.le_of_ble_eq_true rfl) rfl rfl (Nat.le_of_ble_eq_true rfl)
theorem q_X12_by_96 {call : CALL} {L X : Nat} {I : Nat → Nat → Int32} {J : Nat → Nat → Int64} {u0 : Option Value} {u1 : Option Value} {u2 : Option Value} {s0 : Int32} : runI call iX12_by (96, [u0, u1, u2], [.int s0], (mm L X I J)) = some (.inl (some (.int s0)), (mm L X I J)) := by
  exact ret0 dX12_by_96 rfl
theorem q_X12_by_102 {call : CALL} {L X : Nat} {I : Nat → Nat → Int32} {J : Nat → Nat → Int64} {u0 : Option Value} {u1 : Option Value} {u2 : Option Value} {s0 : Int32} : runI call iX12_by (102, [u0, u1, u2], [.int s0], (mm L X I J)) = some (.inl (some (.int s0)), (mm L X I J)) := by
  exact ret0 dX12_by_102 rfl
theorem q_X12_less_0 {call : CALL} {L X : Nat} {I : Nat → Nat → Int32} {J : Nat → Nat → Int64} {x0 : Int32} {x1 : Int32} : runI call iX12_less (0, [some (.int x0), some (.int x1)], [], (mm L X I J)) = if x1 ≤ x0 then some (.inl (some (.int x1)), (mm L X I J)) else some (.inl (some (.int x0)), (mm L X I J)) := by
  refine Eq.trans (st1 dX12_less_0 rfl rfl) ?_
  refine Eq.trans (st1 dX12_less_1 rfl rfl) ?_
  refine Eq.trans (ic_ge (tgt := 9) dX12_less_2 (by decide +kernel)) (ite_cong (fun _ => ?_) (fun _ => ?_))
  · refine Eq.trans (st1 dX12_less_9 rfl rfl) ?_
    exact ret0 dX12_less_10 rfl
  · refine Eq.trans (st1 dX12_less_5 rfl rfl) ?_
    refine Eq.trans (go_to (tgt := 10) dX12_less_6 (by decide +kernel)) ?_
    exact ret0 dX12_less_10 rfl
theorem q_X12_more_0 {call : CALL} {L X : Nat} {I : Nat → Nat → Int32} {J : Nat → Nat → Int64} {x0 : Int32} {x1 : Int32} : runI call iX12_more (0, [some (.int x0), some (.int x1)], [], (mm L X I J)) = if x0 ≤ x1 then some (.inl (some (.int x1)), (mm L X I J)) else some (.inl (some (.int x0)), (mm L X I J)) := by
  refine Eq.trans (st1 dX12_more_0 rfl rfl) ?_
  refine Eq.trans (st1 dX12_more_1 rfl rfl) ?_
  refine Eq.trans (ic_le (tgt := 9) dX12_more_2 (by decide +kernel)) (ite_cong (fun _ => ?_) (fun _ => ?_))
  · refine Eq.trans (st1 dX12_more_9 rfl rfl) ?_
    exact ret0 dX12_more_10 rfl
  · refine Eq.trans (st1 dX12_more_5 rfl rfl) ?_
    refine Eq.trans (go_to (tgt := 10) dX12_more_6 (by decide +kernel)) ?_
    exact ret0 dX12_more_10 rfl
theorem q_X12_undo_0 {call : CALL} {L X : Nat} {I : Nat → Nat → Int32} {J : Nat → Nat → Int64}  : runI call iX12_undo (0, [some (.ref 72)], [], (mm L X I J)) = if ((up2 I 72 0 (nI 0)) 72 35) = (nI 0) then some (.inl (some (.int (-1 : Int32))), (mm L X (up2 I 72 0 (nI 0)) J)) else gd (inb ((up2 (up2 I 72 0 (nI 0)) 72 35 (((up2 I 72 0 (nI 0)) 72 35) - (nI 1))) 72 35) 16) (bndN (call nX12_copies [.ref (537 + (((up2 (up2 I 72 0 (nI 0)) 72 35 (((up2 I 72 0 (nI 0)) 72 35) - (nI 1))) 72 35)).toNatClampNeg), .ref 533] (mm L X (up2 (up2 I 72 0 (nI 0)) 72 35 (((up2 I 72 0 (nI 0)) 72 35) - (nI 1))) J)) (fun v m' => runI call iX12_undo (40, [some (.ref 72)], v.toList ++ [], m'))) := by
  refine Eq.trans (st1 dX12_undo_0 rfl rfl) ?_
  refine Eq.trans (xiconst dX12_undo_1 ci_0) ?_
  refine Eq.trans (putIm dX12_undo_2 cp_12_103 ka_72 rfl) ?_
  refine Eq.trans (st1 dX12_undo_5 rfl rfl) ?_
  refine Eq.trans (getIm dX12_undo_6 cp_12_208 ka_72 (.inl rfl)) ?_
  refine Eq.trans (if_ne (tgt := 14) dX12_undo_9 (by decide +kernel)) (ite_cong (fun _ => ?_) (fun _ => ?_))
  · refine Eq.trans (xiconst dX12_undo_12 ci_m1) ?_
    exact ret0 dX12_undo_13 rfl
  · refine Eq.trans (st1 dX12_undo_14 rfl rfl) ?_
    refine Eq.trans (st1 dX12_undo_15 rfl rfl) ?_
    refine Eq.trans (getIm dX12_undo_16 cp_12_208 ka_72 (.inl rfl)) ?_
    refine Eq.trans (xiconst dX12_undo_19 ci_1) ?_
    refine Eq.trans (st1 dX12_undo_20 rfl rfl) ?_
    refine Eq.trans (putIm dX12_undo_21 cp_12_208 ka_72 rfl) ?_
    refine Eq.trans (st1 dX12_undo_24 rfl rfl) ?_
    refine Eq.trans (getRm dX12_undo_25 cp_12_76 ka_72 rfl r_72_32) ?_
    refine Eq.trans (st1 dX12_undo_28 rfl rfl) ?_
    refine Eq.trans (getIm dX12_undo_29 cp_12_208 ka_72 (.inl rfl)) ?_
    refine Eq.trans (al4m dX12_undo_32 ka_536 rr_536) (gd_congr fun g1 => ?_)
    refine Eq.trans (st1 dX12_undo_33 rfl rfl) ?_
    refine Eq.trans (getRm dX12_undo_34 cp_12_67 ka_72 rfl r_72_29) ?_
    exact is2 dX12_undo_37 cp_12_347 (Nat.le_of_ble_eq_true rfl) rfl rfl (Nat.le_of_ble_eq_true rfl)
theorem q_X12_undo_40 {call : CALL} {L X : Nat} {I : Nat → Nat → Int32} {J : Nat → Nat → Int64}  : runI call iX12_undo (40, [some (.ref 72)], [], (mm L X I J)) = some (.inl (some (.int ((up2 I 72 36 (nI 0)) 72 35))), (mm L X (up2 I 72 36 (nI 0)) J)) := by
  refine Eq.trans (st1 dX12_undo_40 rfl rfl) ?_
  refine Eq.trans (xiconst dX12_undo_41 ci_0) ?_
  refine Eq.trans (putIm dX12_undo_42 cp_12_211 ka_72 rfl) ?_
  refine Eq.trans (st1 dX12_undo_45 rfl rfl) ?_
  refine Eq.trans (getIm dX12_undo_46 cp_12_208 ka_72 (.inl rfl)) ?_
  exact ret0 dX12_undo_49 rfl
theorem q_X12_told_0 {call : CALL} {L X : Nat} {I : Nat → Nat → Int32} {J : Nat → Nat → Int64} {x1 : Int32} : runI call iX12_told (0, [some (.ref 72), some (.int x1)], [], (mm L X I J)) = bndN (call nX12_in [.int x1, .int (nI 0), .int (nI 11)] (mm L X (up2 I 72 0 (nI 0)) J)) (fun v m' => runI call iX12_told (13, [some (.ref 72), some (.int x1)], v.toList ++ [.ref 72], m')) := by
  refine Eq.trans (st1 dX12_told_0 rfl rfl) ?_
  refine Eq.trans (xiconst dX12_told_1 ci_0) ?_
  refine Eq.trans (putIm dX12_told_2 cp_12_103 ka_72 rfl) ?_
  refine Eq.trans (st1 dX12_told_5 rfl rfl) ?_
  refine Eq.trans (st1 dX12_told_6 rfl rfl) ?_
  refine Eq.trans (xiconst dX12_told_7 ci_0) ?_
  refine Eq.trans (xbipush dX12_told_8 cb_11) ?_
  exact is2 dX12_told_10 cp_12_137 (Nat.le_of_ble_eq_true rfl) rfl rfl (Nat.le_of_ble_eq_true rfl)
theorem q_X12_told_13 {call : CALL} {L X : Nat} {I : Nat → Nat → Int32} {J : Nat → Nat → Int64} {x1 : Int32} {s1 : Int32} : runI call iX12_told (13, [some (.ref 72), some (.int x1)], [.int s1, .ref 72], (mm L X I J)) = if s1 = (nI 0) then runI call iX12_told (21, [some (.ref 72), some (.int x1)], [.int (nI 1), .ref 72], (mm L X I J)) else runI call iX12_told (21, [some (.ref 72), some (.int x1)], [.int (nI 0), .ref 72], (mm L X I J)) := by
  refine Eq.trans (if_ne (tgt := 20) dX12_told_13 (by decide +kernel)) (ite_cong (fun _ => ?_) (fun _ => ?_))
  · refine Eq.trans (xiconst dX12_told_16 ci_1) ?_
    refine Eq.trans (go_to (tgt := 21) dX12_told_17 (by decide +kernel)) ?_
    rfl
  · refine Eq.trans (xiconst dX12_told_20 ci_0) ?_
    rfl
theorem q_X12_told_21 {call : CALL} {L X : Nat} {I : Nat → Nat → Int32} {J : Nat → Nat → Int64} {x1 : Int32} {s1 : Int32} : runI call iX12_told (21, [some (.ref 72), some (.int x1)], [.int s1, .ref 72], (mm L X I J)) = bnd (call nX12_bad [.ref 72, .int s1, .int (nI 1), .int (nI 1)] (mm L X I J)) (fun v m' => runI call iX12_told (26, [some (.ref 72), some (.int x1)], v.toList ++ [], m')) := by
  refine Eq.trans (xiconst dX12_told_21 ci_1) ?_
  refine Eq.trans (xiconst dX12_told_22 ci_1) ?_
  exact iv0 dX12_told_23 rfl cp_12_182 rfl rfl (kd_ka ka_72) ka_72.1 (Nat.le_of_ble_eq_true rfl)
theorem q_X12_told_26 {call : CALL} {L X : Nat} {I : Nat → Nat → Int32} {J : Nat → Nat → Int64} {x1 : Int32} {s0 : Int32} : runI call iX12_told (26, [some (.ref 72), some (.int x1)], [.int s0], (mm L X I J)) = if s0 = (nI 0) then runI call iX12_told (32, [some (.ref 72), some (.int x1)], [.int x1], (mm L X I J)) else some (.inl (some (.int (nI 0))), (mm L X I J)) := by
  refine Eq.trans (if_eq (tgt := 31) dX12_told_26 (by decide +kernel)) (ite_cong (fun _ => ?_) (fun _ => ?_))
  · refine Eq.trans (st1 dX12_told_31 rfl rfl) ?_
    rfl
  · refine Eq.trans (xiconst dX12_told_29 ci_0) ?_
    exact ret0 dX12_told_30 rfl
theorem q_X12_told_32 {call : CALL} {L X : Nat} {I : Nat → Nat → Int32} {J : Nat → Nat → Int64} {x1 : Int32} {s0 : Int32} : runI call iX12_told (32, [some (.ref 72), some (.int x1)], [.int s0], (mm L X I J)) = if s0 = (nI 0) then runI call iX12_told (92, [some (.ref 72), some (.int x1)], [], (mm L X I J)) else if s0 = (nI 1) then runI call iX12_told (92, [some (.ref 72), some (.int x1)], [], (mm L X I J)) else if s0 = (nI 2) then runI call iX12_told (92, [some (.ref 72), some (.int x1)], [], (mm L X I J)) else if s0 = (nI 3) then runI call iX12_told (99, [some (.ref 72), some (.int x1)], [], (mm L X I J)) else if s0 = (nI 4) then runI call iX12_told (107, [some (.ref 72), some (.int x1)], [], (mm L X I J)) else if s0 = (nI 5) then runI call iX12_told (115, [some (.ref 72), some (.int x1)], [], (mm L X I J)) else if s0 = (nI 6) then runI call iX12_told (124, [some (.ref 72), some (.int x1)], [], (mm L X I J)) else if s0 = (nI 7) then runI call iX12_told (133, [some (.ref 72), some (.int x1)], [], (mm L X I J)) else if s0 = (nI 8) then runI call iX12_told (142, [some (.ref 72), some (.int x1)], [], (mm L X I J)) else if s0 = (nI 9) then runI call iX12_told (151, [some (.ref 72), some (.int x1)], [], (mm L X I J)) else if s0 = (nI 10) then runI call iX12_told (156, [some (.ref 72), some (.int x1)], [], (mm L X I J)) else runI call iX12_told (161, [some (.ref 72), some (.int x1)], [], (mm L X I J)) := by
  refine ite_cong2 (fun e0 => sw_t dX12_told_32 (by rw [e0]; decide +kernel)) (fun e0 => ?_)
  refine ite_cong2 (fun e1 => sw_t dX12_told_32 (by rw [e1]; decide +kernel)) (fun e1 => ?_)
  refine ite_cong2 (fun e2 => sw_t dX12_told_32 (by rw [e2]; decide +kernel)) (fun e2 => ?_)
  refine ite_cong2 (fun e3 => sw_t dX12_told_32 (by rw [e3]; decide +kernel)) (fun e3 => ?_)
  refine ite_cong2 (fun e4 => sw_t dX12_told_32 (by rw [e4]; decide +kernel)) (fun e4 => ?_)
  refine ite_cong2 (fun e5 => sw_t dX12_told_32 (by rw [e5]; decide +kernel)) (fun e5 => ?_)
  refine ite_cong2 (fun e6 => sw_t dX12_told_32 (by rw [e6]; decide +kernel)) (fun e6 => ?_)
  refine ite_cong2 (fun e7 => sw_t dX12_told_32 (by rw [e7]; decide +kernel)) (fun e7 => ?_)
  refine ite_cong2 (fun e8 => sw_t dX12_told_32 (by rw [e8]; decide +kernel)) (fun e8 => ?_)
  refine ite_cong2 (fun e9 => sw_t dX12_told_32 (by rw [e9]; decide +kernel)) (fun e9 => ?_)
  refine ite_cong2 (fun e10 => sw_t dX12_told_32 (by rw [e10]; decide +kernel)) (fun e10 => ?_)
  exact sw_t dX12_told_32 (swT_dflt (vs := [(0 : Int), (1 : Int), (2 : Int), (3 : Int), (4 : Int), (5 : Int), (6 : Int), (7 : Int), (8 : Int), (9 : Int), (10 : Int)]) (by decide +kernel) (fun v hv => by simp only [List.mem_cons, List.not_mem_nil, or_false] at hv; rcases hv with rfl | rfl | rfl | rfl | rfl | rfl | rfl | rfl | rfl | rfl | rfl <;> first | exact ne_toInt (by decide +kernel) e0 | exact ne_toInt (by decide +kernel) e1 | exact ne_toInt (by decide +kernel) e2 | exact ne_toInt (by decide +kernel) e3 | exact ne_toInt (by decide +kernel) e4 | exact ne_toInt (by decide +kernel) e5 | exact ne_toInt (by decide +kernel) e6 | exact ne_toInt (by decide +kernel) e7 | exact ne_toInt (by decide +kernel) e8 | exact ne_toInt (by decide +kernel) e9 | exact ne_toInt (by decide +kernel) e10))
theorem q_X12_told_92 {call : CALL} {L X : Nat} {I : Nat → Nat → Int32} {J : Nat → Nat → Int64} {x1 : Int32} : runI call iX12_told (92, [some (.ref 72), some (.int x1)], [], (mm L X I J)) = gd (inb x1 4) (some (.inl (some (.int (I 76 (x1).toNatClampNeg))), (mm L X I J))) := by
  refine Eq.trans (st1 dX12_told_92 rfl rfl) ?_
  refine Eq.trans (getRm dX12_told_93 cp_12_23 ka_72 rfl r_72_12) ?_
  refine Eq.trans (st1 dX12_told_96 rfl rfl) ?_
  refine Eq.trans (al1m dX12_told_97 ka_76) (gd_congr fun g1 => ?_)
  exact ret0 dX12_told_98 rfl
theorem q_X12_told_99 {call : CALL} {L X : Nat} {I : Nat → Nat → Int32} {J : Nat → Nat → Int64} {u1 : Option Value} : runI call iX12_told (99, [some (.ref 72), u1], [], (mm L X I J)) = some (.inl (some (.int (I 533 30))), (mm L X I J)) := by
  refine Eq.trans (st1 dX12_told_99 rfl rfl) ?_
  refine Eq.trans (getRm dX12_told_100 cp_12_67 ka_72 rfl r_72_29) ?_
  refine Eq.trans (xbipush dX12_told_103 cb_30) ?_
  refine Eq.trans (al1c dX12_told_105 ka_533 (by decide +kernel) nc_30) ?_
  exact ret0 dX12_told_106 rfl
theorem q_X12_told_107 {call : CALL} {L X : Nat} {I : Nat → Nat → Int32} {J : Nat → Nat → Int64} {u1 : Option Value} : runI call iX12_told (107, [some (.ref 72), u1], [], (mm L X I J)) = bndN (call nX12_manyIn [.ref 533] (mm L X I J)) (fun v m' => runI call iX12_told (114, [some (.ref 72), u1], v.toList ++ [], m')) := by
  refine Eq.trans (st1 dX12_told_107 rfl rfl) ?_
  refine Eq.trans (getRm dX12_told_108 cp_12_67 ka_72 rfl r_72_29) ?_
  exact is2 dX12_told_111 cp_12_264 (Nat.le_of_ble_eq_true rfl) rfl rfl (Nat.le_of_ble_eq_true rfl)
theorem q_X12_told_115 {call : CALL} {L X : Nat} {I : Nat → Nat → Int32} {J : Nat → Nat → Int64} {u1 : Option Value} : runI call iX12_told (115, [some (.ref 72), u1], [], (mm L X I J)) = bnd (call nX12_liesIn [.ref 72, .ref 533] (mm L X I J)) (fun v m' => runI call iX12_told (123, [some (.ref 72), u1], v.toList ++ [], m')) := by
  refine Eq.trans (st1 dX12_told_115 rfl rfl) ?_
  refine Eq.trans (st1 dX12_told_116 rfl rfl) ?_
  refine Eq.trans (getRm dX12_told_117 cp_12_67 ka_72 rfl r_72_29) ?_
  exact iv0 dX12_told_120 rfl cp_12_351 rfl rfl (kd_ka ka_72) ka_72.1 (Nat.le_of_ble_eq_true rfl)
theorem q_X12_told_124 {call : CALL} {L X : Nat} {I : Nat → Nat → Int32} {J : Nat → Nat → Int64} {u1 : Option Value} : runI call iX12_told (124, [some (.ref 72), u1], [], (mm L X I J)) = bnd (call nX12_longOf [.ref 72, .ref 533] (mm L X I J)) (fun v m' => runI call iX12_told (132, [some (.ref 72), u1], v.toList ++ [], m')) := by
  refine Eq.trans (st1 dX12_told_124 rfl rfl) ?_
  refine Eq.trans (st1 dX12_told_125 rfl rfl) ?_
  refine Eq.trans (getRm dX12_told_126 cp_12_67 ka_72 rfl r_72_29) ?_
  exact iv0 dX12_told_129 rfl cp_12_297 rfl rfl (kd_ka ka_72) ka_72.1 (Nat.le_of_ble_eq_true rfl)
theorem q_X12_told_133 {call : CALL} {L X : Nat} {I : Nat → Nat → Int32} {J : Nat → Nat → Int64} {u1 : Option Value} : runI call iX12_told (133, [some (.ref 72), u1], [], (mm L X I J)) = bnd (call nX12_arrives [.ref 72, .ref 533] (mm L X I J)) (fun v m' => runI call iX12_told (141, [some (.ref 72), u1], v.toList ++ [], m')) := by
  refine Eq.trans (st1 dX12_told_133 rfl rfl) ?_
  refine Eq.trans (st1 dX12_told_134 rfl rfl) ?_
  refine Eq.trans (getRm dX12_told_135 cp_12_67 ka_72 rfl r_72_29) ?_
  exact iv0 dX12_told_138 rfl cp_12_300 rfl rfl (kd_ka ka_72) ka_72.1 (Nat.le_of_ble_eq_true rfl)
theorem q_X12_told_142 {call : CALL} {L X : Nat} {I : Nat → Nat → Int32} {J : Nat → Nat → Int64} {u1 : Option Value} : runI call iX12_told (142, [some (.ref 72), u1], [], (mm L X I J)) = bnd (call nX12_outIn [.ref 72, .ref 533] (mm L X I J)) (fun v m' => runI call iX12_told (150, [some (.ref 72), u1], v.toList ++ [], m')) := by
  refine Eq.trans (st1 dX12_told_142 rfl rfl) ?_
  refine Eq.trans (st1 dX12_told_143 rfl rfl) ?_
  refine Eq.trans (getRm dX12_told_144 cp_12_67 ka_72 rfl r_72_29) ?_
  exact iv0 dX12_told_147 rfl cp_12_354 rfl rfl (kd_ka ka_72) ka_72.1 (Nat.le_of_ble_eq_true rfl)
theorem q_X12_told_151 {call : CALL} {L X : Nat} {I : Nat → Nat → Int32} {J : Nat → Nat → Int64} {u1 : Option Value} : runI call iX12_told (151, [some (.ref 72), u1], [], (mm L X I J)) = some (.inl (some (.int (I 72 34))), (mm L X I J)) := by
  refine Eq.trans (st1 dX12_told_151 rfl rfl) ?_
  refine Eq.trans (getIm dX12_told_152 cp_12_205 ka_72 (.inl rfl)) ?_
  exact ret0 dX12_told_155 rfl
theorem q_X12_told_156 {call : CALL} {L X : Nat} {I : Nat → Nat → Int32} {J : Nat → Nat → Int64} {u1 : Option Value} : runI call iX12_told (156, [some (.ref 72), u1], [], (mm L X I J)) = some (.inl (some (.int (I 72 36))), (mm L X I J)) := by
  refine Eq.trans (st1 dX12_told_156 rfl rfl) ?_
  refine Eq.trans (getIm dX12_told_157 cp_12_211 ka_72 (.inl rfl)) ?_
  exact ret0 dX12_told_160 rfl
theorem q_X12_told_161 {call : CALL} {L X : Nat} {I : Nat → Nat → Int32} {J : Nat → Nat → Int64} {u1 : Option Value} : runI call iX12_told (161, [some (.ref 72), u1], [], (mm L X I J)) = some (.inl (some (.int (I 533 29))), (mm L X I J)) := by
  refine Eq.trans (st1 dX12_told_161 rfl rfl) ?_
  refine Eq.trans (getRm dX12_told_162 cp_12_67 ka_72 rfl r_72_29) ?_
  refine Eq.trans (xbipush dX12_told_165 cb_29) ?_
  refine Eq.trans (al1c dX12_told_167 ka_533 (by decide +kernel) nc_29) ?_
  exact ret0 dX12_told_168 rfl
theorem q_X12_told_114 {call : CALL} {L X : Nat} {I : Nat → Nat → Int32} {J : Nat → Nat → Int64} {u0 : Option Value} {u1 : Option Value} {s0 : Int32} : runI call iX12_told (114, [u0, u1], [.int s0], (mm L X I J)) = some (.inl (some (.int s0)), (mm L X I J)) := by
  exact ret0 dX12_told_114 rfl
theorem q_X12_told_123 {call : CALL} {L X : Nat} {I : Nat → Nat → Int32} {J : Nat → Nat → Int64} {u0 : Option Value} {u1 : Option Value} {s0 : Int32} : runI call iX12_told (123, [u0, u1], [.int s0], (mm L X I J)) = some (.inl (some (.int s0)), (mm L X I J)) := by
  exact ret0 dX12_told_123 rfl
theorem q_X12_told_132 {call : CALL} {L X : Nat} {I : Nat → Nat → Int32} {J : Nat → Nat → Int64} {u0 : Option Value} {u1 : Option Value} {s0 : Int32} : runI call iX12_told (132, [u0, u1], [.int s0], (mm L X I J)) = some (.inl (some (.int s0)), (mm L X I J)) := by
  exact ret0 dX12_told_132 rfl
theorem q_X12_told_141 {call : CALL} {L X : Nat} {I : Nat → Nat → Int32} {J : Nat → Nat → Int64} {u0 : Option Value} {u1 : Option Value} {s0 : Int32} : runI call iX12_told (141, [u0, u1], [.int s0], (mm L X I J)) = some (.inl (some (.int s0)), (mm L X I J)) := by
  exact ret0 dX12_told_141 rfl
theorem q_X12_told_150 {call : CALL} {L X : Nat} {I : Nat → Nat → Int32} {J : Nat → Nat → Int64} {u0 : Option Value} {u1 : Option Value} {s0 : Int32} : runI call iX12_told (150, [u0, u1], [.int s0], (mm L X I J)) = some (.inl (some (.int s0)), (mm L X I J)) := by
  exact ret0 dX12_told_150 rfl
theorem q_X12_liesIn_0 {call : CALL} {L X : Nat} {I : Nat → Nat → Int32} {J : Nat → Nat → Int64} {r1 : Nat} {n1 : Nat} (k1 : ka r1 1 n1) : runI call iX12_liesIn (0, [some (.ref 72), some (.ref r1), none, none], [], (mm L X I J)) = runI call iX12_liesIn (4, [some (.ref 72), some (.ref r1), some (.int (nI 0)), some (.int (nI 0))], [], (mm L X I J)) := by
  refine Eq.trans (xiconst dX12_liesIn_0 ci_0) ?_
  refine Eq.trans (st1 dX12_liesIn_1 rfl rfl) ?_
  refine Eq.trans (xiconst dX12_liesIn_2 ci_0) ?_
  refine Eq.trans (st1 dX12_liesIn_3 rfl rfl) ?_
  rfl
theorem q_X12_liesIn_4 {call : CALL} {L X : Nat} {I : Nat → Nat → Int32} {J : Nat → Nat → Int64} {u0 : Option Value} {r1 : Nat} {n1 : Nat} {x2 : Int32} {x3 : Int32} (k1 : ka r1 1 n1) : runI call iX12_liesIn (4, [u0, some (.ref r1), some (.int x2), some (.int x3)], [], (mm L X I J)) = bndN (call nX12_manyIn [.ref r1] (mm L X I J)) (fun v m' => runI call iX12_liesIn (9, [u0, some (.ref r1), some (.int x2), some (.int x3)], v.toList ++ [.int x3], m')) := by
  refine Eq.trans (st1 dX12_liesIn_4 rfl rfl) ?_
  refine Eq.trans (st1 dX12_liesIn_5 rfl rfl) ?_
  exact is2 dX12_liesIn_6 cp_12_264 (Nat.le_of_ble_eq_true rfl) rfl rfl (Nat.le_of_ble_eq_true rfl)
theorem q_X12_liesIn_9 {call : CALL} {L X : Nat} {I : Nat → Nat → Int32} {J : Nat → Nat → Int64} {u0 : Option Value} {r1 : Nat} {n1 : Nat} {x2 : Int32} {x3 : Int32} {s0 : Int32} {s1 : Int32} (k1 : ka r1 1 n1) : runI call iX12_liesIn (9, [u0, some (.ref r1), some (.int x2), some (.int x3)], [.int s1, .int s0], (mm L X I J)) = if s1 ≤ s0 then some (.inl (some (.int x2)), (mm L X I J)) else gd (inb ((nI 0) + x3) n1) (runI call iX12_liesIn (4, [u0, some (.ref r1), some (.int (x2 ||| ((nI 1) <<< ((I r1 (((nI 0) + x3)).toNatClampNeg) &&& 31)))), some (.int (x3 + (nI 1)))], [], (mm L X I J))) := by
  refine Eq.trans (ic_ge (tgt := 28) dX12_liesIn_9 (by decide +kernel)) (ite_cong (fun _ => ?_) (fun _ => ?_))
  · refine Eq.trans (st1 dX12_liesIn_28 rfl rfl) ?_
    exact ret0 dX12_liesIn_29 rfl
  · refine Eq.trans (st1 dX12_liesIn_12 rfl rfl) ?_
    refine Eq.trans (xiconst dX12_liesIn_13 ci_1) ?_
    refine Eq.trans (st1 dX12_liesIn_14 rfl rfl) ?_
    refine Eq.trans (xiconst dX12_liesIn_15 ci_0) ?_
    refine Eq.trans (st1 dX12_liesIn_16 rfl rfl) ?_
    refine Eq.trans (st1 dX12_liesIn_17 rfl rfl) ?_
    refine Eq.trans (al1m dX12_liesIn_18 k1) (gd_congr fun g1 => ?_)
    refine Eq.trans (st1 dX12_liesIn_19 rfl rfl) ?_
    refine Eq.trans (st1 dX12_liesIn_20 rfl rfl) ?_
    refine Eq.trans (st1 dX12_liesIn_21 rfl rfl) ?_
    refine Eq.trans (xinc2 dX12_liesIn_22 ci_1 rfl (Nat.le_of_ble_eq_true rfl) rfl) ?_
    refine Eq.trans (go_to (tgt := 4) dX12_liesIn_25 (by decide +kernel)) ?_
    rfl
theorem q_X12_outIn_0 {call : CALL} {L X : Nat} {I : Nat → Nat → Int32} {J : Nat → Nat → Int64} {r1 : Nat} {n1 : Nat} (k1 : ka r1 1 n1) : runI call iX12_outIn (0, [some (.ref 72), some (.ref r1), none, none], [], (mm L X I J)) = runI call iX12_outIn (4, [some (.ref 72), some (.ref r1), some (.int (nI 0)), some (.int (nI 0))], [], (mm L X I J)) := by
  refine Eq.trans (xiconst dX12_outIn_0 ci_0) ?_
  refine Eq.trans (st1 dX12_outIn_1 rfl rfl) ?_
  refine Eq.trans (xiconst dX12_outIn_2 ci_0) ?_
  refine Eq.trans (st1 dX12_outIn_3 rfl rfl) ?_
  rfl
theorem q_X12_outIn_4 {call : CALL} {L X : Nat} {I : Nat → Nat → Int32} {J : Nat → Nat → Int64} {r1 : Nat} {n1 : Nat} {x2 : Int32} {x3 : Int32} (k1 : ka r1 1 n1) : runI call iX12_outIn (4, [some (.ref 72), some (.ref r1), some (.int x2), some (.int x3)], [], (mm L X I J)) = if (I 76 2) ≤ x3 then some (.inl (some (.int x2)), (mm L X I J)) else gd (inb ((nI 24) + x3) n1) (if (I r1 (((nI 24) + x3)).toNatClampNeg) = (-1 : Int32) then runI call iX12_outIn (32, [some (.ref 72), some (.ref r1), some (.int x2), some (.int x3)], [.int (nI 0), .int x2], (mm L X I J)) else runI call iX12_outIn (32, [some (.ref 72), some (.ref r1), some (.int x2), some (.int x3)], [.int ((nI 1) <<< (x3 &&& 31)), .int x2], (mm L X I J))) := by
  refine Eq.trans (st1 dX12_outIn_4 rfl rfl) ?_
  refine Eq.trans (st1 dX12_outIn_5 rfl rfl) ?_
  refine Eq.trans (getRm dX12_outIn_6 cp_12_23 ka_72 rfl r_72_12) ?_
  refine Eq.trans (xiconst dX12_outIn_9 ci_2) ?_
  refine Eq.trans (al1c dX12_outIn_10 ka_76 (by decide +kernel) nc_2) ?_
  refine Eq.trans (ic_ge (tgt := 40) dX12_outIn_11 (by decide +kernel)) (ite_cong (fun _ => ?_) (fun _ => ?_))
  · refine Eq.trans (st1 dX12_outIn_40 rfl rfl) ?_
    exact ret0 dX12_outIn_41 rfl
  · refine Eq.trans (st1 dX12_outIn_14 rfl rfl) ?_
    refine Eq.trans (st1 dX12_outIn_15 rfl rfl) ?_
    refine Eq.trans (xbipush dX12_outIn_16 cb_24) ?_
    refine Eq.trans (st1 dX12_outIn_18 rfl rfl) ?_
    refine Eq.trans (st1 dX12_outIn_19 rfl rfl) ?_
    refine Eq.trans (al1m dX12_outIn_20 k1) (gd_congr fun g1 => ?_)
    refine Eq.trans (xiconst dX12_outIn_21 ci_m1) ?_
    refine Eq.trans (ic_ne (tgt := 29) dX12_outIn_22 (by decide +kernel)) (ite_cong (fun _ => ?_) (fun _ => ?_))
    · refine Eq.trans (xiconst dX12_outIn_25 ci_0) ?_
      refine Eq.trans (go_to (tgt := 32) dX12_outIn_26 (by decide +kernel)) ?_
      rfl
    · refine Eq.trans (xiconst dX12_outIn_29 ci_1) ?_
      refine Eq.trans (st1 dX12_outIn_30 rfl rfl) ?_
      refine Eq.trans (st1 dX12_outIn_31 rfl rfl) ?_
      rfl
theorem q_X12_outIn_32 {call : CALL} {L X : Nat} {I : Nat → Nat → Int32} {J : Nat → Nat → Int64} {r1 : Nat} {n1 : Nat} {u2 : Option Value} {x3 : Int32} {s0 : Int32} {s1 : Int32} (k1 : ka r1 1 n1) : runI call iX12_outIn (32, [some (.ref 72), some (.ref r1), u2, some (.int x3)], [.int s1, .int s0], (mm L X I J)) = runI call iX12_outIn (4, [some (.ref 72), some (.ref r1), some (.int (s0 ||| s1)), some (.int (x3 + (nI 1)))], [], (mm L X I J)) := by
  refine Eq.trans (st1 dX12_outIn_32 rfl rfl) ?_
  refine Eq.trans (st1 dX12_outIn_33 rfl rfl) ?_
  refine Eq.trans (xinc2 dX12_outIn_34 ci_1 rfl (Nat.le_of_ble_eq_true rfl) rfl) ?_
  refine Eq.trans (go_to (tgt := 4) dX12_outIn_37 (by decide +kernel)) ?_
  rfl
theorem q_X12_piece_0 {call : CALL} {L X : Nat} {I : Nat → Nat → Int32} {J : Nat → Nat → Int64} {x1 : Int32} {x2 : Int32} : runI call iX12_piece (0, [some (.ref 72), some (.int x1), some (.int x2)], [], (mm L X I J)) = bnd (call nX12_isPiece [.ref 72, .int x1] (mm L X (up2 I 72 0 (nI 0)) J)) (fun v m' => runI call iX12_piece (11, [some (.ref 72), some (.int x1), some (.int x2)], v.toList ++ [.ref 72], m')) := by
  refine Eq.trans (st1 dX12_piece_0 rfl rfl) ?_
  refine Eq.trans (xiconst dX12_piece_1 ci_0) ?_
  refine Eq.trans (putIm dX12_piece_2 cp_12_103 ka_72 rfl) ?_
  refine Eq.trans (st1 dX12_piece_5 rfl rfl) ?_
  refine Eq.trans (st1 dX12_piece_6 rfl rfl) ?_
  refine Eq.trans (st1 dX12_piece_7 rfl rfl) ?_
  exact iv0 dX12_piece_8 rfl cp_12_357 rfl rfl (kd_ka ka_72) ka_72.1 (Nat.le_of_ble_eq_true rfl)
theorem q_X12_piece_11 {call : CALL} {L X : Nat} {I : Nat → Nat → Int32} {J : Nat → Nat → Int64} {x1 : Int32} {x2 : Int32} {s1 : Int32} : runI call iX12_piece (11, [some (.ref 72), some (.int x1), some (.int x2)], [.int s1, .ref 72], (mm L X I J)) = if s1 = (nI 0) then runI call iX12_piece (19, [some (.ref 72), some (.int x1), some (.int x2)], [.int (nI 1), .ref 72], (mm L X I J)) else runI call iX12_piece (19, [some (.ref 72), some (.int x1), some (.int x2)], [.int (nI 0), .ref 72], (mm L X I J)) := by
  refine Eq.trans (if_ne (tgt := 18) dX12_piece_11 (by decide +kernel)) (ite_cong (fun _ => ?_) (fun _ => ?_))
  · refine Eq.trans (xiconst dX12_piece_14 ci_1) ?_
    refine Eq.trans (go_to (tgt := 19) dX12_piece_15 (by decide +kernel)) ?_
    rfl
  · refine Eq.trans (xiconst dX12_piece_18 ci_0) ?_
    rfl
theorem q_X12_piece_19 {call : CALL} {L X : Nat} {I : Nat → Nat → Int32} {J : Nat → Nat → Int64} {x1 : Int32} {x2 : Int32} {s1 : Int32} : runI call iX12_piece (19, [some (.ref 72), some (.int x1), some (.int x2)], [.int s1, .ref 72], (mm L X I J)) = bnd (call nX12_bad [.ref 72, .int s1, .int (nI 1), .int (nI 0)] (mm L X I J)) (fun v m' => runI call iX12_piece (24, [some (.ref 72), some (.int x1), some (.int x2)], v.toList ++ [], m')) := by
  refine Eq.trans (xiconst dX12_piece_19 ci_1) ?_
  refine Eq.trans (xiconst dX12_piece_20 ci_0) ?_
  exact iv0 dX12_piece_21 rfl cp_12_182 rfl rfl (kd_ka ka_72) ka_72.1 (Nat.le_of_ble_eq_true rfl)
theorem q_X12_piece_24 {call : CALL} {L X : Nat} {I : Nat → Nat → Int32} {J : Nat → Nat → Int64} {x1 : Int32} {x2 : Int32} {s0 : Int32} : runI call iX12_piece (24, [some (.ref 72), some (.int x1), some (.int x2)], [.int s0], (mm L X I J)) = if s0 = (nI 0) then bndN (call nX12_in [.int x2, .int (nI 0), .int (nI 7)] (mm L X I J)) (fun v m' => runI call iX12_piece (35, [some (.ref 72), some (.int x1), some (.int x2)], v.toList ++ [.ref 72], m')) else some (.inl (some (.int (nI 0))), (mm L X I J)) := by
  refine Eq.trans (if_ne (tgt := 51) dX12_piece_24 (by decide +kernel)) (ite_cong (fun _ => ?_) (fun _ => ?_))
  · refine Eq.trans (st1 dX12_piece_27 rfl rfl) ?_
    refine Eq.trans (st1 dX12_piece_28 rfl rfl) ?_
    refine Eq.trans (xiconst dX12_piece_29 ci_0) ?_
    refine Eq.trans (xbipush dX12_piece_30 cb_7) ?_
    exact is2 dX12_piece_32 cp_12_137 (Nat.le_of_ble_eq_true rfl) rfl rfl (Nat.le_of_ble_eq_true rfl)
  · refine Eq.trans (xiconst dX12_piece_51 ci_0) ?_
    exact ret0 dX12_piece_52 rfl
theorem q_X12_piece_35 {call : CALL} {L X : Nat} {I : Nat → Nat → Int32} {J : Nat → Nat → Int64} {x1 : Int32} {x2 : Int32} {s1 : Int32} : runI call iX12_piece (35, [some (.ref 72), some (.int x1), some (.int x2)], [.int s1, .ref 72], (mm L X I J)) = if s1 = (nI 0) then runI call iX12_piece (43, [some (.ref 72), some (.int x1), some (.int x2)], [.int (nI 1), .ref 72], (mm L X I J)) else runI call iX12_piece (43, [some (.ref 72), some (.int x1), some (.int x2)], [.int (nI 0), .ref 72], (mm L X I J)) := by
  refine Eq.trans (if_ne (tgt := 42) dX12_piece_35 (by decide +kernel)) (ite_cong (fun _ => ?_) (fun _ => ?_))
  · refine Eq.trans (xiconst dX12_piece_38 ci_1) ?_
    refine Eq.trans (go_to (tgt := 43) dX12_piece_39 (by decide +kernel)) ?_
    rfl
  · refine Eq.trans (xiconst dX12_piece_42 ci_0) ?_
    rfl
theorem q_X12_piece_43 {call : CALL} {L X : Nat} {I : Nat → Nat → Int32} {J : Nat → Nat → Int64} {x1 : Int32} {x2 : Int32} {s1 : Int32} : runI call iX12_piece (43, [some (.ref 72), some (.int x1), some (.int x2)], [.int s1, .ref 72], (mm L X I J)) = bnd (call nX12_bad [.ref 72, .int s1, .int (nI 2), .int (nI 1)] (mm L X I J)) (fun v m' => runI call iX12_piece (48, [some (.ref 72), some (.int x1), some (.int x2)], v.toList ++ [], m')) := by
  refine Eq.trans (xiconst dX12_piece_43 ci_2) ?_
  refine Eq.trans (xiconst dX12_piece_44 ci_1) ?_
  exact iv0 dX12_piece_45 rfl cp_12_182 rfl rfl (kd_ka ka_72) ka_72.1 (Nat.le_of_ble_eq_true rfl)
theorem q_X12_piece_48 {call : CALL} {L X : Nat} {I : Nat → Nat → Int32} {J : Nat → Nat → Int64} {x1 : Int32} {x2 : Int32} {s0 : Int32} : runI call iX12_piece (48, [some (.ref 72), some (.int x1), some (.int x2)], [.int s0], (mm L X I J)) = if s0 = (nI 0) then runI call iX12_piece (54, [some (.ref 72), some (.int x1), some (.int x2)], [.int x2], (mm L X I J)) else some (.inl (some (.int (nI 0))), (mm L X I J)) := by
  refine Eq.trans (if_eq (tgt := 53) dX12_piece_48 (by decide +kernel)) (ite_cong (fun _ => ?_) (fun _ => ?_))
  · refine Eq.trans (st1 dX12_piece_53 rfl rfl) ?_
    rfl
  · refine Eq.trans (xiconst dX12_piece_51 ci_0) ?_
    exact ret0 dX12_piece_52 rfl
theorem q_X12_piece_54 {call : CALL} {L X : Nat} {I : Nat → Nat → Int32} {J : Nat → Nat → Int64} {x1 : Int32} {u2 : Option Value} {s0 : Int32} : runI call iX12_piece (54, [some (.ref 72), some (.int x1), u2], [.int s0], (mm L X I J)) = if s0 = (nI 0) then runI call iX12_piece (96, [some (.ref 72), some (.int x1), u2], [], (mm L X I J)) else if s0 = (nI 1) then runI call iX12_piece (105, [some (.ref 72), some (.int x1), u2], [], (mm L X I J)) else if s0 = (nI 2) then runI call iX12_piece (120, [some (.ref 72), some (.int x1), u2], [], (mm L X I J)) else if s0 = (nI 3) then runI call iX12_piece (135, [some (.ref 72), some (.int x1), u2], [], (mm L X I J)) else if s0 = (nI 4) then runI call iX12_piece (144, [some (.ref 72), some (.int x1), u2], [], (mm L X I J)) else if s0 = (nI 5) then runI call iX12_piece (154, [some (.ref 72), some (.int x1), u2], [], (mm L X I J)) else if s0 = (nI 6) then runI call iX12_piece (164, [some (.ref 72), some (.int x1), u2], [], (mm L X I J)) else runI call iX12_piece (174, [some (.ref 72), some (.int x1), u2], [], (mm L X I J)) := by
  refine ite_cong2 (fun e0 => sw_t dX12_piece_54 (by rw [e0]; decide +kernel)) (fun e0 => ?_)
  refine ite_cong2 (fun e1 => sw_t dX12_piece_54 (by rw [e1]; decide +kernel)) (fun e1 => ?_)
  refine ite_cong2 (fun e2 => sw_t dX12_piece_54 (by rw [e2]; decide +kernel)) (fun e2 => ?_)
  refine ite_cong2 (fun e3 => sw_t dX12_piece_54 (by rw [e3]; decide +kernel)) (fun e3 => ?_)
  refine ite_cong2 (fun e4 => sw_t dX12_piece_54 (by rw [e4]; decide +kernel)) (fun e4 => ?_)
  refine ite_cong2 (fun e5 => sw_t dX12_piece_54 (by rw [e5]; decide +kernel)) (fun e5 => ?_)
  refine ite_cong2 (fun e6 => sw_t dX12_piece_54 (by rw [e6]; decide +kernel)) (fun e6 => ?_)
  exact sw_t dX12_piece_54 (swT_dflt (vs := [(0 : Int), (1 : Int), (2 : Int), (3 : Int), (4 : Int), (5 : Int), (6 : Int)]) (by decide +kernel) (fun v hv => by simp only [List.mem_cons, List.not_mem_nil, or_false] at hv; rcases hv with rfl | rfl | rfl | rfl | rfl | rfl | rfl <;> first | exact ne_toInt (by decide +kernel) e0 | exact ne_toInt (by decide +kernel) e1 | exact ne_toInt (by decide +kernel) e2 | exact ne_toInt (by decide +kernel) e3 | exact ne_toInt (by decide +kernel) e4 | exact ne_toInt (by decide +kernel) e5 | exact ne_toInt (by decide +kernel) e6))
theorem q_X12_piece_96 {call : CALL} {L X : Nat} {I : Nat → Nat → Int32} {J : Nat → Nat → Int64} {x1 : Int32} {u2 : Option Value} : runI call iX12_piece (96, [some (.ref 72), some (.int x1), u2], [], (mm L X I J)) = gd (inb x1 6) (some (.inl (some (.int (I (85 + (x1).toNatClampNeg) 0))), (mm L X I J))) := by
  refine Eq.trans (st1 dX12_piece_96 rfl rfl) ?_
  refine Eq.trans (getRm dX12_piece_97 cp_12_31 ka_72 rfl r_72_14) ?_
  refine Eq.trans (st1 dX12_piece_100 rfl rfl) ?_
  refine Eq.trans (al4m dX12_piece_101 ka_84 rr_84) (gd_congr fun g1 => ?_)
  refine Eq.trans (xiconst dX12_piece_102 ci_0) ?_
  refine Eq.trans (al1c dX12_piece_103 (kr_84 (inb_lt g1)) (by decide +kernel) nc_0) ?_
  exact ret0 dX12_piece_104 rfl
theorem q_X12_piece_105 {call : CALL} {L X : Nat} {I : Nat → Nat → Int32} {J : Nat → Nat → Int64} {x1 : Int32} {u2 : Option Value} : runI call iX12_piece (105, [some (.ref 72), some (.int x1), u2], [], (mm L X I J)) = gd (inb ((nI 6) + x1) 31) (bnd (call nX12_headOf [.ref 72, .int x1, .int (I 533 (((nI 6) + x1)).toNatClampNeg)] (mm L X I J)) (fun v m' => runI call iX12_piece (119, [some (.ref 72), some (.int x1), u2], v.toList ++ [], m'))) := by
  refine Eq.trans (st1 dX12_piece_105 rfl rfl) ?_
  refine Eq.trans (st1 dX12_piece_106 rfl rfl) ?_
  refine Eq.trans (st1 dX12_piece_107 rfl rfl) ?_
  refine Eq.trans (getRm dX12_piece_108 cp_12_67 ka_72 rfl r_72_29) ?_
  refine Eq.trans (xbipush dX12_piece_111 cb_6) ?_
  refine Eq.trans (st1 dX12_piece_113 rfl rfl) ?_
  refine Eq.trans (st1 dX12_piece_114 rfl rfl) ?_
  refine Eq.trans (al1m dX12_piece_115 ka_533) (gd_congr fun g1 => ?_)
  exact iv0 dX12_piece_116 rfl cp_12_275 rfl rfl (kd_ka ka_72) ka_72.1 (Nat.le_of_ble_eq_true rfl)
theorem q_X12_piece_120 {call : CALL} {L X : Nat} {I : Nat → Nat → Int32} {J : Nat → Nat → Int64} {x1 : Int32} {u2 : Option Value} : runI call iX12_piece (120, [some (.ref 72), some (.int x1), u2], [], (mm L X I J)) = gd (inb ((nI 6) + x1) 31) (bnd (call nX12_footOf [.ref 72, .int x1, .int (I 533 (((nI 6) + x1)).toNatClampNeg)] (mm L X I J)) (fun v m' => runI call iX12_piece (134, [some (.ref 72), some (.int x1), u2], v.toList ++ [], m'))) := by
  refine Eq.trans (st1 dX12_piece_120 rfl rfl) ?_
  refine Eq.trans (st1 dX12_piece_121 rfl rfl) ?_
  refine Eq.trans (st1 dX12_piece_122 rfl rfl) ?_
  refine Eq.trans (getRm dX12_piece_123 cp_12_67 ka_72 rfl r_72_29) ?_
  refine Eq.trans (xbipush dX12_piece_126 cb_6) ?_
  refine Eq.trans (st1 dX12_piece_128 rfl rfl) ?_
  refine Eq.trans (st1 dX12_piece_129 rfl rfl) ?_
  refine Eq.trans (al1m dX12_piece_130 ka_533) (gd_congr fun g1 => ?_)
  exact iv0 dX12_piece_131 rfl cp_12_272 rfl rfl (kd_ka ka_72) ka_72.1 (Nat.le_of_ble_eq_true rfl)
theorem q_X12_piece_135 {call : CALL} {L X : Nat} {I : Nat → Nat → Int32} {J : Nat → Nat → Int64} {x1 : Int32} {u2 : Option Value} : runI call iX12_piece (135, [some (.ref 72), some (.int x1), u2], [], (mm L X I J)) = gd (inb x1 6) (some (.inl (some (.int (I (85 + (x1).toNatClampNeg) 3))), (mm L X I J))) := by
  refine Eq.trans (st1 dX12_piece_135 rfl rfl) ?_
  refine Eq.trans (getRm dX12_piece_136 cp_12_31 ka_72 rfl r_72_14) ?_
  refine Eq.trans (st1 dX12_piece_139 rfl rfl) ?_
  refine Eq.trans (al4m dX12_piece_140 ka_84 rr_84) (gd_congr fun g1 => ?_)
  refine Eq.trans (xiconst dX12_piece_141 ci_3) ?_
  refine Eq.trans (al1c dX12_piece_142 (kr_84 (inb_lt g1)) (by decide +kernel) nc_3) ?_
  exact ret0 dX12_piece_143 rfl
theorem q_X12_piece_144 {call : CALL} {L X : Nat} {I : Nat → Nat → Int32} {J : Nat → Nat → Int64} {x1 : Int32} {u2 : Option Value} : runI call iX12_piece (144, [some (.ref 72), some (.int x1), u2], [], (mm L X I J)) = gd (inb ((nI 12) + x1) 31) (some (.inl (some (.int (I 533 (((nI 12) + x1)).toNatClampNeg))), (mm L X I J))) := by
  refine Eq.trans (st1 dX12_piece_144 rfl rfl) ?_
  refine Eq.trans (getRm dX12_piece_145 cp_12_67 ka_72 rfl r_72_29) ?_
  refine Eq.trans (xbipush dX12_piece_148 cb_12) ?_
  refine Eq.trans (st1 dX12_piece_150 rfl rfl) ?_
  refine Eq.trans (st1 dX12_piece_151 rfl rfl) ?_
  refine Eq.trans (al1m dX12_piece_152 ka_533) (gd_congr fun g1 => ?_)
  exact ret0 dX12_piece_153 rfl
theorem q_X12_piece_154 {call : CALL} {L X : Nat} {I : Nat → Nat → Int32} {J : Nat → Nat → Int64} {x1 : Int32} {u2 : Option Value} : runI call iX12_piece (154, [some (.ref 72), some (.int x1), u2], [], (mm L X I J)) = gd (inb ((nI 18) + x1) 31) (some (.inl (some (.int (I 533 (((nI 18) + x1)).toNatClampNeg))), (mm L X I J))) := by
  refine Eq.trans (st1 dX12_piece_154 rfl rfl) ?_
  refine Eq.trans (getRm dX12_piece_155 cp_12_67 ka_72 rfl r_72_29) ?_
  refine Eq.trans (xbipush dX12_piece_158 cb_18) ?_
  refine Eq.trans (st1 dX12_piece_160 rfl rfl) ?_
  refine Eq.trans (st1 dX12_piece_161 rfl rfl) ?_
  refine Eq.trans (al1m dX12_piece_162 ka_533) (gd_congr fun g1 => ?_)
  exact ret0 dX12_piece_163 rfl
theorem q_X12_piece_164 {call : CALL} {L X : Nat} {I : Nat → Nat → Int32} {J : Nat → Nat → Int64} {x1 : Int32} {u2 : Option Value} : runI call iX12_piece (164, [some (.ref 72), some (.int x1), u2], [], (mm L X I J)) = gd (inb ((nI 6) + x1) 31) (some (.inl (some (.int (I 533 (((nI 6) + x1)).toNatClampNeg))), (mm L X I J))) := by
  refine Eq.trans (st1 dX12_piece_164 rfl rfl) ?_
  refine Eq.trans (getRm dX12_piece_165 cp_12_67 ka_72 rfl r_72_29) ?_
  refine Eq.trans (xbipush dX12_piece_168 cb_6) ?_
  refine Eq.trans (st1 dX12_piece_170 rfl rfl) ?_
  refine Eq.trans (st1 dX12_piece_171 rfl rfl) ?_
  refine Eq.trans (al1m dX12_piece_172 ka_533) (gd_congr fun g1 => ?_)
  exact ret0 dX12_piece_173 rfl
theorem q_X12_piece_174 {call : CALL} {L X : Nat} {I : Nat → Nat → Int32} {J : Nat → Nat → Int64} {x1 : Int32} {u2 : Option Value} : runI call iX12_piece (174, [some (.ref 72), some (.int x1), u2], [], (mm L X I J)) = bndN (call nX12_placeOf [.ref 533, .int x1] (mm L X I J)) (fun v m' => runI call iX12_piece (182, [some (.ref 72), some (.int x1), u2], v.toList ++ [], m')) := by
  refine Eq.trans (st1 dX12_piece_174 rfl rfl) ?_
  refine Eq.trans (getRm dX12_piece_175 cp_12_67 ka_72 rfl r_72_29) ?_
  refine Eq.trans (st1 dX12_piece_178 rfl rfl) ?_
  exact is2 dX12_piece_179 cp_12_268 (Nat.le_of_ble_eq_true rfl) rfl rfl (Nat.le_of_ble_eq_true rfl)
theorem q_X12_piece_119 {call : CALL} {L X : Nat} {I : Nat → Nat → Int32} {J : Nat → Nat → Int64} {u0 : Option Value} {u1 : Option Value} {u2 : Option Value} {s0 : Int32} : runI call iX12_piece (119, [u0, u1, u2], [.int s0], (mm L X I J)) = some (.inl (some (.int s0)), (mm L X I J)) := by
  exact ret0 dX12_piece_119 rfl
theorem q_X12_piece_134 {call : CALL} {L X : Nat} {I : Nat → Nat → Int32} {J : Nat → Nat → Int64} {u0 : Option Value} {u1 : Option Value} {u2 : Option Value} {s0 : Int32} : runI call iX12_piece (134, [u0, u1, u2], [.int s0], (mm L X I J)) = some (.inl (some (.int s0)), (mm L X I J)) := by
  exact ret0 dX12_piece_134 rfl
theorem q_X12_piece_182 {call : CALL} {L X : Nat} {I : Nat → Nat → Int32} {J : Nat → Nat → Int64} {u0 : Option Value} {u1 : Option Value} {u2 : Option Value} {s0 : Int32} : runI call iX12_piece (182, [u0, u1, u2], [.int s0], (mm L X I J)) = some (.inl (some (.int s0)), (mm L X I J)) := by
  exact ret0 dX12_piece_182 rfl
theorem q_X12_isPiece_0 {call : CALL} {L X : Nat} {I : Nat → Nat → Int32} {J : Nat → Nat → Int64} {x1 : Int32} : runI call iX12_isPiece (0, [some (.ref 72), some (.int x1)], [], (mm L X I J)) = bndN (call nX12_in [.int x1, .int (nI 0), .int ((I 76 0) - (nI 1))] (mm L X I J)) (fun v m' => runI call iX12_isPiece (13, [some (.ref 72), some (.int x1)], v.toList ++ [], m')) := by
  refine Eq.trans (st1 dX12_isPiece_0 rfl rfl) ?_
  refine Eq.trans (xiconst dX12_isPiece_1 ci_0) ?_
  refine Eq.trans (st1 dX12_isPiece_2 rfl rfl) ?_
  refine Eq.trans (getRm dX12_isPiece_3 cp_12_23 ka_72 rfl r_72_12) ?_
  refine Eq.trans (xiconst dX12_isPiece_6 ci_0) ?_
  refine Eq.trans (al1c dX12_isPiece_7 ka_76 (by decide +kernel) nc_0) ?_
  refine Eq.trans (xiconst dX12_isPiece_8 ci_1) ?_
  refine Eq.trans (st1 dX12_isPiece_9 rfl rfl) ?_
  exact is2 dX12_isPiece_10 cp_12_137 (Nat.le_of_ble_eq_true rfl) rfl rfl (Nat.le_of_ble_eq_true rfl)
theorem q_X12_isPiece_13 {call : CALL} {L X : Nat} {I : Nat → Nat → Int32} {J : Nat → Nat → Int64} {u0 : Option Value} {u1 : Option Value} {s0 : Int32} : runI call iX12_isPiece (13, [u0, u1], [.int s0], (mm L X I J)) = gd (b01 s0) (some (.inl (some (.int s0)), (mm L X I J))) := by
  exact ret1g dX12_isPiece_13 rfl
theorem q_X12_collar_0 {call : CALL} {L X : Nat} {I : Nat → Nat → Int32} {J : Nat → Nat → Int64} {x1 : Int32} {x2 : Int32} : runI call iX12_collar (0, [some (.ref 72), some (.int x1), some (.int x2)], [], (mm L X I J)) = bndN (call nX12_in [.int x1, .int (nI 0), .int (((up2 I 72 0 (nI 0)) 76 1) - (nI 1))] (mm L X (up2 I 72 0 (nI 0)) J)) (fun v m' => runI call iX12_collar (19, [some (.ref 72), some (.int x1), some (.int x2)], v.toList ++ [.ref 72], m')) := by
  refine Eq.trans (st1 dX12_collar_0 rfl rfl) ?_
  refine Eq.trans (xiconst dX12_collar_1 ci_0) ?_
  refine Eq.trans (putIm dX12_collar_2 cp_12_103 ka_72 rfl) ?_
  refine Eq.trans (st1 dX12_collar_5 rfl rfl) ?_
  refine Eq.trans (st1 dX12_collar_6 rfl rfl) ?_
  refine Eq.trans (xiconst dX12_collar_7 ci_0) ?_
  refine Eq.trans (st1 dX12_collar_8 rfl rfl) ?_
  refine Eq.trans (getRm dX12_collar_9 cp_12_23 ka_72 rfl r_72_12) ?_
  refine Eq.trans (xiconst dX12_collar_12 ci_1) ?_
  refine Eq.trans (al1c dX12_collar_13 ka_76 (by decide +kernel) nc_1) ?_
  refine Eq.trans (xiconst dX12_collar_14 ci_1) ?_
  refine Eq.trans (st1 dX12_collar_15 rfl rfl) ?_
  exact is2 dX12_collar_16 cp_12_137 (Nat.le_of_ble_eq_true rfl) rfl rfl (Nat.le_of_ble_eq_true rfl)
theorem q_X12_collar_19 {call : CALL} {L X : Nat} {I : Nat → Nat → Int32} {J : Nat → Nat → Int64} {x1 : Int32} {x2 : Int32} {s1 : Int32} : runI call iX12_collar (19, [some (.ref 72), some (.int x1), some (.int x2)], [.int s1, .ref 72], (mm L X I J)) = if s1 = (nI 0) then runI call iX12_collar (27, [some (.ref 72), some (.int x1), some (.int x2)], [.int (nI 1), .ref 72], (mm L X I J)) else runI call iX12_collar (27, [some (.ref 72), some (.int x1), some (.int x2)], [.int (nI 0), .ref 72], (mm L X I J)) := by
  refine Eq.trans (if_ne (tgt := 26) dX12_collar_19 (by decide +kernel)) (ite_cong (fun _ => ?_) (fun _ => ?_))
  · refine Eq.trans (xiconst dX12_collar_22 ci_1) ?_
    refine Eq.trans (go_to (tgt := 27) dX12_collar_23 (by decide +kernel)) ?_
    rfl
  · refine Eq.trans (xiconst dX12_collar_26 ci_0) ?_
    rfl
theorem q_X12_collar_27 {call : CALL} {L X : Nat} {I : Nat → Nat → Int32} {J : Nat → Nat → Int64} {x1 : Int32} {x2 : Int32} {s1 : Int32} : runI call iX12_collar (27, [some (.ref 72), some (.int x1), some (.int x2)], [.int s1, .ref 72], (mm L X I J)) = bnd (call nX12_bad [.ref 72, .int s1, .int (nI 1), .int (nI 0)] (mm L X I J)) (fun v m' => runI call iX12_collar (32, [some (.ref 72), some (.int x1), some (.int x2)], v.toList ++ [], m')) := by
  refine Eq.trans (xiconst dX12_collar_27 ci_1) ?_
  refine Eq.trans (xiconst dX12_collar_28 ci_0) ?_
  exact iv0 dX12_collar_29 rfl cp_12_182 rfl rfl (kd_ka ka_72) ka_72.1 (Nat.le_of_ble_eq_true rfl)
theorem q_X12_collar_32 {call : CALL} {L X : Nat} {I : Nat → Nat → Int32} {J : Nat → Nat → Int64} {x1 : Int32} {x2 : Int32} {s0 : Int32} : runI call iX12_collar (32, [some (.ref 72), some (.int x1), some (.int x2)], [.int s0], (mm L X I J)) = if s0 = (nI 0) then bndN (call nX12_in [.int x2, .int (nI 0), .int (nI 1)] (mm L X I J)) (fun v m' => runI call iX12_collar (42, [some (.ref 72), some (.int x1), some (.int x2)], v.toList ++ [.ref 72], m')) else some (.inl (some (.int (nI 0))), (mm L X I J)) := by
  refine Eq.trans (if_ne (tgt := 58) dX12_collar_32 (by decide +kernel)) (ite_cong (fun _ => ?_) (fun _ => ?_))
  · refine Eq.trans (st1 dX12_collar_35 rfl rfl) ?_
    refine Eq.trans (st1 dX12_collar_36 rfl rfl) ?_
    refine Eq.trans (xiconst dX12_collar_37 ci_0) ?_
    refine Eq.trans (xiconst dX12_collar_38 ci_1) ?_
    exact is2 dX12_collar_39 cp_12_137 (Nat.le_of_ble_eq_true rfl) rfl rfl (Nat.le_of_ble_eq_true rfl)
  · refine Eq.trans (xiconst dX12_collar_58 ci_0) ?_
    exact ret0 dX12_collar_59 rfl
theorem q_X12_collar_42 {call : CALL} {L X : Nat} {I : Nat → Nat → Int32} {J : Nat → Nat → Int64} {x1 : Int32} {x2 : Int32} {s1 : Int32} : runI call iX12_collar (42, [some (.ref 72), some (.int x1), some (.int x2)], [.int s1, .ref 72], (mm L X I J)) = if s1 = (nI 0) then runI call iX12_collar (50, [some (.ref 72), some (.int x1), some (.int x2)], [.int (nI 1), .ref 72], (mm L X I J)) else runI call iX12_collar (50, [some (.ref 72), some (.int x1), some (.int x2)], [.int (nI 0), .ref 72], (mm L X I J)) := by
  refine Eq.trans (if_ne (tgt := 49) dX12_collar_42 (by decide +kernel)) (ite_cong (fun _ => ?_) (fun _ => ?_))
  · refine Eq.trans (xiconst dX12_collar_45 ci_1) ?_
    refine Eq.trans (go_to (tgt := 50) dX12_collar_46 (by decide +kernel)) ?_
    rfl
  · refine Eq.trans (xiconst dX12_collar_49 ci_0) ?_
    rfl
theorem q_X12_collar_50 {call : CALL} {L X : Nat} {I : Nat → Nat → Int32} {J : Nat → Nat → Int64} {x1 : Int32} {x2 : Int32} {s1 : Int32} : runI call iX12_collar (50, [some (.ref 72), some (.int x1), some (.int x2)], [.int s1, .ref 72], (mm L X I J)) = bnd (call nX12_bad [.ref 72, .int s1, .int (nI 2), .int (nI 1)] (mm L X I J)) (fun v m' => runI call iX12_collar (55, [some (.ref 72), some (.int x1), some (.int x2)], v.toList ++ [], m')) := by
  refine Eq.trans (xiconst dX12_collar_50 ci_2) ?_
  refine Eq.trans (xiconst dX12_collar_51 ci_1) ?_
  exact iv0 dX12_collar_52 rfl cp_12_182 rfl rfl (kd_ka ka_72) ka_72.1 (Nat.le_of_ble_eq_true rfl)
theorem q_X12_collar_55 {call : CALL} {L X : Nat} {I : Nat → Nat → Int32} {J : Nat → Nat → Int64} {x1 : Int32} {x2 : Int32} {s0 : Int32} : runI call iX12_collar (55, [some (.ref 72), some (.int x1), some (.int x2)], [.int s0], (mm L X I J)) = if s0 = (nI 0) then gd (inb x1 5) (gd (inb x2 2) (some (.inl (some (.int (I (97 + (x1).toNatClampNeg) (x2).toNatClampNeg))), (mm L X I J)))) else some (.inl (some (.int (nI 0))), (mm L X I J)) := by
  refine Eq.trans (if_eq (tgt := 60) dX12_collar_55 (by decide +kernel)) (ite_cong (fun _ => ?_) (fun _ => ?_))
  · refine Eq.trans (st1 dX12_collar_60 rfl rfl) ?_
    refine Eq.trans (getRm dX12_collar_61 cp_12_37 ka_72 rfl r_72_16) ?_
    refine Eq.trans (st1 dX12_collar_64 rfl rfl) ?_
    refine Eq.trans (al4m dX12_collar_65 ka_96 rr_96) (gd_congr fun g1 => ?_)
    refine Eq.trans (st1 dX12_collar_66 rfl rfl) ?_
    refine Eq.trans (al1m dX12_collar_67 (kr_96 (inb_lt g1))) (gd_congr fun g2 => ?_)
    exact ret0 dX12_collar_68 rfl
  · refine Eq.trans (xiconst dX12_collar_58 ci_0) ?_
    exact ret0 dX12_collar_59 rfl
theorem q_X12_fire_0 {call : CALL} {L X : Nat} {I : Nat → Nat → Int32} {J : Nat → Nat → Int64} {x1 : Int32} {x2 : Int32} : runI call iX12_fire (0, [some (.ref 72), some (.int x1), some (.int x2)], [], (mm L X I J)) = bnd (call nX12_isFire [.ref 72, .int x1] (mm L X (up2 I 72 0 (nI 0)) J)) (fun v m' => runI call iX12_fire (11, [some (.ref 72), some (.int x1), some (.int x2)], v.toList ++ [.ref 72], m')) := by
  refine Eq.trans (st1 dX12_fire_0 rfl rfl) ?_
  refine Eq.trans (xiconst dX12_fire_1 ci_0) ?_
  refine Eq.trans (putIm dX12_fire_2 cp_12_103 ka_72 rfl) ?_
  refine Eq.trans (st1 dX12_fire_5 rfl rfl) ?_
  refine Eq.trans (st1 dX12_fire_6 rfl rfl) ?_
  refine Eq.trans (st1 dX12_fire_7 rfl rfl) ?_
  exact iv0 dX12_fire_8 rfl cp_12_360 rfl rfl (kd_ka ka_72) ka_72.1 (Nat.le_of_ble_eq_true rfl)
theorem q_X12_fire_11 {call : CALL} {L X : Nat} {I : Nat → Nat → Int32} {J : Nat → Nat → Int64} {x1 : Int32} {x2 : Int32} {s1 : Int32} : runI call iX12_fire (11, [some (.ref 72), some (.int x1), some (.int x2)], [.int s1, .ref 72], (mm L X I J)) = if s1 = (nI 0) then runI call iX12_fire (19, [some (.ref 72), some (.int x1), some (.int x2)], [.int (nI 1), .ref 72], (mm L X I J)) else runI call iX12_fire (19, [some (.ref 72), some (.int x1), some (.int x2)], [.int (nI 0), .ref 72], (mm L X I J)) := by
  refine Eq.trans (if_ne (tgt := 18) dX12_fire_11 (by decide +kernel)) (ite_cong (fun _ => ?_) (fun _ => ?_))
  · refine Eq.trans (xiconst dX12_fire_14 ci_1) ?_
    refine Eq.trans (go_to (tgt := 19) dX12_fire_15 (by decide +kernel)) ?_
    rfl
  · refine Eq.trans (xiconst dX12_fire_18 ci_0) ?_
    rfl
theorem q_X12_fire_19 {call : CALL} {L X : Nat} {I : Nat → Nat → Int32} {J : Nat → Nat → Int64} {x1 : Int32} {x2 : Int32} {s1 : Int32} : runI call iX12_fire (19, [some (.ref 72), some (.int x1), some (.int x2)], [.int s1, .ref 72], (mm L X I J)) = bnd (call nX12_bad [.ref 72, .int s1, .int (nI 1), .int (nI 0)] (mm L X I J)) (fun v m' => runI call iX12_fire (24, [some (.ref 72), some (.int x1), some (.int x2)], v.toList ++ [], m')) := by
  refine Eq.trans (xiconst dX12_fire_19 ci_1) ?_
  refine Eq.trans (xiconst dX12_fire_20 ci_0) ?_
  exact iv0 dX12_fire_21 rfl cp_12_182 rfl rfl (kd_ka ka_72) ka_72.1 (Nat.le_of_ble_eq_true rfl)
theorem q_X12_fire_24 {call : CALL} {L X : Nat} {I : Nat → Nat → Int32} {J : Nat → Nat → Int64} {x1 : Int32} {x2 : Int32} {s0 : Int32} : runI call iX12_fire (24, [some (.ref 72), some (.int x1), some (.int x2)], [.int s0], (mm L X I J)) = if s0 = (nI 0) then bndN (call nX12_in [.int x2, .int (nI 0), .int (nI 3)] (mm L X I J)) (fun v m' => runI call iX12_fire (34, [some (.ref 72), some (.int x1), some (.int x2)], v.toList ++ [.ref 72], m')) else some (.inl (some (.int (nI 0))), (mm L X I J)) := by
  refine Eq.trans (if_ne (tgt := 50) dX12_fire_24 (by decide +kernel)) (ite_cong (fun _ => ?_) (fun _ => ?_))
  · refine Eq.trans (st1 dX12_fire_27 rfl rfl) ?_
    refine Eq.trans (st1 dX12_fire_28 rfl rfl) ?_
    refine Eq.trans (xiconst dX12_fire_29 ci_0) ?_
    refine Eq.trans (xiconst dX12_fire_30 ci_3) ?_
    exact is2 dX12_fire_31 cp_12_137 (Nat.le_of_ble_eq_true rfl) rfl rfl (Nat.le_of_ble_eq_true rfl)
  · refine Eq.trans (xiconst dX12_fire_50 ci_0) ?_
    exact ret0 dX12_fire_51 rfl
theorem q_X12_fire_34 {call : CALL} {L X : Nat} {I : Nat → Nat → Int32} {J : Nat → Nat → Int64} {x1 : Int32} {x2 : Int32} {s1 : Int32} : runI call iX12_fire (34, [some (.ref 72), some (.int x1), some (.int x2)], [.int s1, .ref 72], (mm L X I J)) = if s1 = (nI 0) then runI call iX12_fire (42, [some (.ref 72), some (.int x1), some (.int x2)], [.int (nI 1), .ref 72], (mm L X I J)) else runI call iX12_fire (42, [some (.ref 72), some (.int x1), some (.int x2)], [.int (nI 0), .ref 72], (mm L X I J)) := by
  refine Eq.trans (if_ne (tgt := 41) dX12_fire_34 (by decide +kernel)) (ite_cong (fun _ => ?_) (fun _ => ?_))
  · refine Eq.trans (xiconst dX12_fire_37 ci_1) ?_
    refine Eq.trans (go_to (tgt := 42) dX12_fire_38 (by decide +kernel)) ?_
    rfl
  · refine Eq.trans (xiconst dX12_fire_41 ci_0) ?_
    rfl
theorem q_X12_fire_42 {call : CALL} {L X : Nat} {I : Nat → Nat → Int32} {J : Nat → Nat → Int64} {x1 : Int32} {x2 : Int32} {s1 : Int32} : runI call iX12_fire (42, [some (.ref 72), some (.int x1), some (.int x2)], [.int s1, .ref 72], (mm L X I J)) = bnd (call nX12_bad [.ref 72, .int s1, .int (nI 2), .int (nI 1)] (mm L X I J)) (fun v m' => runI call iX12_fire (47, [some (.ref 72), some (.int x1), some (.int x2)], v.toList ++ [], m')) := by
  refine Eq.trans (xiconst dX12_fire_42 ci_2) ?_
  refine Eq.trans (xiconst dX12_fire_43 ci_1) ?_
  exact iv0 dX12_fire_44 rfl cp_12_182 rfl rfl (kd_ka ka_72) ka_72.1 (Nat.le_of_ble_eq_true rfl)
theorem q_X12_fire_47 {call : CALL} {L X : Nat} {I : Nat → Nat → Int32} {J : Nat → Nat → Int64} {x1 : Int32} {x2 : Int32} {s0 : Int32} : runI call iX12_fire (47, [some (.ref 72), some (.int x1), some (.int x2)], [.int s0], (mm L X I J)) = if s0 = (nI 0) then if (nI 2) ≤ x2 then if x2 = (nI 3) then gd (inb ((nI 24) + x1) 31) (some (.inl (some (.int (I 533 (((nI 24) + x1)).toNatClampNeg))), (mm L X I J))) else bnd (call nX12_isReached [.ref 72, .ref 533, .int x1] (mm L X I J)) (fun v m' => runI call iX12_fire (94, [some (.ref 72), some (.int x1), some (.int x2)], v.toList ++ [], m')) else gd (inb x1 5) (gd (inb x2 2) (some (.inl (some (.int (I (109 + (x1).toNatClampNeg) (x2).toNatClampNeg))), (mm L X I J)))) else some (.inl (some (.int (nI 0))), (mm L X I J)) := by
  refine Eq.trans (if_eq (tgt := 52) dX12_fire_47 (by decide +kernel)) (ite_cong (fun _ => ?_) (fun _ => ?_))
  · refine Eq.trans (st1 dX12_fire_52 rfl rfl) ?_
    refine Eq.trans (xiconst dX12_fire_53 ci_2) ?_
    refine Eq.trans (ic_ge (tgt := 68) dX12_fire_54 (by decide +kernel)) (ite_cong (fun _ => ?_) (fun _ => ?_))
    · refine Eq.trans (st1 dX12_fire_68 rfl rfl) ?_
      refine Eq.trans (xiconst dX12_fire_69 ci_3) ?_
      refine Eq.trans (ic_ne (tgt := 85) dX12_fire_70 (by decide +kernel)) (ite_cong (fun _ => ?_) (fun _ => ?_))
      · refine Eq.trans (st1 dX12_fire_73 rfl rfl) ?_
        refine Eq.trans (getRm dX12_fire_74 cp_12_67 ka_72 rfl r_72_29) ?_
        refine Eq.trans (xbipush dX12_fire_77 cb_24) ?_
        refine Eq.trans (st1 dX12_fire_79 rfl rfl) ?_
        refine Eq.trans (st1 dX12_fire_80 rfl rfl) ?_
        refine Eq.trans (al1m dX12_fire_81 ka_533) (gd_congr fun g1 => ?_)
        refine Eq.trans (go_to (tgt := 102) dX12_fire_82 (by decide +kernel)) ?_
        exact ret0 dX12_fire_102 rfl
      · refine Eq.trans (st1 dX12_fire_85 rfl rfl) ?_
        refine Eq.trans (st1 dX12_fire_86 rfl rfl) ?_
        refine Eq.trans (getRm dX12_fire_87 cp_12_67 ka_72 rfl r_72_29) ?_
        refine Eq.trans (st1 dX12_fire_90 rfl rfl) ?_
        exact iv0 dX12_fire_91 rfl cp_12_303 rfl rfl (kd_ka ka_72) ka_72.1 (Nat.le_of_ble_eq_true rfl)
    · refine Eq.trans (st1 dX12_fire_57 rfl rfl) ?_
      refine Eq.trans (getRm dX12_fire_58 cp_12_43 ka_72 rfl r_72_18) ?_
      refine Eq.trans (st1 dX12_fire_61 rfl rfl) ?_
      refine Eq.trans (al4m dX12_fire_62 ka_108 rr_108) (gd_congr fun g2 => ?_)
      refine Eq.trans (st1 dX12_fire_63 rfl rfl) ?_
      refine Eq.trans (al1m dX12_fire_64 (kr_108 (inb_lt g2))) (gd_congr fun g3 => ?_)
      refine Eq.trans (go_to (tgt := 102) dX12_fire_65 (by decide +kernel)) ?_
      exact ret0 dX12_fire_102 rfl
  · refine Eq.trans (xiconst dX12_fire_50 ci_0) ?_
    exact ret0 dX12_fire_51 rfl
theorem q_X12_fire_94 {call : CALL} {L X : Nat} {I : Nat → Nat → Int32} {J : Nat → Nat → Int64} {u0 : Option Value} {u1 : Option Value} {u2 : Option Value} {s0 : Int32} : runI call iX12_fire (94, [u0, u1, u2], [.int s0], (mm L X I J)) = if s0 = (nI 0) then some (.inl (some (.int (nI 0))), (mm L X I J)) else some (.inl (some (.int (nI 1))), (mm L X I J)) := by
  refine Eq.trans (if_eq (tgt := 101) dX12_fire_94 (by decide +kernel)) (ite_cong (fun _ => ?_) (fun _ => ?_))
  · refine Eq.trans (xiconst dX12_fire_101 ci_0) ?_
    exact ret0 dX12_fire_102 rfl
  · refine Eq.trans (xiconst dX12_fire_97 ci_1) ?_
    refine Eq.trans (go_to (tgt := 102) dX12_fire_98 (by decide +kernel)) ?_
    exact ret0 dX12_fire_102 rfl
theorem q_X12_isFire_0 {call : CALL} {L X : Nat} {I : Nat → Nat → Int32} {J : Nat → Nat → Int64} {x1 : Int32} : runI call iX12_isFire (0, [some (.ref 72), some (.int x1)], [], (mm L X I J)) = bndN (call nX12_in [.int x1, .int (nI 0), .int ((I 76 2) - (nI 1))] (mm L X I J)) (fun v m' => runI call iX12_isFire (13, [some (.ref 72), some (.int x1)], v.toList ++ [], m')) := by
  refine Eq.trans (st1 dX12_isFire_0 rfl rfl) ?_
  refine Eq.trans (xiconst dX12_isFire_1 ci_0) ?_
  refine Eq.trans (st1 dX12_isFire_2 rfl rfl) ?_
  refine Eq.trans (getRm dX12_isFire_3 cp_12_23 ka_72 rfl r_72_12) ?_
  refine Eq.trans (xiconst dX12_isFire_6 ci_2) ?_
  refine Eq.trans (al1c dX12_isFire_7 ka_76 (by decide +kernel) nc_2) ?_
  refine Eq.trans (xiconst dX12_isFire_8 ci_1) ?_
  refine Eq.trans (st1 dX12_isFire_9 rfl rfl) ?_
  exact is2 dX12_isFire_10 cp_12_137 (Nat.le_of_ble_eq_true rfl) rfl rfl (Nat.le_of_ble_eq_true rfl)
theorem q_X12_isFire_13 {call : CALL} {L X : Nat} {I : Nat → Nat → Int32} {J : Nat → Nat → Int64} {u0 : Option Value} {u1 : Option Value} {s0 : Int32} : runI call iX12_isFire (13, [u0, u1], [.int s0], (mm L X I J)) = gd (b01 s0) (some (.inl (some (.int s0)), (mm L X I J))) := by
  exact ret1g dX12_isFire_13 rfl
theorem q_X12_row_0 {call : CALL} {L X : Nat} {I : Nat → Nat → Int32} {J : Nat → Nat → Int64} {x1 : Int32} : runI call iX12_row (0, [some (.ref 72), some (.int x1)], [], (mm L X I J)) = if (nI 0) ≤ x1 then runI call iX12_row (15, [some (.ref 72), some (.int x1)], [.int (nI 0), .ref 72], (mm L X (up2 I 72 0 (nI 0)) J)) else runI call iX12_row (15, [some (.ref 72), some (.int x1)], [.int (nI 1), .ref 72], (mm L X (up2 I 72 0 (nI 0)) J)) := by
  refine Eq.trans (st1 dX12_row_0 rfl rfl) ?_
  refine Eq.trans (xiconst dX12_row_1 ci_0) ?_
  refine Eq.trans (putIm dX12_row_2 cp_12_103 ka_72 rfl) ?_
  refine Eq.trans (st1 dX12_row_5 rfl rfl) ?_
  refine Eq.trans (st1 dX12_row_6 rfl rfl) ?_
  refine Eq.trans (if_ge (tgt := 14) dX12_row_7 (by decide +kernel)) (ite_cong (fun _ => ?_) (fun _ => ?_))
  · refine Eq.trans (xiconst dX12_row_14 ci_0) ?_
    rfl
  · refine Eq.trans (xiconst dX12_row_10 ci_1) ?_
    refine Eq.trans (go_to (tgt := 15) dX12_row_11 (by decide +kernel)) ?_
    rfl
theorem q_X12_row_15 {call : CALL} {L X : Nat} {I : Nat → Nat → Int32} {J : Nat → Nat → Int64} {x1 : Int32} {s1 : Int32} : runI call iX12_row (15, [some (.ref 72), some (.int x1)], [.int s1, .ref 72], (mm L X I J)) = bnd (call nX12_bad [.ref 72, .int s1, .int (nI 1), .int (nI 1)] (mm L X I J)) (fun v m' => runI call iX12_row (20, [some (.ref 72), some (.int x1)], v.toList ++ [], m')) := by
  refine Eq.trans (xiconst dX12_row_15 ci_1) ?_
  refine Eq.trans (xiconst dX12_row_16 ci_1) ?_
  exact iv0 dX12_row_17 rfl cp_12_182 rfl rfl (kd_ka ka_72) ka_72.1 (Nat.le_of_ble_eq_true rfl)
theorem q_X12_row_20 {call : CALL} {L X : Nat} {I : Nat → Nat → Int32} {J : Nat → Nat → Int64} {x1 : Int32} {s0 : Int32} : runI call iX12_row (20, [some (.ref 72), some (.int x1)], [.int s0], (mm L X I J)) = if s0 = (nI 0) then if (nI 6) ≤ x1 then some (.inl (some (.int (-1 : Int32))), (mm L X I J)) else gd (inb ((nI 0) + x1) 31) (some (.inl (some (.int (I 533 (((nI 0) + x1)).toNatClampNeg))), (mm L X I J))) else some (.inl (some (.int (nI 0))), (mm L X I J)) := by
  refine Eq.trans (if_eq (tgt := 25) dX12_row_20 (by decide +kernel)) (ite_cong (fun _ => ?_) (fun _ => ?_))
  · refine Eq.trans (st1 dX12_row_25 rfl rfl) ?_
    refine Eq.trans (xbipush dX12_row_26 cb_6) ?_
    refine Eq.trans (ic_ge (tgt := 42) dX12_row_28 (by decide +kernel)) (ite_cong (fun _ => ?_) (fun _ => ?_))
    · refine Eq.trans (xiconst dX12_row_42 ci_m1) ?_
      exact ret0 dX12_row_43 rfl
    · refine Eq.trans (st1 dX12_row_31 rfl rfl) ?_
      refine Eq.trans (getRm dX12_row_32 cp_12_67 ka_72 rfl r_72_29) ?_
      refine Eq.trans (xiconst dX12_row_35 ci_0) ?_
      refine Eq.trans (st1 dX12_row_36 rfl rfl) ?_
      refine Eq.trans (st1 dX12_row_37 rfl rfl) ?_
      refine Eq.trans (al1m dX12_row_38 ka_533) (gd_congr fun g1 => ?_)
      refine Eq.trans (go_to (tgt := 43) dX12_row_39 (by decide +kernel)) ?_
      exact ret0 dX12_row_43 rfl
  · refine Eq.trans (xiconst dX12_row_23 ci_0) ?_
    exact ret0 dX12_row_24 rfl
theorem q_X12_behind_0 {call : CALL} {L X : Nat} {I : Nat → Nat → Int32} {J : Nat → Nat → Int64} {x1 : Int32} : runI call iX12_behind (0, [some (.ref 72), some (.int x1)], [], (mm L X I J)) = if (nI 0) ≤ x1 then runI call iX12_behind (15, [some (.ref 72), some (.int x1)], [.int (nI 0), .ref 72], (mm L X (up2 I 72 0 (nI 0)) J)) else runI call iX12_behind (15, [some (.ref 72), some (.int x1)], [.int (nI 1), .ref 72], (mm L X (up2 I 72 0 (nI 0)) J)) := by
  refine Eq.trans (st1 dX12_behind_0 rfl rfl) ?_
  refine Eq.trans (xiconst dX12_behind_1 ci_0) ?_
  refine Eq.trans (putIm dX12_behind_2 cp_12_103 ka_72 rfl) ?_
  refine Eq.trans (st1 dX12_behind_5 rfl rfl) ?_
  refine Eq.trans (st1 dX12_behind_6 rfl rfl) ?_
  refine Eq.trans (if_ge (tgt := 14) dX12_behind_7 (by decide +kernel)) (ite_cong (fun _ => ?_) (fun _ => ?_))
  · refine Eq.trans (xiconst dX12_behind_14 ci_0) ?_
    rfl
  · refine Eq.trans (xiconst dX12_behind_10 ci_1) ?_
    refine Eq.trans (go_to (tgt := 15) dX12_behind_11 (by decide +kernel)) ?_
    rfl
theorem q_X12_behind_15 {call : CALL} {L X : Nat} {I : Nat → Nat → Int32} {J : Nat → Nat → Int64} {x1 : Int32} {s1 : Int32} : runI call iX12_behind (15, [some (.ref 72), some (.int x1)], [.int s1, .ref 72], (mm L X I J)) = bnd (call nX12_bad [.ref 72, .int s1, .int (nI 1), .int (nI 1)] (mm L X I J)) (fun v m' => runI call iX12_behind (20, [some (.ref 72), some (.int x1)], v.toList ++ [], m')) := by
  refine Eq.trans (xiconst dX12_behind_15 ci_1) ?_
  refine Eq.trans (xiconst dX12_behind_16 ci_1) ?_
  exact iv0 dX12_behind_17 rfl cp_12_182 rfl rfl (kd_ka ka_72) ka_72.1 (Nat.le_of_ble_eq_true rfl)
theorem q_X12_behind_20 {call : CALL} {L X : Nat} {I : Nat → Nat → Int32} {J : Nat → Nat → Int64} {x1 : Int32} {s0 : Int32} : runI call iX12_behind (20, [some (.ref 72), some (.int x1)], [.int s0], (mm L X I J)) = if s0 = (nI 0) then bnd (call nX12_arrives [.ref 72, .ref 533] (mm L X I J)) (fun v m' => runI call iX12_behind (33, [some (.ref 72), some (.int x1)], v.toList ++ [], m')) else some (.inl (some (.int (nI 0))), (mm L X I J)) := by
  refine Eq.trans (if_eq (tgt := 25) dX12_behind_20 (by decide +kernel)) (ite_cong (fun _ => ?_) (fun _ => ?_))
  · refine Eq.trans (st1 dX12_behind_25 rfl rfl) ?_
    refine Eq.trans (st1 dX12_behind_26 rfl rfl) ?_
    refine Eq.trans (getRm dX12_behind_27 cp_12_67 ka_72 rfl r_72_29) ?_
    exact iv0 dX12_behind_30 rfl cp_12_300 rfl rfl (kd_ka ka_72) ka_72.1 (Nat.le_of_ble_eq_true rfl)
  · refine Eq.trans (xiconst dX12_behind_23 ci_0) ?_
    exact ret0 dX12_behind_24 rfl
theorem q_X12_behind_33 {call : CALL} {L X : Nat} {I : Nat → Nat → Int32} {J : Nat → Nat → Int64} {x1 : Int32} {s0 : Int32} : runI call iX12_behind (33, [some (.ref 72), some (.int x1)], [.int s0], (mm L X I J)) = bndN (call nX12_manyIn [.ref 533] (mm L X I J)) (fun v m' => runI call iX12_behind (42, [some (.ref 72), some (.int x1)], v.toList ++ [.int x1], m')) := by
  refine Eq.trans (st1 dX12_behind_33 rfl rfl) ?_
  refine Eq.trans (st1 dX12_behind_34 rfl rfl) ?_
  refine Eq.trans (st1 dX12_behind_35 rfl rfl) ?_
  refine Eq.trans (getRm dX12_behind_36 cp_12_67 ka_72 rfl r_72_29) ?_
  exact is2 dX12_behind_39 cp_12_264 (Nat.le_of_ble_eq_true rfl) rfl rfl (Nat.le_of_ble_eq_true rfl)
theorem q_X12_behind_42 {call : CALL} {L X : Nat} {I : Nat → Nat → Int32} {J : Nat → Nat → Int64} {x1 : Int32} {s0 : Int32} {s1 : Int32} : runI call iX12_behind (42, [some (.ref 72), some (.int x1)], [.int s1, .int s0], (mm L X I J)) = if s1 ≤ s0 then some (.inl (some (.int (-1 : Int32))), (mm L X I J)) else gd (inb x1 6) (some (.inl (some (.int (I 535 (x1).toNatClampNeg))), (mm L X I J))) := by
  refine Eq.trans (ic_ge (tgt := 54) dX12_behind_42 (by decide +kernel)) (ite_cong (fun _ => ?_) (fun _ => ?_))
  · refine Eq.trans (xiconst dX12_behind_54 ci_m1) ?_
    exact ret0 dX12_behind_55 rfl
  · refine Eq.trans (st1 dX12_behind_45 rfl rfl) ?_
    refine Eq.trans (getRm dX12_behind_46 cp_12_73 ka_72 rfl r_72_31) ?_
    refine Eq.trans (st1 dX12_behind_49 rfl rfl) ?_
    refine Eq.trans (al1m dX12_behind_50 ka_535) (gd_congr fun g1 => ?_)
    refine Eq.trans (go_to (tgt := 55) dX12_behind_51 (by decide +kernel)) ?_
    exact ret0 dX12_behind_55 rfl
theorem q_X12_would_0 {call : CALL} {L X : Nat} {I : Nat → Nat → Int32} {J : Nat → Nat → Int64} {x1 : Int32} {x2 : Int32} {x3 : Int32} {x4 : Int32} {x5 : Int32} {x6 : Int32} {x7 : Int32} {x8 : Int32} {x9 : Int32} : runI call iX12_would (0, [some (.ref 72), some (.int x1), some (.int x2), some (.int x3), some (.int x4), some (.int x5), some (.int x6), some (.int x7), some (.int x8), some (.int x9)], [], (mm L X I J)) = bndN (call nX12_in [.int x1, .int (nI 0), .int (nI 99)] (mm L X (up2 I 72 0 (nI 0)) J)) (fun v m' => runI call iX12_would (13, [some (.ref 72), some (.int x1), some (.int x2), some (.int x3), some (.int x4), some (.int x5), some (.int x6), some (.int x7), some (.int x8), some (.int x9)], v.toList ++ [.ref 72], m')) := by
  refine Eq.trans (st1 dX12_would_0 rfl rfl) ?_
  refine Eq.trans (xiconst dX12_would_1 ci_0) ?_
  refine Eq.trans (putIm dX12_would_2 cp_12_103 ka_72 rfl) ?_
  refine Eq.trans (st1 dX12_would_5 rfl rfl) ?_
  refine Eq.trans (st1 dX12_would_6 rfl rfl) ?_
  refine Eq.trans (xiconst dX12_would_7 ci_0) ?_
  refine Eq.trans (xbipush dX12_would_8 cb_99) ?_
  exact is2 dX12_would_10 cp_12_137 (Nat.le_of_ble_eq_true rfl) rfl rfl (Nat.le_of_ble_eq_true rfl)
theorem q_X12_would_13 {call : CALL} {L X : Nat} {I : Nat → Nat → Int32} {J : Nat → Nat → Int64} {x1 : Int32} {x2 : Int32} {x3 : Int32} {x4 : Int32} {x5 : Int32} {x6 : Int32} {x7 : Int32} {x8 : Int32} {x9 : Int32} {s1 : Int32} : runI call iX12_would (13, [some (.ref 72), some (.int x1), some (.int x2), some (.int x3), some (.int x4), some (.int x5), some (.int x6), some (.int x7), some (.int x8), some (.int x9)], [.int s1, .ref 72], (mm L X I J)) = if s1 = (nI 0) then runI call iX12_would (99, [some (.ref 72), some (.int x1), some (.int x2), some (.int x3), some (.int x4), some (.int x5), some (.int x6), some (.int x7), some (.int x8), some (.int x9)], [.ref 72], (mm L X I J)) else bndN (call nX12_in [.int x2, .int (nI 0), .int (nI 9)] (mm L X I J)) (fun v m' => runI call iX12_would (23, [some (.ref 72), some (.int x1), some (.int x2), some (.int x3), some (.int x4), some (.int x5), some (.int x6), some (.int x7), some (.int x8), some (.int x9)], v.toList ++ [.ref 72], m')) := by
  refine Eq.trans (if_eq (tgt := 99) dX12_would_13 (by decide +kernel)) (ite_cong (fun _ => ?_) (fun _ => ?_))
  · rfl
  · refine Eq.trans (st1 dX12_would_16 rfl rfl) ?_
    refine Eq.trans (xiconst dX12_would_17 ci_0) ?_
    refine Eq.trans (xbipush dX12_would_18 cb_9) ?_
    exact is2 dX12_would_20 cp_12_137 (Nat.le_of_ble_eq_true rfl) rfl rfl (Nat.le_of_ble_eq_true rfl)
theorem q_X12_would_99 {call : CALL} {L X : Nat} {I : Nat → Nat → Int32} {J : Nat → Nat → Int64} {x1 : Int32} {x2 : Int32} {x3 : Int32} {x4 : Int32} {x5 : Int32} {x6 : Int32} {x7 : Int32} {x8 : Int32} {x9 : Int32} : runI call iX12_would (99, [some (.ref 72), some (.int x1), some (.int x2), some (.int x3), some (.int x4), some (.int x5), some (.int x6), some (.int x7), some (.int x8), some (.int x9)], [.ref 72], (mm L X I J)) = runI call iX12_would (104, [some (.ref 72), some (.int x1), some (.int x2), some (.int x3), some (.int x4), some (.int x5), some (.int x6), some (.int x7), some (.int x8), some (.int x9)], [.int (nI 1), .ref 72], (mm L X I J)) := by
  refine Eq.trans (xiconst dX12_would_99 ci_1) ?_
  refine Eq.trans (go_to (tgt := 104) dX12_would_100 (by decide +kernel)) ?_
  rfl
theorem q_X12_would_23 {call : CALL} {L X : Nat} {I : Nat → Nat → Int32} {J : Nat → Nat → Int64} {x1 : Int32} {x2 : Int32} {x3 : Int32} {x4 : Int32} {x5 : Int32} {x6 : Int32} {x7 : Int32} {x8 : Int32} {x9 : Int32} {s1 : Int32} : runI call iX12_would (23, [some (.ref 72), some (.int x1), some (.int x2), some (.int x3), some (.int x4), some (.int x5), some (.int x6), some (.int x7), some (.int x8), some (.int x9)], [.int s1, .ref 72], (mm L X I J)) = if s1 = (nI 0) then runI call iX12_would (99, [some (.ref 72), some (.int x1), some (.int x2), some (.int x3), some (.int x4), some (.int x5), some (.int x6), some (.int x7), some (.int x8), some (.int x9)], [.ref 72], (mm L X I J)) else bndN (call nX12_in [.int x3, .int (nI 1), .int (nI 30)] (mm L X I J)) (fun v m' => runI call iX12_would (33, [some (.ref 72), some (.int x1), some (.int x2), some (.int x3), some (.int x4), some (.int x5), some (.int x6), some (.int x7), some (.int x8), some (.int x9)], v.toList ++ [.ref 72], m')) := by
  refine Eq.trans (if_eq (tgt := 99) dX12_would_23 (by decide +kernel)) (ite_cong (fun _ => ?_) (fun _ => ?_))
  · rfl
  · refine Eq.trans (st1 dX12_would_26 rfl rfl) ?_
    refine Eq.trans (xiconst dX12_would_27 ci_1) ?_
    refine Eq.trans (xbipush dX12_would_28 cb_30) ?_
    exact is2 dX12_would_30 cp_12_137 (Nat.le_of_ble_eq_true rfl) rfl rfl (Nat.le_of_ble_eq_true rfl)
theorem q_X12_would_104 {call : CALL} {L X : Nat} {I : Nat → Nat → Int32} {J : Nat → Nat → Int64} {x1 : Int32} {x2 : Int32} {x3 : Int32} {x4 : Int32} {x5 : Int32} {x6 : Int32} {x7 : Int32} {x8 : Int32} {x9 : Int32} {s1 : Int32} : runI call iX12_would (104, [some (.ref 72), some (.int x1), some (.int x2), some (.int x3), some (.int x4), some (.int x5), some (.int x6), some (.int x7), some (.int x8), some (.int x9)], [.int s1, .ref 72], (mm L X I J)) = bnd (call nX12_bad [.ref 72, .int s1, .int (nI 1), .int (nI 1)] (mm L X I J)) (fun v m' => runI call iX12_would (109, [some (.ref 72), some (.int x1), some (.int x2), some (.int x3), some (.int x4), some (.int x5), some (.int x6), some (.int x7), some (.int x8), some (.int x9)], v.toList ++ [], m')) := by
  refine Eq.trans (xiconst dX12_would_104 ci_1) ?_
  refine Eq.trans (xiconst dX12_would_105 ci_1) ?_
  exact iv0 dX12_would_106 rfl cp_12_182 rfl rfl (kd_ka ka_72) ka_72.1 (Nat.le_of_ble_eq_true rfl)
theorem q_X12_would_33 {call : CALL} {L X : Nat} {I : Nat → Nat → Int32} {J : Nat → Nat → Int64} {x1 : Int32} {x2 : Int32} {x3 : Int32} {x4 : Int32} {x5 : Int32} {x6 : Int32} {x7 : Int32} {x8 : Int32} {x9 : Int32} {s1 : Int32} : runI call iX12_would (33, [some (.ref 72), some (.int x1), some (.int x2), some (.int x3), some (.int x4), some (.int x5), some (.int x6), some (.int x7), some (.int x8), some (.int x9)], [.int s1, .ref 72], (mm L X I J)) = if s1 = (nI 0) then runI call iX12_would (99, [some (.ref 72), some (.int x1), some (.int x2), some (.int x3), some (.int x4), some (.int x5), some (.int x6), some (.int x7), some (.int x8), some (.int x9)], [.ref 72], (mm L X I J)) else bndN (call nX12_in [.int x4, .int (nI 0), .int (nI 9)] (mm L X I J)) (fun v m' => runI call iX12_would (44, [some (.ref 72), some (.int x1), some (.int x2), some (.int x3), some (.int x4), some (.int x5), some (.int x6), some (.int x7), some (.int x8), some (.int x9)], v.toList ++ [.ref 72], m')) := by
  refine Eq.trans (if_eq (tgt := 99) dX12_would_33 (by decide +kernel)) (ite_cong (fun _ => ?_) (fun _ => ?_))
  · rfl
  · refine Eq.trans (st1 dX12_would_36 rfl rfl) ?_
    refine Eq.trans (xiconst dX12_would_38 ci_0) ?_
    refine Eq.trans (xbipush dX12_would_39 cb_9) ?_
    exact is2 dX12_would_41 cp_12_137 (Nat.le_of_ble_eq_true rfl) rfl rfl (Nat.le_of_ble_eq_true rfl)
theorem q_X12_would_109 {call : CALL} {L X : Nat} {I : Nat → Nat → Int32} {J : Nat → Nat → Int64} {x1 : Int32} {x2 : Int32} {x3 : Int32} {x4 : Int32} {x5 : Int32} {x6 : Int32} {x7 : Int32} {x8 : Int32} {x9 : Int32} {s0 : Int32} : runI call iX12_would (109, [some (.ref 72), some (.int x1), some (.int x2), some (.int x3), some (.int x4), some (.int x5), some (.int x6), some (.int x7), some (.int x8), some (.int x9)], [.int s0], (mm L X I J)) = if s0 = (nI 0) then bnd (call nX12_leftBy [.ref 72, .int x1, .int x2, .int x3, .int x4, .int x5, .int x6, .int x7, .int x8, .int x9] (mm L X I J)) (fun v m' => runI call iX12_would (133, [some (.ref 72), some (.int x1), some (.int x2), some (.int x3), some (.int x4), some (.int x5), some (.int x6), some (.int x7), some (.int x8), some (.int x9)], v.toList ++ [], m')) else some (.inl (some (.int (nI 0))), (mm L X I J)) := by
  refine Eq.trans (if_eq (tgt := 114) dX12_would_109 (by decide +kernel)) (ite_cong (fun _ => ?_) (fun _ => ?_))
  · refine Eq.trans (st1 dX12_would_114 rfl rfl) ?_
    refine Eq.trans (st1 dX12_would_115 rfl rfl) ?_
    refine Eq.trans (st1 dX12_would_116 rfl rfl) ?_
    refine Eq.trans (st1 dX12_would_117 rfl rfl) ?_
    refine Eq.trans (st1 dX12_would_118 rfl rfl) ?_
    refine Eq.trans (st1 dX12_would_120 rfl rfl) ?_
    refine Eq.trans (st1 dX12_would_122 rfl rfl) ?_
    refine Eq.trans (st1 dX12_would_124 rfl rfl) ?_
    refine Eq.trans (st1 dX12_would_126 rfl rfl) ?_
    refine Eq.trans (st1 dX12_would_128 rfl rfl) ?_
    exact iv0 dX12_would_130 rfl cp_12_285 rfl rfl (kd_ka ka_72) ka_72.1 (Nat.le_of_ble_eq_true rfl)
  · refine Eq.trans (xiconst dX12_would_112 ci_0) ?_
    exact ret0 dX12_would_113 rfl
theorem q_X12_would_44 {call : CALL} {L X : Nat} {I : Nat → Nat → Int32} {J : Nat → Nat → Int64} {x1 : Int32} {x2 : Int32} {x3 : Int32} {x4 : Int32} {x5 : Int32} {x6 : Int32} {x7 : Int32} {x8 : Int32} {x9 : Int32} {s1 : Int32} : runI call iX12_would (44, [some (.ref 72), some (.int x1), some (.int x2), some (.int x3), some (.int x4), some (.int x5), some (.int x6), some (.int x7), some (.int x8), some (.int x9)], [.int s1, .ref 72], (mm L X I J)) = if s1 = (nI 0) then runI call iX12_would (99, [some (.ref 72), some (.int x1), some (.int x2), some (.int x3), some (.int x4), some (.int x5), some (.int x6), some (.int x7), some (.int x8), some (.int x9)], [.ref 72], (mm L X I J)) else bndN (call nX12_in [.int x5, .int (nI 0), .int (nI 9)] (mm L X I J)) (fun v m' => runI call iX12_would (55, [some (.ref 72), some (.int x1), some (.int x2), some (.int x3), some (.int x4), some (.int x5), some (.int x6), some (.int x7), some (.int x8), some (.int x9)], v.toList ++ [.ref 72], m')) := by
  refine Eq.trans (if_eq (tgt := 99) dX12_would_44 (by decide +kernel)) (ite_cong (fun _ => ?_) (fun _ => ?_))
  · rfl
  · refine Eq.trans (st1 dX12_would_47 rfl rfl) ?_
    refine Eq.trans (xiconst dX12_would_49 ci_0) ?_
    refine Eq.trans (xbipush dX12_would_50 cb_9) ?_
    exact is2 dX12_would_52 cp_12_137 (Nat.le_of_ble_eq_true rfl) rfl rfl (Nat.le_of_ble_eq_true rfl)
theorem q_X12_would_133 {call : CALL} {L X : Nat} {I : Nat → Nat → Int32} {J : Nat → Nat → Int64} {u0 : Option Value} {u1 : Option Value} {u2 : Option Value} {u3 : Option Value} {u4 : Option Value} {u5 : Option Value} {u6 : Option Value} {u7 : Option Value} {u8 : Option Value} {u9 : Option Value} {s0 : Int32} : runI call iX12_would (133, [u0, u1, u2, u3, u4, u5, u6, u7, u8, u9], [.int s0], (mm L X I J)) = some (.inl (some (.int s0)), (mm L X I J)) := by
  exact ret0 dX12_would_133 rfl
theorem q_X12_would_55 {call : CALL} {L X : Nat} {I : Nat → Nat → Int32} {J : Nat → Nat → Int64} {x1 : Int32} {x2 : Int32} {x3 : Int32} {x4 : Int32} {x5 : Int32} {x6 : Int32} {x7 : Int32} {x8 : Int32} {x9 : Int32} {s1 : Int32} : runI call iX12_would (55, [some (.ref 72), some (.int x1), some (.int x2), some (.int x3), some (.int x4), some (.int x5), some (.int x6), some (.int x7), some (.int x8), some (.int x9)], [.int s1, .ref 72], (mm L X I J)) = if s1 = (nI 0) then runI call iX12_would (99, [some (.ref 72), some (.int x1), some (.int x2), some (.int x3), some (.int x4), some (.int x5), some (.int x6), some (.int x7), some (.int x8), some (.int x9)], [.ref 72], (mm L X I J)) else bndN (call nX12_in [.int x6, .int (nI 0), .int (nI 5)] (mm L X I J)) (fun v m' => runI call iX12_would (65, [some (.ref 72), some (.int x1), some (.int x2), some (.int x3), some (.int x4), some (.int x5), some (.int x6), some (.int x7), some (.int x8), some (.int x9)], v.toList ++ [.ref 72], m')) := by
  refine Eq.trans (if_eq (tgt := 99) dX12_would_55 (by decide +kernel)) (ite_cong (fun _ => ?_) (fun _ => ?_))
  · rfl
  · refine Eq.trans (st1 dX12_would_58 rfl rfl) ?_
    refine Eq.trans (xiconst dX12_would_60 ci_0) ?_
    refine Eq.trans (xiconst dX12_would_61 ci_5) ?_
    exact is2 dX12_would_62 cp_12_137 (Nat.le_of_ble_eq_true rfl) rfl rfl (Nat.le_of_ble_eq_true rfl)
theorem q_X12_would_65 {call : CALL} {L X : Nat} {I : Nat → Nat → Int32} {J : Nat → Nat → Int64} {x1 : Int32} {x2 : Int32} {x3 : Int32} {x4 : Int32} {x5 : Int32} {x6 : Int32} {x7 : Int32} {x8 : Int32} {x9 : Int32} {s1 : Int32} : runI call iX12_would (65, [some (.ref 72), some (.int x1), some (.int x2), some (.int x3), some (.int x4), some (.int x5), some (.int x6), some (.int x7), some (.int x8), some (.int x9)], [.int s1, .ref 72], (mm L X I J)) = if s1 = (nI 0) then runI call iX12_would (99, [some (.ref 72), some (.int x1), some (.int x2), some (.int x3), some (.int x4), some (.int x5), some (.int x6), some (.int x7), some (.int x8), some (.int x9)], [.ref 72], (mm L X I J)) else bndN (call nX12_in [.int x7, .int (nI 0), .int (nI 1)] (mm L X I J)) (fun v m' => runI call iX12_would (75, [some (.ref 72), some (.int x1), some (.int x2), some (.int x3), some (.int x4), some (.int x5), some (.int x6), some (.int x7), some (.int x8), some (.int x9)], v.toList ++ [.ref 72], m')) := by
  refine Eq.trans (if_eq (tgt := 99) dX12_would_65 (by decide +kernel)) (ite_cong (fun _ => ?_) (fun _ => ?_))
  · rfl
  · refine Eq.trans (st1 dX12_would_68 rfl rfl) ?_
    refine Eq.trans (xiconst dX12_would_70 ci_0) ?_
    refine Eq.trans (xiconst dX12_would_71 ci_1) ?_
    exact is2 dX12_would_72 cp_12_137 (Nat.le_of_ble_eq_true rfl) rfl rfl (Nat.le_of_ble_eq_true rfl)
theorem q_X12_would_75 {call : CALL} {L X : Nat} {I : Nat → Nat → Int32} {J : Nat → Nat → Int64} {x1 : Int32} {x2 : Int32} {x3 : Int32} {x4 : Int32} {x5 : Int32} {x6 : Int32} {x7 : Int32} {x8 : Int32} {x9 : Int32} {s1 : Int32} : runI call iX12_would (75, [some (.ref 72), some (.int x1), some (.int x2), some (.int x3), some (.int x4), some (.int x5), some (.int x6), some (.int x7), some (.int x8), some (.int x9)], [.int s1, .ref 72], (mm L X I J)) = if s1 = (nI 0) then runI call iX12_would (99, [some (.ref 72), some (.int x1), some (.int x2), some (.int x3), some (.int x4), some (.int x5), some (.int x6), some (.int x7), some (.int x8), some (.int x9)], [.ref 72], (mm L X I J)) else bndN (call nX12_in [.int x8, .int (nI 0), .int (nI 99)] (mm L X I J)) (fun v m' => runI call iX12_would (86, [some (.ref 72), some (.int x1), some (.int x2), some (.int x3), some (.int x4), some (.int x5), some (.int x6), some (.int x7), some (.int x8), some (.int x9)], v.toList ++ [.ref 72], m')) := by
  refine Eq.trans (if_eq (tgt := 99) dX12_would_75 (by decide +kernel)) (ite_cong (fun _ => ?_) (fun _ => ?_))
  · rfl
  · refine Eq.trans (st1 dX12_would_78 rfl rfl) ?_
    refine Eq.trans (xiconst dX12_would_80 ci_0) ?_
    refine Eq.trans (xbipush dX12_would_81 cb_99) ?_
    exact is2 dX12_would_83 cp_12_137 (Nat.le_of_ble_eq_true rfl) rfl rfl (Nat.le_of_ble_eq_true rfl)
theorem q_X12_would_86 {call : CALL} {L X : Nat} {I : Nat → Nat → Int32} {J : Nat → Nat → Int64} {x1 : Int32} {x2 : Int32} {x3 : Int32} {x4 : Int32} {x5 : Int32} {x6 : Int32} {x7 : Int32} {x8 : Int32} {x9 : Int32} {s1 : Int32} : runI call iX12_would (86, [some (.ref 72), some (.int x1), some (.int x2), some (.int x3), some (.int x4), some (.int x5), some (.int x6), some (.int x7), some (.int x8), some (.int x9)], [.int s1, .ref 72], (mm L X I J)) = if s1 = (nI 0) then runI call iX12_would (99, [some (.ref 72), some (.int x1), some (.int x2), some (.int x3), some (.int x4), some (.int x5), some (.int x6), some (.int x7), some (.int x8), some (.int x9)], [.ref 72], (mm L X I J)) else bndN (call nX12_in [.int x9, .int (nI 0), .int (nI 5)] (mm L X I J)) (fun v m' => runI call iX12_would (96, [some (.ref 72), some (.int x1), some (.int x2), some (.int x3), some (.int x4), some (.int x5), some (.int x6), some (.int x7), some (.int x8), some (.int x9)], v.toList ++ [.ref 72], m')) := by
  refine Eq.trans (if_eq (tgt := 99) dX12_would_86 (by decide +kernel)) (ite_cong (fun _ => ?_) (fun _ => ?_))
  · rfl
  · refine Eq.trans (st1 dX12_would_89 rfl rfl) ?_
    refine Eq.trans (xiconst dX12_would_91 ci_0) ?_
    refine Eq.trans (xiconst dX12_would_92 ci_5) ?_
    exact is2 dX12_would_93 cp_12_137 (Nat.le_of_ble_eq_true rfl) rfl rfl (Nat.le_of_ble_eq_true rfl)
theorem q_X12_would_96 {call : CALL} {L X : Nat} {I : Nat → Nat → Int32} {J : Nat → Nat → Int64} {x1 : Int32} {x2 : Int32} {x3 : Int32} {x4 : Int32} {x5 : Int32} {x6 : Int32} {x7 : Int32} {x8 : Int32} {x9 : Int32} {s1 : Int32} : runI call iX12_would (96, [some (.ref 72), some (.int x1), some (.int x2), some (.int x3), some (.int x4), some (.int x5), some (.int x6), some (.int x7), some (.int x8), some (.int x9)], [.int s1, .ref 72], (mm L X I J)) = if s1 = (nI 0) then runI call iX12_would (99, [some (.ref 72), some (.int x1), some (.int x2), some (.int x3), some (.int x4), some (.int x5), some (.int x6), some (.int x7), some (.int x8), some (.int x9)], [.ref 72], (mm L X I J)) else runI call iX12_would (104, [some (.ref 72), some (.int x1), some (.int x2), some (.int x3), some (.int x4), some (.int x5), some (.int x6), some (.int x7), some (.int x8), some (.int x9)], [.int (nI 0), .ref 72], (mm L X I J)) := by
  refine Eq.trans (if_ne (tgt := 103) dX12_would_96 (by decide +kernel)) (ite_cong (fun _ => ?_) (fun _ => ?_))
  · rfl
  · refine Eq.trans (xiconst dX12_would_103 ci_0) ?_
    rfl
theorem q_X12_fits_0 {call : CALL} {L X : Nat} {I : Nat → Nat → Int32} {J : Nat → Nat → Int64} {x1 : Int32} {x2 : Int32} : runI call iX12_fits (0, [some (.ref 72), some (.int x1), some (.int x2)], [], (mm L X I J)) = bndN (call nX12_isThread [.int x1] (mm L X (up2 I 72 0 (nI 0)) J)) (fun v m' => runI call iX12_fits (10, [some (.ref 72), some (.int x1), some (.int x2)], v.toList ++ [.ref 72], m')) := by
  refine Eq.trans (st1 dX12_fits_0 rfl rfl) ?_
  refine Eq.trans (xiconst dX12_fits_1 ci_0) ?_
  refine Eq.trans (putIm dX12_fits_2 cp_12_103 ka_72 rfl) ?_
  refine Eq.trans (st1 dX12_fits_5 rfl rfl) ?_
  refine Eq.trans (st1 dX12_fits_6 rfl rfl) ?_
  exact is2 dX12_fits_7 cp_12_363 (Nat.le_of_ble_eq_true rfl) rfl rfl (Nat.le_of_ble_eq_true rfl)
theorem q_X12_fits_10 {call : CALL} {L X : Nat} {I : Nat → Nat → Int32} {J : Nat → Nat → Int64} {x1 : Int32} {x2 : Int32} {s1 : Int32} : runI call iX12_fits (10, [some (.ref 72), some (.int x1), some (.int x2)], [.int s1, .ref 72], (mm L X I J)) = if s1 = (nI 0) then runI call iX12_fits (20, [some (.ref 72), some (.int x1), some (.int x2)], [.ref 72], (mm L X I J)) else bndN (call nX12_isThread [.int x2] (mm L X I J)) (fun v m' => runI call iX12_fits (17, [some (.ref 72), some (.int x1), some (.int x2)], v.toList ++ [.ref 72], m')) := by
  refine Eq.trans (if_eq (tgt := 20) dX12_fits_10 (by decide +kernel)) (ite_cong (fun _ => ?_) (fun _ => ?_))
  · rfl
  · refine Eq.trans (st1 dX12_fits_13 rfl rfl) ?_
    exact is2 dX12_fits_14 cp_12_363 (Nat.le_of_ble_eq_true rfl) rfl rfl (Nat.le_of_ble_eq_true rfl)
theorem q_X12_fits_20 {call : CALL} {L X : Nat} {I : Nat → Nat → Int32} {J : Nat → Nat → Int64} {x1 : Int32} {x2 : Int32} : runI call iX12_fits (20, [some (.ref 72), some (.int x1), some (.int x2)], [.ref 72], (mm L X I J)) = runI call iX12_fits (25, [some (.ref 72), some (.int x1), some (.int x2)], [.int (nI 1), .ref 72], (mm L X I J)) := by
  refine Eq.trans (xiconst dX12_fits_20 ci_1) ?_
  refine Eq.trans (go_to (tgt := 25) dX12_fits_21 (by decide +kernel)) ?_
  rfl
theorem q_X12_fits_17 {call : CALL} {L X : Nat} {I : Nat → Nat → Int32} {J : Nat → Nat → Int64} {x1 : Int32} {x2 : Int32} {s1 : Int32} : runI call iX12_fits (17, [some (.ref 72), some (.int x1), some (.int x2)], [.int s1, .ref 72], (mm L X I J)) = if s1 = (nI 0) then runI call iX12_fits (20, [some (.ref 72), some (.int x1), some (.int x2)], [.ref 72], (mm L X I J)) else runI call iX12_fits (25, [some (.ref 72), some (.int x1), some (.int x2)], [.int (nI 0), .ref 72], (mm L X I J)) := by
  refine Eq.trans (if_ne (tgt := 24) dX12_fits_17 (by decide +kernel)) (ite_cong (fun _ => ?_) (fun _ => ?_))
  · rfl
  · refine Eq.trans (xiconst dX12_fits_24 ci_0) ?_
    rfl
theorem q_X12_fits_25 {call : CALL} {L X : Nat} {I : Nat → Nat → Int32} {J : Nat → Nat → Int64} {x1 : Int32} {x2 : Int32} {s1 : Int32} : runI call iX12_fits (25, [some (.ref 72), some (.int x1), some (.int x2)], [.int s1, .ref 72], (mm L X I J)) = bnd (call nX12_bad [.ref 72, .int s1, .int (nI 1), .int (nI 1)] (mm L X I J)) (fun v m' => runI call iX12_fits (30, [some (.ref 72), some (.int x1), some (.int x2)], v.toList ++ [], m')) := by
  refine Eq.trans (xiconst dX12_fits_25 ci_1) ?_
  refine Eq.trans (xiconst dX12_fits_26 ci_1) ?_
  exact iv0 dX12_fits_27 rfl cp_12_182 rfl rfl (kd_ka ka_72) ka_72.1 (Nat.le_of_ble_eq_true rfl)
theorem q_X12_fits_30 {call : CALL} {L X : Nat} {I : Nat → Nat → Int32} {J : Nat → Nat → Int64} {x1 : Int32} {x2 : Int32} {s0 : Int32} : runI call iX12_fits (30, [some (.ref 72), some (.int x1), some (.int x2)], [.int s0], (mm L X I J)) = if s0 = (nI 0) then bnd (call nX12_isJoined [.ref 72, .int x1, .int x2] (mm L X I J)) (fun v m' => runI call iX12_fits (41, [some (.ref 72), some (.int x1), some (.int x2)], v.toList ++ [], m')) else some (.inl (some (.int (nI 0))), (mm L X I J)) := by
  refine Eq.trans (if_eq (tgt := 35) dX12_fits_30 (by decide +kernel)) (ite_cong (fun _ => ?_) (fun _ => ?_))
  · refine Eq.trans (st1 dX12_fits_35 rfl rfl) ?_
    refine Eq.trans (st1 dX12_fits_36 rfl rfl) ?_
    refine Eq.trans (st1 dX12_fits_37 rfl rfl) ?_
    exact iv0 dX12_fits_38 rfl cp_12_278 rfl rfl (kd_ka ka_72) ka_72.1 (Nat.le_of_ble_eq_true rfl)
  · refine Eq.trans (xiconst dX12_fits_33 ci_0) ?_
    exact ret1 dX12_fits_34 rfl (.inl rfl)
theorem q_X12_fits_41 {call : CALL} {L X : Nat} {I : Nat → Nat → Int32} {J : Nat → Nat → Int64} {u0 : Option Value} {u1 : Option Value} {u2 : Option Value} {s0 : Int32} : runI call iX12_fits (41, [u0, u1, u2], [.int s0], (mm L X I J)) = gd (b01 s0) (some (.inl (some (.int s0)), (mm L X I J))) := by
  exact ret1g dX12_fits_41 rfl
theorem q_X12_isThread_0 {call : CALL} {L X : Nat} {I : Nat → Nat → Int32} {J : Nat → Nat → Int64} {x0 : Int32} : runI call iX12_isThread (0, [some (.int x0)], [], (mm L X I J)) = bndN (call nX12_in [.int x0, .int (nI 0), .int (nI 9)] (mm L X I J)) (fun v m' => runI call iX12_isThread (7, [some (.int x0)], v.toList ++ [], m')) := by
  refine Eq.trans (st1 dX12_isThread_0 rfl rfl) ?_
  refine Eq.trans (xiconst dX12_isThread_1 ci_0) ?_
  refine Eq.trans (xbipush dX12_isThread_2 cb_9) ?_
  exact is2 dX12_isThread_4 cp_12_137 (Nat.le_of_ble_eq_true rfl) rfl rfl (Nat.le_of_ble_eq_true rfl)
theorem q_X12_isThread_7 {call : CALL} {L X : Nat} {I : Nat → Nat → Int32} {J : Nat → Nat → Int64} {u0 : Option Value} {s0 : Int32} : runI call iX12_isThread (7, [u0], [.int s0], (mm L X I J)) = gd (b01 s0) (some (.inl (some (.int s0)), (mm L X I J))) := by
  exact ret1g dX12_isThread_7 rfl
theorem q_X12_can_0 {call : CALL} {L X : Nat} {I : Nat → Nat → Int32} {J : Nat → Nat → Int64} {x1 : Int32} : runI call iX12_can (0, [some (.ref 72), some (.int x1)], [], (mm L X I J)) = bnd (call nX12_isPiece [.ref 72, .int x1] (mm L X (up2 I 72 0 (nI 0)) J)) (fun v m' => runI call iX12_can (11, [some (.ref 72), some (.int x1)], v.toList ++ [.ref 72], m')) := by
  refine Eq.trans (st1 dX12_can_0 rfl rfl) ?_
  refine Eq.trans (xiconst dX12_can_1 ci_0) ?_
  refine Eq.trans (putIm dX12_can_2 cp_12_103 ka_72 rfl) ?_
  refine Eq.trans (st1 dX12_can_5 rfl rfl) ?_
  refine Eq.trans (st1 dX12_can_6 rfl rfl) ?_
  refine Eq.trans (st1 dX12_can_7 rfl rfl) ?_
  exact iv0 dX12_can_8 rfl cp_12_357 rfl rfl (kd_ka ka_72) ka_72.1 (Nat.le_of_ble_eq_true rfl)
theorem q_X12_can_11 {call : CALL} {L X : Nat} {I : Nat → Nat → Int32} {J : Nat → Nat → Int64} {x1 : Int32} {s1 : Int32} : runI call iX12_can (11, [some (.ref 72), some (.int x1)], [.int s1, .ref 72], (mm L X I J)) = if s1 = (nI 0) then runI call iX12_can (19, [some (.ref 72), some (.int x1)], [.int (nI 1), .ref 72], (mm L X I J)) else runI call iX12_can (19, [some (.ref 72), some (.int x1)], [.int (nI 0), .ref 72], (mm L X I J)) := by
  refine Eq.trans (if_ne (tgt := 18) dX12_can_11 (by decide +kernel)) (ite_cong (fun _ => ?_) (fun _ => ?_))
  · refine Eq.trans (xiconst dX12_can_14 ci_1) ?_
    refine Eq.trans (go_to (tgt := 19) dX12_can_15 (by decide +kernel)) ?_
    rfl
  · refine Eq.trans (xiconst dX12_can_18 ci_0) ?_
    rfl
theorem q_X12_can_19 {call : CALL} {L X : Nat} {I : Nat → Nat → Int32} {J : Nat → Nat → Int64} {x1 : Int32} {s1 : Int32} : runI call iX12_can (19, [some (.ref 72), some (.int x1)], [.int s1, .ref 72], (mm L X I J)) = bnd (call nX12_bad [.ref 72, .int s1, .int (nI 1), .int (nI 0)] (mm L X I J)) (fun v m' => runI call iX12_can (24, [some (.ref 72), some (.int x1)], v.toList ++ [], m')) := by
  refine Eq.trans (xiconst dX12_can_19 ci_1) ?_
  refine Eq.trans (xiconst dX12_can_20 ci_0) ?_
  exact iv0 dX12_can_21 rfl cp_12_182 rfl rfl (kd_ka ka_72) ka_72.1 (Nat.le_of_ble_eq_true rfl)
theorem q_X12_can_24 {call : CALL} {L X : Nat} {I : Nat → Nat → Int32} {J : Nat → Nat → Int64} {x1 : Int32} {s0 : Int32} : runI call iX12_can (24, [some (.ref 72), some (.int x1)], [.int s0], (mm L X I J)) = if s0 = (nI 0) then gd (inb ((nI 6) + x1) 31) (bnd (call nX12_canLay [.ref 72, .ref 533, .int x1, .int (I 533 (((nI 6) + x1)).toNatClampNeg)] (mm L X I J)) (fun v m' => runI call iX12_can (47, [some (.ref 72), some (.int x1)], v.toList ++ [], m'))) else some (.inl (some (.int (nI 0))), (mm L X I J)) := by
  refine Eq.trans (if_eq (tgt := 29) dX12_can_24 (by decide +kernel)) (ite_cong (fun _ => ?_) (fun _ => ?_))
  · refine Eq.trans (st1 dX12_can_29 rfl rfl) ?_
    refine Eq.trans (st1 dX12_can_30 rfl rfl) ?_
    refine Eq.trans (getRm dX12_can_31 cp_12_67 ka_72 rfl r_72_29) ?_
    refine Eq.trans (st1 dX12_can_34 rfl rfl) ?_
    refine Eq.trans (st1 dX12_can_35 rfl rfl) ?_
    refine Eq.trans (getRm dX12_can_36 cp_12_67 ka_72 rfl r_72_29) ?_
    refine Eq.trans (xbipush dX12_can_39 cb_6) ?_
    refine Eq.trans (st1 dX12_can_41 rfl rfl) ?_
    refine Eq.trans (st1 dX12_can_42 rfl rfl) ?_
    refine Eq.trans (al1m dX12_can_43 ka_533) (gd_congr fun g1 => ?_)
    exact iv0 dX12_can_44 rfl cp_12_310 rfl rfl (kd_ka ka_72) ka_72.1 (Nat.le_of_ble_eq_true rfl)
  · refine Eq.trans (xiconst dX12_can_27 ci_0) ?_
    exact ret1 dX12_can_28 rfl (.inl rfl)
theorem q_X12_can_47 {call : CALL} {L X : Nat} {I : Nat → Nat → Int32} {J : Nat → Nat → Int64} {u0 : Option Value} {u1 : Option Value} {s0 : Int32} : runI call iX12_can (47, [u0, u1], [.int s0], (mm L X I J)) = gd (b01 s0) (some (.inl (some (.int s0)), (mm L X I J))) := by
  exact ret1g dX12_can_47 rfl
theorem q_X12_ahead_0 {call : CALL} {L X : Nat} {I : Nat → Nat → Int32} {J : Nat → Nat → Int64} {x1 : Int32} : runI call iX12_ahead (0, [some (.ref 72), some (.int x1), none], [], (mm L X I J)) = bndN (call nX12_in [.int x1, .int (nI 0), .int (nI 99)] (mm L X (up2 I 72 0 (nI 0)) J)) (fun v m' => runI call iX12_ahead (13, [some (.ref 72), some (.int x1), none], v.toList ++ [.ref 72], m')) := by
  refine Eq.trans (st1 dX12_ahead_0 rfl rfl) ?_
  refine Eq.trans (xiconst dX12_ahead_1 ci_0) ?_
  refine Eq.trans (putIm dX12_ahead_2 cp_12_103 ka_72 rfl) ?_
  refine Eq.trans (st1 dX12_ahead_5 rfl rfl) ?_
  refine Eq.trans (st1 dX12_ahead_6 rfl rfl) ?_
  refine Eq.trans (xiconst dX12_ahead_7 ci_0) ?_
  refine Eq.trans (xbipush dX12_ahead_8 cb_99) ?_
  exact is2 dX12_ahead_10 cp_12_137 (Nat.le_of_ble_eq_true rfl) rfl rfl (Nat.le_of_ble_eq_true rfl)
theorem q_X12_ahead_13 {call : CALL} {L X : Nat} {I : Nat → Nat → Int32} {J : Nat → Nat → Int64} {x1 : Int32} {u2 : Option Value} {s1 : Int32} : runI call iX12_ahead (13, [some (.ref 72), some (.int x1), u2], [.int s1, .ref 72], (mm L X I J)) = if s1 = (nI 0) then runI call iX12_ahead (21, [some (.ref 72), some (.int x1), u2], [.int (nI 1), .ref 72], (mm L X I J)) else runI call iX12_ahead (21, [some (.ref 72), some (.int x1), u2], [.int (nI 0), .ref 72], (mm L X I J)) := by
  refine Eq.trans (if_ne (tgt := 20) dX12_ahead_13 (by decide +kernel)) (ite_cong (fun _ => ?_) (fun _ => ?_))
  · refine Eq.trans (xiconst dX12_ahead_16 ci_1) ?_
    refine Eq.trans (go_to (tgt := 21) dX12_ahead_17 (by decide +kernel)) ?_
    rfl
  · refine Eq.trans (xiconst dX12_ahead_20 ci_0) ?_
    rfl
theorem q_X12_ahead_21 {call : CALL} {L X : Nat} {I : Nat → Nat → Int32} {J : Nat → Nat → Int64} {x1 : Int32} {u2 : Option Value} {s1 : Int32} : runI call iX12_ahead (21, [some (.ref 72), some (.int x1), u2], [.int s1, .ref 72], (mm L X I J)) = bnd (call nX12_bad [.ref 72, .int s1, .int (nI 1), .int (nI 1)] (mm L X I J)) (fun v m' => runI call iX12_ahead (26, [some (.ref 72), some (.int x1), u2], v.toList ++ [], m')) := by
  refine Eq.trans (xiconst dX12_ahead_21 ci_1) ?_
  refine Eq.trans (xiconst dX12_ahead_22 ci_1) ?_
  exact iv0 dX12_ahead_23 rfl cp_12_182 rfl rfl (kd_ka ka_72) ka_72.1 (Nat.le_of_ble_eq_true rfl)
theorem q_X12_ahead_26 {call : CALL} {L X : Nat} {I : Nat → Nat → Int32} {J : Nat → Nat → Int64} {x1 : Int32} {u2 : Option Value} {s0 : Int32} : runI call iX12_ahead (26, [some (.ref 72), some (.int x1), u2], [.int s0], (mm L X I J)) = if s0 = (nI 0) then bndN (call nX12_copies [.ref 533, .ref 534] (mm L X I J)) (fun v m' => runI call iX12_ahead (42, [some (.ref 72), some (.int x1), u2], v.toList ++ [], m')) else some (.inl (some (.int (nI 0))), (mm L X I J)) := by
  refine Eq.trans (if_eq (tgt := 31) dX12_ahead_26 (by decide +kernel)) (ite_cong (fun _ => ?_) (fun _ => ?_))
  · refine Eq.trans (st1 dX12_ahead_31 rfl rfl) ?_
    refine Eq.trans (getRm dX12_ahead_32 cp_12_67 ka_72 rfl r_72_29) ?_
    refine Eq.trans (st1 dX12_ahead_35 rfl rfl) ?_
    refine Eq.trans (getRm dX12_ahead_36 cp_12_70 ka_72 rfl r_72_30) ?_
    exact is2 dX12_ahead_39 cp_12_347 (Nat.le_of_ble_eq_true rfl) rfl rfl (Nat.le_of_ble_eq_true rfl)
  · refine Eq.trans (xiconst dX12_ahead_29 ci_0) ?_
    exact ret0 dX12_ahead_30 rfl
theorem q_X12_ahead_42 {call : CALL} {L X : Nat} {I : Nat → Nat → Int32} {J : Nat → Nat → Int64} {x1 : Int32} {u2 : Option Value} : runI call iX12_ahead (42, [some (.ref 72), some (.int x1), u2], [], (mm L X I J)) = runI call iX12_ahead (44, [some (.ref 72), some (.int x1), some (.int (nI 0))], [], (mm L X I J)) := by
  refine Eq.trans (xiconst dX12_ahead_42 ci_0) ?_
  refine Eq.trans (st1 dX12_ahead_43 rfl rfl) ?_
  rfl
theorem q_X12_ahead_44 {call : CALL} {L X : Nat} {I : Nat → Nat → Int32} {J : Nat → Nat → Int64} {x1 : Int32} {x2 : Int32} : runI call iX12_ahead (44, [some (.ref 72), some (.int x1), some (.int x2)], [], (mm L X I J)) = if x1 ≤ x2 then bnd (call nX12_outIn [.ref 72, .ref 534] (mm L X I J)) (fun v m' => runI call iX12_ahead (71, [some (.ref 72), some (.int x1), some (.int x2)], v.toList ++ [], m')) else bnd (call nX12_hourEnds [.ref 72, .ref 534] (mm L X I J)) (fun v m' => runI call iX12_ahead (57, [some (.ref 72), some (.int x1), some (.int x2)], v.toList ++ [], m')) := by
  refine Eq.trans (st1 dX12_ahead_44 rfl rfl) ?_
  refine Eq.trans (st1 dX12_ahead_45 rfl rfl) ?_
  refine Eq.trans (ic_ge (tgt := 63) dX12_ahead_46 (by decide +kernel)) (ite_cong (fun _ => ?_) (fun _ => ?_))
  · refine Eq.trans (st1 dX12_ahead_63 rfl rfl) ?_
    refine Eq.trans (st1 dX12_ahead_64 rfl rfl) ?_
    refine Eq.trans (getRm dX12_ahead_65 cp_12_70 ka_72 rfl r_72_30) ?_
    exact iv0 dX12_ahead_68 rfl cp_12_354 rfl rfl (kd_ka ka_72) ka_72.1 (Nat.le_of_ble_eq_true rfl)
  · refine Eq.trans (st1 dX12_ahead_49 rfl rfl) ?_
    refine Eq.trans (st1 dX12_ahead_50 rfl rfl) ?_
    refine Eq.trans (getRm dX12_ahead_51 cp_12_70 ka_72 rfl r_72_30) ?_
    exact iv0 dX12_ahead_54 rfl cp_12_330 rfl rfl (kd_ka ka_72) ka_72.1 (Nat.le_of_ble_eq_true rfl)
theorem q_X12_ahead_71 {call : CALL} {L X : Nat} {I : Nat → Nat → Int32} {J : Nat → Nat → Int64} {u0 : Option Value} {u1 : Option Value} {u2 : Option Value} {s0 : Int32} : runI call iX12_ahead (71, [u0, u1, u2], [.int s0], (mm L X I J)) = some (.inl (some (.int s0)), (mm L X I J)) := by
  exact ret0 dX12_ahead_71 rfl
theorem q_X12_ahead_57 {call : CALL} {L X : Nat} {I : Nat → Nat → Int32} {J : Nat → Nat → Int64} {x1 : Int32} {x2 : Int32} : runI call iX12_ahead (57, [some (.ref 72), some (.int x1), some (.int x2)], [], (mm L X I J)) = runI call iX12_ahead (44, [some (.ref 72), some (.int x1), some (.int (x2 + (nI 1)))], [], (mm L X I J)) := by
  refine Eq.trans (xinc2 dX12_ahead_57 ci_1 rfl (Nat.le_of_ble_eq_true rfl) rfl) ?_
  refine Eq.trans (go_to (tgt := 44) dX12_ahead_60 (by decide +kernel)) ?_
  rfl
theorem q_X12_chain_0 {call : CALL} {L X : Nat} {I : Nat → Nat → Int32} {J : Nat → Nat → Int64} {x1 : Int32} : runI call iX12_chain (0, [some (.ref 72), some (.int x1)], [], (mm L X I J)) = bndN (call nX12_in [.int x1, .int (nI 0), .int (nI 1)] (mm L X (up2 I 72 0 (nI 0)) J)) (fun v m' => runI call iX12_chain (12, [some (.ref 72), some (.int x1)], v.toList ++ [.ref 72], m')) := by
  refine Eq.trans (st1 dX12_chain_0 rfl rfl) ?_
  refine Eq.trans (xiconst dX12_chain_1 ci_0) ?_
  refine Eq.trans (putIm dX12_chain_2 cp_12_103 ka_72 rfl) ?_
  refine Eq.trans (st1 dX12_chain_5 rfl rfl) ?_
  refine Eq.trans (st1 dX12_chain_6 rfl rfl) ?_
  refine Eq.trans (xiconst dX12_chain_7 ci_0) ?_
  refine Eq.trans (xiconst dX12_chain_8 ci_1) ?_
  exact is2 dX12_chain_9 cp_12_137 (Nat.le_of_ble_eq_true rfl) rfl rfl (Nat.le_of_ble_eq_true rfl)
theorem q_X12_chain_12 {call : CALL} {L X : Nat} {I : Nat → Nat → Int32} {J : Nat → Nat → Int64} {x1 : Int32} {s1 : Int32} : runI call iX12_chain (12, [some (.ref 72), some (.int x1)], [.int s1, .ref 72], (mm L X I J)) = if s1 = (nI 0) then runI call iX12_chain (20, [some (.ref 72), some (.int x1)], [.int (nI 1), .ref 72], (mm L X I J)) else runI call iX12_chain (20, [some (.ref 72), some (.int x1)], [.int (nI 0), .ref 72], (mm L X I J)) := by
  refine Eq.trans (if_ne (tgt := 19) dX12_chain_12 (by decide +kernel)) (ite_cong (fun _ => ?_) (fun _ => ?_))
  · refine Eq.trans (xiconst dX12_chain_15 ci_1) ?_
    refine Eq.trans (go_to (tgt := 20) dX12_chain_16 (by decide +kernel)) ?_
    rfl
  · refine Eq.trans (xiconst dX12_chain_19 ci_0) ?_
    rfl
theorem q_X12_chain_20 {call : CALL} {L X : Nat} {I : Nat → Nat → Int32} {J : Nat → Nat → Int64} {x1 : Int32} {s1 : Int32} : runI call iX12_chain (20, [some (.ref 72), some (.int x1)], [.int s1, .ref 72], (mm L X I J)) = bnd (call nX12_bad [.ref 72, .int s1, .int (nI 1), .int (nI 1)] (mm L X I J)) (fun v m' => runI call iX12_chain (25, [some (.ref 72), some (.int x1)], v.toList ++ [], m')) := by
  refine Eq.trans (xiconst dX12_chain_20 ci_1) ?_
  refine Eq.trans (xiconst dX12_chain_21 ci_1) ?_
  exact iv0 dX12_chain_22 rfl cp_12_182 rfl rfl (kd_ka ka_72) ka_72.1 (Nat.le_of_ble_eq_true rfl)
theorem q_X12_chain_25 {call : CALL} {L X : Nat} {I : Nat → Nat → Int32} {J : Nat → Nat → Int64} {x1 : Int32} {s0 : Int32} : runI call iX12_chain (25, [some (.ref 72), some (.int x1)], [.int s0], (mm L X I J)) = if s0 = (nI 0) then bnd (call nX12_chains [.ref 72] (mm L X I J)) (fun v m' => runI call iX12_chain (34, [some (.ref 72), some (.int x1)], v.toList ++ [], m')) else some (.inl (some (.int (nI 0))), (mm L X I J)) := by
  refine Eq.trans (if_eq (tgt := 30) dX12_chain_25 (by decide +kernel)) (ite_cong (fun _ => ?_) (fun _ => ?_))
  · refine Eq.trans (st1 dX12_chain_30 rfl rfl) ?_
    exact iv0 dX12_chain_31 rfl cp_12_381 rfl rfl (kd_ka ka_72) ka_72.1 (Nat.le_of_ble_eq_true rfl)
  · refine Eq.trans (xiconst dX12_chain_28 ci_0) ?_
    exact ret0 dX12_chain_29 rfl
theorem q_X12_chain_34 {call : CALL} {L X : Nat} {I : Nat → Nat → Int32} {J : Nat → Nat → Int64} {x1 : Int32} : runI call iX12_chain (34, [some (.ref 72), some (.int x1)], [], (mm L X I J)) = if x1 = (nI 0) then some (.inl (some (.int (I 72 46))), (mm L X I J)) else some (.inl (some (.int (I 72 45))), (mm L X I J)) := by
  refine Eq.trans (st1 dX12_chain_34 rfl rfl) ?_
  refine Eq.trans (if_ne (tgt := 45) dX12_chain_35 (by decide +kernel)) (ite_cong (fun _ => ?_) (fun _ => ?_))
  · refine Eq.trans (st1 dX12_chain_38 rfl rfl) ?_
    refine Eq.trans (getIm dX12_chain_39 cp_12_378 ka_72 (.inl rfl)) ?_
    refine Eq.trans (go_to (tgt := 49) dX12_chain_42 (by decide +kernel)) ?_
    exact ret0 dX12_chain_49 rfl
  · refine Eq.trans (st1 dX12_chain_45 rfl rfl) ?_
    refine Eq.trans (getIm dX12_chain_46 cp_12_375 ka_72 (.inl rfl)) ?_
    exact ret0 dX12_chain_49 rfl
theorem q_X12_chains_0 {call : CALL} {L X : Nat} {I : Nat → Nat → Int32} {J : Nat → Nat → Int64}  : runI call iX12_chains (0, [some (.ref 72), none, none, none, none], [], (mm L X I J)) = bnd (call nX12_laysLongest [.ref 72] (mm L X I J)) (fun v m' => runI call iX12_chains (10, [some (.ref 72), some (.int (nI 0)), some (.int (-1 : Int32)), some (.int (nI 0)), none], v.toList ++ [], m')) := by
  refine Eq.trans (xiconst dX12_chains_0 ci_0) ?_
  refine Eq.trans (st1 dX12_chains_1 rfl rfl) ?_
  refine Eq.trans (xiconst dX12_chains_2 ci_m1) ?_
  refine Eq.trans (st1 dX12_chains_3 rfl rfl) ?_
  refine Eq.trans (xiconst dX12_chains_4 ci_0) ?_
  refine Eq.trans (st1 dX12_chains_5 rfl rfl) ?_
  refine Eq.trans (st1 dX12_chains_6 rfl rfl) ?_
  exact iv0 dX12_chains_7 rfl cp_12_372 rfl rfl (kd_ka ka_72) ka_72.1 (Nat.le_of_ble_eq_true rfl)
theorem q_X12_chains_10 {call : CALL} {L X : Nat} {I : Nat → Nat → Int32} {J : Nat → Nat → Int64} {x1 : Int32} {x2 : Int32} {x3 : Int32} {u4 : Option Value} : runI call iX12_chains (10, [some (.ref 72), some (.int x1), some (.int x2), some (.int x3), u4], [], (mm L X I J)) = runI call iX12_chains (18, [some (.ref 72), some (.int x1), some (.int x2), some (.int x3), some (.int (nI 0))], [], (mm L X (up2 I 72 45 (nI 0)) J)) := by
  refine Eq.trans (st1 dX12_chains_10 rfl rfl) ?_
  refine Eq.trans (xiconst dX12_chains_11 ci_0) ?_
  refine Eq.trans (putIm dX12_chains_12 cp_12_375 ka_72 rfl) ?_
  refine Eq.trans (xiconst dX12_chains_15 ci_0) ?_
  refine Eq.trans (st1 dX12_chains_16 rfl rfl) ?_
  rfl
theorem q_X12_chains_18 {call : CALL} {L X : Nat} {I : Nat → Nat → Int32} {J : Nat → Nat → Int64} {x1 : Int32} {x2 : Int32} {x3 : Int32} {x4 : Int32} : runI call iX12_chains (18, [some (.ref 72), some (.int x1), some (.int x2), some (.int x3), some (.int x4)], [], (mm L X I J)) = if ((nI 2) * (I 76 0)) ≤ x4 then runI call iX12_chains (73, [some (.ref 72), some (.int x1), some (.int x2), some (.int x3), some (.int x4)], [], (mm L X (up2 I 72 46 x3) J)) else gd (inb (x4 / (nI 2)) 6) (gd (inb ((nI 1) <<< ((x4 / (nI 2)) &&& 31)) 64) (gd (inb x4 12) (bndN (call nX12_more [.int x3, .int ((I (85 + ((x4 / (nI 2))).toNatClampNeg) 0) + (I (558 + (((nI 1) <<< ((x4 / (nI 2)) &&& 31))).toNatClampNeg) (x4).toNatClampNeg))] (mm L X I J)) (fun v m' => runI call iX12_chains (61, [some (.ref 72), some (.int x1), some (.int x2), some (.int x3), some (.int x4)], v.toList ++ [], m'))))) := by
  refine Eq.trans (st1 dX12_chains_18 rfl rfl) ?_
  refine Eq.trans (xiconst dX12_chains_20 ci_2) ?_
  refine Eq.trans (st1 dX12_chains_21 rfl rfl) ?_
  refine Eq.trans (getRm dX12_chains_22 cp_12_23 ka_72 rfl r_72_12) ?_
  refine Eq.trans (xiconst dX12_chains_25 ci_0) ?_
  refine Eq.trans (al1c dX12_chains_26 ka_76 (by decide +kernel) nc_0) ?_
  refine Eq.trans (st1 dX12_chains_27 rfl rfl) ?_
  refine Eq.trans (ic_ge (tgt := 68) dX12_chains_28 (by decide +kernel)) (ite_cong (fun _ => ?_) (fun _ => ?_))
  · refine Eq.trans (st1 dX12_chains_68 rfl rfl) ?_
    refine Eq.trans (st1 dX12_chains_69 rfl rfl) ?_
    refine Eq.trans (putIm dX12_chains_70 cp_12_378 ka_72 rfl) ?_
    rfl
  · refine Eq.trans (st1 dX12_chains_31 rfl rfl) ?_
    refine Eq.trans (st1 dX12_chains_32 rfl rfl) ?_
    refine Eq.trans (getRm dX12_chains_33 cp_12_31 ka_72 rfl r_72_14) ?_
    refine Eq.trans (st1 dX12_chains_36 rfl rfl) ?_
    refine Eq.trans (xiconst dX12_chains_38 ci_2) ?_
    refine Eq.trans (idv dX12_chains_39 (by decide +kernel)) ?_
    refine Eq.trans (al4m dX12_chains_40 ka_84 rr_84) (gd_congr fun g1 => ?_)
    refine Eq.trans (xiconst dX12_chains_41 ci_0) ?_
    refine Eq.trans (al1c dX12_chains_42 (kr_84 (inb_lt g1)) (by decide +kernel) nc_0) ?_
    refine Eq.trans (st1 dX12_chains_43 rfl rfl) ?_
    refine Eq.trans (getRm dX12_chains_44 cp_12_82 ka_72 rfl r_72_43) ?_
    refine Eq.trans (xiconst dX12_chains_47 ci_1) ?_
    refine Eq.trans (st1 dX12_chains_48 rfl rfl) ?_
    refine Eq.trans (xiconst dX12_chains_50 ci_2) ?_
    refine Eq.trans (idv dX12_chains_51 (by decide +kernel)) ?_
    refine Eq.trans (st1 dX12_chains_52 rfl rfl) ?_
    refine Eq.trans (al4m dX12_chains_53 ka_557 rr_557) (gd_congr fun g2 => ?_)
    refine Eq.trans (st1 dX12_chains_54 rfl rfl) ?_
    refine Eq.trans (al1m dX12_chains_56 (kr_557 (inb_lt g2))) (gd_congr fun g3 => ?_)
    refine Eq.trans (st1 dX12_chains_57 rfl rfl) ?_
    exact is2 dX12_chains_58 cp_12_248 (Nat.le_of_ble_eq_true rfl) rfl rfl (Nat.le_of_ble_eq_true rfl)
theorem q_X12_chains_73 {call : CALL} {L X : Nat} {I : Nat → Nat → Int32} {J : Nat → Nat → Int64} {x1 : Int32} {x2 : Int32} {x3 : Int32} {u4 : Option Value} : runI call iX12_chains (73, [some (.ref 72), some (.int x1), some (.int x2), some (.int x3), u4], [], (mm L X I J)) = if x3 ≤ (nI 0) then some (.inl none, (mm L X I J)) else runI call iX12_chains (80, [some (.ref 72), some (.int x1), some (.int x2), some (.int x3), some (.int (nI 0))], [], (mm L X I J)) := by
  refine Eq.trans (st1 dX12_chains_73 rfl rfl) ?_
  refine Eq.trans (if_le (tgt := 189) dX12_chains_74 (by decide +kernel)) (ite_cong (fun _ => ?_) (fun _ => ?_))
  · exact ret3 dX12_chains_189 (.inl rfl)
  · refine Eq.trans (xiconst dX12_chains_77 ci_0) ?_
    refine Eq.trans (st1 dX12_chains_78 rfl rfl) ?_
    rfl
theorem q_X12_chains_61 {call : CALL} {L X : Nat} {I : Nat → Nat → Int32} {J : Nat → Nat → Int64} {x1 : Int32} {x2 : Int32} {u3 : Option Value} {x4 : Int32} {s0 : Int32} : runI call iX12_chains (61, [some (.ref 72), some (.int x1), some (.int x2), u3, some (.int x4)], [.int s0], (mm L X I J)) = runI call iX12_chains (18, [some (.ref 72), some (.int x1), some (.int x2), some (.int s0), some (.int (x4 + (nI 1)))], [], (mm L X I J)) := by
  refine Eq.trans (st1 dX12_chains_61 rfl rfl) ?_
  refine Eq.trans (xinc2 dX12_chains_62 ci_1 rfl (Nat.le_of_ble_eq_true rfl) rfl) ?_
  refine Eq.trans (go_to (tgt := 18) dX12_chains_65 (by decide +kernel)) ?_
  rfl
theorem q_X12_chains_80 {call : CALL} {L X : Nat} {I : Nat → Nat → Int32} {J : Nat → Nat → Int64} {x1 : Int32} {x2 : Int32} {x3 : Int32} {x4 : Int32} : runI call iX12_chains (80, [some (.ref 72), some (.int x1), some (.int x2), some (.int x3), some (.int x4)], [], (mm L X I J)) = bndN (call nX12_has [.int x1, .int (x4 / (nI 2))] (mm L X I J)) (fun v m' => runI call iX12_chains (88, [some (.ref 72), some (.int x1), some (.int x2), some (.int x3), some (.int x4)], v.toList ++ [], m')) := by
  refine Eq.trans (st1 dX12_chains_80 rfl rfl) ?_
  refine Eq.trans (st1 dX12_chains_81 rfl rfl) ?_
  refine Eq.trans (xiconst dX12_chains_83 ci_2) ?_
  refine Eq.trans (idv dX12_chains_84 (by decide +kernel)) ?_
  exact is2 dX12_chains_85 cp_12_366 (Nat.le_of_ble_eq_true rfl) rfl rfl (Nat.le_of_ble_eq_true rfl)
theorem q_X12_chains_88 {call : CALL} {L X : Nat} {I : Nat → Nat → Int32} {J : Nat → Nat → Int64} {x1 : Int32} {x2 : Int32} {x3 : Int32} {x4 : Int32} {s0 : Int32} : runI call iX12_chains (88, [some (.ref 72), some (.int x1), some (.int x2), some (.int x3), some (.int x4)], [.int s0], (mm L X I J)) = if s0 = (nI 0) then bnd (call nX12_isNext [.ref 72, .int x2, .int x4] (mm L X I J)) (fun v m' => runI call iX12_chains (98, [some (.ref 72), some (.int x1), some (.int x2), some (.int x3), some (.int x4)], v.toList ++ [], m')) else runI call iX12_chains (133, [some (.ref 72), some (.int x1), some (.int x2), some (.int x3), some (.int x4)], [], (mm L X I J)) := by
  refine Eq.trans (if_ne (tgt := 133) dX12_chains_88 (by decide +kernel)) (ite_cong (fun _ => ?_) (fun _ => ?_))
  · refine Eq.trans (st1 dX12_chains_91 rfl rfl) ?_
    refine Eq.trans (st1 dX12_chains_92 rfl rfl) ?_
    refine Eq.trans (st1 dX12_chains_93 rfl rfl) ?_
    exact iv0 dX12_chains_95 rfl cp_12_369 rfl rfl (kd_ka ka_72) ka_72.1 (Nat.le_of_ble_eq_true rfl)
  · rfl
theorem q_X12_chains_133 {call : CALL} {L X : Nat} {I : Nat → Nat → Int32} {J : Nat → Nat → Int64} {x1 : Int32} {x2 : Int32} {x3 : Int32} {x4 : Int32} : runI call iX12_chains (133, [some (.ref 72), some (.int x1), some (.int x2), some (.int x3), some (.int x4)], [], (mm L X I J)) = runI call iX12_chains (80, [some (.ref 72), some (.int x1), some (.int x2), some (.int x3), some (.int (x4 + (nI 1)))], [], (mm L X I J)) := by
  refine Eq.trans (xinc2 dX12_chains_133 ci_1 rfl (Nat.le_of_ble_eq_true rfl) rfl) ?_
  refine Eq.trans (go_to (tgt := 80) dX12_chains_136 (by decide +kernel)) ?_
  rfl
theorem q_X12_chains_98 {call : CALL} {L X : Nat} {I : Nat → Nat → Int32} {J : Nat → Nat → Int64} {x1 : Int32} {x2 : Int32} {x3 : Int32} {x4 : Int32} {s0 : Int32} : runI call iX12_chains (98, [some (.ref 72), some (.int x1), some (.int x2), some (.int x3), some (.int x4)], [.int s0], (mm L X I J)) = if s0 = (nI 0) then runI call iX12_chains (133, [some (.ref 72), some (.int x1), some (.int x2), some (.int x3), some (.int x4)], [], (mm L X I J)) else gd (inb (x4 / (nI 2)) 6) (gd (inb (x1 ||| ((nI 1) <<< ((x4 / (nI 2)) &&& 31))) 64) (gd (inb x4 12) (if ((I (85 + ((x4 / (nI 2))).toNatClampNeg) 0) + (I (558 + ((x1 ||| ((nI 1) <<< ((x4 / (nI 2)) &&& 31)))).toNatClampNeg) (x4).toNatClampNeg)) = x3 then gd (inb (I 72 45) 6) (runI call iX12_chains (73, [some (.ref 72), some (.int (x1 ||| ((nI 1) <<< ((x4 / (nI 2)) &&& 31)))), some (.int x4), some (.int (x3 - ((up2 (up2 I 622 ((I 72 45)).toNatClampNeg x4) 72 45 (((up2 I 622 ((I 72 45)).toNatClampNeg x4) 72 45) + (nI 1))) (85 + ((x4 / (nI 2))).toNatClampNeg) 0))), some (.int x4)], [], (mm L X (up2 (up2 I 622 ((I 72 45)).toNatClampNeg x4) 72 45 (((up2 I 622 ((I 72 45)).toNatClampNeg x4) 72 45) + (nI 1))) J))) else runI call iX12_chains (133, [some (.ref 72), some (.int x1), some (.int x2), some (.int x3), some (.int x4)], [], (mm L X I J))))) := by
  refine Eq.trans (if_eq (tgt := 133) dX12_chains_98 (by decide +kernel)) (ite_cong (fun _ => ?_) (fun _ => ?_))
  · rfl
  · refine Eq.trans (st1 dX12_chains_101 rfl rfl) ?_
    refine Eq.trans (getRm dX12_chains_102 cp_12_31 ka_72 rfl r_72_14) ?_
    refine Eq.trans (st1 dX12_chains_105 rfl rfl) ?_
    refine Eq.trans (xiconst dX12_chains_107 ci_2) ?_
    refine Eq.trans (idv dX12_chains_108 (by decide +kernel)) ?_
    refine Eq.trans (al4m dX12_chains_109 ka_84 rr_84) (gd_congr fun g1 => ?_)
    refine Eq.trans (xiconst dX12_chains_110 ci_0) ?_
    refine Eq.trans (al1c dX12_chains_111 (kr_84 (inb_lt g1)) (by decide +kernel) nc_0) ?_
    refine Eq.trans (st1 dX12_chains_112 rfl rfl) ?_
    refine Eq.trans (getRm dX12_chains_113 cp_12_82 ka_72 rfl r_72_43) ?_
    refine Eq.trans (st1 dX12_chains_116 rfl rfl) ?_
    refine Eq.trans (xiconst dX12_chains_117 ci_1) ?_
    refine Eq.trans (st1 dX12_chains_118 rfl rfl) ?_
    refine Eq.trans (xiconst dX12_chains_120 ci_2) ?_
    refine Eq.trans (idv dX12_chains_121 (by decide +kernel)) ?_
    refine Eq.trans (st1 dX12_chains_122 rfl rfl) ?_
    refine Eq.trans (st1 dX12_chains_123 rfl rfl) ?_
    refine Eq.trans (al4m dX12_chains_124 ka_557 rr_557) (gd_congr fun g2 => ?_)
    refine Eq.trans (st1 dX12_chains_125 rfl rfl) ?_
    refine Eq.trans (al1m dX12_chains_127 (kr_557 (inb_lt g2))) (gd_congr fun g3 => ?_)
    refine Eq.trans (st1 dX12_chains_128 rfl rfl) ?_
    refine Eq.trans (st1 dX12_chains_129 rfl rfl) ?_
    refine Eq.trans (ic_eq (tgt := 139) dX12_chains_130 (by decide +kernel)) (ite_cong (fun _ => ?_) (fun _ => ?_))
    · refine Eq.trans (st1 dX12_chains_139 rfl rfl) ?_
      refine Eq.trans (getRm dX12_chains_140 cp_12_85 ka_72 rfl r_72_44) ?_
      refine Eq.trans (st1 dX12_chains_143 rfl rfl) ?_
      refine Eq.trans (getIm dX12_chains_144 cp_12_375 ka_72 (.inl rfl)) ?_
      refine Eq.trans (st1 dX12_chains_147 rfl rfl) ?_
      refine Eq.trans (as1m dX12_chains_149 ka_622) (gd_congr fun g4 => ?_)
      refine Eq.trans (st1 dX12_chains_150 rfl rfl) ?_
      refine Eq.trans (st1 dX12_chains_151 rfl rfl) ?_
      refine Eq.trans (getIm dX12_chains_152 cp_12_375 ka_72 (.inl rfl)) ?_
      refine Eq.trans (xiconst dX12_chains_155 ci_1) ?_
      refine Eq.trans (st1 dX12_chains_156 rfl rfl) ?_
      refine Eq.trans (putIm dX12_chains_157 cp_12_375 ka_72 rfl) ?_
      refine Eq.trans (st1 dX12_chains_160 rfl rfl) ?_
      refine Eq.trans (st1 dX12_chains_161 rfl rfl) ?_
      refine Eq.trans (getRm dX12_chains_162 cp_12_31 ka_72 rfl r_72_14) ?_
      refine Eq.trans (st1 dX12_chains_165 rfl rfl) ?_
      refine Eq.trans (xiconst dX12_chains_167 ci_2) ?_
      refine Eq.trans (idv dX12_chains_168 (by decide +kernel)) ?_
      refine Eq.trans (al4m dX12_chains_169 ka_84 rr_84) (Eq.trans (gd_t g1) ?_)
      refine Eq.trans (xiconst dX12_chains_170 ci_0) ?_
      refine Eq.trans (al1c dX12_chains_171 (kr_84 (inb_lt g1)) (by decide +kernel) nc_0) ?_
      refine Eq.trans (st1 dX12_chains_172 rfl rfl) ?_
      refine Eq.trans (st1 dX12_chains_173 rfl rfl) ?_
      refine Eq.trans (st1 dX12_chains_174 rfl rfl) ?_
      refine Eq.trans (xiconst dX12_chains_175 ci_1) ?_
      refine Eq.trans (st1 dX12_chains_176 rfl rfl) ?_
      refine Eq.trans (xiconst dX12_chains_178 ci_2) ?_
      refine Eq.trans (idv dX12_chains_179 (by decide +kernel)) ?_
      refine Eq.trans (st1 dX12_chains_180 rfl rfl) ?_
      refine Eq.trans (st1 dX12_chains_181 rfl rfl) ?_
      refine Eq.trans (st1 dX12_chains_182 rfl rfl) ?_
      refine Eq.trans (st1 dX12_chains_183 rfl rfl) ?_
      refine Eq.trans (st1 dX12_chains_185 rfl rfl) ?_
      refine Eq.trans (go_to (tgt := 73) dX12_chains_186 (by decide +kernel)) ?_
      rfl
    · rfl
theorem q_X12_laysLongest_0 {call : CALL} {L X : Nat} {I : Nat → Nat → Int32} {J : Nat → Nat → Int64}  : runI call iX12_laysLongest (0, [some (.ref 72), none, none, none], [], (mm L X I J)) = runI call iX12_laysLongest (11, [some (.ref 72), some (.int (((nI 1) <<< ((I 76 0) &&& 31)) - (nI 1))), none, none], [], (mm L X I J)) := by
  refine Eq.trans (xiconst dX12_laysLongest_0 ci_1) ?_
  refine Eq.trans (st1 dX12_laysLongest_1 rfl rfl) ?_
  refine Eq.trans (getRm dX12_laysLongest_2 cp_12_23 ka_72 rfl r_72_12) ?_
  refine Eq.trans (xiconst dX12_laysLongest_5 ci_0) ?_
  refine Eq.trans (al1c dX12_laysLongest_6 ka_76 (by decide +kernel) nc_0) ?_
  refine Eq.trans (st1 dX12_laysLongest_7 rfl rfl) ?_
  refine Eq.trans (xiconst dX12_laysLongest_8 ci_1) ?_
  refine Eq.trans (st1 dX12_laysLongest_9 rfl rfl) ?_
  refine Eq.trans (st1 dX12_laysLongest_10 rfl rfl) ?_
  rfl
theorem q_X12_laysLongest_11 {call : CALL} {L X : Nat} {I : Nat → Nat → Int32} {J : Nat → Nat → Int64} {x1 : Int32} {u2 : Option Value} {u3 : Option Value} : runI call iX12_laysLongest (11, [some (.ref 72), some (.int x1), u2, u3], [], (mm L X I J)) = if x1 < (nI 0) then some (.inl none, (mm L X I J)) else runI call iX12_laysLongest (17, [some (.ref 72), some (.int x1), some (.int (nI 0)), u3], [], (mm L X I J)) := by
  refine Eq.trans (st1 dX12_laysLongest_11 rfl rfl) ?_
  refine Eq.trans (if_lt (tgt := 146) dX12_laysLongest_12 (by decide +kernel)) (ite_cong (fun _ => ?_) (fun _ => ?_))
  · exact ret3 dX12_laysLongest_146 (.inl rfl)
  · refine Eq.trans (xiconst dX12_laysLongest_15 ci_0) ?_
    refine Eq.trans (st1 dX12_laysLongest_16 rfl rfl) ?_
    rfl
theorem q_X12_laysLongest_17 {call : CALL} {L X : Nat} {I : Nat → Nat → Int32} {J : Nat → Nat → Int64} {x1 : Int32} {x2 : Int32} {u3 : Option Value} : runI call iX12_laysLongest (17, [some (.ref 72), some (.int x1), some (.int x2), u3], [], (mm L X I J)) = if ((nI 2) * (I 76 0)) ≤ x2 then runI call iX12_laysLongest (11, [some (.ref 72), some (.int (x1 + (-1 : Int32))), some (.int x2), u3], [], (mm L X I J)) else gd (inb x1 64) (gd (inb x2 12) (runI call iX12_laysLongest (40, [some (.ref 72), some (.int x1), some (.int x2), some (.int (nI 0))], [], (mm L X (up2 I (558 + (x1).toNatClampNeg) (x2).toNatClampNeg (nI 0)) J)))) := by
  refine Eq.trans (st1 dX12_laysLongest_17 rfl rfl) ?_
  refine Eq.trans (xiconst dX12_laysLongest_18 ci_2) ?_
  refine Eq.trans (st1 dX12_laysLongest_19 rfl rfl) ?_
  refine Eq.trans (getRm dX12_laysLongest_20 cp_12_23 ka_72 rfl r_72_12) ?_
  refine Eq.trans (xiconst dX12_laysLongest_23 ci_0) ?_
  refine Eq.trans (al1c dX12_laysLongest_24 ka_76 (by decide +kernel) nc_0) ?_
  refine Eq.trans (st1 dX12_laysLongest_25 rfl rfl) ?_
  refine Eq.trans (ic_ge (tgt := 140) dX12_laysLongest_26 (by decide +kernel)) (ite_cong (fun _ => ?_) (fun _ => ?_))
  · refine Eq.trans (xinc2 dX12_laysLongest_140 ci_m1 rfl (Nat.le_of_ble_eq_true rfl) rfl) ?_
    refine Eq.trans (go_to (tgt := 11) dX12_laysLongest_143 (by decide +kernel)) ?_
    rfl
  · refine Eq.trans (st1 dX12_laysLongest_29 rfl rfl) ?_
    refine Eq.trans (getRm dX12_laysLongest_30 cp_12_82 ka_72 rfl r_72_43) ?_
    refine Eq.trans (st1 dX12_laysLongest_33 rfl rfl) ?_
    refine Eq.trans (al4m dX12_laysLongest_34 ka_557 rr_557) (gd_congr fun g1 => ?_)
    refine Eq.trans (st1 dX12_laysLongest_35 rfl rfl) ?_
    refine Eq.trans (xiconst dX12_laysLongest_36 ci_0) ?_
    refine Eq.trans (as1m dX12_laysLongest_37 (kr_557 (inb_lt g1))) (gd_congr fun g2 => ?_)
    refine Eq.trans (xiconst dX12_laysLongest_38 ci_0) ?_
    refine Eq.trans (st1 dX12_laysLongest_39 rfl rfl) ?_
    rfl
theorem q_X12_laysLongest_40 {call : CALL} {L X : Nat} {I : Nat → Nat → Int32} {J : Nat → Nat → Int64} {x1 : Int32} {x2 : Int32} {x3 : Int32} : runI call iX12_laysLongest (40, [some (.ref 72), some (.int x1), some (.int x2), some (.int x3)], [], (mm L X I J)) = if ((nI 2) * (I 76 0)) ≤ x3 then runI call iX12_laysLongest (134, [some (.ref 72), some (.int x1), some (.int x2), some (.int x3)], [], (mm L X I J)) else bndN (call nX12_has [.int x1, .int (x2 / (nI 2))] (mm L X I J)) (fun v m' => runI call iX12_laysLongest (59, [some (.ref 72), some (.int x1), some (.int x2), some (.int x3)], v.toList ++ [], m')) := by
  refine Eq.trans (st1 dX12_laysLongest_40 rfl rfl) ?_
  refine Eq.trans (xiconst dX12_laysLongest_41 ci_2) ?_
  refine Eq.trans (st1 dX12_laysLongest_42 rfl rfl) ?_
  refine Eq.trans (getRm dX12_laysLongest_43 cp_12_23 ka_72 rfl r_72_12) ?_
  refine Eq.trans (xiconst dX12_laysLongest_46 ci_0) ?_
  refine Eq.trans (al1c dX12_laysLongest_47 ka_76 (by decide +kernel) nc_0) ?_
  refine Eq.trans (st1 dX12_laysLongest_48 rfl rfl) ?_
  refine Eq.trans (ic_ge (tgt := 134) dX12_laysLongest_49 (by decide +kernel)) (ite_cong (fun _ => ?_) (fun _ => ?_))
  · rfl
  · refine Eq.trans (st1 dX12_laysLongest_52 rfl rfl) ?_
    refine Eq.trans (st1 dX12_laysLongest_53 rfl rfl) ?_
    refine Eq.trans (xiconst dX12_laysLongest_54 ci_2) ?_
    refine Eq.trans (idv dX12_laysLongest_55 (by decide +kernel)) ?_
    exact is2 dX12_laysLongest_56 cp_12_366 (Nat.le_of_ble_eq_true rfl) rfl rfl (Nat.le_of_ble_eq_true rfl)
theorem q_X12_laysLongest_134 {call : CALL} {L X : Nat} {I : Nat → Nat → Int32} {J : Nat → Nat → Int64} {x1 : Int32} {x2 : Int32} {u3 : Option Value} : runI call iX12_laysLongest (134, [some (.ref 72), some (.int x1), some (.int x2), u3], [], (mm L X I J)) = runI call iX12_laysLongest (17, [some (.ref 72), some (.int x1), some (.int (x2 + (nI 1))), u3], [], (mm L X I J)) := by
  refine Eq.trans (xinc2 dX12_laysLongest_134 ci_1 rfl (Nat.le_of_ble_eq_true rfl) rfl) ?_
  refine Eq.trans (go_to (tgt := 17) dX12_laysLongest_137 (by decide +kernel)) ?_
  rfl
theorem q_X12_laysLongest_59 {call : CALL} {L X : Nat} {I : Nat → Nat → Int32} {J : Nat → Nat → Int64} {x1 : Int32} {x2 : Int32} {x3 : Int32} {s0 : Int32} : runI call iX12_laysLongest (59, [some (.ref 72), some (.int x1), some (.int x2), some (.int x3)], [.int s0], (mm L X I J)) = if s0 = (nI 0) then runI call iX12_laysLongest (134, [some (.ref 72), some (.int x1), some (.int x2), some (.int x3)], [], (mm L X I J)) else bndN (call nX12_has [.int x1, .int (x3 / (nI 2))] (mm L X I J)) (fun v m' => runI call iX12_laysLongest (69, [some (.ref 72), some (.int x1), some (.int x2), some (.int x3)], v.toList ++ [], m')) := by
  refine Eq.trans (if_eq (tgt := 134) dX12_laysLongest_59 (by decide +kernel)) (ite_cong (fun _ => ?_) (fun _ => ?_))
  · rfl
  · refine Eq.trans (st1 dX12_laysLongest_62 rfl rfl) ?_
    refine Eq.trans (st1 dX12_laysLongest_63 rfl rfl) ?_
    refine Eq.trans (xiconst dX12_laysLongest_64 ci_2) ?_
    refine Eq.trans (idv dX12_laysLongest_65 (by decide +kernel)) ?_
    exact is2 dX12_laysLongest_66 cp_12_366 (Nat.le_of_ble_eq_true rfl) rfl rfl (Nat.le_of_ble_eq_true rfl)
theorem q_X12_laysLongest_69 {call : CALL} {L X : Nat} {I : Nat → Nat → Int32} {J : Nat → Nat → Int64} {x1 : Int32} {x2 : Int32} {x3 : Int32} {s0 : Int32} : runI call iX12_laysLongest (69, [some (.ref 72), some (.int x1), some (.int x2), some (.int x3)], [.int s0], (mm L X I J)) = if s0 = (nI 0) then bnd (call nX12_isNext [.ref 72, .int x2, .int x3] (mm L X I J)) (fun v m' => runI call iX12_laysLongest (78, [some (.ref 72), some (.int x1), some (.int x2), some (.int x3)], v.toList ++ [], m')) else runI call iX12_laysLongest (128, [some (.ref 72), some (.int x1), some (.int x2), some (.int x3)], [], (mm L X I J)) := by
  refine Eq.trans (if_ne (tgt := 128) dX12_laysLongest_69 (by decide +kernel)) (ite_cong (fun _ => ?_) (fun _ => ?_))
  · refine Eq.trans (st1 dX12_laysLongest_72 rfl rfl) ?_
    refine Eq.trans (st1 dX12_laysLongest_73 rfl rfl) ?_
    refine Eq.trans (st1 dX12_laysLongest_74 rfl rfl) ?_
    exact iv0 dX12_laysLongest_75 rfl cp_12_369 rfl rfl (kd_ka ka_72) ka_72.1 (Nat.le_of_ble_eq_true rfl)
  · rfl
theorem q_X12_laysLongest_128 {call : CALL} {L X : Nat} {I : Nat → Nat → Int32} {J : Nat → Nat → Int64} {x1 : Int32} {x2 : Int32} {x3 : Int32} : runI call iX12_laysLongest (128, [some (.ref 72), some (.int x1), some (.int x2), some (.int x3)], [], (mm L X I J)) = runI call iX12_laysLongest (40, [some (.ref 72), some (.int x1), some (.int x2), some (.int (x3 + (nI 1)))], [], (mm L X I J)) := by
  refine Eq.trans (xinc2 dX12_laysLongest_128 ci_1 rfl (Nat.le_of_ble_eq_true rfl) rfl) ?_
  refine Eq.trans (go_to (tgt := 40) dX12_laysLongest_131 (by decide +kernel)) ?_
  rfl
theorem q_X12_laysLongest_78 {call : CALL} {L X : Nat} {I : Nat → Nat → Int32} {J : Nat → Nat → Int64} {x1 : Int32} {x2 : Int32} {x3 : Int32} {s0 : Int32} : runI call iX12_laysLongest (78, [some (.ref 72), some (.int x1), some (.int x2), some (.int x3)], [.int s0], (mm L X I J)) = if s0 = (nI 0) then runI call iX12_laysLongest (128, [some (.ref 72), some (.int x1), some (.int x2), some (.int x3)], [], (mm L X I J)) else gd (inb x1 64) (gd (inb x2 12) (gd (inb (x3 / (nI 2)) 6) (gd (inb (x1 ||| ((nI 1) <<< ((x3 / (nI 2)) &&& 31))) 64) (gd (inb x3 12) (bndN (call nX12_more [.int (I (558 + (x1).toNatClampNeg) (x2).toNatClampNeg), .int ((I (85 + ((x3 / (nI 2))).toNatClampNeg) 0) + (I (558 + ((x1 ||| ((nI 1) <<< ((x3 / (nI 2)) &&& 31)))).toNatClampNeg) (x3).toNatClampNeg))] (mm L X I J)) (fun v m' => runI call iX12_laysLongest (127, [some (.ref 72), some (.int x1), some (.int x2), some (.int x3)], v.toList ++ [.int x2, .ref (558 + (x1).toNatClampNeg)], m'))))))) := by
  refine Eq.trans (if_ne (tgt := 84) dX12_laysLongest_78 (by decide +kernel)) (ite_cong (fun _ => ?_) (fun _ => ?_))
  · refine Eq.trans (go_to (tgt := 128) dX12_laysLongest_81 (by decide +kernel)) ?_
    rfl
  · refine Eq.trans (st1 dX12_laysLongest_84 rfl rfl) ?_
    refine Eq.trans (getRm dX12_laysLongest_85 cp_12_82 ka_72 rfl r_72_43) ?_
    refine Eq.trans (st1 dX12_laysLongest_88 rfl rfl) ?_
    refine Eq.trans (al4m dX12_laysLongest_89 ka_557 rr_557) (gd_congr fun g1 => ?_)
    refine Eq.trans (st1 dX12_laysLongest_90 rfl rfl) ?_
    refine Eq.trans (st1 dX12_laysLongest_91 rfl rfl) ?_
    refine Eq.trans (getRm dX12_laysLongest_92 cp_12_82 ka_72 rfl r_72_43) ?_
    refine Eq.trans (st1 dX12_laysLongest_95 rfl rfl) ?_
    refine Eq.trans (al4m dX12_laysLongest_96 ka_557 rr_557) (Eq.trans (gd_t g1) ?_)
    refine Eq.trans (st1 dX12_laysLongest_97 rfl rfl) ?_
    refine Eq.trans (al1m dX12_laysLongest_98 (kr_557 (inb_lt g1))) (gd_congr fun g2 => ?_)
    refine Eq.trans (st1 dX12_laysLongest_99 rfl rfl) ?_
    refine Eq.trans (getRm dX12_laysLongest_100 cp_12_31 ka_72 rfl r_72_14) ?_
    refine Eq.trans (st1 dX12_laysLongest_103 rfl rfl) ?_
    refine Eq.trans (xiconst dX12_laysLongest_104 ci_2) ?_
    refine Eq.trans (idv dX12_laysLongest_105 (by decide +kernel)) ?_
    refine Eq.trans (al4m dX12_laysLongest_106 ka_84 rr_84) (gd_congr fun g3 => ?_)
    refine Eq.trans (xiconst dX12_laysLongest_107 ci_0) ?_
    refine Eq.trans (al1c dX12_laysLongest_108 (kr_84 (inb_lt g3)) (by decide +kernel) nc_0) ?_
    refine Eq.trans (st1 dX12_laysLongest_109 rfl rfl) ?_
    refine Eq.trans (getRm dX12_laysLongest_110 cp_12_82 ka_72 rfl r_72_43) ?_
    refine Eq.trans (st1 dX12_laysLongest_113 rfl rfl) ?_
    refine Eq.trans (xiconst dX12_laysLongest_114 ci_1) ?_
    refine Eq.trans (st1 dX12_laysLongest_115 rfl rfl) ?_
    refine Eq.trans (xiconst dX12_laysLongest_116 ci_2) ?_
    refine Eq.trans (idv dX12_laysLongest_117 (by decide +kernel)) ?_
    refine Eq.trans (st1 dX12_laysLongest_118 rfl rfl) ?_
    refine Eq.trans (st1 dX12_laysLongest_119 rfl rfl) ?_
    refine Eq.trans (al4m dX12_laysLongest_120 ka_557 rr_557) (gd_congr fun g4 => ?_)
    refine Eq.trans (st1 dX12_laysLongest_121 rfl rfl) ?_
    refine Eq.trans (al1m dX12_laysLongest_122 (kr_557 (inb_lt g4))) (gd_congr fun g5 => ?_)
    refine Eq.trans (st1 dX12_laysLongest_123 rfl rfl) ?_
    exact is2 dX12_laysLongest_124 cp_12_248 (Nat.le_of_ble_eq_true rfl) rfl rfl (Nat.le_of_ble_eq_true rfl)
theorem q_X12_laysLongest_127 {call : CALL} {L X : Nat} {I : Nat → Nat → Int32} {J : Nat → Nat → Int64} {x1 : Int32} {x2 : Int32} {x3 : Int32} {q0 : Nat} {s1 : Int32} {s2 : Int32} (kq0 : ka q0 1 12) : runI call iX12_laysLongest (127, [some (.ref 72), some (.int x1), some (.int x2), some (.int x3)], [.int s2, .int s1, .ref q0], (mm L X I J)) = gd (inb s1 12) (runI call iX12_laysLongest (128, [some (.ref 72), some (.int x1), some (.int x2), some (.int x3)], [], (mm L X (up2 I q0 (s1).toNatClampNeg s2) J))) := by
  refine Eq.trans (as1m dX12_laysLongest_127 kq0) (gd_congr fun g1 => ?_)
  rfl
theorem q_X12_has_0 {call : CALL} {L X : Nat} {I : Nat → Nat → Int32} {J : Nat → Nat → Int64} {x0 : Int32} {x1 : Int32} : runI call iX12_has (0, [some (.int x0), some (.int x1)], [], (mm L X I J)) = if ((x0 >>> (x1 &&& 31)) &&& (nI 1)) = (nI 1) then some (.inl (some (.int (nI 1))), (mm L X I J)) else some (.inl (some (.int (nI 0))), (mm L X I J)) := by
  refine Eq.trans (st1 dX12_has_0 rfl rfl) ?_
  refine Eq.trans (st1 dX12_has_1 rfl rfl) ?_
  refine Eq.trans (st1 dX12_has_2 rfl rfl) ?_
  refine Eq.trans (xiconst dX12_has_3 ci_1) ?_
  refine Eq.trans (st1 dX12_has_4 rfl rfl) ?_
  refine Eq.trans (xiconst dX12_has_5 ci_1) ?_
  refine Eq.trans (ic_ne (tgt := 13) dX12_has_6 (by decide +kernel)) (ite_cong (fun _ => ?_) (fun _ => ?_))
  · refine Eq.trans (xiconst dX12_has_9 ci_1) ?_
    refine Eq.trans (go_to (tgt := 14) dX12_has_10 (by decide +kernel)) ?_
    exact ret1 dX12_has_14 rfl (.inr rfl)
  · refine Eq.trans (xiconst dX12_has_13 ci_0) ?_
    exact ret1 dX12_has_14 rfl (.inl rfl)
theorem q_X12_isNext_0 {call : CALL} {L X : Nat} {I : Nat → Nat → Int32} {J : Nat → Nat → Int64} {x1 : Int32} {x2 : Int32} : runI call iX12_isNext (0, [some (.ref 72), some (.int x1), some (.int x2)], [], (mm L X I J)) = if x1 = (-1 : Int32) then some (.inl (some (.int (nI 1))), (mm L X I J)) else bnd (call nX12_footOf [.ref 72, .int (x1 / (nI 2)), .int (x1 - x1 / (nI 2) * (nI 2))] (mm L X I J)) (fun v m' => runI call iX12_isNext (16, [some (.ref 72), some (.int x1), some (.int x2)], v.toList ++ [.ref 72], m')) := by
  refine Eq.trans (st1 dX12_isNext_0 rfl rfl) ?_
  refine Eq.trans (xiconst dX12_isNext_1 ci_m1) ?_
  refine Eq.trans (ic_eq (tgt := 32) dX12_isNext_2 (by decide +kernel)) (ite_cong (fun _ => ?_) (fun _ => ?_))
  · refine Eq.trans (xiconst dX12_isNext_32 ci_1) ?_
    refine Eq.trans (go_to (tgt := 37) dX12_isNext_33 (by decide +kernel)) ?_
    exact ret1 dX12_isNext_37 rfl (.inr rfl)
  · refine Eq.trans (st1 dX12_isNext_5 rfl rfl) ?_
    refine Eq.trans (st1 dX12_isNext_6 rfl rfl) ?_
    refine Eq.trans (st1 dX12_isNext_7 rfl rfl) ?_
    refine Eq.trans (xiconst dX12_isNext_8 ci_2) ?_
    refine Eq.trans (idv dX12_isNext_9 (by decide +kernel)) ?_
    refine Eq.trans (st1 dX12_isNext_10 rfl rfl) ?_
    refine Eq.trans (xiconst dX12_isNext_11 ci_2) ?_
    refine Eq.trans (irm dX12_isNext_12 (by decide +kernel)) ?_
    exact iv0 dX12_isNext_13 rfl cp_12_272 rfl rfl (kd_ka ka_72) ka_72.1 (Nat.le_of_ble_eq_true rfl)
theorem q_X12_isNext_16 {call : CALL} {L X : Nat} {I : Nat → Nat → Int32} {J : Nat → Nat → Int64} {u1 : Option Value} {x2 : Int32} {s1 : Int32} : runI call iX12_isNext (16, [some (.ref 72), u1, some (.int x2)], [.int s1, .ref 72], (mm L X I J)) = bnd (call nX12_headOf [.ref 72, .int (x2 / (nI 2)), .int (x2 - x2 / (nI 2) * (nI 2))] (mm L X I J)) (fun v m' => runI call iX12_isNext (26, [some (.ref 72), u1, some (.int x2)], v.toList ++ [.int s1, .ref 72], m')) := by
  refine Eq.trans (st1 dX12_isNext_16 rfl rfl) ?_
  refine Eq.trans (st1 dX12_isNext_17 rfl rfl) ?_
  refine Eq.trans (xiconst dX12_isNext_18 ci_2) ?_
  refine Eq.trans (idv dX12_isNext_19 (by decide +kernel)) ?_
  refine Eq.trans (st1 dX12_isNext_20 rfl rfl) ?_
  refine Eq.trans (xiconst dX12_isNext_21 ci_2) ?_
  refine Eq.trans (irm dX12_isNext_22 (by decide +kernel)) ?_
  exact iv0 dX12_isNext_23 rfl cp_12_275 rfl rfl (kd_ka ka_72) ka_72.1 (Nat.le_of_ble_eq_true rfl)
theorem q_X12_isNext_26 {call : CALL} {L X : Nat} {I : Nat → Nat → Int32} {J : Nat → Nat → Int64} {u0 : Option Value} {u1 : Option Value} {u2 : Option Value} {s1 : Int32} {s2 : Int32} : runI call iX12_isNext (26, [u0, u1, u2], [.int s2, .int s1, .ref 72], (mm L X I J)) = bnd (call nX12_isJoined [.ref 72, .int s1, .int s2] (mm L X I J)) (fun v m' => runI call iX12_isNext (29, [u0, u1, u2], v.toList ++ [], m')) := by
  exact iv0 dX12_isNext_26 rfl cp_12_278 rfl rfl (kd_ka ka_72) ka_72.1 (Nat.le_of_ble_eq_true rfl)
theorem q_X12_isNext_29 {call : CALL} {L X : Nat} {I : Nat → Nat → Int32} {J : Nat → Nat → Int64} {u0 : Option Value} {u1 : Option Value} {u2 : Option Value} {s0 : Int32} : runI call iX12_isNext (29, [u0, u1, u2], [.int s0], (mm L X I J)) = if s0 = (nI 0) then some (.inl (some (.int (nI 0))), (mm L X I J)) else some (.inl (some (.int (nI 1))), (mm L X I J)) := by
  refine Eq.trans (if_eq (tgt := 36) dX12_isNext_29 (by decide +kernel)) (ite_cong (fun _ => ?_) (fun _ => ?_))
  · refine Eq.trans (xiconst dX12_isNext_36 ci_0) ?_
    exact ret1 dX12_isNext_37 rfl (.inl rfl)
  · refine Eq.trans (xiconst dX12_isNext_32 ci_1) ?_
    refine Eq.trans (go_to (tgt := 37) dX12_isNext_33 (by decide +kernel)) ?_
    exact ret1 dX12_isNext_37 rfl (.inr rfl)
theorem q_X12_chained_0 {call : CALL} {L X : Nat} {I : Nat → Nat → Int32} {J : Nat → Nat → Int64} {x1 : Int32} : runI call iX12_chained (0, [some (.ref 72), some (.int x1)], [], (mm L X I J)) = if (nI 0) ≤ x1 then runI call iX12_chained (15, [some (.ref 72), some (.int x1)], [.int (nI 0), .ref 72], (mm L X (up2 I 72 0 (nI 0)) J)) else runI call iX12_chained (15, [some (.ref 72), some (.int x1)], [.int (nI 1), .ref 72], (mm L X (up2 I 72 0 (nI 0)) J)) := by
  refine Eq.trans (st1 dX12_chained_0 rfl rfl) ?_
  refine Eq.trans (xiconst dX12_chained_1 ci_0) ?_
  refine Eq.trans (putIm dX12_chained_2 cp_12_103 ka_72 rfl) ?_
  refine Eq.trans (st1 dX12_chained_5 rfl rfl) ?_
  refine Eq.trans (st1 dX12_chained_6 rfl rfl) ?_
  refine Eq.trans (if_ge (tgt := 14) dX12_chained_7 (by decide +kernel)) (ite_cong (fun _ => ?_) (fun _ => ?_))
  · refine Eq.trans (xiconst dX12_chained_14 ci_0) ?_
    rfl
  · refine Eq.trans (xiconst dX12_chained_10 ci_1) ?_
    refine Eq.trans (go_to (tgt := 15) dX12_chained_11 (by decide +kernel)) ?_
    rfl
theorem q_X12_chained_15 {call : CALL} {L X : Nat} {I : Nat → Nat → Int32} {J : Nat → Nat → Int64} {x1 : Int32} {s1 : Int32} : runI call iX12_chained (15, [some (.ref 72), some (.int x1)], [.int s1, .ref 72], (mm L X I J)) = bnd (call nX12_bad [.ref 72, .int s1, .int (nI 1), .int (nI 1)] (mm L X I J)) (fun v m' => runI call iX12_chained (20, [some (.ref 72), some (.int x1)], v.toList ++ [], m')) := by
  refine Eq.trans (xiconst dX12_chained_15 ci_1) ?_
  refine Eq.trans (xiconst dX12_chained_16 ci_1) ?_
  exact iv0 dX12_chained_17 rfl cp_12_182 rfl rfl (kd_ka ka_72) ka_72.1 (Nat.le_of_ble_eq_true rfl)
theorem q_X12_chained_20 {call : CALL} {L X : Nat} {I : Nat → Nat → Int32} {J : Nat → Nat → Int64} {x1 : Int32} {s0 : Int32} : runI call iX12_chained (20, [some (.ref 72), some (.int x1)], [.int s0], (mm L X I J)) = if s0 = (nI 0) then bnd (call nX12_chains [.ref 72] (mm L X I J)) (fun v m' => runI call iX12_chained (29, [some (.ref 72), some (.int x1)], v.toList ++ [], m')) else some (.inl (some (.int (nI 0))), (mm L X I J)) := by
  refine Eq.trans (if_eq (tgt := 25) dX12_chained_20 (by decide +kernel)) (ite_cong (fun _ => ?_) (fun _ => ?_))
  · refine Eq.trans (st1 dX12_chained_25 rfl rfl) ?_
    exact iv0 dX12_chained_26 rfl cp_12_381 rfl rfl (kd_ka ka_72) ka_72.1 (Nat.le_of_ble_eq_true rfl)
  · refine Eq.trans (xiconst dX12_chained_23 ci_0) ?_
    exact ret0 dX12_chained_24 rfl
theorem q_X12_chained_29 {call : CALL} {L X : Nat} {I : Nat → Nat → Int32} {J : Nat → Nat → Int64} {x1 : Int32} : runI call iX12_chained (29, [some (.ref 72), some (.int x1)], [], (mm L X I J)) = if (I 72 45) ≤ x1 then some (.inl (some (.int (-1 : Int32))), (mm L X I J)) else gd (inb x1 6) (some (.inl (some (.int (I 622 (x1).toNatClampNeg))), (mm L X I J))) := by
  refine Eq.trans (st1 dX12_chained_29 rfl rfl) ?_
  refine Eq.trans (st1 dX12_chained_30 rfl rfl) ?_
  refine Eq.trans (getIm dX12_chained_31 cp_12_375 ka_72 (.inl rfl)) ?_
  refine Eq.trans (ic_ge (tgt := 46) dX12_chained_34 (by decide +kernel)) (ite_cong (fun _ => ?_) (fun _ => ?_))
  · refine Eq.trans (xiconst dX12_chained_46 ci_m1) ?_
    exact ret0 dX12_chained_47 rfl
  · refine Eq.trans (st1 dX12_chained_37 rfl rfl) ?_
    refine Eq.trans (getRm dX12_chained_38 cp_12_85 ka_72 rfl r_72_44) ?_
    refine Eq.trans (st1 dX12_chained_41 rfl rfl) ?_
    refine Eq.trans (al1m dX12_chained_42 ka_622) (gd_congr fun g1 => ?_)
    refine Eq.trans (go_to (tgt := 47) dX12_chained_43 (by decide +kernel)) ?_
    exact ret0 dX12_chained_47 rfl
theorem q_X12_joiner_0 {call : CALL} {L X : Nat} {I : Nat → Nat → Int32} {J : Nat → Nat → Int64} {x1 : Int32} : runI call iX12_joiner (0, [some (.ref 72), some (.int x1), none, none, none, none], [], (mm L X I J)) = bndN (call nX12_in [.int x1, .int (nI 0), .int (nI 1)] (mm L X (up2 I 72 0 (nI 0)) J)) (fun v m' => runI call iX12_joiner (12, [some (.ref 72), some (.int x1), none, none, none, none], v.toList ++ [.ref 72], m')) := by
  refine Eq.trans (st1 dX12_joiner_0 rfl rfl) ?_
  refine Eq.trans (xiconst dX12_joiner_1 ci_0) ?_
  refine Eq.trans (putIm dX12_joiner_2 cp_12_103 ka_72 rfl) ?_
  refine Eq.trans (st1 dX12_joiner_5 rfl rfl) ?_
  refine Eq.trans (st1 dX12_joiner_6 rfl rfl) ?_
  refine Eq.trans (xiconst dX12_joiner_7 ci_0) ?_
  refine Eq.trans (xiconst dX12_joiner_8 ci_1) ?_
  exact is2 dX12_joiner_9 cp_12_137 (Nat.le_of_ble_eq_true rfl) rfl rfl (Nat.le_of_ble_eq_true rfl)
theorem q_X12_joiner_12 {call : CALL} {L X : Nat} {I : Nat → Nat → Int32} {J : Nat → Nat → Int64} {x1 : Int32} {u2 : Option Value} {u3 : Option Value} {u4 : Option Value} {u5 : Option Value} {s1 : Int32} : runI call iX12_joiner (12, [some (.ref 72), some (.int x1), u2, u3, u4, u5], [.int s1, .ref 72], (mm L X I J)) = if s1 = (nI 0) then runI call iX12_joiner (20, [some (.ref 72), some (.int x1), u2, u3, u4, u5], [.int (nI 1), .ref 72], (mm L X I J)) else runI call iX12_joiner (20, [some (.ref 72), some (.int x1), u2, u3, u4, u5], [.int (nI 0), .ref 72], (mm L X I J)) := by
  refine Eq.trans (if_ne (tgt := 19) dX12_joiner_12 (by decide +kernel)) (ite_cong (fun _ => ?_) (fun _ => ?_))
  · refine Eq.trans (xiconst dX12_joiner_15 ci_1) ?_
    refine Eq.trans (go_to (tgt := 20) dX12_joiner_16 (by decide +kernel)) ?_
    rfl
  · refine Eq.trans (xiconst dX12_joiner_19 ci_0) ?_
    rfl
theorem q_X12_joiner_20 {call : CALL} {L X : Nat} {I : Nat → Nat → Int32} {J : Nat → Nat → Int64} {x1 : Int32} {u2 : Option Value} {u3 : Option Value} {u4 : Option Value} {u5 : Option Value} {s1 : Int32} : runI call iX12_joiner (20, [some (.ref 72), some (.int x1), u2, u3, u4, u5], [.int s1, .ref 72], (mm L X I J)) = bnd (call nX12_bad [.ref 72, .int s1, .int (nI 1), .int (nI 1)] (mm L X I J)) (fun v m' => runI call iX12_joiner (25, [some (.ref 72), some (.int x1), u2, u3, u4, u5], v.toList ++ [], m')) := by
  refine Eq.trans (xiconst dX12_joiner_20 ci_1) ?_
  refine Eq.trans (xiconst dX12_joiner_21 ci_1) ?_
  exact iv0 dX12_joiner_22 rfl cp_12_182 rfl rfl (kd_ka ka_72) ka_72.1 (Nat.le_of_ble_eq_true rfl)
theorem q_X12_joiner_25 {call : CALL} {L X : Nat} {I : Nat → Nat → Int32} {J : Nat → Nat → Int64} {x1 : Int32} {u2 : Option Value} {u3 : Option Value} {u4 : Option Value} {u5 : Option Value} {s0 : Int32} : runI call iX12_joiner (25, [some (.ref 72), some (.int x1), u2, u3, u4, u5], [.int s0], (mm L X I J)) = if s0 = (nI 0) then runI call iX12_joiner (37, [some (.ref 72), some (.int x1), some (.int (-1 : Int32)), some (.int (-1 : Int32)), some (.int (nI 0)), u5], [], (mm L X I J)) else some (.inl (some (.int (nI 0))), (mm L X I J)) := by
  refine Eq.trans (if_eq (tgt := 30) dX12_joiner_25 (by decide +kernel)) (ite_cong (fun _ => ?_) (fun _ => ?_))
  · refine Eq.trans (xiconst dX12_joiner_30 ci_m1) ?_
    refine Eq.trans (st1 dX12_joiner_31 rfl rfl) ?_
    refine Eq.trans (xiconst dX12_joiner_32 ci_m1) ?_
    refine Eq.trans (st1 dX12_joiner_33 rfl rfl) ?_
    refine Eq.trans (xiconst dX12_joiner_34 ci_0) ?_
    refine Eq.trans (st1 dX12_joiner_35 rfl rfl) ?_
    rfl
  · refine Eq.trans (xiconst dX12_joiner_28 ci_0) ?_
    exact ret0 dX12_joiner_29 rfl
theorem q_X12_joiner_37 {call : CALL} {L X : Nat} {I : Nat → Nat → Int32} {J : Nat → Nat → Int64} {x1 : Int32} {x2 : Int32} {x3 : Int32} {x4 : Int32} {u5 : Option Value} : runI call iX12_joiner (37, [some (.ref 72), some (.int x1), some (.int x2), some (.int x3), some (.int x4), u5], [], (mm L X I J)) = if (nI 10) ≤ x4 then if x1 = (nI 0) then some (.inl (some (.int x3)), (mm L X I J)) else some (.inl (some (.int x2)), (mm L X I J)) else runI call iX12_joiner (50, [some (.ref 72), some (.int x1), some (.int x2), some (.int x3), some (.int x4), some (.int (x4 + (nI 1)))], [], (mm L X I J)) := by
  refine Eq.trans (st1 dX12_joiner_37 rfl rfl) ?_
  refine Eq.trans (xbipush dX12_joiner_39 cb_10) ?_
  refine Eq.trans (ic_ge (tgt := 158) dX12_joiner_41 (by decide +kernel)) (ite_cong (fun _ => ?_) (fun _ => ?_))
  · refine Eq.trans (st1 dX12_joiner_158 rfl rfl) ?_
    refine Eq.trans (if_ne (tgt := 166) dX12_joiner_159 (by decide +kernel)) (ite_cong (fun _ => ?_) (fun _ => ?_))
    · refine Eq.trans (st1 dX12_joiner_162 rfl rfl) ?_
      refine Eq.trans (go_to (tgt := 167) dX12_joiner_163 (by decide +kernel)) ?_
      exact ret0 dX12_joiner_167 rfl
    · refine Eq.trans (st1 dX12_joiner_166 rfl rfl) ?_
      exact ret0 dX12_joiner_167 rfl
  · refine Eq.trans (st1 dX12_joiner_44 rfl rfl) ?_
    refine Eq.trans (xiconst dX12_joiner_46 ci_1) ?_
    refine Eq.trans (st1 dX12_joiner_47 rfl rfl) ?_
    refine Eq.trans (st1 dX12_joiner_48 rfl rfl) ?_
    rfl
theorem q_X12_joiner_50 {call : CALL} {L X : Nat} {I : Nat → Nat → Int32} {J : Nat → Nat → Int64} {x1 : Int32} {x2 : Int32} {x3 : Int32} {x4 : Int32} {x5 : Int32} : runI call iX12_joiner (50, [some (.ref 72), some (.int x1), some (.int x2), some (.int x3), some (.int x4), some (.int x5)], [], (mm L X I J)) = if (nI 10) ≤ x5 then runI call iX12_joiner (37, [some (.ref 72), some (.int x1), some (.int x2), some (.int x3), some (.int (x4 + (nI 1))), some (.int x5)], [], (mm L X I J)) else bnd (call nX12_isJoined [.ref 72, .int x4, .int x5] (mm L X I J)) (fun v m' => runI call iX12_joiner (65, [some (.ref 72), some (.int x1), some (.int x2), some (.int x3), some (.int x4), some (.int x5)], v.toList ++ [], m')) := by
  refine Eq.trans (st1 dX12_joiner_50 rfl rfl) ?_
  refine Eq.trans (xbipush dX12_joiner_52 cb_10) ?_
  refine Eq.trans (ic_ge (tgt := 152) dX12_joiner_54 (by decide +kernel)) (ite_cong (fun _ => ?_) (fun _ => ?_))
  · refine Eq.trans (xinc2 dX12_joiner_152 ci_1 rfl (Nat.le_of_ble_eq_true rfl) rfl) ?_
    refine Eq.trans (go_to (tgt := 37) dX12_joiner_155 (by decide +kernel)) ?_
    rfl
  · refine Eq.trans (st1 dX12_joiner_57 rfl rfl) ?_
    refine Eq.trans (st1 dX12_joiner_58 rfl rfl) ?_
    refine Eq.trans (st1 dX12_joiner_60 rfl rfl) ?_
    exact iv0 dX12_joiner_62 rfl cp_12_278 rfl rfl (kd_ka ka_72) ka_72.1 (Nat.le_of_ble_eq_true rfl)
theorem q_X12_joiner_65 {call : CALL} {L X : Nat} {I : Nat → Nat → Int32} {J : Nat → Nat → Int64} {x1 : Int32} {x2 : Int32} {x3 : Int32} {x4 : Int32} {x5 : Int32} {s0 : Int32} : runI call iX12_joiner (65, [some (.ref 72), some (.int x1), some (.int x2), some (.int x3), some (.int x4), some (.int x5)], [.int s0], (mm L X I J)) = if s0 = (nI 0) then gd (inb (I 72 39) 5) (gd (inb ((up2 I (97 + ((I 72 39)).toNatClampNeg) 0 x4) 72 39) 5) (bnd (call nX12_chains [.ref 72] (mm L X (up2 (up2 (up2 I (97 + ((I 72 39)).toNatClampNeg) 0 x4) (97 + (((up2 I (97 + ((I 72 39)).toNatClampNeg) 0 x4) 72 39)).toNatClampNeg) 1 x5) 72 39 (((up2 (up2 I (97 + ((I 72 39)).toNatClampNeg) 0 x4) (97 + (((up2 I (97 + ((I 72 39)).toNatClampNeg) 0 x4) 72 39)).toNatClampNeg) 1 x5) 72 39) + (nI 1))) J)) (fun v m' => runI call iX12_joiner (111, [some (.ref 72), some (.int x1), some (.int x2), some (.int x3), some (.int x4), some (.int x5)], v.toList ++ [], m')))) else runI call iX12_joiner (146, [some (.ref 72), some (.int x1), some (.int x2), some (.int x3), some (.int x4), some (.int x5)], [], (mm L X I J)) := by
  refine Eq.trans (if_eq (tgt := 71) dX12_joiner_65 (by decide +kernel)) (ite_cong (fun _ => ?_) (fun _ => ?_))
  · refine Eq.trans (st1 dX12_joiner_71 rfl rfl) ?_
    refine Eq.trans (getRm dX12_joiner_72 cp_12_37 ka_72 rfl r_72_16) ?_
    refine Eq.trans (st1 dX12_joiner_75 rfl rfl) ?_
    refine Eq.trans (getIm dX12_joiner_76 cp_12_199 ka_72 (.inl rfl)) ?_
    refine Eq.trans (al4m dX12_joiner_79 ka_96 rr_96) (gd_congr fun g1 => ?_)
    refine Eq.trans (xiconst dX12_joiner_80 ci_0) ?_
    refine Eq.trans (st1 dX12_joiner_81 rfl rfl) ?_
    refine Eq.trans (as1c dX12_joiner_83 (kr_96 (inb_lt g1)) (by decide +kernel) nc_0) ?_
    refine Eq.trans (st1 dX12_joiner_84 rfl rfl) ?_
    refine Eq.trans (getRm dX12_joiner_85 cp_12_37 ka_72 rfl r_72_16) ?_
    refine Eq.trans (st1 dX12_joiner_88 rfl rfl) ?_
    refine Eq.trans (getIm dX12_joiner_89 cp_12_199 ka_72 (.inl rfl)) ?_
    refine Eq.trans (al4m dX12_joiner_92 ka_96 rr_96) (gd_congr fun g2 => ?_)
    refine Eq.trans (xiconst dX12_joiner_93 ci_1) ?_
    refine Eq.trans (st1 dX12_joiner_94 rfl rfl) ?_
    refine Eq.trans (as1c dX12_joiner_96 (kr_96 (inb_lt g2)) (by decide +kernel) nc_1) ?_
    refine Eq.trans (st1 dX12_joiner_97 rfl rfl) ?_
    refine Eq.trans (st1 dX12_joiner_98 rfl rfl) ?_
    refine Eq.trans (getIm dX12_joiner_99 cp_12_199 ka_72 (.inl rfl)) ?_
    refine Eq.trans (xiconst dX12_joiner_102 ci_1) ?_
    refine Eq.trans (st1 dX12_joiner_103 rfl rfl) ?_
    refine Eq.trans (putIm dX12_joiner_104 cp_12_199 ka_72 rfl) ?_
    refine Eq.trans (st1 dX12_joiner_107 rfl rfl) ?_
    exact iv0 dX12_joiner_108 rfl cp_12_381 rfl rfl (kd_ka ka_72) ka_72.1 (Nat.le_of_ble_eq_true rfl)
  · refine Eq.trans (go_to (tgt := 146) dX12_joiner_68 (by decide +kernel)) ?_
    rfl
theorem q_X12_joiner_111 {call : CALL} {L X : Nat} {I : Nat → Nat → Int32} {J : Nat → Nat → Int64} {x1 : Int32} {x2 : Int32} {x3 : Int32} {x4 : Int32} {x5 : Int32} : runI call iX12_joiner (111, [some (.ref 72), some (.int x1), some (.int x2), some (.int x3), some (.int x4), some (.int x5)], [], (mm L X I J)) = if x3 < ((up2 I 72 39 ((I 72 39) - (nI 1))) 72 46) then runI call iX12_joiner (146, [some (.ref 72), some (.int x1), some (.int (((nI 10) * x4) + x5)), some (.int ((up2 I 72 39 ((I 72 39) - (nI 1))) 72 46)), some (.int x4), some (.int x5)], [], (mm L X (up2 I 72 39 ((I 72 39) - (nI 1))) J)) else runI call iX12_joiner (146, [some (.ref 72), some (.int x1), some (.int x2), some (.int x3), some (.int x4), some (.int x5)], [], (mm L X (up2 I 72 39 ((I 72 39) - (nI 1))) J)) := by
  refine Eq.trans (st1 dX12_joiner_111 rfl rfl) ?_
  refine Eq.trans (st1 dX12_joiner_112 rfl rfl) ?_
  refine Eq.trans (getIm dX12_joiner_113 cp_12_199 ka_72 (.inl rfl)) ?_
  refine Eq.trans (xiconst dX12_joiner_116 ci_1) ?_
  refine Eq.trans (st1 dX12_joiner_117 rfl rfl) ?_
  refine Eq.trans (putIm dX12_joiner_118 cp_12_199 ka_72 rfl) ?_
  refine Eq.trans (st1 dX12_joiner_121 rfl rfl) ?_
  refine Eq.trans (getIm dX12_joiner_122 cp_12_378 ka_72 (.inl rfl)) ?_
  refine Eq.trans (st1 dX12_joiner_125 rfl rfl) ?_
  refine Eq.trans (ic_gt (tgt := 132) dX12_joiner_126 (by decide +kernel)) (ite_cong (fun _ => ?_) (fun _ => ?_))
  · refine Eq.trans (xbipush dX12_joiner_132 cb_10) ?_
    refine Eq.trans (st1 dX12_joiner_134 rfl rfl) ?_
    refine Eq.trans (st1 dX12_joiner_136 rfl rfl) ?_
    refine Eq.trans (st1 dX12_joiner_137 rfl rfl) ?_
    refine Eq.trans (st1 dX12_joiner_139 rfl rfl) ?_
    refine Eq.trans (st1 dX12_joiner_140 rfl rfl) ?_
    refine Eq.trans (st1 dX12_joiner_141 rfl rfl) ?_
    refine Eq.trans (getIm dX12_joiner_142 cp_12_378 ka_72 (.inl rfl)) ?_
    refine Eq.trans (st1 dX12_joiner_145 rfl rfl) ?_
    rfl
  · refine Eq.trans (go_to (tgt := 146) dX12_joiner_129 (by decide +kernel)) ?_
    rfl
theorem q_X12_joiner_146 {call : CALL} {L X : Nat} {I : Nat → Nat → Int32} {J : Nat → Nat → Int64} {x1 : Int32} {x2 : Int32} {x3 : Int32} {x4 : Int32} {x5 : Int32} : runI call iX12_joiner (146, [some (.ref 72), some (.int x1), some (.int x2), some (.int x3), some (.int x4), some (.int x5)], [], (mm L X I J)) = runI call iX12_joiner (50, [some (.ref 72), some (.int x1), some (.int x2), some (.int x3), some (.int x4), some (.int (x5 + (nI 1)))], [], (mm L X I J)) := by
  refine Eq.trans (xinc2 dX12_joiner_146 ci_1 rfl (Nat.le_of_ble_eq_true rfl) rfl) ?_
  refine Eq.trans (go_to (tgt := 50) dX12_joiner_149 (by decide +kernel)) ?_
  rfl
