/-! EQUATIONS OF THE METHODS (written by gen_eq.py) -/
theorem q_X1_joins_0 {call : CALL} {L X : Nat} {I : Nat → Nat → Int32} {J : Nat → Nat → Int64} {a0 : Nat} {x1 : Int32} {x2 : Int32} (h0 : oc1 a0) : runI call iX1_joins (0, [some (.ref a0), some (.int x1), some (.int x2)], [], (mm L X I J)) = bndN (call nX11_pick [.ref (a0 + 9), .int x1] (mm L X I J)) (fun v m' => runI call iX1_joins (8, [some (.ref a0), some (.int x1), some (.int x2)], v.toList ++ [], m')) := by
  refine Eq.trans (st1 dX1_joins_0 rfl rfl) ?_
  refine Eq.trans (getR dX1_joins_1 cp_1_36 (kd_ka (ks1_0 h0)) (ks1_0 h0).1 rfl (rs1_12 h0)) ?_
  refine Eq.trans (st1 dX1_joins_4 rfl rfl) ?_
  exact is3 dX1_joins_5 cp_1_106 (Nat.le_of_ble_eq_true rfl) rfl rfl (Nat.le_of_ble_eq_true rfl)
theorem q_X1_joins_8 {call : CALL} {L X : Nat} {I : Nat → Nat → Int32} {J : Nat → Nat → Int64} {u0 : Option Value} {u1 : Option Value} {x2 : Int32} {s0 : Int32} : runI call iX1_joins (8, [u0, u1, some (.int x2)], [.int s0], (mm L X I J)) = bndN (call nX11_bit [.int s0, .int x2] (mm L X I J)) (fun v m' => runI call iX1_joins (12, [u0, u1, some (.int x2)], v.toList ++ [], m')) := by
  refine Eq.trans (st1 dX1_joins_8 rfl rfl) ?_
  exact is3 dX1_joins_9 cp_1_128 (Nat.le_of_ble_eq_true rfl) rfl rfl (Nat.le_of_ble_eq_true rfl)
theorem q_X1_joins_12 {call : CALL} {L X : Nat} {I : Nat → Nat → Int32} {J : Nat → Nat → Int64} {u0 : Option Value} {u1 : Option Value} {u2 : Option Value} {s0 : Int32} : runI call iX1_joins (12, [u0, u1, u2], [.int s0], (mm L X I J)) = if s0 = (1 : Int32) then runI call iX1_joins (21, [u0, u1, u2], [.int (1 : Int32)], (mm L X I J)) else runI call iX1_joins (21, [u0, u1, u2], [.int (0 : Int32)], (mm L X I J)) := by
  refine Eq.trans (xiconst dX1_joins_12 ci_1) ?_
  refine Eq.trans (ic_ne (tgt := 20) dX1_joins_13 (by decide +kernel)) (ite_cong (fun _ => ?_) (fun _ => ?_))
  · refine Eq.trans (xiconst dX1_joins_16 ci_1) ?_
    refine Eq.trans (go_to (tgt := 21) dX1_joins_17 (by decide +kernel)) ?_
    rfl
  · refine Eq.trans (xiconst dX1_joins_20 ci_0) ?_
    rfl
theorem q_X1_joins_21 {call : CALL} {L X : Nat} {I : Nat → Nat → Int32} {J : Nat → Nat → Int64} {u0 : Option Value} {u1 : Option Value} {u2 : Option Value} {s0 : Int32} : runI call iX1_joins (21, [u0, u1, u2], [.int s0], (mm L X I J)) = gd (b01 s0) (some (.inl (some (.int s0)), (mm L X I J))) := by
  exact ret1g dX1_joins_21 rfl
theorem q_X3_placeOf_0 {call : CALL} {L X : Nat} {I : Nat → Nat → Int32} {J : Nat → Nat → Int64} {a0 : Nat} {x1 : Int32} (h0 : oc3 a0) : runI call iX3_placeOf (0, [some (.ref a0), some (.int x1), none], [], (mm L X I J)) = runI call iX3_placeOf (2, [some (.ref a0), some (.int x1), some (.int (0 : Int32))], [], (mm L X I J)) := by
  refine Eq.trans (xiconst dX3_placeOf_0 ci_0) ?_
  refine Eq.trans (st1 dX3_placeOf_1 rfl rfl) ?_
  rfl
theorem q_X3_placeOf_2 {call : CALL} {L X : Nat} {I : Nat → Nat → Int32} {J : Nat → Nat → Int64} {a0 : Nat} {x1 : Int32} {x2 : Int32} (h0 : oc3 a0) : runI call iX3_placeOf (2, [some (.ref a0), some (.int x1), some (.int x2)], [], (mm L X I J)) = if (I a0 5) ≤ x2 then runI call iX3_placeOf (34, [some (.ref a0), some (.int x1), some (.int x2)], [], (mm L X I J)) else if (6 : Int32) ≤ x2 then runI call iX3_placeOf (34, [some (.ref a0), some (.int x1), some (.int x2)], [], (mm L X I J)) else gd (inb x2 6) (if (I (a0 + 1) (x2).toNatClampNeg) = x1 then some (.inl (some (.int x2)), (mm L X I J)) else runI call iX3_placeOf (2, [some (.ref a0), some (.int x1), some (.int (x2 + (1 : Int32)))], [], (mm L X I J))) := by
  refine Eq.trans (st1 dX3_placeOf_2 rfl rfl) ?_
  refine Eq.trans (st1 dX3_placeOf_3 rfl rfl) ?_
  refine Eq.trans (getI dX3_placeOf_4 cp_3_34 (kd_ka (ks3_0 h0)) (ks3_0 h0).1 (.inl rfl)) ?_
  refine Eq.trans (ic_ge (tgt := 34) dX3_placeOf_7 (by decide +kernel)) (ite_cong (fun _ => ?_) (fun _ => ?_))
  · rfl
  · refine Eq.trans (st1 dX3_placeOf_10 rfl rfl) ?_
    refine Eq.trans (xbipush dX3_placeOf_11 cb_6) ?_
    refine Eq.trans (ic_ge (tgt := 34) dX3_placeOf_13 (by decide +kernel)) (ite_cong (fun _ => ?_) (fun _ => ?_))
    · rfl
    · refine Eq.trans (st1 dX3_placeOf_16 rfl rfl) ?_
      refine Eq.trans (getR dX3_placeOf_17 cp_3_9 (kd_ka (ks3_0 h0)) (ks3_0 h0).1 rfl (rs3_0 h0)) ?_
      refine Eq.trans (st1 dX3_placeOf_20 rfl rfl) ?_
      refine Eq.trans (al1 dX3_placeOf_21 (kd_ka (ks3_1 h0)) (ks3_1 h0).1) (gd_congr fun g1 => ?_)
      refine Eq.trans (st1 dX3_placeOf_22 rfl rfl) ?_
      refine Eq.trans (ic_ne (tgt := 28) dX3_placeOf_23 (by decide +kernel)) (ite_cong (fun _ => ?_) (fun _ => ?_))
      · refine Eq.trans (st1 dX3_placeOf_26 rfl rfl) ?_
        exact ret0 dX3_placeOf_27 rfl
      · refine Eq.trans (xinc2 dX3_placeOf_28 ci_1 rfl (Nat.le_of_ble_eq_true rfl) rfl) ?_
        refine Eq.trans (go_to (tgt := 2) dX3_placeOf_31 (by decide +kernel)) ?_
        rfl
theorem q_X3_placeOf_34 {call : CALL} {L X : Nat} {I : Nat → Nat → Int32} {J : Nat → Nat → Int64} {u0 : Option Value} {u1 : Option Value} {u2 : Option Value} : runI call iX3_placeOf (34, [u0, u1, u2], [], (mm L X I J)) = some (.inl (some (.int (-1 : Int32))), (mm L X I J)) := by
  refine Eq.trans (xiconst dX3_placeOf_34 ci_m1) ?_
  exact ret0 dX3_placeOf_35 rfl
theorem q_X12_footOf_0 {call : CALL} {L X : Nat} {I : Nat → Nat → Int32} {J : Nat → Nat → Int64} {x1 : Int32} {x2 : Int32} : runI call iX12_footOf (0, [some (.ref 72), some (.int x1), some (.int x2)], [], (mm L X I J)) = gd (inb x1 6) (gd (inb ((2 : Int32) - x2) 4) (some (.inl (some (.int (I (84 + 1 + (x1).toNatClampNeg) (((2 : Int32) - x2)).toNatClampNeg))), (mm L X I J)))) := by
  refine Eq.trans (st1 dX12_footOf_0 rfl rfl) ?_
  refine Eq.trans (getR dX12_footOf_1 cp_12_31 (kd_ka ka_72) ka_72.1 rfl r_72_14) ?_
  refine Eq.trans (st1 dX12_footOf_4 rfl rfl) ?_
  refine Eq.trans (al4 dX12_footOf_5 (kd_ka ka_84) ka_84.1 rr_84) (gd_congr fun g1 => ?_)
  refine Eq.trans (xiconst dX12_footOf_6 ci_2) ?_
  refine Eq.trans (st1 dX12_footOf_7 rfl rfl) ?_
  refine Eq.trans (st1 dX12_footOf_8 rfl rfl) ?_
  refine Eq.trans (al1 dX12_footOf_9 (kd_ka (kr_84 (inb_lt g1))) (kr_84 (inb_lt g1)).1) (gd_congr fun g2 => ?_)
  exact ret0 dX12_footOf_10 rfl
