/-! EQUATIONS OF THE METHODS (written by gen_eq.py) -/
theorem q_X0_clear_0 {call : CALL} {L X : Nat} {I : Nat → Nat → Int32} {J : Nat → Nat → Int64} {a0 : Nat} (h0 : oc0 a0) : runI call iX0_clear (0, [some (.ref a0)], [], (mm L X I J)) = bndN (call nJ7_fill_53178 [.ref (a0 + 1), .int (-1 : Int32)] (mm L X (up2 I a0 0 (nI 0)) J)) (fun v m' => runI call iX0_clear (13, [some (.ref a0)], v.toList ++ [], m')) := by
  refine Eq.trans (st1 dX0_clear_0 rfl rfl) ?_
  refine Eq.trans (xiconst dX0_clear_1 ci_0) ?_
  refine Eq.trans (putIm dX0_clear_2 cp_0_21 (ks0_0 h0) rfl) ?_
  refine Eq.trans (st1 dX0_clear_5 rfl rfl) ?_
  refine Eq.trans (getRm dX0_clear_6 cp_0_9 (ks0_0 h0) rfl (rs0_1 h0)) ?_
  refine Eq.trans (xiconst dX0_clear_9 ci_m1) ?_
  exact is2 dX0_clear_10 cp_0_25 (Nat.le_of_ble_eq_true rfl) rfl rfl (Nat.le_of_ble_eq_true rfl)
theorem q_X0_clear_13 {call : CALL} {L X : Nat} {I : Nat → Nat → Int32} {J : Nat → Nat → Int64} {u0 : Option Value} : runI call iX0_clear (13, [u0], [], (mm L X I J)) = some (.inl none, (mm L X I J)) := by
  exact ret3 dX0_clear_13 (.inl rfl)
theorem q_X0_readFrom_0 {call : CALL} {L X : Nat} {I : Nat → Nat → Int32} {J : Nat → Nat → Int64} {a0 : Nat} (h0 : oc0 a0) : runI call iX0_readFrom (0, [some (.ref a0), some (.ref 1), none], [], (mm L X I J)) = bnd (call nX0_clear [.ref a0] (mm L X I J)) (fun v m' => runI call iX0_readFrom (4, [some (.ref a0), some (.ref 1), none], v.toList ++ [], m')) := by
  refine Eq.trans (st1 dX0_readFrom_0 rfl rfl) ?_
  exact iv0 dX0_readFrom_1 rfl cp_0_18 rfl rfl (kd_ka (ks0_0 h0)) (ks0_0 h0).1 (Nat.le_of_ble_eq_true rfl)
theorem q_X0_readFrom_4 {call : CALL} {L X : Nat} {I : Nat → Nat → Int32} {J : Nat → Nat → Int64} {a0 : Nat} {u2 : Option Value} (h0 : oc0 a0) : runI call iX0_readFrom (4, [some (.ref a0), some (.ref 1), u2], [], (mm L X I J)) = runI call iX0_readFrom (6, [some (.ref a0), some (.ref 1), some (.int (nI 0))], [], (mm L X I J)) := by
  refine Eq.trans (xiconst dX0_readFrom_4 ci_0) ?_
  refine Eq.trans (st1 dX0_readFrom_5 rfl rfl) ?_
  rfl
theorem q_X0_readFrom_6 {call : CALL} {L X : Nat} {I : Nat → Nat → Int32} {J : Nat → Nat → Int64} {a0 : Nat} {x2 : Int32} (h0 : oc0 a0) : runI call iX0_readFrom (6, [some (.ref a0), some (.ref 1), some (.int x2)], [], (mm L X I J)) = if (nI 6) < x2 then some (.inl (some (.int (nI 0))), (mm L X I J)) else bnd (call nX7_peek [.ref 1] (mm L X I J)) (fun v m' => runI call iX0_readFrom (16, [some (.ref a0), some (.ref 1), some (.int x2)], v.toList ++ [], m')) := by
  refine Eq.trans (st1 dX0_readFrom_6 rfl rfl) ?_
  refine Eq.trans (xbipush dX0_readFrom_7 cb_6) ?_
  refine Eq.trans (ic_gt (tgt := 38) dX0_readFrom_9 (by decide +kernel)) (ite_cong (fun _ => ?_) (fun _ => ?_))
  · refine Eq.trans (xiconst dX0_readFrom_38 ci_0) ?_
    exact ret1 dX0_readFrom_39 rfl (.inl rfl)
  · refine Eq.trans (st1 dX0_readFrom_12 rfl rfl) ?_
    exact iv0 dX0_readFrom_13 rfl cp_0_37 rfl rfl (kd_ka ka_1) ka_1.1 (Nat.le_of_ble_eq_true rfl)
theorem q_X0_readFrom_16 {call : CALL} {L X : Nat} {I : Nat → Nat → Int32} {J : Nat → Nat → Int64} {a0 : Nat} {x2 : Int32} {s0 : Int32} (h0 : oc0 a0) : runI call iX0_readFrom (16, [some (.ref a0), some (.ref 1), some (.int x2)], [.int s0], (mm L X I J)) = if s0 = (-1 : Int32) then some (.inl (some (.int (nI 1))), (mm L X I J)) else bnd (call nX0_readLine [.ref a0, .ref 1] (mm L X I J)) (fun v m' => runI call iX0_readFrom (27, [some (.ref a0), some (.ref 1), some (.int x2)], v.toList ++ [], m')) := by
  refine Eq.trans (xiconst dX0_readFrom_16 ci_m1) ?_
  refine Eq.trans (ic_ne (tgt := 22) dX0_readFrom_17 (by decide +kernel)) (ite_cong (fun _ => ?_) (fun _ => ?_))
  · refine Eq.trans (xiconst dX0_readFrom_20 ci_1) ?_
    exact ret1 dX0_readFrom_21 rfl (.inr rfl)
  · refine Eq.trans (st1 dX0_readFrom_22 rfl rfl) ?_
    refine Eq.trans (st1 dX0_readFrom_23 rfl rfl) ?_
    exact iv0 dX0_readFrom_24 rfl cp_0_43 rfl rfl (kd_ka (ks0_0 h0)) (ks0_0 h0).1 (Nat.le_of_ble_eq_true rfl)
theorem q_X0_readFrom_27 {call : CALL} {L X : Nat} {I : Nat → Nat → Int32} {J : Nat → Nat → Int64} {a0 : Nat} {x2 : Int32} {s0 : Int32} (h0 : oc0 a0) : runI call iX0_readFrom (27, [some (.ref a0), some (.ref 1), some (.int x2)], [.int s0], (mm L X I J)) = if s0 = (nI 0) then some (.inl (some (.int (nI 0))), (mm L X I J)) else runI call iX0_readFrom (6, [some (.ref a0), some (.ref 1), some (.int (x2 + (nI 1)))], [], (mm L X I J)) := by
  refine Eq.trans (if_ne (tgt := 32) dX0_readFrom_27 (by decide +kernel)) (ite_cong (fun _ => ?_) (fun _ => ?_))
  · refine Eq.trans (xiconst dX0_readFrom_30 ci_0) ?_
    exact ret1 dX0_readFrom_31 rfl (.inl rfl)
  · refine Eq.trans (xinc2 dX0_readFrom_32 ci_1 rfl (Nat.le_of_ble_eq_true rfl) rfl) ?_
    refine Eq.trans (go_to (tgt := 6) dX0_readFrom_35 (by decide +kernel)) ?_
    rfl
theorem q_X0_readLine_0 {call : CALL} {L X : Nat} {I : Nat → Nat → Int32} {J : Nat → Nat → Int64} {a0 : Nat} (h0 : oc0 a0) : runI call iX0_readLine (0, [some (.ref a0), some (.ref 1), none], [], (mm L X I J)) = bnd (call nX7_numeral [.ref 1, .int (nI 0), .int (nI 5)] (mm L X I J)) (fun v m' => runI call iX0_readLine (6, [some (.ref a0), some (.ref 1), none], v.toList ++ [], m')) := by
  refine Eq.trans (st1 dX0_readLine_0 rfl rfl) ?_
  refine Eq.trans (xiconst dX0_readLine_1 ci_0) ?_
  refine Eq.trans (xiconst dX0_readLine_2 ci_5) ?_
  exact iv0 dX0_readLine_3 rfl cp_0_47 rfl rfl (kd_ka ka_1) ka_1.1 (Nat.le_of_ble_eq_true rfl)
theorem q_X0_readLine_6 {call : CALL} {L X : Nat} {I : Nat → Nat → Int32} {J : Nat → Nat → Int64} {a0 : Nat} {u2 : Option Value} {s0 : Int32} (h0 : oc0 a0) : runI call iX0_readLine (6, [some (.ref a0), some (.ref 1), u2], [.int s0], (mm L X I J)) = if s0 = (nI 0) then some (.inl (some (.int (nI 0))), (mm L X I J)) else bndN (call nX11_pick [.ref (a0 + 1), .int (I 1 4)] (mm L X I J)) (fun v m' => runI call iX0_readLine (24, [some (.ref a0), some (.ref 1), some (.int (I 1 4))], v.toList ++ [], m')) := by
  refine Eq.trans (if_ne (tgt := 11) dX0_readLine_6 (by decide +kernel)) (ite_cong (fun _ => ?_) (fun _ => ?_))
  · refine Eq.trans (xiconst dX0_readLine_9 ci_0) ?_
    exact ret1 dX0_readLine_10 rfl (.inl rfl)
  · refine Eq.trans (st1 dX0_readLine_11 rfl rfl) ?_
    refine Eq.trans (getIm dX0_readLine_12 cp_0_51 ka_1 (.inl rfl)) ?_
    refine Eq.trans (st1 dX0_readLine_15 rfl rfl) ?_
    refine Eq.trans (st1 dX0_readLine_16 rfl rfl) ?_
    refine Eq.trans (getRm dX0_readLine_17 cp_0_9 (ks0_0 h0) rfl (rs0_1 h0)) ?_
    refine Eq.trans (st1 dX0_readLine_20 rfl rfl) ?_
    exact is3 dX0_readLine_21 cp_0_54 (Nat.le_of_ble_eq_true rfl) rfl rfl (Nat.le_of_ble_eq_true rfl)
theorem q_X0_readLine_24 {call : CALL} {L X : Nat} {I : Nat → Nat → Int32} {J : Nat → Nat → Int64} {a0 : Nat} {x2 : Int32} {s0 : Int32} (h0 : oc0 a0) : runI call iX0_readLine (24, [some (.ref a0), some (.ref 1), some (.int x2)], [.int s0], (mm L X I J)) = if s0 = (-1 : Int32) then bnd (call nX7_numeral [.ref 1, .int (nI 0), .int (nI 99)] (mm L X I J)) (fun v m' => runI call iX0_readLine (40, [some (.ref a0), some (.ref 1), some (.int x2)], v.toList ++ [], m')) else bnd (call nX7_noneSuch [.ref 1] (mm L X I J)) (fun v m' => runI call iX0_readLine (32, [some (.ref a0), some (.ref 1), some (.int x2)], v.toList ++ [], m')) := by
  refine Eq.trans (xiconst dX0_readLine_24 ci_m1) ?_
  refine Eq.trans (ic_eq (tgt := 33) dX0_readLine_25 (by decide +kernel)) (ite_cong (fun _ => ?_) (fun _ => ?_))
  · refine Eq.trans (st1 dX0_readLine_33 rfl rfl) ?_
    refine Eq.trans (xiconst dX0_readLine_34 ci_0) ?_
    refine Eq.trans (xbipush dX0_readLine_35 cb_99) ?_
    exact iv0 dX0_readLine_37 rfl cp_0_47 rfl rfl (kd_ka ka_1) ka_1.1 (Nat.le_of_ble_eq_true rfl)
  · refine Eq.trans (st1 dX0_readLine_28 rfl rfl) ?_
    exact iv0 dX0_readLine_29 rfl cp_0_58 rfl rfl (kd_ka ka_1) ka_1.1 (Nat.le_of_ble_eq_true rfl)
theorem q_X0_readLine_40 {call : CALL} {L X : Nat} {I : Nat → Nat → Int32} {J : Nat → Nat → Int64} {a0 : Nat} {x2 : Int32} {s0 : Int32} (h0 : oc0 a0) : runI call iX0_readLine (40, [some (.ref a0), some (.ref 1), some (.int x2)], [.int s0], (mm L X I J)) = if s0 = (nI 0) then some (.inl (some (.int (nI 0))), (mm L X I J)) else bndN (call nX11_put [.ref (a0 + 1), .int x2, .int (I 1 4)] (mm L X I J)) (fun v m' => runI call iX0_readLine (57, [some (.ref a0), some (.ref 1), some (.int x2)], v.toList ++ [], m')) := by
  refine Eq.trans (if_ne (tgt := 45) dX0_readLine_40 (by decide +kernel)) (ite_cong (fun _ => ?_) (fun _ => ?_))
  · refine Eq.trans (xiconst dX0_readLine_43 ci_0) ?_
    exact ret1 dX0_readLine_44 rfl (.inl rfl)
  · refine Eq.trans (st1 dX0_readLine_45 rfl rfl) ?_
    refine Eq.trans (getRm dX0_readLine_46 cp_0_9 (ks0_0 h0) rfl (rs0_1 h0)) ?_
    refine Eq.trans (st1 dX0_readLine_49 rfl rfl) ?_
    refine Eq.trans (st1 dX0_readLine_50 rfl rfl) ?_
    refine Eq.trans (getIm dX0_readLine_51 cp_0_51 ka_1 (.inl rfl)) ?_
    exact is3 dX0_readLine_54 cp_0_62 (Nat.le_of_ble_eq_true rfl) rfl rfl (Nat.le_of_ble_eq_true rfl)
theorem q_X0_readLine_32 {call : CALL} {L X : Nat} {I : Nat → Nat → Int32} {J : Nat → Nat → Int64} {u0 : Option Value} {u1 : Option Value} {u2 : Option Value} {s0 : Int32} : runI call iX0_readLine (32, [u0, u1, u2], [.int s0], (mm L X I J)) = gd (b01 s0) (some (.inl (some (.int s0)), (mm L X I J))) := by
  exact ret1g dX0_readLine_32 rfl
theorem q_X0_readLine_57 {call : CALL} {L X : Nat} {I : Nat → Nat → Int32} {J : Nat → Nat → Int64} {a0 : Nat} {u2 : Option Value} (h0 : oc0 a0) : runI call iX0_readLine (57, [some (.ref a0), some (.ref 1), u2], [], (mm L X I J)) = bnd (call nX7_sign [.ref 1, .int (nI 59)] (mm L X (up2 I a0 0 ((I a0 0) + (nI 1))) J)) (fun v m' => runI call iX0_readLine (73, [some (.ref a0), some (.ref 1), u2], v.toList ++ [], m')) := by
  refine Eq.trans (st1 dX0_readLine_57 rfl rfl) ?_
  refine Eq.trans (st1 dX0_readLine_58 rfl rfl) ?_
  refine Eq.trans (getIm dX0_readLine_59 cp_0_21 (ks0_0 h0) (.inl rfl)) ?_
  refine Eq.trans (xiconst dX0_readLine_62 ci_1) ?_
  refine Eq.trans (st1 dX0_readLine_63 rfl rfl) ?_
  refine Eq.trans (putIm dX0_readLine_64 cp_0_21 (ks0_0 h0) rfl) ?_
  refine Eq.trans (st1 dX0_readLine_67 rfl rfl) ?_
  refine Eq.trans (xbipush dX0_readLine_68 cb_59) ?_
  exact iv0 dX0_readLine_70 rfl cp_0_66 rfl rfl (kd_ka ka_1) ka_1.1 (Nat.le_of_ble_eq_true rfl)
theorem q_X0_readLine_73 {call : CALL} {L X : Nat} {I : Nat → Nat → Int32} {J : Nat → Nat → Int64} {u0 : Option Value} {u1 : Option Value} {u2 : Option Value} {s0 : Int32} : runI call iX0_readLine (73, [u0, u1, u2], [.int s0], (mm L X I J)) = gd (b01 s0) (some (.inl (some (.int s0)), (mm L X I J))) := by
  exact ret1g dX0_readLine_73 rfl
theorem q_X0_become_0 {call : CALL} {L X : Nat} {I : Nat → Nat → Int32} {J : Nat → Nat → Int64} {a0 : Nat} {a1 : Nat} (h0 : oc0 a0) (h1 : oc0 a1) : runI call iX0_become (0, [some (.ref a0), some (.ref a1)], [], (mm L X I J)) = gd (cpok (nI 0) (nI 0) (nI 6) 6 6) (some (.inl none, (mm L X (up1 (up2 I a0 0 (I a1 0)) (a0 + 1) (va_cpy ((up2 I a0 0 (I a1 0)) (a1 + 1)) ((up2 I a0 0 (I a1 0)) (a0 + 1)) ((nI 0)).toNatClampNeg ((nI 0)).toNatClampNeg ((nI 6)).toNatClampNeg)) J))) := by
  refine Eq.trans (st1 dX0_become_0 rfl rfl) ?_
  refine Eq.trans (st1 dX0_become_1 rfl rfl) ?_
  refine Eq.trans (getIm dX0_become_2 cp_0_21 (ks0_0 h1) (.inl rfl)) ?_
  refine Eq.trans (putIm dX0_become_5 cp_0_21 (ks0_0 h0) rfl) ?_
  refine Eq.trans (st1 dX0_become_8 rfl rfl) ?_
  refine Eq.trans (getRm dX0_become_9 cp_0_9 (ks0_0 h1) rfl (rs0_1 h1)) ?_
  refine Eq.trans (xiconst dX0_become_12 ci_0) ?_
  refine Eq.trans (st1 dX0_become_13 rfl rfl) ?_
  refine Eq.trans (getRm dX0_become_14 cp_0_9 (ks0_0 h0) rfl (rs0_1 h0)) ?_
  refine Eq.trans (xiconst dX0_become_17 ci_0) ?_
  refine Eq.trans (xbipush dX0_become_18 cb_6) ?_
  refine Eq.trans (icpym dX0_become_20 cp_0_31 (ks0_1 h1) (ks0_1 h0) (Nat.le_of_ble_eq_true rfl)) (gd_congr fun _ => ?_)
  exact ret3 dX0_become_23 (.inl rfl)
theorem q_X0_findLeaks_0 {call : CALL} {L X : Nat} {I : Nat → Nat → Int32} {J : Nat → Nat → Int64} {a0 : Nat} {a1 : Nat} (h0 : oc0 a0) (h1 : oc3 a1) : runI call iX0_findLeaks (0, [some (.ref a0), some (.ref a1), some (.ref 52), none, none], [], (mm L X I J)) = bndN (call nJ7_fill_53178 [.ref (a0 + 2), .int (nI 0)] (mm L X (up2 (up2 I a0 3 (nI 0)) a0 4 (-1 : Int32)) J)) (fun v m' => runI call iX0_findLeaks (18, [some (.ref a0), some (.ref a1), some (.ref 52), none, none], v.toList ++ [], m')) := by
  refine Eq.trans (st1 dX0_findLeaks_0 rfl rfl) ?_
  refine Eq.trans (xiconst dX0_findLeaks_1 ci_0) ?_
  refine Eq.trans (putIm dX0_findLeaks_2 cp_0_70 (ks0_0 h0) rfl) ?_
  refine Eq.trans (st1 dX0_findLeaks_5 rfl rfl) ?_
  refine Eq.trans (xiconst dX0_findLeaks_6 ci_m1) ?_
  refine Eq.trans (putIm dX0_findLeaks_7 cp_0_73 (ks0_0 h0) rfl) ?_
  refine Eq.trans (st1 dX0_findLeaks_10 rfl rfl) ?_
  refine Eq.trans (getRm dX0_findLeaks_11 cp_0_15 (ks0_0 h0) rfl (rs0_2 h0)) ?_
  refine Eq.trans (xiconst dX0_findLeaks_14 ci_0) ?_
  exact is2 dX0_findLeaks_15 cp_0_25 (Nat.le_of_ble_eq_true rfl) rfl rfl (Nat.le_of_ble_eq_true rfl)
theorem q_X0_findLeaks_18 {call : CALL} {L X : Nat} {I : Nat → Nat → Int32} {J : Nat → Nat → Int64} {a0 : Nat} {a1 : Nat} {u3 : Option Value} {u4 : Option Value} (h0 : oc0 a0) (h1 : oc3 a1) : runI call iX0_findLeaks (18, [some (.ref a0), some (.ref a1), some (.ref 52), u3, u4], [], (mm L X I J)) = runI call iX0_findLeaks (20, [some (.ref a0), some (.ref a1), some (.ref 52), some (.int (nI 0)), u4], [], (mm L X I J)) := by
  refine Eq.trans (xiconst dX0_findLeaks_18 ci_0) ?_
  refine Eq.trans (st1 dX0_findLeaks_19 rfl rfl) ?_
  rfl
theorem q_X0_findLeaks_20 {call : CALL} {L X : Nat} {I : Nat → Nat → Int32} {J : Nat → Nat → Int64} {a0 : Nat} {a1 : Nat} {x3 : Int32} {u4 : Option Value} (h0 : oc0 a0) (h1 : oc3 a1) : runI call iX0_findLeaks (20, [some (.ref a0), some (.ref a1), some (.ref 52), some (.int x3), u4], [], (mm L X I J)) = if (I a1 5) ≤ x3 then some (.inl none, (mm L X (up2 I 52 5 (-1 : Int32)) J)) else runI call iX0_findLeaks (36, [some (.ref a0), some (.ref a1), some (.ref 52), some (.int x3), some (.int (nI 1))], [], (mm L X (up2 I 52 5 x3) J)) := by
  refine Eq.trans (st1 dX0_findLeaks_20 rfl rfl) ?_
  refine Eq.trans (st1 dX0_findLeaks_21 rfl rfl) ?_
  refine Eq.trans (getIm dX0_findLeaks_22 cp_0_76 (ks3_0 h1) (.inl rfl)) ?_
  refine Eq.trans (ic_ge (tgt := 121) dX0_findLeaks_25 (by decide +kernel)) (ite_cong (fun _ => ?_) (fun _ => ?_))
  · refine Eq.trans (st1 dX0_findLeaks_121 rfl rfl) ?_
    refine Eq.trans (xiconst dX0_findLeaks_122 ci_m1) ?_
    refine Eq.trans (putIm dX0_findLeaks_123 cp_0_81 ka_52 rfl) ?_
    exact ret3 dX0_findLeaks_126 (.inl rfl)
  · refine Eq.trans (st1 dX0_findLeaks_28 rfl rfl) ?_
    refine Eq.trans (st1 dX0_findLeaks_29 rfl rfl) ?_
    refine Eq.trans (putIm dX0_findLeaks_30 cp_0_81 ka_52 rfl) ?_
    refine Eq.trans (xiconst dX0_findLeaks_33 ci_1) ?_
    refine Eq.trans (st1 dX0_findLeaks_34 rfl rfl) ?_
    rfl
theorem q_X0_findLeaks_36 {call : CALL} {L X : Nat} {I : Nat → Nat → Int32} {J : Nat → Nat → Int64} {a0 : Nat} {a1 : Nat} {x3 : Int32} {x4 : Int32} (h0 : oc0 a0) (h1 : oc3 a1) : runI call iX0_findLeaks (36, [some (.ref a0), some (.ref a1), some (.ref 52), some (.int x3), some (.int x4)], [], (mm L X I J)) = if (nI 30) < x4 then runI call iX0_findLeaks (20, [some (.ref a0), some (.ref a1), some (.ref 52), some (.int (x3 + (nI 1))), some (.int x4)], [], (mm L X I J)) else bnd (call nX8_arriving [.ref 52, .ref a1, .int ((up2 I 52 6 x4) a1 7)] (mm L X (up2 I 52 6 x4) J)) (fun v m' => runI call iX0_findLeaks (58, [some (.ref a0), some (.ref a1), some (.ref 52), some (.int x3), some (.int x4)], v.toList ++ [], m')) := by
  refine Eq.trans (st1 dX0_findLeaks_36 rfl rfl) ?_
  refine Eq.trans (xbipush dX0_findLeaks_38 cb_30) ?_
  refine Eq.trans (ic_gt (tgt := 115) dX0_findLeaks_40 (by decide +kernel)) (ite_cong (fun _ => ?_) (fun _ => ?_))
  · refine Eq.trans (xinc2 dX0_findLeaks_115 ci_1 rfl (Nat.le_of_ble_eq_true rfl) rfl) ?_
    refine Eq.trans (go_to (tgt := 20) dX0_findLeaks_118 (by decide +kernel)) ?_
    rfl
  · refine Eq.trans (st1 dX0_findLeaks_43 rfl rfl) ?_
    refine Eq.trans (st1 dX0_findLeaks_44 rfl rfl) ?_
    refine Eq.trans (putIm dX0_findLeaks_46 cp_0_86 ka_52 rfl) ?_
    refine Eq.trans (st1 dX0_findLeaks_49 rfl rfl) ?_
    refine Eq.trans (st1 dX0_findLeaks_50 rfl rfl) ?_
    refine Eq.trans (st1 dX0_findLeaks_51 rfl rfl) ?_
    refine Eq.trans (getIm dX0_findLeaks_52 cp_0_89 (ks3_0 h1) (.inl rfl)) ?_
    exact iv0 dX0_findLeaks_55 rfl cp_0_92 rfl rfl (kd_ka ka_52) ka_52.1 (Nat.le_of_ble_eq_true rfl)
theorem q_X0_findLeaks_58 {call : CALL} {L X : Nat} {I : Nat → Nat → Int32} {J : Nat → Nat → Int64} {a0 : Nat} {a1 : Nat} {x3 : Int32} {x4 : Int32} {s0 : Int32} (h0 : oc0 a0) (h1 : oc3 a1) : runI call iX0_findLeaks (58, [some (.ref a0), some (.ref a1), some (.ref 52), some (.int x3), some (.int x4)], [.int s0], (mm L X I J)) = bnd (call nX0_isRight [.ref a0, .ref a1, .ref 52] (mm L X I J)) (fun v m' => runI call iX0_findLeaks (65, [some (.ref a0), some (.ref a1), some (.ref 52), some (.int x3), some (.int x4)], v.toList ++ [], m')) := by
  refine Eq.trans (st1 dX0_findLeaks_58 rfl rfl) ?_
  refine Eq.trans (st1 dX0_findLeaks_59 rfl rfl) ?_
  refine Eq.trans (st1 dX0_findLeaks_60 rfl rfl) ?_
  refine Eq.trans (st1 dX0_findLeaks_61 rfl rfl) ?_
  exact iv0 dX0_findLeaks_62 rfl cp_0_96 rfl rfl (kd_ka (ks0_0 h0)) (ks0_0 h0).1 (Nat.le_of_ble_eq_true rfl)
theorem q_X0_findLeaks_65 {call : CALL} {L X : Nat} {I : Nat → Nat → Int32} {J : Nat → Nat → Int64} {a0 : Nat} {a1 : Nat} {x3 : Int32} {x4 : Int32} {s0 : Int32} (h0 : oc0 a0) (h1 : oc3 a1) : runI call iX0_findLeaks (65, [some (.ref a0), some (.ref a1), some (.ref 52), some (.int x3), some (.int x4)], [.int s0], (mm L X I J)) = if s0 = (nI 0) then runI call iX0_findLeaks (109, [some (.ref a0), some (.ref a1), some (.ref 52), some (.int x3), some (.int x4)], [], (mm L X I J)) else if (I a0 3) = (nI 0) then runI call iX0_findLeaks (90, [some (.ref a0), some (.ref a1), some (.ref 52), some (.int x3), some (.int x4)], [.int (((nI 100) * x3) + x4), .ref a0], (mm L X I J)) else runI call iX0_findLeaks (90, [some (.ref a0), some (.ref a1), some (.ref 52), some (.int x3), some (.int x4)], [.int (I a0 4), .ref a0], (mm L X I J)) := by
  refine Eq.trans (if_eq (tgt := 109) dX0_findLeaks_65 (by decide +kernel)) (ite_cong (fun _ => ?_) (fun _ => ?_))
  · rfl
  · refine Eq.trans (st1 dX0_findLeaks_68 rfl rfl) ?_
    refine Eq.trans (st1 dX0_findLeaks_69 rfl rfl) ?_
    refine Eq.trans (getIm dX0_findLeaks_70 cp_0_70 (ks0_0 h0) (.inl rfl)) ?_
    refine Eq.trans (if_ne (tgt := 86) dX0_findLeaks_73 (by decide +kernel)) (ite_cong (fun _ => ?_) (fun _ => ?_))
    · refine Eq.trans (xbipush dX0_findLeaks_76 cb_100) ?_
      refine Eq.trans (st1 dX0_findLeaks_78 rfl rfl) ?_
      refine Eq.trans (st1 dX0_findLeaks_79 rfl rfl) ?_
      refine Eq.trans (st1 dX0_findLeaks_80 rfl rfl) ?_
      refine Eq.trans (st1 dX0_findLeaks_82 rfl rfl) ?_
      refine Eq.trans (go_to (tgt := 90) dX0_findLeaks_83 (by decide +kernel)) ?_
      rfl
    · refine Eq.trans (st1 dX0_findLeaks_86 rfl rfl) ?_
      refine Eq.trans (getIm dX0_findLeaks_87 cp_0_73 (ks0_0 h0) (.inl rfl)) ?_
      rfl
theorem q_X0_findLeaks_109 {call : CALL} {L X : Nat} {I : Nat → Nat → Int32} {J : Nat → Nat → Int64} {a0 : Nat} {a1 : Nat} {x3 : Int32} {x4 : Int32} (h0 : oc0 a0) (h1 : oc3 a1) : runI call iX0_findLeaks (109, [some (.ref a0), some (.ref a1), some (.ref 52), some (.int x3), some (.int x4)], [], (mm L X I J)) = runI call iX0_findLeaks (36, [some (.ref a0), some (.ref a1), some (.ref 52), some (.int x3), some (.int (x4 + (nI 1)))], [], (mm L X I J)) := by
  refine Eq.trans (xinc2 dX0_findLeaks_109 ci_1 rfl (Nat.le_of_ble_eq_true rfl) rfl) ?_
  refine Eq.trans (go_to (tgt := 36) dX0_findLeaks_112 (by decide +kernel)) ?_
  rfl
theorem q_X0_findLeaks_90 {call : CALL} {L X : Nat} {I : Nat → Nat → Int32} {J : Nat → Nat → Int64} {a0 : Nat} {a1 : Nat} {x3 : Int32} {x4 : Int32} {s1 : Int32} (h0 : oc0 a0) (h1 : oc3 a1) : runI call iX0_findLeaks (90, [some (.ref a0), some (.ref a1), some (.ref 52), some (.int x3), some (.int x4)], [.int s1, .ref a0], (mm L X I J)) = bnd (call nX0_tallyUp [.ref a0, .ref a1, .ref 52] (mm L X (up2 (up2 I a0 4 s1) a0 3 (((up2 I a0 4 s1) a0 3) + (nI 1))) J)) (fun v m' => runI call iX0_findLeaks (109, [some (.ref a0), some (.ref a1), some (.ref 52), some (.int x3), some (.int x4)], v.toList ++ [], m')) := by
  refine Eq.trans (putIm dX0_findLeaks_90 cp_0_73 (ks0_0 h0) rfl) ?_
  refine Eq.trans (st1 dX0_findLeaks_93 rfl rfl) ?_
  refine Eq.trans (st1 dX0_findLeaks_94 rfl rfl) ?_
  refine Eq.trans (getIm dX0_findLeaks_95 cp_0_70 (ks0_0 h0) (.inl rfl)) ?_
  refine Eq.trans (xiconst dX0_findLeaks_98 ci_1) ?_
  refine Eq.trans (st1 dX0_findLeaks_99 rfl rfl) ?_
  refine Eq.trans (putIm dX0_findLeaks_100 cp_0_70 (ks0_0 h0) rfl) ?_
  refine Eq.trans (st1 dX0_findLeaks_103 rfl rfl) ?_
  refine Eq.trans (st1 dX0_findLeaks_104 rfl rfl) ?_
  refine Eq.trans (st1 dX0_findLeaks_105 rfl rfl) ?_
  exact iv0 dX0_findLeaks_106 rfl cp_0_100 rfl rfl (kd_ka (ks0_0 h0)) (ks0_0 h0).1 (Nat.le_of_ble_eq_true rfl)
theorem q_X0_isRight_0 {call : CALL} {L X : Nat} {I : Nat → Nat → Int32} {J : Nat → Nat → Int64} {a0 : Nat} {a1 : Nat} (h0 : oc0 a0) (h1 : oc3 a1) : runI call iX0_isRight (0, [some (.ref a0), some (.ref a1), some (.ref 52), none], [], (mm L X I J)) = runI call iX0_isRight (2, [some (.ref a0), some (.ref a1), some (.ref 52), some (.int (nI 0))], [], (mm L X I J)) := by
  refine Eq.trans (xiconst dX0_isRight_0 ci_0) ?_
  refine Eq.trans (st1 dX0_isRight_1 rfl rfl) ?_
  rfl
theorem q_X0_isRight_2 {call : CALL} {L X : Nat} {I : Nat → Nat → Int32} {J : Nat → Nat → Int64} {a0 : Nat} {a1 : Nat} {x3 : Int32} (h0 : oc0 a0) (h1 : oc3 a1) : runI call iX0_isRight (2, [some (.ref a0), some (.ref a1), some (.ref 52), some (.int x3)], [], (mm L X I J)) = if (nI 6) ≤ x3 then some (.inl (some (.int (nI 1))), (mm L X I J)) else gd (inb x3 6) (if (I (a0 + 1) (x3).toNatClampNeg) = (-1 : Int32) then runI call iX0_isRight (43, [some (.ref a0), some (.ref a1), some (.ref 52), some (.int x3)], [], (mm L X I J)) else if (I a1 5) ≤ x3 then some (.inl (some (.int (nI 0))), (mm L X I J)) else if (I 53 (x3).toNatClampNeg) = (I (a0 + 1) (x3).toNatClampNeg) then runI call iX0_isRight (43, [some (.ref a0), some (.ref a1), some (.ref 52), some (.int x3)], [], (mm L X I J)) else some (.inl (some (.int (nI 0))), (mm L X I J))) := by
  refine Eq.trans (st1 dX0_isRight_2 rfl rfl) ?_
  refine Eq.trans (xbipush dX0_isRight_3 cb_6) ?_
  refine Eq.trans (ic_ge (tgt := 49) dX0_isRight_5 (by decide +kernel)) (ite_cong (fun _ => ?_) (fun _ => ?_))
  · refine Eq.trans (xiconst dX0_isRight_49 ci_1) ?_
    exact ret1 dX0_isRight_50 rfl (.inr rfl)
  · refine Eq.trans (st1 dX0_isRight_8 rfl rfl) ?_
    refine Eq.trans (getRm dX0_isRight_9 cp_0_9 (ks0_0 h0) rfl (rs0_1 h0)) ?_
    refine Eq.trans (st1 dX0_isRight_12 rfl rfl) ?_
    refine Eq.trans (al1m dX0_isRight_13 (ks0_1 h0)) (gd_congr fun g1 => ?_)
    refine Eq.trans (xiconst dX0_isRight_14 ci_m1) ?_
    refine Eq.trans (ic_eq (tgt := 43) dX0_isRight_15 (by decide +kernel)) (ite_cong (fun _ => ?_) (fun _ => ?_))
    · rfl
    · refine Eq.trans (st1 dX0_isRight_18 rfl rfl) ?_
      refine Eq.trans (st1 dX0_isRight_19 rfl rfl) ?_
      refine Eq.trans (getIm dX0_isRight_20 cp_0_76 (ks3_0 h1) (.inl rfl)) ?_
      refine Eq.trans (ic_ge (tgt := 41) dX0_isRight_23 (by decide +kernel)) (ite_cong (fun _ => ?_) (fun _ => ?_))
      · refine Eq.trans (xiconst dX0_isRight_41 ci_0) ?_
        exact ret1 dX0_isRight_42 rfl (.inl rfl)
      · refine Eq.trans (st1 dX0_isRight_26 rfl rfl) ?_
        refine Eq.trans (getRm dX0_isRight_27 cp_0_104 ka_52 rfl r_52_2) ?_
        refine Eq.trans (st1 dX0_isRight_30 rfl rfl) ?_
        refine Eq.trans (al1m dX0_isRight_31 ka_53) (Eq.trans (gd_t g1) ?_)
        refine Eq.trans (st1 dX0_isRight_32 rfl rfl) ?_
        refine Eq.trans (getRm dX0_isRight_33 cp_0_9 (ks0_0 h0) rfl (rs0_1 h0)) ?_
        refine Eq.trans (st1 dX0_isRight_36 rfl rfl) ?_
        refine Eq.trans (al1m dX0_isRight_37 (ks0_1 h0)) (Eq.trans (gd_t g1) ?_)
        refine Eq.trans (ic_eq (tgt := 43) dX0_isRight_38 (by decide +kernel)) (ite_cong (fun _ => ?_) (fun _ => ?_))
        · rfl
        · refine Eq.trans (xiconst dX0_isRight_41 ci_0) ?_
          exact ret1 dX0_isRight_42 rfl (.inl rfl)
theorem q_X0_isRight_43 {call : CALL} {L X : Nat} {I : Nat → Nat → Int32} {J : Nat → Nat → Int64} {a0 : Nat} {a1 : Nat} {x3 : Int32} (h0 : oc0 a0) (h1 : oc3 a1) : runI call iX0_isRight (43, [some (.ref a0), some (.ref a1), some (.ref 52), some (.int x3)], [], (mm L X I J)) = runI call iX0_isRight (2, [some (.ref a0), some (.ref a1), some (.ref 52), some (.int (x3 + (nI 1)))], [], (mm L X I J)) := by
  refine Eq.trans (xinc2 dX0_isRight_43 ci_1 rfl (Nat.le_of_ble_eq_true rfl) rfl) ?_
  refine Eq.trans (go_to (tgt := 2) dX0_isRight_46 (by decide +kernel)) ?_
  rfl
theorem q_X0_tallyUp_0 {call : CALL} {L X : Nat} {I : Nat → Nat → Int32} {J : Nat → Nat → Int64} {a0 : Nat} {a1 : Nat} (h0 : oc0 a0) (h1 : oc3 a1) : runI call iX0_tallyUp (0, [some (.ref a0), some (.ref a1), some (.ref 52), none, none], [], (mm L X I J)) = runI call iX0_tallyUp (2, [some (.ref a0), some (.ref a1), some (.ref 52), some (.int (nI 0)), none], [], (mm L X I J)) := by
  refine Eq.trans (xiconst dX0_tallyUp_0 ci_0) ?_
  refine Eq.trans (st1 dX0_tallyUp_1 rfl rfl) ?_
  rfl
theorem q_X0_tallyUp_2 {call : CALL} {L X : Nat} {I : Nat → Nat → Int32} {J : Nat → Nat → Int64} {a0 : Nat} {a1 : Nat} {x3 : Int32} {u4 : Option Value} (h0 : oc0 a0) (h1 : oc3 a1) : runI call iX0_tallyUp (2, [some (.ref a0), some (.ref a1), some (.ref 52), some (.int x3), u4], [], (mm L X I J)) = if (I a1 5) ≤ x3 then some (.inl none, (mm L X I J)) else if (nI 6) ≤ x3 then some (.inl none, (mm L X I J)) else gd (inb x3 6) (bndN (call nX11_pick [.ref (a0 + 2), .int ((x3 * (nI 100)) + (I 53 (x3).toNatClampNeg))] (mm L X I J)) (fun v m' => runI call iX0_tallyUp (44, [some (.ref a0), some (.ref a1), some (.ref 52), some (.int x3), some (.int ((x3 * (nI 100)) + (I 53 (x3).toNatClampNeg)))], v.toList ++ [.int ((x3 * (nI 100)) + (I 53 (x3).toNatClampNeg)), .ref (a0 + 2)], m'))) := by
  refine Eq.trans (st1 dX0_tallyUp_2 rfl rfl) ?_
  refine Eq.trans (st1 dX0_tallyUp_3 rfl rfl) ?_
  refine Eq.trans (getIm dX0_tallyUp_4 cp_0_76 (ks3_0 h1) (.inl rfl)) ?_
  refine Eq.trans (ic_ge (tgt := 55) dX0_tallyUp_7 (by decide +kernel)) (ite_cong (fun _ => ?_) (fun _ => ?_))
  · exact ret3 dX0_tallyUp_55 (.inl rfl)
  · refine Eq.trans (st1 dX0_tallyUp_10 rfl rfl) ?_
    refine Eq.trans (xbipush dX0_tallyUp_11 cb_6) ?_
    refine Eq.trans (ic_ge (tgt := 55) dX0_tallyUp_13 (by decide +kernel)) (ite_cong (fun _ => ?_) (fun _ => ?_))
    · exact ret3 dX0_tallyUp_55 (.inl rfl)
    · refine Eq.trans (st1 dX0_tallyUp_16 rfl rfl) ?_
      refine Eq.trans (xbipush dX0_tallyUp_17 cb_100) ?_
      refine Eq.trans (st1 dX0_tallyUp_19 rfl rfl) ?_
      refine Eq.trans (st1 dX0_tallyUp_20 rfl rfl) ?_
      refine Eq.trans (getRm dX0_tallyUp_21 cp_0_104 ka_52 rfl r_52_2) ?_
      refine Eq.trans (st1 dX0_tallyUp_24 rfl rfl) ?_
      refine Eq.trans (al1m dX0_tallyUp_25 ka_53) (gd_congr fun g1 => ?_)
      refine Eq.trans (st1 dX0_tallyUp_26 rfl rfl) ?_
      refine Eq.trans (st1 dX0_tallyUp_27 rfl rfl) ?_
      refine Eq.trans (st1 dX0_tallyUp_29 rfl rfl) ?_
      refine Eq.trans (getRm dX0_tallyUp_30 cp_0_15 (ks0_0 h0) rfl (rs0_2 h0)) ?_
      refine Eq.trans (st1 dX0_tallyUp_33 rfl rfl) ?_
      refine Eq.trans (st1 dX0_tallyUp_35 rfl rfl) ?_
      refine Eq.trans (getRm dX0_tallyUp_36 cp_0_15 (ks0_0 h0) rfl (rs0_2 h0)) ?_
      refine Eq.trans (st1 dX0_tallyUp_39 rfl rfl) ?_
      exact is3 dX0_tallyUp_41 cp_0_54 (Nat.le_of_ble_eq_true rfl) rfl rfl (Nat.le_of_ble_eq_true rfl)
theorem q_X0_tallyUp_44 {call : CALL} {L X : Nat} {I : Nat → Nat → Int32} {J : Nat → Nat → Int64} {a0 : Nat} {a1 : Nat} {x3 : Int32} {u4 : Option Value} {s1 : Int32} {s2 : Int32} (h0 : oc0 a0) (h1 : oc3 a1) : runI call iX0_tallyUp (44, [some (.ref a0), some (.ref a1), some (.ref 52), some (.int x3), u4], [.int s2, .int s1, .ref (a0 + 2)], (mm L X I J)) = bndN (call nX11_put [.ref (a0 + 2), .int s1, .int (s2 + (nI 1))] (mm L X I J)) (fun v m' => runI call iX0_tallyUp (49, [some (.ref a0), some (.ref a1), some (.ref 52), some (.int x3), u4], v.toList ++ [], m')) := by
  refine Eq.trans (xiconst dX0_tallyUp_44 ci_1) ?_
  refine Eq.trans (st1 dX0_tallyUp_45 rfl rfl) ?_
  exact is3 dX0_tallyUp_46 cp_0_62 (Nat.le_of_ble_eq_true rfl) rfl rfl (Nat.le_of_ble_eq_true rfl)
theorem q_X0_tallyUp_49 {call : CALL} {L X : Nat} {I : Nat → Nat → Int32} {J : Nat → Nat → Int64} {a0 : Nat} {a1 : Nat} {x3 : Int32} {u4 : Option Value} (h0 : oc0 a0) (h1 : oc3 a1) : runI call iX0_tallyUp (49, [some (.ref a0), some (.ref a1), some (.ref 52), some (.int x3), u4], [], (mm L X I J)) = runI call iX0_tallyUp (2, [some (.ref a0), some (.ref a1), some (.ref 52), some (.int (x3 + (nI 1))), u4], [], (mm L X I J)) := by
  refine Eq.trans (xinc2 dX0_tallyUp_49 ci_1 rfl (Nat.le_of_ble_eq_true rfl) rfl) ?_
  refine Eq.trans (go_to (tgt := 2) dX0_tallyUp_52 (by decide +kernel)) ?_
  rfl
theorem q_X0_findLook_0 {call : CALL} {L X : Nat} {I : Nat → Nat → Int32} {J : Nat → Nat → Int64} {a0 : Nat} {a1 : Nat} (h0 : oc0 a0) (h1 : oc3 a1) : runI call iX0_findLook (0, [some (.ref a0), some (.ref a1), some (.ref 52), none], [], (mm L X I J)) = bnd (call nX0_findLeaks [.ref a0, .ref a1, .ref 52] (mm L X I J)) (fun v m' => runI call iX0_findLook (6, [some (.ref a0), some (.ref a1), some (.ref 52), none], v.toList ++ [], m')) := by
  refine Eq.trans (st1 dX0_findLook_0 rfl rfl) ?_
  refine Eq.trans (st1 dX0_findLook_1 rfl rfl) ?_
  refine Eq.trans (st1 dX0_findLook_2 rfl rfl) ?_
  exact iv0 dX0_findLook_3 rfl cp_0_107 rfl rfl (kd_ka (ks0_0 h0)) (ks0_0 h0).1 (Nat.le_of_ble_eq_true rfl)
theorem q_X0_findLook_6 {call : CALL} {L X : Nat} {I : Nat → Nat → Int32} {J : Nat → Nat → Int64} {a0 : Nat} {a1 : Nat} {u2 : Option Value} {u3 : Option Value} (h0 : oc0 a0) (h1 : oc3 a1) (hu2 : okv u2 = true) : runI call iX0_findLook (6, [some (.ref a0), some (.ref a1), u2, u3], [], (mm L X I J)) = runI call iX0_findLook (18, [some (.ref a0), some (.ref a1), u2, some (.int (nI 0))], [], (mm L X (up2 (up2 I a0 5 (-1 : Int32)) a0 6 (-1 : Int32)) J)) := by
  refine Eq.trans (st1 dX0_findLook_6 rfl rfl) ?_
  refine Eq.trans (xiconst dX0_findLook_7 ci_m1) ?_
  refine Eq.trans (putIm dX0_findLook_8 cp_0_110 (ks0_0 h0) rfl) ?_
  refine Eq.trans (st1 dX0_findLook_11 rfl rfl) ?_
  refine Eq.trans (xiconst dX0_findLook_12 ci_m1) ?_
  refine Eq.trans (putIm dX0_findLook_13 cp_0_113 (ks0_0 h0) rfl) ?_
  refine Eq.trans (xiconst dX0_findLook_16 ci_0) ?_
  refine Eq.trans (xst1 (k := 3) dX0_findLook_17 hu2 rfl) ?_
  rfl
theorem q_X0_findLook_18 {call : CALL} {L X : Nat} {I : Nat → Nat → Int32} {J : Nat → Nat → Int64} {a0 : Nat} {a1 : Nat} {u2 : Option Value} {x3 : Int32} (h0 : oc0 a0) (h1 : oc3 a1) : runI call iX0_findLook (18, [some (.ref a0), some (.ref a1), u2, some (.int x3)], [], (mm L X I J)) = if (I a1 5) ≤ x3 then some (.inl none, (mm L X I J)) else if (nI 6) ≤ x3 then some (.inl none, (mm L X I J)) else gd (inb x3 6) (if (I (a0 + 1) (x3).toNatClampNeg) = (-1 : Int32) then if (I a0 5) = (-1 : Int32) then runI call iX0_findLook (62, [some (.ref a0), some (.ref a1), u2, some (.int x3)], [], (mm L X I J)) else bnd (call nX0_worstAt [.ref a0, .int x3] (mm L X I J)) (fun v m' => runI call iX0_findLook (55, [some (.ref a0), some (.ref a1), u2, some (.int x3)], v.toList ++ [], m')) else runI call iX0_findLook (76, [some (.ref a0), some (.ref a1), u2, some (.int x3)], [], (mm L X I J))) := by
  refine Eq.trans (st1 dX0_findLook_18 rfl rfl) ?_
  refine Eq.trans (st1 dX0_findLook_19 rfl rfl) ?_
  refine Eq.trans (getIm dX0_findLook_20 cp_0_76 (ks3_0 h1) (.inl rfl)) ?_
  refine Eq.trans (ic_ge (tgt := 82) dX0_findLook_23 (by decide +kernel)) (ite_cong (fun _ => ?_) (fun _ => ?_))
  · exact ret3 dX0_findLook_82 (.inl rfl)
  · refine Eq.trans (st1 dX0_findLook_26 rfl rfl) ?_
    refine Eq.trans (xbipush dX0_findLook_27 cb_6) ?_
    refine Eq.trans (ic_ge (tgt := 82) dX0_findLook_29 (by decide +kernel)) (ite_cong (fun _ => ?_) (fun _ => ?_))
    · exact ret3 dX0_findLook_82 (.inl rfl)
    · refine Eq.trans (st1 dX0_findLook_32 rfl rfl) ?_
      refine Eq.trans (getRm dX0_findLook_33 cp_0_9 (ks0_0 h0) rfl (rs0_1 h0)) ?_
      refine Eq.trans (st1 dX0_findLook_36 rfl rfl) ?_
      refine Eq.trans (al1m dX0_findLook_37 (ks0_1 h0)) (gd_congr fun g1 => ?_)
      refine Eq.trans (xiconst dX0_findLook_38 ci_m1) ?_
      refine Eq.trans (ic_ne (tgt := 76) dX0_findLook_39 (by decide +kernel)) (ite_cong (fun _ => ?_) (fun _ => ?_))
      · refine Eq.trans (st1 dX0_findLook_42 rfl rfl) ?_
        refine Eq.trans (getIm dX0_findLook_43 cp_0_110 (ks0_0 h0) (.inl rfl)) ?_
        refine Eq.trans (xiconst dX0_findLook_46 ci_m1) ?_
        refine Eq.trans (ic_eq (tgt := 62) dX0_findLook_47 (by decide +kernel)) (ite_cong (fun _ => ?_) (fun _ => ?_))
        · rfl
        · refine Eq.trans (st1 dX0_findLook_50 rfl rfl) ?_
          refine Eq.trans (st1 dX0_findLook_51 rfl rfl) ?_
          exact iv0 dX0_findLook_52 rfl cp_0_116 rfl rfl (kd_ka (ks0_0 h0)) (ks0_0 h0).1 (Nat.le_of_ble_eq_true rfl)
      · rfl
theorem q_X0_findLook_76 {call : CALL} {L X : Nat} {I : Nat → Nat → Int32} {J : Nat → Nat → Int64} {a0 : Nat} {a1 : Nat} {u2 : Option Value} {x3 : Int32} (h0 : oc0 a0) (h1 : oc3 a1) (hu2 : okv u2 = true) : runI call iX0_findLook (76, [some (.ref a0), some (.ref a1), u2, some (.int x3)], [], (mm L X I J)) = runI call iX0_findLook (18, [some (.ref a0), some (.ref a1), u2, some (.int (x3 + (nI 1)))], [], (mm L X I J)) := by
  refine Eq.trans (xinc2 dX0_findLook_76 ci_1 rfl (Nat.le_of_ble_eq_true rfl) hu2) ?_
  refine Eq.trans (go_to (tgt := 18) dX0_findLook_79 (by decide +kernel)) ?_
  rfl
theorem q_X0_findLook_62 {call : CALL} {L X : Nat} {I : Nat → Nat → Int32} {J : Nat → Nat → Int64} {a0 : Nat} {a1 : Nat} {u2 : Option Value} {x3 : Int32} (h0 : oc0 a0) (h1 : oc3 a1) : runI call iX0_findLook (62, [some (.ref a0), some (.ref a1), u2, some (.int x3)], [], (mm L X I J)) = bnd (call nX0_worstAt [.ref a0, .int x3] (mm L X (up2 I a0 5 x3) J)) (fun v m' => runI call iX0_findLook (73, [some (.ref a0), some (.ref a1), u2, some (.int x3)], v.toList ++ [.ref a0], m')) := by
  refine Eq.trans (st1 dX0_findLook_62 rfl rfl) ?_
  refine Eq.trans (st1 dX0_findLook_63 rfl rfl) ?_
  refine Eq.trans (putIm dX0_findLook_64 cp_0_110 (ks0_0 h0) rfl) ?_
  refine Eq.trans (st1 dX0_findLook_67 rfl rfl) ?_
  refine Eq.trans (st1 dX0_findLook_68 rfl rfl) ?_
  refine Eq.trans (st1 dX0_findLook_69 rfl rfl) ?_
  exact iv0 dX0_findLook_70 rfl cp_0_116 rfl rfl (kd_ka (ks0_0 h0)) (ks0_0 h0).1 (Nat.le_of_ble_eq_true rfl)
theorem q_X0_findLook_55 {call : CALL} {L X : Nat} {I : Nat → Nat → Int32} {J : Nat → Nat → Int64} {a0 : Nat} {a1 : Nat} {u2 : Option Value} {x3 : Int32} {s0 : Int32} (h0 : oc0 a0) (h1 : oc3 a1) : runI call iX0_findLook (55, [some (.ref a0), some (.ref a1), u2, some (.int x3)], [.int s0], (mm L X I J)) = if (I a0 6) ≤ s0 then runI call iX0_findLook (76, [some (.ref a0), some (.ref a1), u2, some (.int x3)], [], (mm L X I J)) else runI call iX0_findLook (62, [some (.ref a0), some (.ref a1), u2, some (.int x3)], [], (mm L X I J)) := by
  refine Eq.trans (st1 dX0_findLook_55 rfl rfl) ?_
  refine Eq.trans (getIm dX0_findLook_56 cp_0_113 (ks0_0 h0) (.inl rfl)) ?_
  refine Eq.trans (ic_ge (tgt := 76) dX0_findLook_59 (by decide +kernel)) (ite_cong (fun _ => ?_) (fun _ => ?_))
  · rfl
  · rfl
theorem q_X0_findLook_73 {call : CALL} {L X : Nat} {I : Nat → Nat → Int32} {J : Nat → Nat → Int64} {a0 : Nat} {a1 : Nat} {u2 : Option Value} {x3 : Int32} {s1 : Int32} (h0 : oc0 a0) (h1 : oc3 a1) : runI call iX0_findLook (73, [some (.ref a0), some (.ref a1), u2, some (.int x3)], [.int s1, .ref a0], (mm L X I J)) = runI call iX0_findLook (76, [some (.ref a0), some (.ref a1), u2, some (.int x3)], [], (mm L X (up2 I a0 6 s1) J)) := by
  refine Eq.trans (putIm dX0_findLook_73 cp_0_113 (ks0_0 h0) rfl) ?_
  rfl
theorem q_X0_worstAt_0 {call : CALL} {L X : Nat} {I : Nat → Nat → Int32} {J : Nat → Nat → Int64} {a0 : Nat} {x1 : Int32} (h0 : oc0 a0) : runI call iX0_worstAt (0, [some (.ref a0), some (.int x1), none, none], [], (mm L X I J)) = runI call iX0_worstAt (4, [some (.ref a0), some (.int x1), some (.int (nI 0)), some (.int (nI 0))], [], (mm L X I J)) := by
  refine Eq.trans (xiconst dX0_worstAt_0 ci_0) ?_
  refine Eq.trans (st1 dX0_worstAt_1 rfl rfl) ?_
  refine Eq.trans (xiconst dX0_worstAt_2 ci_0) ?_
  refine Eq.trans (st1 dX0_worstAt_3 rfl rfl) ?_
  rfl
theorem q_X0_worstAt_4 {call : CALL} {L X : Nat} {I : Nat → Nat → Int32} {J : Nat → Nat → Int64} {a0 : Nat} {x1 : Int32} {x2 : Int32} {x3 : Int32} (h0 : oc0 a0) : runI call iX0_worstAt (4, [some (.ref a0), some (.int x1), some (.int x2), some (.int x3)], [], (mm L X I J)) = if (nI 100) ≤ x3 then some (.inl (some (.int x2)), (mm L X I J)) else bndN (call nX11_pick [.ref (a0 + 2), .int ((x1 * (nI 100)) + x3)] (mm L X I J)) (fun v m' => runI call iX0_worstAt (24, [some (.ref a0), some (.int x1), some (.int x2), some (.int x3)], v.toList ++ [.int x2], m')) := by
  refine Eq.trans (st1 dX0_worstAt_4 rfl rfl) ?_
  refine Eq.trans (xbipush dX0_worstAt_5 cb_100) ?_
  refine Eq.trans (ic_ge (tgt := 34) dX0_worstAt_7 (by decide +kernel)) (ite_cong (fun _ => ?_) (fun _ => ?_))
  · refine Eq.trans (st1 dX0_worstAt_34 rfl rfl) ?_
    exact ret0 dX0_worstAt_35 rfl
  · refine Eq.trans (st1 dX0_worstAt_10 rfl rfl) ?_
    refine Eq.trans (st1 dX0_worstAt_11 rfl rfl) ?_
    refine Eq.trans (getRm dX0_worstAt_12 cp_0_15 (ks0_0 h0) rfl (rs0_2 h0)) ?_
    refine Eq.trans (st1 dX0_worstAt_15 rfl rfl) ?_
    refine Eq.trans (xbipush dX0_worstAt_16 cb_100) ?_
    refine Eq.trans (st1 dX0_worstAt_18 rfl rfl) ?_
    refine Eq.trans (st1 dX0_worstAt_19 rfl rfl) ?_
    refine Eq.trans (st1 dX0_worstAt_20 rfl rfl) ?_
    exact is3 dX0_worstAt_21 cp_0_54 (Nat.le_of_ble_eq_true rfl) rfl rfl (Nat.le_of_ble_eq_true rfl)
theorem q_X0_worstAt_24 {call : CALL} {L X : Nat} {I : Nat → Nat → Int32} {J : Nat → Nat → Int64} {a0 : Nat} {x1 : Int32} {u2 : Option Value} {x3 : Int32} {s0 : Int32} {s1 : Int32} (h0 : oc0 a0) : runI call iX0_worstAt (24, [some (.ref a0), some (.int x1), u2, some (.int x3)], [.int s1, .int s0], (mm L X I J)) = runI call iX0_worstAt (4, [some (.ref a0), some (.int x1), some (.int (if s0 < s1 then s1 else s0)), some (.int (x3 + (nI 1)))], [], (mm L X I J)) := by
  refine Eq.trans (imax dX0_worstAt_24 cp_0_120 (Nat.le_of_ble_eq_true rfl)) ?_
  refine Eq.trans (st1 dX0_worstAt_27 rfl rfl) ?_
  refine Eq.trans (xinc2 dX0_worstAt_28 ci_1 rfl (Nat.le_of_ble_eq_true rfl) rfl) ?_
  refine Eq.trans (go_to (tgt := 4) dX0_worstAt_31 (by decide +kernel)) ?_
  rfl
theorem q_X1_clear_0 {call : CALL} {L X : Nat} {I : Nat → Nat → Int32} {J : Nat → Nat → Int64} {a0 : Nat} (h0 : oc1 a0) : runI call iX1_clear (0, [some (.ref a0), none], [], (mm L X I J)) = runI call iX1_clear (21, [some (.ref a0), none], [], (mm L X (up2 (up2 (up2 (up2 I a0 0 (nI 0)) a0 1 (nI 0)) a0 2 (nI 0)) a0 3 (nI 60)) J)) := by
  refine Eq.trans (st1 dX1_clear_0 rfl rfl) ?_
  refine Eq.trans (xiconst dX1_clear_1 ci_0) ?_
  refine Eq.trans (putIm dX1_clear_2 cp_1_42 (ks1_0 h0) rfl) ?_
  refine Eq.trans (st1 dX1_clear_5 rfl rfl) ?_
  refine Eq.trans (xiconst dX1_clear_6 ci_0) ?_
  refine Eq.trans (putIm dX1_clear_7 cp_1_46 (ks1_0 h0) rfl) ?_
  refine Eq.trans (st1 dX1_clear_10 rfl rfl) ?_
  refine Eq.trans (xiconst dX1_clear_11 ci_0) ?_
  refine Eq.trans (putIm dX1_clear_12 cp_1_49 (ks1_0 h0) rfl) ?_
  refine Eq.trans (st1 dX1_clear_15 rfl rfl) ?_
  refine Eq.trans (xbipush dX1_clear_16 cb_60) ?_
  refine Eq.trans (putIm dX1_clear_18 cp_1_52 (ks1_0 h0) rfl) ?_
  rfl
theorem q_X1_clear_21 {call : CALL} {L X : Nat} {I : Nat → Nat → Int32} {J : Nat → Nat → Int64} {a0 : Nat} {u1 : Option Value} (h0 : oc1 a0) : runI call iX1_clear (21, [some (.ref a0), u1], [], (mm L X I J)) = runI call iX1_clear (23, [some (.ref a0), some (.int (nI 0))], [], (mm L X I J)) := by
  refine Eq.trans (xiconst dX1_clear_21 ci_0) ?_
  refine Eq.trans (st1 dX1_clear_22 rfl rfl) ?_
  rfl
theorem q_X1_clear_23 {call : CALL} {L X : Nat} {I : Nat → Nat → Int32} {J : Nat → Nat → Int64} {a0 : Nat} {x1 : Int32} (h0 : oc1 a0) : runI call iX1_clear (23, [some (.ref a0), some (.int x1)], [], (mm L X I J)) = if (nI 10) ≤ x1 then some (.inl none, (mm L X I J)) else gd (inb x1 10) (runI call iX1_clear (23, [some (.ref a0), some (.int (x1 + (nI 1)))], [], (mm L X (up2 I (a0 + 9) (x1).toNatClampNeg ((nI 1) <<< (x1 &&& 31))) J))) := by
  refine Eq.trans (st1 dX1_clear_23 rfl rfl) ?_
  refine Eq.trans (xbipush dX1_clear_24 cb_10) ?_
  refine Eq.trans (ic_ge (tgt := 44) dX1_clear_26 (by decide +kernel)) (ite_cong (fun _ => ?_) (fun _ => ?_))
  · exact ret3 dX1_clear_44 (.inl rfl)
  · refine Eq.trans (st1 dX1_clear_29 rfl rfl) ?_
    refine Eq.trans (getRm dX1_clear_30 cp_1_36 (ks1_0 h0) rfl (rs1_12 h0)) ?_
    refine Eq.trans (st1 dX1_clear_33 rfl rfl) ?_
    refine Eq.trans (xiconst dX1_clear_34 ci_1) ?_
    refine Eq.trans (st1 dX1_clear_35 rfl rfl) ?_
    refine Eq.trans (st1 dX1_clear_36 rfl rfl) ?_
    refine Eq.trans (as1m dX1_clear_37 (ks1_9 h0)) (gd_congr fun g1 => ?_)
    refine Eq.trans (xinc2 dX1_clear_38 ci_1 rfl (Nat.le_of_ble_eq_true rfl) rfl) ?_
    refine Eq.trans (go_to (tgt := 23) dX1_clear_41 (by decide +kernel)) ?_
    rfl
theorem q_X1_follows_0 {call : CALL} {L X : Nat} {I : Nat → Nat → Int32} {J : Nat → Nat → Int64} {a0 : Nat} {x1 : Int32} {x2 : Int32} (h0 : oc1 a0) : runI call iX1_follows (0, [some (.ref a0), some (.int x1), some (.int x2)], [], (mm L X I J)) = bnd (call nX1_footOf [.ref a0, .int x1] (mm L X I J)) (fun v m' => runI call iX1_follows (6, [some (.ref a0), some (.int x1), some (.int x2)], v.toList ++ [.ref a0], m')) := by
  refine Eq.trans (st1 dX1_follows_0 rfl rfl) ?_
  refine Eq.trans (st1 dX1_follows_1 rfl rfl) ?_
  refine Eq.trans (st1 dX1_follows_2 rfl rfl) ?_
  exact iv0 dX1_follows_3 rfl cp_1_132 rfl rfl (kd_ka (ks1_0 h0)) (ks1_0 h0).1 (Nat.le_of_ble_eq_true rfl)
theorem q_X1_follows_6 {call : CALL} {L X : Nat} {I : Nat → Nat → Int32} {J : Nat → Nat → Int64} {a0 : Nat} {u1 : Option Value} {x2 : Int32} {s1 : Int32} (h0 : oc1 a0) : runI call iX1_follows (6, [some (.ref a0), u1, some (.int x2)], [.int s1, .ref a0], (mm L X I J)) = bnd (call nX1_headOf [.ref a0, .int x2] (mm L X I J)) (fun v m' => runI call iX1_follows (11, [some (.ref a0), u1, some (.int x2)], v.toList ++ [.int s1, .ref a0], m')) := by
  refine Eq.trans (st1 dX1_follows_6 rfl rfl) ?_
  refine Eq.trans (st1 dX1_follows_7 rfl rfl) ?_
  exact iv0 dX1_follows_8 rfl cp_1_136 rfl rfl (kd_ka (ks1_0 h0)) (ks1_0 h0).1 (Nat.le_of_ble_eq_true rfl)
theorem q_X1_follows_11 {call : CALL} {L X : Nat} {I : Nat → Nat → Int32} {J : Nat → Nat → Int64} {u0 : Option Value} {u1 : Option Value} {u2 : Option Value} {a0 : Nat} {s1 : Int32} {s2 : Int32} (h0 : oc1 a0) : runI call iX1_follows (11, [u0, u1, u2], [.int s2, .int s1, .ref a0], (mm L X I J)) = bnd (call nX1_joins [.ref a0, .int s1, .int s2] (mm L X I J)) (fun v m' => runI call iX1_follows (14, [u0, u1, u2], v.toList ++ [], m')) := by
  exact iv0 dX1_follows_11 rfl cp_1_139 rfl rfl (kd_ka (ks1_0 h0)) (ks1_0 h0).1 (Nat.le_of_ble_eq_true rfl)
theorem q_X1_follows_14 {call : CALL} {L X : Nat} {I : Nat → Nat → Int32} {J : Nat → Nat → Int64} {u0 : Option Value} {u1 : Option Value} {u2 : Option Value} {s0 : Int32} : runI call iX1_follows (14, [u0, u1, u2], [.int s0], (mm L X I J)) = gd (b01 s0) (some (.inl (some (.int s0)), (mm L X I J))) := by
  exact ret1g dX1_follows_14 rfl
theorem q_X1_footOf_0 {call : CALL} {L X : Nat} {I : Nat → Nat → Int32} {J : Nat → Nat → Int64} {a0 : Nat} {x1 : Int32} (h0 : oc1 a0) : runI call iX1_footOf (0, [some (.ref a0), some (.int x1)], [], (mm L X I J)) = if (x1 &&& (nI 1)) = (nI 0) then bndN (call nX11_pick [.ref (a0 + 4), .int (x1 >>> ((nI 1) &&& 31))] (mm L X I J)) (fun v m' => runI call iX1_footOf (16, [some (.ref a0), some (.int x1)], v.toList ++ [], m')) else bndN (call nX11_pick [.ref (a0 + 3), .int (x1 >>> ((nI 1) &&& 31))] (mm L X I J)) (fun v m' => runI call iX1_footOf (29, [some (.ref a0), some (.int x1)], v.toList ++ [], m')) := by
  refine Eq.trans (st1 dX1_footOf_0 rfl rfl) ?_
  refine Eq.trans (xiconst dX1_footOf_1 ci_1) ?_
  refine Eq.trans (st1 dX1_footOf_2 rfl rfl) ?_
  refine Eq.trans (if_ne (tgt := 19) dX1_footOf_3 (by decide +kernel)) (ite_cong (fun _ => ?_) (fun _ => ?_))
  · refine Eq.trans (st1 dX1_footOf_6 rfl rfl) ?_
    refine Eq.trans (getRm dX1_footOf_7 cp_1_21 (ks1_0 h0) rfl (rs1_7 h0)) ?_
    refine Eq.trans (st1 dX1_footOf_10 rfl rfl) ?_
    refine Eq.trans (xiconst dX1_footOf_11 ci_1) ?_
    refine Eq.trans (st1 dX1_footOf_12 rfl rfl) ?_
    exact is3 dX1_footOf_13 cp_1_106 (Nat.le_of_ble_eq_true rfl) rfl rfl (Nat.le_of_ble_eq_true rfl)
  · refine Eq.trans (st1 dX1_footOf_19 rfl rfl) ?_
    refine Eq.trans (getRm dX1_footOf_20 cp_1_18 (ks1_0 h0) rfl (rs1_6 h0)) ?_
    refine Eq.trans (st1 dX1_footOf_23 rfl rfl) ?_
    refine Eq.trans (xiconst dX1_footOf_24 ci_1) ?_
    refine Eq.trans (st1 dX1_footOf_25 rfl rfl) ?_
    exact is3 dX1_footOf_26 cp_1_106 (Nat.le_of_ble_eq_true rfl) rfl rfl (Nat.le_of_ble_eq_true rfl)
theorem q_X1_footOf_29 {call : CALL} {L X : Nat} {I : Nat → Nat → Int32} {J : Nat → Nat → Int64} {u0 : Option Value} {u1 : Option Value} {s0 : Int32} : runI call iX1_footOf (29, [u0, u1], [.int s0], (mm L X I J)) = some (.inl (some (.int s0)), (mm L X I J)) := by
  exact ret0 dX1_footOf_29 rfl
theorem q_X1_footOf_16 {call : CALL} {L X : Nat} {I : Nat → Nat → Int32} {J : Nat → Nat → Int64} {u0 : Option Value} {u1 : Option Value} {s0 : Int32} : runI call iX1_footOf (16, [u0, u1], [.int s0], (mm L X I J)) = some (.inl (some (.int s0)), (mm L X I J)) := by
  refine Eq.trans (go_to (tgt := 29) dX1_footOf_16 (by decide +kernel)) ?_
  exact ret0 dX1_footOf_29 rfl
theorem q_X1_headOf_0 {call : CALL} {L X : Nat} {I : Nat → Nat → Int32} {J : Nat → Nat → Int64} {a0 : Nat} {x1 : Int32} (h0 : oc1 a0) : runI call iX1_headOf (0, [some (.ref a0), some (.int x1)], [], (mm L X I J)) = if (x1 &&& (nI 1)) = (nI 0) then bndN (call nX11_pick [.ref (a0 + 3), .int (x1 >>> ((nI 1) &&& 31))] (mm L X I J)) (fun v m' => runI call iX1_headOf (16, [some (.ref a0), some (.int x1)], v.toList ++ [], m')) else bndN (call nX11_pick [.ref (a0 + 4), .int (x1 >>> ((nI 1) &&& 31))] (mm L X I J)) (fun v m' => runI call iX1_headOf (29, [some (.ref a0), some (.int x1)], v.toList ++ [], m')) := by
  refine Eq.trans (st1 dX1_headOf_0 rfl rfl) ?_
  refine Eq.trans (xiconst dX1_headOf_1 ci_1) ?_
  refine Eq.trans (st1 dX1_headOf_2 rfl rfl) ?_
  refine Eq.trans (if_ne (tgt := 19) dX1_headOf_3 (by decide +kernel)) (ite_cong (fun _ => ?_) (fun _ => ?_))
  · refine Eq.trans (st1 dX1_headOf_6 rfl rfl) ?_
    refine Eq.trans (getRm dX1_headOf_7 cp_1_18 (ks1_0 h0) rfl (rs1_6 h0)) ?_
    refine Eq.trans (st1 dX1_headOf_10 rfl rfl) ?_
    refine Eq.trans (xiconst dX1_headOf_11 ci_1) ?_
    refine Eq.trans (st1 dX1_headOf_12 rfl rfl) ?_
    exact is3 dX1_headOf_13 cp_1_106 (Nat.le_of_ble_eq_true rfl) rfl rfl (Nat.le_of_ble_eq_true rfl)
  · refine Eq.trans (st1 dX1_headOf_19 rfl rfl) ?_
    refine Eq.trans (getRm dX1_headOf_20 cp_1_21 (ks1_0 h0) rfl (rs1_7 h0)) ?_
    refine Eq.trans (st1 dX1_headOf_23 rfl rfl) ?_
    refine Eq.trans (xiconst dX1_headOf_24 ci_1) ?_
    refine Eq.trans (st1 dX1_headOf_25 rfl rfl) ?_
    exact is3 dX1_headOf_26 cp_1_106 (Nat.le_of_ble_eq_true rfl) rfl rfl (Nat.le_of_ble_eq_true rfl)
theorem q_X1_headOf_29 {call : CALL} {L X : Nat} {I : Nat → Nat → Int32} {J : Nat → Nat → Int64} {u0 : Option Value} {u1 : Option Value} {s0 : Int32} : runI call iX1_headOf (29, [u0, u1], [.int s0], (mm L X I J)) = some (.inl (some (.int s0)), (mm L X I J)) := by
  exact ret0 dX1_headOf_29 rfl
theorem q_X1_headOf_16 {call : CALL} {L X : Nat} {I : Nat → Nat → Int32} {J : Nat → Nat → Int64} {u0 : Option Value} {u1 : Option Value} {s0 : Int32} : runI call iX1_headOf (16, [u0, u1], [.int s0], (mm L X I J)) = some (.inl (some (.int s0)), (mm L X I J)) := by
  refine Eq.trans (go_to (tgt := 29) dX1_headOf_16 (by decide +kernel)) ?_
  exact ret0 dX1_headOf_29 rfl
theorem q_X1_joins_0 {call : CALL} {L X : Nat} {I : Nat → Nat → Int32} {J : Nat → Nat → Int64} {a0 : Nat} {x1 : Int32} {x2 : Int32} (h0 : oc1 a0) : runI call iX1_joins (0, [some (.ref a0), some (.int x1), some (.int x2)], [], (mm L X I J)) = bndN (call nX11_pick [.ref (a0 + 9), .int x1] (mm L X I J)) (fun v m' => runI call iX1_joins (8, [some (.ref a0), some (.int x1), some (.int x2)], v.toList ++ [], m')) := by
  refine Eq.trans (st1 dX1_joins_0 rfl rfl) ?_
  refine Eq.trans (getRm dX1_joins_1 cp_1_36 (ks1_0 h0) rfl (rs1_12 h0)) ?_
  refine Eq.trans (st1 dX1_joins_4 rfl rfl) ?_
  exact is3 dX1_joins_5 cp_1_106 (Nat.le_of_ble_eq_true rfl) rfl rfl (Nat.le_of_ble_eq_true rfl)
theorem q_X1_joins_8 {call : CALL} {L X : Nat} {I : Nat → Nat → Int32} {J : Nat → Nat → Int64} {u0 : Option Value} {u1 : Option Value} {x2 : Int32} {s0 : Int32} : runI call iX1_joins (8, [u0, u1, some (.int x2)], [.int s0], (mm L X I J)) = bndN (call nX11_bit [.int s0, .int x2] (mm L X I J)) (fun v m' => runI call iX1_joins (12, [u0, u1, some (.int x2)], v.toList ++ [], m')) := by
  refine Eq.trans (st1 dX1_joins_8 rfl rfl) ?_
  exact is3 dX1_joins_9 cp_1_128 (Nat.le_of_ble_eq_true rfl) rfl rfl (Nat.le_of_ble_eq_true rfl)
theorem q_X1_joins_12 {call : CALL} {L X : Nat} {I : Nat → Nat → Int32} {J : Nat → Nat → Int64} {u0 : Option Value} {u1 : Option Value} {u2 : Option Value} {s0 : Int32} : runI call iX1_joins (12, [u0, u1, u2], [.int s0], (mm L X I J)) = if s0 = (nI 1) then some (.inl (some (.int (nI 1))), (mm L X I J)) else some (.inl (some (.int (nI 0))), (mm L X I J)) := by
  refine Eq.trans (xiconst dX1_joins_12 ci_1) ?_
  refine Eq.trans (ic_ne (tgt := 20) dX1_joins_13 (by decide +kernel)) (ite_cong (fun _ => ?_) (fun _ => ?_))
  · refine Eq.trans (xiconst dX1_joins_16 ci_1) ?_
    refine Eq.trans (go_to (tgt := 21) dX1_joins_17 (by decide +kernel)) ?_
    exact ret1 dX1_joins_21 rfl (.inr rfl)
  · refine Eq.trans (xiconst dX1_joins_20 ci_0) ?_
    exact ret1 dX1_joins_21 rfl (.inl rfl)
theorem q_X1_readFrom_0 {call : CALL} {L X : Nat} {I : Nat → Nat → Int32} {J : Nat → Nat → Int64} {a0 : Nat} (h0 : oc1 a0) : runI call iX1_readFrom (0, [some (.ref a0), some (.ref 1), none, none], [], (mm L X I J)) = bnd (call nX1_clear [.ref a0] (mm L X I J)) (fun v m' => runI call iX1_readFrom (4, [some (.ref a0), some (.ref 1), none, none], v.toList ++ [], m')) := by
  refine Eq.trans (st1 dX1_readFrom_0 rfl rfl) ?_
  exact iv0 dX1_readFrom_1 rfl cp_1_39 rfl rfl (kd_ka (ks1_0 h0)) (ks1_0 h0).1 (Nat.le_of_ble_eq_true rfl)
theorem q_X1_readFrom_4 {call : CALL} {L X : Nat} {I : Nat → Nat → Int32} {J : Nat → Nat → Int64} {a0 : Nat} {u2 : Option Value} {u3 : Option Value} (h0 : oc1 a0) : runI call iX1_readFrom (4, [some (.ref a0), some (.ref 1), u2, u3], [], (mm L X I J)) = runI call iX1_readFrom (6, [some (.ref a0), some (.ref 1), some (.int (nI 0)), u3], [], (mm L X I J)) := by
  refine Eq.trans (xiconst dX1_readFrom_4 ci_0) ?_
  refine Eq.trans (st1 dX1_readFrom_5 rfl rfl) ?_
  rfl
theorem q_X1_readFrom_6 {call : CALL} {L X : Nat} {I : Nat → Nat → Int32} {J : Nat → Nat → Int64} {a0 : Nat} {x2 : Int32} {u3 : Option Value} (h0 : oc1 a0) : runI call iX1_readFrom (6, [some (.ref a0), some (.ref 1), some (.int x2), u3], [], (mm L X I J)) = if (nI 60) < x2 then some (.inl (some (.int (nI 0))), (mm L X I J)) else bnd (call nX7_peek [.ref 1] (mm L X I J)) (fun v m' => runI call iX1_readFrom (16, [some (.ref a0), some (.ref 1), some (.int x2), u3], v.toList ++ [], m')) := by
  refine Eq.trans (st1 dX1_readFrom_6 rfl rfl) ?_
  refine Eq.trans (xbipush dX1_readFrom_7 cb_60) ?_
  refine Eq.trans (ic_gt (tgt := 80) dX1_readFrom_9 (by decide +kernel)) (ite_cong (fun _ => ?_) (fun _ => ?_))
  · refine Eq.trans (xiconst dX1_readFrom_80 ci_0) ?_
    exact ret1 dX1_readFrom_81 rfl (.inl rfl)
  · refine Eq.trans (st1 dX1_readFrom_12 rfl rfl) ?_
    exact iv0 dX1_readFrom_13 rfl cp_1_61 rfl rfl (kd_ka ka_1) ka_1.1 (Nat.le_of_ble_eq_true rfl)
theorem q_X1_readFrom_16 {call : CALL} {L X : Nat} {I : Nat → Nat → Int32} {J : Nat → Nat → Int64} {a0 : Nat} {x2 : Int32} {u3 : Option Value} {s0 : Int32} (h0 : oc1 a0) : runI call iX1_readFrom (16, [some (.ref a0), some (.ref 1), some (.int x2), u3], [.int s0], (mm L X I J)) = if s0 = (-1 : Int32) then some (.inl (some (.int (nI 1))), (mm L X I J)) else bnd (call nX7_named [.ref 1, .ref 1000002] (mm L X I J)) (fun v m' => runI call iX1_readFrom (28, [some (.ref a0), some (.ref 1), some (.int x2), u3], v.toList ++ [], m')) := by
  refine Eq.trans (xiconst dX1_readFrom_16 ci_m1) ?_
  refine Eq.trans (ic_ne (tgt := 22) dX1_readFrom_17 (by decide +kernel)) (ite_cong (fun _ => ?_) (fun _ => ?_))
  · refine Eq.trans (xiconst dX1_readFrom_20 ci_1) ?_
    exact ret1 dX1_readFrom_21 rfl (.inr rfl)
  · refine Eq.trans (st1 dX1_readFrom_22 rfl rfl) ?_
    refine Eq.trans (xldcS (a := 1000002) dX1_readFrom_23 cp_1_67 (by decide)) ?_
    exact iv0 dX1_readFrom_25 rfl cp_1_69 rfl rfl (kd_ka ka_1) ka_1.1 (Nat.le_of_ble_eq_true rfl)
theorem q_X1_readFrom_28 {call : CALL} {L X : Nat} {I : Nat → Nat → Int32} {J : Nat → Nat → Int64} {a0 : Nat} {x2 : Int32} {u3 : Option Value} {s0 : Int32} (h0 : oc1 a0) : runI call iX1_readFrom (28, [some (.ref a0), some (.ref 1), some (.int x2), u3], [.int s0], (mm L X I J)) = if (nI 0) ≤ s0 then if x2 = (nI 60) then runI call iX1_readFrom (49, [some (.ref a0), some (.ref 1), some (.int x2), some (.int s0)], [], (mm L X I J)) else bnd (call nX1_isFull [.ref a0, .int s0] (mm L X I J)) (fun v m' => runI call iX1_readFrom (46, [some (.ref a0), some (.ref 1), some (.int x2), some (.int s0)], v.toList ++ [], m')) else some (.inl (some (.int (nI 0))), (mm L X I J)) := by
  refine Eq.trans (st1 dX1_readFrom_28 rfl rfl) ?_
  refine Eq.trans (st1 dX1_readFrom_29 rfl rfl) ?_
  refine Eq.trans (if_ge (tgt := 35) dX1_readFrom_30 (by decide +kernel)) (ite_cong (fun _ => ?_) (fun _ => ?_))
  · refine Eq.trans (st1 dX1_readFrom_35 rfl rfl) ?_
    refine Eq.trans (xbipush dX1_readFrom_36 cb_60) ?_
    refine Eq.trans (ic_eq (tgt := 49) dX1_readFrom_38 (by decide +kernel)) (ite_cong (fun _ => ?_) (fun _ => ?_))
    · rfl
    · refine Eq.trans (st1 dX1_readFrom_41 rfl rfl) ?_
      refine Eq.trans (st1 dX1_readFrom_42 rfl rfl) ?_
      exact iv0 dX1_readFrom_43 rfl cp_1_73 rfl rfl (kd_ka (ks1_0 h0)) (ks1_0 h0).1 (Nat.le_of_ble_eq_true rfl)
  · refine Eq.trans (xiconst dX1_readFrom_33 ci_0) ?_
    exact ret1 dX1_readFrom_34 rfl (.inl rfl)
theorem q_X1_readFrom_49 {call : CALL} {L X : Nat} {I : Nat → Nat → Int32} {J : Nat → Nat → Int64} {u0 : Option Value} {u2 : Option Value} {u3 : Option Value} : runI call iX1_readFrom (49, [u0, some (.ref 1), u2, u3], [], (mm L X I J)) = bnd (call nX7_tooMany [.ref 1] (mm L X I J)) (fun v m' => runI call iX1_readFrom (53, [u0, some (.ref 1), u2, u3], v.toList ++ [], m')) := by
  refine Eq.trans (st1 dX1_readFrom_49 rfl rfl) ?_
  exact iv0 dX1_readFrom_50 rfl cp_1_77 rfl rfl (kd_ka ka_1) ka_1.1 (Nat.le_of_ble_eq_true rfl)
theorem q_X1_readFrom_46 {call : CALL} {L X : Nat} {I : Nat → Nat → Int32} {J : Nat → Nat → Int64} {a0 : Nat} {x2 : Int32} {x3 : Int32} {s0 : Int32} (h0 : oc1 a0) : runI call iX1_readFrom (46, [some (.ref a0), some (.ref 1), some (.int x2), some (.int x3)], [.int s0], (mm L X I J)) = if s0 = (nI 0) then bnd (call nX1_readClause [.ref a0, .ref 1, .int x3] (mm L X I J)) (fun v m' => runI call iX1_readFrom (60, [some (.ref a0), some (.ref 1), some (.int x2), some (.int x3)], v.toList ++ [], m')) else runI call iX1_readFrom (49, [some (.ref a0), some (.ref 1), some (.int x2), some (.int x3)], [], (mm L X I J)) := by
  refine Eq.trans (if_eq (tgt := 54) dX1_readFrom_46 (by decide +kernel)) (ite_cong (fun _ => ?_) (fun _ => ?_))
  · refine Eq.trans (st1 dX1_readFrom_54 rfl rfl) ?_
    refine Eq.trans (st1 dX1_readFrom_55 rfl rfl) ?_
    refine Eq.trans (st1 dX1_readFrom_56 rfl rfl) ?_
    exact iv0 dX1_readFrom_57 rfl cp_1_81 rfl rfl (kd_ka (ks1_0 h0)) (ks1_0 h0).1 (Nat.le_of_ble_eq_true rfl)
  · rfl
theorem q_X1_readFrom_53 {call : CALL} {L X : Nat} {I : Nat → Nat → Int32} {J : Nat → Nat → Int64} {u0 : Option Value} {u1 : Option Value} {u2 : Option Value} {u3 : Option Value} {s0 : Int32} : runI call iX1_readFrom (53, [u0, u1, u2, u3], [.int s0], (mm L X I J)) = gd (b01 s0) (some (.inl (some (.int s0)), (mm L X I J))) := by
  exact ret1g dX1_readFrom_53 rfl
theorem q_X1_readFrom_60 {call : CALL} {L X : Nat} {I : Nat → Nat → Int32} {J : Nat → Nat → Int64} {a0 : Nat} {x2 : Int32} {u3 : Option Value} {s0 : Int32} (h0 : oc1 a0) : runI call iX1_readFrom (60, [some (.ref a0), some (.ref 1), some (.int x2), u3], [.int s0], (mm L X I J)) = if s0 = (nI 0) then some (.inl (some (.int (nI 0))), (mm L X I J)) else bnd (call nX7_sign [.ref 1, .int (nI 59)] (mm L X I J)) (fun v m' => runI call iX1_readFrom (69, [some (.ref a0), some (.ref 1), some (.int x2), u3], v.toList ++ [], m')) := by
  refine Eq.trans (if_eq (tgt := 72) dX1_readFrom_60 (by decide +kernel)) (ite_cong (fun _ => ?_) (fun _ => ?_))
  · refine Eq.trans (xiconst dX1_readFrom_72 ci_0) ?_
    exact ret1 dX1_readFrom_73 rfl (.inl rfl)
  · refine Eq.trans (st1 dX1_readFrom_63 rfl rfl) ?_
    refine Eq.trans (xbipush dX1_readFrom_64 cb_59) ?_
    exact iv0 dX1_readFrom_66 rfl cp_1_85 rfl rfl (kd_ka ka_1) ka_1.1 (Nat.le_of_ble_eq_true rfl)
theorem q_X1_readFrom_69 {call : CALL} {L X : Nat} {I : Nat → Nat → Int32} {J : Nat → Nat → Int64} {a0 : Nat} {x2 : Int32} {u3 : Option Value} {s0 : Int32} (h0 : oc1 a0) : runI call iX1_readFrom (69, [some (.ref a0), some (.ref 1), some (.int x2), u3], [.int s0], (mm L X I J)) = if s0 = (nI 0) then some (.inl (some (.int (nI 0))), (mm L X I J)) else runI call iX1_readFrom (6, [some (.ref a0), some (.ref 1), some (.int (x2 + (nI 1))), u3], [], (mm L X I J)) := by
  refine Eq.trans (if_ne (tgt := 74) dX1_readFrom_69 (by decide +kernel)) (ite_cong (fun _ => ?_) (fun _ => ?_))
  · refine Eq.trans (xiconst dX1_readFrom_72 ci_0) ?_
    exact ret1 dX1_readFrom_73 rfl (.inl rfl)
  · refine Eq.trans (xinc2 dX1_readFrom_74 ci_1 rfl (Nat.le_of_ble_eq_true rfl) rfl) ?_
    refine Eq.trans (go_to (tgt := 6) dX1_readFrom_77 (by decide +kernel)) ?_
    rfl
theorem q_X1_isFull_0 {call : CALL} {L X : Nat} {I : Nat → Nat → Int32} {J : Nat → Nat → Int64} {a0 : Nat} {x1 : Int32} (h0 : oc1 a0) : runI call iX1_isFull (0, [some (.ref a0), some (.int x1)], [], (mm L X I J)) = runI call iX1_isFull (1, [some (.ref a0), some (.int x1)], [.int x1], (mm L X I J)) := by
  refine Eq.trans (st1 dX1_isFull_0 rfl rfl) ?_
  rfl
theorem q_X1_isFull_1 {call : CALL} {L X : Nat} {I : Nat → Nat → Int32} {J : Nat → Nat → Int64} {a0 : Nat} {u1 : Option Value} {s0 : Int32} (h0 : oc1 a0) : runI call iX1_isFull (1, [some (.ref a0), u1], [.int s0], (mm L X I J)) = if s0 = (nI 0) then runI call iX1_isFull (28, [some (.ref a0), u1], [], (mm L X I J)) else if s0 = (nI 1) then runI call iX1_isFull (43, [some (.ref a0), u1], [], (mm L X I J)) else if s0 = (nI 2) then runI call iX1_isFull (57, [some (.ref a0), u1], [], (mm L X I J)) else runI call iX1_isFull (71, [some (.ref a0), u1], [], (mm L X I J)) := by
  refine ite_cong2 (fun e0 => sw_t dX1_isFull_1 (by rw [e0]; decide +kernel)) (fun e0 => ?_)
  refine ite_cong2 (fun e1 => sw_t dX1_isFull_1 (by rw [e1]; decide +kernel)) (fun e1 => ?_)
  refine ite_cong2 (fun e2 => sw_t dX1_isFull_1 (by rw [e2]; decide +kernel)) (fun e2 => ?_)
  exact sw_t dX1_isFull_1 (swT_dflt (vs := [(0 : Int), (1 : Int), (2 : Int)]) (by decide +kernel) (fun v hv => by simp only [List.mem_cons, List.not_mem_nil, or_false] at hv; rcases hv with rfl | rfl | rfl <;> first | exact ne_toInt (by decide +kernel) e0 | exact ne_toInt (by decide +kernel) e1 | exact ne_toInt (by decide +kernel) e2))
theorem q_X1_isFull_28 {call : CALL} {L X : Nat} {I : Nat → Nat → Int32} {J : Nat → Nat → Int64} {a0 : Nat} {u1 : Option Value} (h0 : oc1 a0) : runI call iX1_isFull (28, [some (.ref a0), u1], [], (mm L X I J)) = if (I a0 0) < (nI 6) then some (.inl (some (.int (nI 0))), (mm L X I J)) else some (.inl (some (.int (nI 1))), (mm L X I J)) := by
  refine Eq.trans (st1 dX1_isFull_28 rfl rfl) ?_
  refine Eq.trans (getIm dX1_isFull_29 cp_1_42 (ks1_0 h0) (.inl rfl)) ?_
  refine Eq.trans (xbipush dX1_isFull_32 cb_6) ?_
  refine Eq.trans (ic_lt (tgt := 41) dX1_isFull_34 (by decide +kernel)) (ite_cong (fun _ => ?_) (fun _ => ?_))
  · refine Eq.trans (xiconst dX1_isFull_41 ci_0) ?_
    exact ret1 dX1_isFull_42 rfl (.inl rfl)
  · refine Eq.trans (xiconst dX1_isFull_37 ci_1) ?_
    refine Eq.trans (go_to (tgt := 42) dX1_isFull_38 (by decide +kernel)) ?_
    exact ret1 dX1_isFull_42 rfl (.inr rfl)
theorem q_X1_isFull_43 {call : CALL} {L X : Nat} {I : Nat → Nat → Int32} {J : Nat → Nat → Int64} {a0 : Nat} {u1 : Option Value} (h0 : oc1 a0) : runI call iX1_isFull (43, [some (.ref a0), u1], [], (mm L X I J)) = if (I a0 1) < (nI 4) then some (.inl (some (.int (nI 0))), (mm L X I J)) else some (.inl (some (.int (nI 1))), (mm L X I J)) := by
  refine Eq.trans (st1 dX1_isFull_43 rfl rfl) ?_
  refine Eq.trans (getIm dX1_isFull_44 cp_1_46 (ks1_0 h0) (.inl rfl)) ?_
  refine Eq.trans (xiconst dX1_isFull_47 ci_4) ?_
  refine Eq.trans (ic_lt (tgt := 55) dX1_isFull_48 (by decide +kernel)) (ite_cong (fun _ => ?_) (fun _ => ?_))
  · refine Eq.trans (xiconst dX1_isFull_55 ci_0) ?_
    exact ret1 dX1_isFull_56 rfl (.inl rfl)
  · refine Eq.trans (xiconst dX1_isFull_51 ci_1) ?_
    refine Eq.trans (go_to (tgt := 56) dX1_isFull_52 (by decide +kernel)) ?_
    exact ret1 dX1_isFull_56 rfl (.inr rfl)
theorem q_X1_isFull_57 {call : CALL} {L X : Nat} {I : Nat → Nat → Int32} {J : Nat → Nat → Int64} {a0 : Nat} {u1 : Option Value} (h0 : oc1 a0) : runI call iX1_isFull (57, [some (.ref a0), u1], [], (mm L X I J)) = if (I a0 2) < (nI 5) then some (.inl (some (.int (nI 0))), (mm L X I J)) else some (.inl (some (.int (nI 1))), (mm L X I J)) := by
  refine Eq.trans (st1 dX1_isFull_57 rfl rfl) ?_
  refine Eq.trans (getIm dX1_isFull_58 cp_1_49 (ks1_0 h0) (.inl rfl)) ?_
  refine Eq.trans (xiconst dX1_isFull_61 ci_5) ?_
  refine Eq.trans (ic_lt (tgt := 69) dX1_isFull_62 (by decide +kernel)) (ite_cong (fun _ => ?_) (fun _ => ?_))
  · refine Eq.trans (xiconst dX1_isFull_69 ci_0) ?_
    exact ret1 dX1_isFull_70 rfl (.inl rfl)
  · refine Eq.trans (xiconst dX1_isFull_65 ci_1) ?_
    refine Eq.trans (go_to (tgt := 70) dX1_isFull_66 (by decide +kernel)) ?_
    exact ret1 dX1_isFull_70 rfl (.inr rfl)
theorem q_X1_isFull_71 {call : CALL} {L X : Nat} {I : Nat → Nat → Int32} {J : Nat → Nat → Int64} {u0 : Option Value} {u1 : Option Value} : runI call iX1_isFull (71, [u0, u1], [], (mm L X I J)) = some (.inl (some (.int (nI 0))), (mm L X I J)) := by
  refine Eq.trans (xiconst dX1_isFull_71 ci_0) ?_
  exact ret1 dX1_isFull_72 rfl (.inl rfl)
theorem q_X1_readClause_0 {call : CALL} {L X : Nat} {I : Nat → Nat → Int32} {J : Nat → Nat → Int64} {a0 : Nat} {x2 : Int32} (h0 : oc1 a0) : runI call iX1_readClause (0, [some (.ref a0), some (.ref 1), some (.int x2)], [], (mm L X I J)) = runI call iX1_readClause (1, [some (.ref a0), some (.ref 1), some (.int x2)], [.int x2], (mm L X I J)) := by
  refine Eq.trans (st1 dX1_readClause_0 rfl rfl) ?_
  rfl
theorem q_X1_readClause_1 {call : CALL} {L X : Nat} {I : Nat → Nat → Int32} {J : Nat → Nat → Int64} {a0 : Nat} {u2 : Option Value} {s0 : Int32} (h0 : oc1 a0) : runI call iX1_readClause (1, [some (.ref a0), some (.ref 1), u2], [.int s0], (mm L X I J)) = if s0 = (nI 0) then runI call iX1_readClause (28, [some (.ref a0), some (.ref 1), u2], [], (mm L X I J)) else if s0 = (nI 1) then runI call iX1_readClause (34, [some (.ref a0), some (.ref 1), u2], [], (mm L X I J)) else if s0 = (nI 2) then runI call iX1_readClause (40, [some (.ref a0), some (.ref 1), u2], [], (mm L X I J)) else runI call iX1_readClause (46, [some (.ref a0), some (.ref 1), u2], [], (mm L X I J)) := by
  refine ite_cong2 (fun e0 => sw_t dX1_readClause_1 (by rw [e0]; decide +kernel)) (fun e0 => ?_)
  refine ite_cong2 (fun e1 => sw_t dX1_readClause_1 (by rw [e1]; decide +kernel)) (fun e1 => ?_)
  refine ite_cong2 (fun e2 => sw_t dX1_readClause_1 (by rw [e2]; decide +kernel)) (fun e2 => ?_)
  exact sw_t dX1_readClause_1 (swT_dflt (vs := [(0 : Int), (1 : Int), (2 : Int)]) (by decide +kernel) (fun v hv => by simp only [List.mem_cons, List.not_mem_nil, or_false] at hv; rcases hv with rfl | rfl | rfl <;> first | exact ne_toInt (by decide +kernel) e0 | exact ne_toInt (by decide +kernel) e1 | exact ne_toInt (by decide +kernel) e2))
theorem q_X1_readClause_28 {call : CALL} {L X : Nat} {I : Nat → Nat → Int32} {J : Nat → Nat → Int64} {a0 : Nat} {u2 : Option Value} (h0 : oc1 a0) : runI call iX1_readClause (28, [some (.ref a0), some (.ref 1), u2], [], (mm L X I J)) = bnd (call nX1_readPiece [.ref a0, .ref 1] (mm L X I J)) (fun v m' => runI call iX1_readClause (33, [some (.ref a0), some (.ref 1), u2], v.toList ++ [], m')) := by
  refine Eq.trans (st1 dX1_readClause_28 rfl rfl) ?_
  refine Eq.trans (st1 dX1_readClause_29 rfl rfl) ?_
  exact iv0 dX1_readClause_30 rfl cp_1_89 rfl rfl (kd_ka (ks1_0 h0)) (ks1_0 h0).1 (Nat.le_of_ble_eq_true rfl)
theorem q_X1_readClause_34 {call : CALL} {L X : Nat} {I : Nat → Nat → Int32} {J : Nat → Nat → Int64} {a0 : Nat} {u2 : Option Value} (h0 : oc1 a0) : runI call iX1_readClause (34, [some (.ref a0), some (.ref 1), u2], [], (mm L X I J)) = bnd (call nX1_readCollar [.ref a0, .ref 1] (mm L X I J)) (fun v m' => runI call iX1_readClause (39, [some (.ref a0), some (.ref 1), u2], v.toList ++ [], m')) := by
  refine Eq.trans (st1 dX1_readClause_34 rfl rfl) ?_
  refine Eq.trans (st1 dX1_readClause_35 rfl rfl) ?_
  exact iv0 dX1_readClause_36 rfl cp_1_93 rfl rfl (kd_ka (ks1_0 h0)) (ks1_0 h0).1 (Nat.le_of_ble_eq_true rfl)
theorem q_X1_readClause_40 {call : CALL} {L X : Nat} {I : Nat → Nat → Int32} {J : Nat → Nat → Int64} {a0 : Nat} {u2 : Option Value} (h0 : oc1 a0) : runI call iX1_readClause (40, [some (.ref a0), some (.ref 1), u2], [], (mm L X I J)) = bnd (call nX1_readFire [.ref a0, .ref 1] (mm L X I J)) (fun v m' => runI call iX1_readClause (45, [some (.ref a0), some (.ref 1), u2], v.toList ++ [], m')) := by
  refine Eq.trans (st1 dX1_readClause_40 rfl rfl) ?_
  refine Eq.trans (st1 dX1_readClause_41 rfl rfl) ?_
  exact iv0 dX1_readClause_42 rfl cp_1_96 rfl rfl (kd_ka (ks1_0 h0)) (ks1_0 h0).1 (Nat.le_of_ble_eq_true rfl)
theorem q_X1_readClause_46 {call : CALL} {L X : Nat} {I : Nat → Nat → Int32} {J : Nat → Nat → Int64} {a0 : Nat} {u2 : Option Value} (h0 : oc1 a0) : runI call iX1_readClause (46, [some (.ref a0), some (.ref 1), u2], [], (mm L X I J)) = bnd (call nX1_readHope [.ref a0, .ref 1] (mm L X I J)) (fun v m' => runI call iX1_readClause (51, [some (.ref a0), some (.ref 1), u2], v.toList ++ [], m')) := by
  refine Eq.trans (st1 dX1_readClause_46 rfl rfl) ?_
  refine Eq.trans (st1 dX1_readClause_47 rfl rfl) ?_
  exact iv0 dX1_readClause_48 rfl cp_1_99 rfl rfl (kd_ka (ks1_0 h0)) (ks1_0 h0).1 (Nat.le_of_ble_eq_true rfl)
theorem q_X1_readClause_33 {call : CALL} {L X : Nat} {I : Nat → Nat → Int32} {J : Nat → Nat → Int64} {u0 : Option Value} {u1 : Option Value} {u2 : Option Value} {s0 : Int32} : runI call iX1_readClause (33, [u0, u1, u2], [.int s0], (mm L X I J)) = gd (b01 s0) (some (.inl (some (.int s0)), (mm L X I J))) := by
  exact ret1g dX1_readClause_33 rfl
theorem q_X1_readClause_39 {call : CALL} {L X : Nat} {I : Nat → Nat → Int32} {J : Nat → Nat → Int64} {u0 : Option Value} {u1 : Option Value} {u2 : Option Value} {s0 : Int32} : runI call iX1_readClause (39, [u0, u1, u2], [.int s0], (mm L X I J)) = gd (b01 s0) (some (.inl (some (.int s0)), (mm L X I J))) := by
  exact ret1g dX1_readClause_39 rfl
theorem q_X1_readClause_45 {call : CALL} {L X : Nat} {I : Nat → Nat → Int32} {J : Nat → Nat → Int64} {u0 : Option Value} {u1 : Option Value} {u2 : Option Value} {s0 : Int32} : runI call iX1_readClause (45, [u0, u1, u2], [.int s0], (mm L X I J)) = gd (b01 s0) (some (.inl (some (.int s0)), (mm L X I J))) := by
  exact ret1g dX1_readClause_45 rfl
theorem q_X1_readClause_51 {call : CALL} {L X : Nat} {I : Nat → Nat → Int32} {J : Nat → Nat → Int64} {u0 : Option Value} {u1 : Option Value} {u2 : Option Value} {s0 : Int32} : runI call iX1_readClause (51, [u0, u1, u2], [.int s0], (mm L X I J)) = gd (b01 s0) (some (.inl (some (.int s0)), (mm L X I J))) := by
  exact ret1g dX1_readClause_51 rfl
theorem q_X1_readPiece_0 {call : CALL} {L X : Nat} {I : Nat → Nat → Int32} {J : Nat → Nat → Int64} {a0 : Nat} (h0 : oc1 a0) : runI call iX1_readPiece (0, [some (.ref a0), some (.ref 1), none], [], (mm L X I J)) = bndN (call nX1_readTo [.ref (a0 + 1), .int (I a0 0), .ref 1, .int (nI 1), .int (nI 30)] (mm L X I J)) (fun v m' => runI call iX1_readPiece (15, [some (.ref a0), some (.ref 1), none], v.toList ++ [], m')) := by
  refine Eq.trans (st1 dX1_readPiece_0 rfl rfl) ?_
  refine Eq.trans (getRm dX1_readPiece_1 cp_1_9 (ks1_0 h0) rfl (rs1_4 h0)) ?_
  refine Eq.trans (st1 dX1_readPiece_4 rfl rfl) ?_
  refine Eq.trans (getIm dX1_readPiece_5 cp_1_42 (ks1_0 h0) (.inl rfl)) ?_
  refine Eq.trans (st1 dX1_readPiece_8 rfl rfl) ?_
  refine Eq.trans (xiconst dX1_readPiece_9 ci_1) ?_
  refine Eq.trans (xbipush dX1_readPiece_10 cb_30) ?_
  exact is2 dX1_readPiece_12 cp_1_102 (Nat.le_of_ble_eq_true rfl) rfl rfl (Nat.le_of_ble_eq_true rfl)
theorem q_X1_readPiece_15 {call : CALL} {L X : Nat} {I : Nat → Nat → Int32} {J : Nat → Nat → Int64} {a0 : Nat} {u2 : Option Value} {s0 : Int32} (h0 : oc1 a0) : runI call iX1_readPiece (15, [some (.ref a0), some (.ref 1), u2], [.int s0], (mm L X I J)) = if s0 = (nI 0) then runI call iX1_readPiece (76, [some (.ref a0), some (.ref 1), u2], [], (mm L X I J)) else bndN (call nX1_readTo [.ref (a0 + 3), .int (I a0 0), .ref 1, .int (nI 0), .int (nI 9)] (mm L X I J)) (fun v m' => runI call iX1_readPiece (33, [some (.ref a0), some (.ref 1), u2], v.toList ++ [], m')) := by
  refine Eq.trans (if_eq (tgt := 76) dX1_readPiece_15 (by decide +kernel)) (ite_cong (fun _ => ?_) (fun _ => ?_))
  · rfl
  · refine Eq.trans (st1 dX1_readPiece_18 rfl rfl) ?_
    refine Eq.trans (getRm dX1_readPiece_19 cp_1_18 (ks1_0 h0) rfl (rs1_6 h0)) ?_
    refine Eq.trans (st1 dX1_readPiece_22 rfl rfl) ?_
    refine Eq.trans (getIm dX1_readPiece_23 cp_1_42 (ks1_0 h0) (.inl rfl)) ?_
    refine Eq.trans (st1 dX1_readPiece_26 rfl rfl) ?_
    refine Eq.trans (xiconst dX1_readPiece_27 ci_0) ?_
    refine Eq.trans (xbipush dX1_readPiece_28 cb_9) ?_
    exact is2 dX1_readPiece_30 cp_1_102 (Nat.le_of_ble_eq_true rfl) rfl rfl (Nat.le_of_ble_eq_true rfl)
theorem q_X1_readPiece_76 {call : CALL} {L X : Nat} {I : Nat → Nat → Int32} {J : Nat → Nat → Int64} {a0 : Nat} {u1 : Option Value} {u2 : Option Value} (h0 : oc1 a0) : runI call iX1_readPiece (76, [some (.ref a0), u1, u2], [], (mm L X I J)) = runI call iX1_readPiece (77, [some (.ref a0), u1, u2], [.int (nI 0)], (mm L X I J)) := by
  refine Eq.trans (xiconst dX1_readPiece_76 ci_0) ?_
  rfl
theorem q_X1_readPiece_33 {call : CALL} {L X : Nat} {I : Nat → Nat → Int32} {J : Nat → Nat → Int64} {a0 : Nat} {u2 : Option Value} {s0 : Int32} (h0 : oc1 a0) : runI call iX1_readPiece (33, [some (.ref a0), some (.ref 1), u2], [.int s0], (mm L X I J)) = if s0 = (nI 0) then runI call iX1_readPiece (76, [some (.ref a0), some (.ref 1), u2], [], (mm L X I J)) else bndN (call nX1_readTo [.ref (a0 + 4), .int (I a0 0), .ref 1, .int (nI 0), .int (nI 9)] (mm L X I J)) (fun v m' => runI call iX1_readPiece (51, [some (.ref a0), some (.ref 1), u2], v.toList ++ [], m')) := by
  refine Eq.trans (if_eq (tgt := 76) dX1_readPiece_33 (by decide +kernel)) (ite_cong (fun _ => ?_) (fun _ => ?_))
  · rfl
  · refine Eq.trans (st1 dX1_readPiece_36 rfl rfl) ?_
    refine Eq.trans (getRm dX1_readPiece_37 cp_1_21 (ks1_0 h0) rfl (rs1_7 h0)) ?_
    refine Eq.trans (st1 dX1_readPiece_40 rfl rfl) ?_
    refine Eq.trans (getIm dX1_readPiece_41 cp_1_42 (ks1_0 h0) (.inl rfl)) ?_
    refine Eq.trans (st1 dX1_readPiece_44 rfl rfl) ?_
    refine Eq.trans (xiconst dX1_readPiece_45 ci_0) ?_
    refine Eq.trans (xbipush dX1_readPiece_46 cb_9) ?_
    exact is2 dX1_readPiece_48 cp_1_102 (Nat.le_of_ble_eq_true rfl) rfl rfl (Nat.le_of_ble_eq_true rfl)
theorem q_X1_readPiece_77 {call : CALL} {L X : Nat} {I : Nat → Nat → Int32} {J : Nat → Nat → Int64} {a0 : Nat} {u1 : Option Value} {u2 : Option Value} {s0 : Int32} (h0 : oc1 a0) (hu1 : okv u1 = true) : runI call iX1_readPiece (77, [some (.ref a0), u1, u2], [.int s0], (mm L X I J)) = gd (b01 s0) (some (.inl (some (.int s0)), (mm L X (up2 I a0 0 ((I a0 0) + (nI 1))) J))) := by
  refine Eq.trans (xst1 (k := 2) dX1_readPiece_77 hu1 rfl) ?_
  refine Eq.trans (st1 dX1_readPiece_78 rfl rfl) ?_
  refine Eq.trans (st1 dX1_readPiece_79 rfl rfl) ?_
  refine Eq.trans (getIm dX1_readPiece_80 cp_1_42 (ks1_0 h0) (.inl rfl)) ?_
  refine Eq.trans (xiconst dX1_readPiece_83 ci_1) ?_
  refine Eq.trans (st1 dX1_readPiece_84 rfl rfl) ?_
  refine Eq.trans (putIm dX1_readPiece_85 cp_1_42 (ks1_0 h0) rfl) ?_
  refine Eq.trans (st1 dX1_readPiece_88 rfl rfl) ?_
  exact ret1g dX1_readPiece_89 rfl
theorem q_X1_readPiece_51 {call : CALL} {L X : Nat} {I : Nat → Nat → Int32} {J : Nat → Nat → Int64} {a0 : Nat} {u2 : Option Value} {s0 : Int32} (h0 : oc1 a0) : runI call iX1_readPiece (51, [some (.ref a0), some (.ref 1), u2], [.int s0], (mm L X I J)) = if s0 = (nI 0) then runI call iX1_readPiece (76, [some (.ref a0), some (.ref 1), u2], [], (mm L X I J)) else bndN (call nX1_readTo [.ref (a0 + 2), .int (I a0 0), .ref 1, .int (nI 0), .int (nI 9)] (mm L X I J)) (fun v m' => runI call iX1_readPiece (69, [some (.ref a0), some (.ref 1), u2], v.toList ++ [], m')) := by
  refine Eq.trans (if_eq (tgt := 76) dX1_readPiece_51 (by decide +kernel)) (ite_cong (fun _ => ?_) (fun _ => ?_))
  · rfl
  · refine Eq.trans (st1 dX1_readPiece_54 rfl rfl) ?_
    refine Eq.trans (getRm dX1_readPiece_55 cp_1_15 (ks1_0 h0) rfl (rs1_5 h0)) ?_
    refine Eq.trans (st1 dX1_readPiece_58 rfl rfl) ?_
    refine Eq.trans (getIm dX1_readPiece_59 cp_1_42 (ks1_0 h0) (.inl rfl)) ?_
    refine Eq.trans (st1 dX1_readPiece_62 rfl rfl) ?_
    refine Eq.trans (xiconst dX1_readPiece_63 ci_0) ?_
    refine Eq.trans (xbipush dX1_readPiece_64 cb_9) ?_
    exact is2 dX1_readPiece_66 cp_1_102 (Nat.le_of_ble_eq_true rfl) rfl rfl (Nat.le_of_ble_eq_true rfl)
theorem q_X1_readPiece_69 {call : CALL} {L X : Nat} {I : Nat → Nat → Int32} {J : Nat → Nat → Int64} {a0 : Nat} {u1 : Option Value} {u2 : Option Value} {s0 : Int32} (h0 : oc1 a0) : runI call iX1_readPiece (69, [some (.ref a0), u1, u2], [.int s0], (mm L X I J)) = if s0 = (nI 0) then runI call iX1_readPiece (76, [some (.ref a0), u1, u2], [], (mm L X I J)) else runI call iX1_readPiece (77, [some (.ref a0), u1, u2], [.int (nI 1)], (mm L X I J)) := by
  refine Eq.trans (if_eq (tgt := 76) dX1_readPiece_69 (by decide +kernel)) (ite_cong (fun _ => ?_) (fun _ => ?_))
  · rfl
  · refine Eq.trans (xiconst dX1_readPiece_72 ci_1) ?_
    refine Eq.trans (go_to (tgt := 77) dX1_readPiece_73 (by decide +kernel)) ?_
    rfl
theorem q_X1_readTo_0 {call : CALL} {L X : Nat} {I : Nat → Nat → Int32} {J : Nat → Nat → Int64} {r0 : Nat} {n0 : Nat} {x1 : Int32} {x3 : Int32} {x4 : Int32} (k0 : ka r0 1 n0) : runI call iX1_readTo (0, [some (.ref r0), some (.int x1), some (.ref 1), some (.int x3), some (.int x4), none], [], (mm L X I J)) = bnd (call nX7_numeral [.ref 1, .int x3, .int x4] (mm L X I J)) (fun v m' => runI call iX1_readTo (7, [some (.ref r0), some (.int x1), some (.ref 1), some (.int x3), some (.int x4), none], v.toList ++ [], m')) := by
  refine Eq.trans (st1 dX1_readTo_0 rfl rfl) ?_
  refine Eq.trans (st1 dX1_readTo_1 rfl rfl) ?_
  refine Eq.trans (st1 dX1_readTo_2 rfl rfl) ?_
  exact iv0 dX1_readTo_4 rfl cp_1_117 rfl rfl (kd_ka ka_1) ka_1.1 (Nat.le_of_ble_eq_true rfl)
theorem q_X1_readTo_7 {call : CALL} {L X : Nat} {I : Nat → Nat → Int32} {J : Nat → Nat → Int64} {r0 : Nat} {n0 : Nat} {x1 : Int32} {u3 : Option Value} {u4 : Option Value} {u5 : Option Value} {s0 : Int32} (k0 : ka r0 1 n0) (hu4 : okv u4 = true) : runI call iX1_readTo (7, [some (.ref r0), some (.int x1), some (.ref 1), u3, u4, u5], [.int s0], (mm L X I J)) = bndN (call nX11_put [.ref r0, .int x1, .int (I 1 4)] (mm L X I J)) (fun v m' => runI call iX1_readTo (18, [some (.ref r0), some (.int x1), some (.ref 1), u3, u4, some (.int s0)], v.toList ++ [], m')) := by
  refine Eq.trans (xst2 (k := 5) dX1_readTo_7 hu4 rfl) ?_
  refine Eq.trans (st1 dX1_readTo_9 rfl rfl) ?_
  refine Eq.trans (st1 dX1_readTo_10 rfl rfl) ?_
  refine Eq.trans (st1 dX1_readTo_11 rfl rfl) ?_
  refine Eq.trans (getIm dX1_readTo_12 cp_1_121 ka_1 (.inl rfl)) ?_
  exact is3 dX1_readTo_15 cp_1_124 (Nat.le_of_ble_eq_true rfl) rfl rfl (Nat.le_of_ble_eq_true rfl)
theorem q_X1_readTo_18 {call : CALL} {L X : Nat} {I : Nat → Nat → Int32} {J : Nat → Nat → Int64} {u0 : Option Value} {u1 : Option Value} {u2 : Option Value} {u3 : Option Value} {u4 : Option Value} {x5 : Int32} : runI call iX1_readTo (18, [u0, u1, u2, u3, u4, some (.int x5)], [], (mm L X I J)) = gd (b01 x5) (some (.inl (some (.int x5)), (mm L X I J))) := by
  refine Eq.trans (st1 dX1_readTo_18 rfl rfl) ?_
  exact ret1g dX1_readTo_20 rfl
theorem q_X1_readCollar_0 {call : CALL} {L X : Nat} {I : Nat → Nat → Int32} {J : Nat → Nat → Int64} {a0 : Nat} (h0 : oc1 a0) : runI call iX1_readCollar (0, [some (.ref a0), some (.ref 1), none, none], [], (mm L X I J)) = bndN (call nX1_readTo [.ref (a0 + 5), .int (I a0 1), .ref 1, .int (nI 0), .int (nI 9)] (mm L X I J)) (fun v m' => runI call iX1_readCollar (15, [some (.ref a0), some (.ref 1), none, none], v.toList ++ [], m')) := by
  refine Eq.trans (st1 dX1_readCollar_0 rfl rfl) ?_
  refine Eq.trans (getRm dX1_readCollar_1 cp_1_24 (ks1_0 h0) rfl (rs1_8 h0)) ?_
  refine Eq.trans (st1 dX1_readCollar_4 rfl rfl) ?_
  refine Eq.trans (getIm dX1_readCollar_5 cp_1_46 (ks1_0 h0) (.inl rfl)) ?_
  refine Eq.trans (st1 dX1_readCollar_8 rfl rfl) ?_
  refine Eq.trans (xiconst dX1_readCollar_9 ci_0) ?_
  refine Eq.trans (xbipush dX1_readCollar_10 cb_9) ?_
  exact is2 dX1_readCollar_12 cp_1_102 (Nat.le_of_ble_eq_true rfl) rfl rfl (Nat.le_of_ble_eq_true rfl)
theorem q_X1_readCollar_15 {call : CALL} {L X : Nat} {I : Nat → Nat → Int32} {J : Nat → Nat → Int64} {a0 : Nat} {u2 : Option Value} {u3 : Option Value} {s0 : Int32} (h0 : oc1 a0) : runI call iX1_readCollar (15, [some (.ref a0), some (.ref 1), u2, u3], [.int s0], (mm L X I J)) = if s0 = (nI 0) then some (.inl (some (.int (nI 0))), (mm L X I J)) else bndN (call nX1_readTo [.ref (a0 + 6), .int (I a0 1), .ref 1, .int (nI 0), .int (nI 9)] (mm L X I J)) (fun v m' => runI call iX1_readCollar (33, [some (.ref a0), some (.ref 1), u2, u3], v.toList ++ [], m')) := by
  refine Eq.trans (if_eq (tgt := 36) dX1_readCollar_15 (by decide +kernel)) (ite_cong (fun _ => ?_) (fun _ => ?_))
  · refine Eq.trans (xiconst dX1_readCollar_36 ci_0) ?_
    exact ret1 dX1_readCollar_37 rfl (.inl rfl)
  · refine Eq.trans (st1 dX1_readCollar_18 rfl rfl) ?_
    refine Eq.trans (getRm dX1_readCollar_19 cp_1_27 (ks1_0 h0) rfl (rs1_9 h0)) ?_
    refine Eq.trans (st1 dX1_readCollar_22 rfl rfl) ?_
    refine Eq.trans (getIm dX1_readCollar_23 cp_1_46 (ks1_0 h0) (.inl rfl)) ?_
    refine Eq.trans (st1 dX1_readCollar_26 rfl rfl) ?_
    refine Eq.trans (xiconst dX1_readCollar_27 ci_0) ?_
    refine Eq.trans (xbipush dX1_readCollar_28 cb_9) ?_
    exact is2 dX1_readCollar_30 cp_1_102 (Nat.le_of_ble_eq_true rfl) rfl rfl (Nat.le_of_ble_eq_true rfl)
theorem q_X1_readCollar_33 {call : CALL} {L X : Nat} {I : Nat → Nat → Int32} {J : Nat → Nat → Int64} {a0 : Nat} {u2 : Option Value} {u3 : Option Value} {s0 : Int32} (h0 : oc1 a0) : runI call iX1_readCollar (33, [some (.ref a0), some (.ref 1), u2, u3], [.int s0], (mm L X I J)) = if s0 = (nI 0) then some (.inl (some (.int (nI 0))), (mm L X I J)) else bndN (call nX11_pick [.ref (a0 + 5), .int (I a0 1)] (mm L X I J)) (fun v m' => runI call iX1_readCollar (49, [some (.ref a0), some (.ref 1), u2, u3], v.toList ++ [], m')) := by
  refine Eq.trans (if_ne (tgt := 38) dX1_readCollar_33 (by decide +kernel)) (ite_cong (fun _ => ?_) (fun _ => ?_))
  · refine Eq.trans (xiconst dX1_readCollar_36 ci_0) ?_
    exact ret1 dX1_readCollar_37 rfl (.inl rfl)
  · refine Eq.trans (st1 dX1_readCollar_38 rfl rfl) ?_
    refine Eq.trans (getRm dX1_readCollar_39 cp_1_24 (ks1_0 h0) rfl (rs1_8 h0)) ?_
    refine Eq.trans (st1 dX1_readCollar_42 rfl rfl) ?_
    refine Eq.trans (getIm dX1_readCollar_43 cp_1_46 (ks1_0 h0) (.inl rfl)) ?_
    exact is3 dX1_readCollar_46 cp_1_106 (Nat.le_of_ble_eq_true rfl) rfl rfl (Nat.le_of_ble_eq_true rfl)
theorem q_X1_readCollar_49 {call : CALL} {L X : Nat} {I : Nat → Nat → Int32} {J : Nat → Nat → Int64} {a0 : Nat} {u2 : Option Value} {u3 : Option Value} {s0 : Int32} (h0 : oc1 a0) : runI call iX1_readCollar (49, [some (.ref a0), some (.ref 1), u2, u3], [.int s0], (mm L X I J)) = bndN (call nX11_pick [.ref (a0 + 6), .int (I a0 1)] (mm L X I J)) (fun v m' => runI call iX1_readCollar (61, [some (.ref a0), some (.ref 1), some (.int s0), u3], v.toList ++ [], m')) := by
  refine Eq.trans (st1 dX1_readCollar_49 rfl rfl) ?_
  refine Eq.trans (st1 dX1_readCollar_50 rfl rfl) ?_
  refine Eq.trans (getRm dX1_readCollar_51 cp_1_27 (ks1_0 h0) rfl (rs1_9 h0)) ?_
  refine Eq.trans (st1 dX1_readCollar_54 rfl rfl) ?_
  refine Eq.trans (getIm dX1_readCollar_55 cp_1_46 (ks1_0 h0) (.inl rfl)) ?_
  exact is3 dX1_readCollar_58 cp_1_106 (Nat.le_of_ble_eq_true rfl) rfl rfl (Nat.le_of_ble_eq_true rfl)
theorem q_X1_readCollar_61 {call : CALL} {L X : Nat} {I : Nat → Nat → Int32} {J : Nat → Nat → Int64} {a0 : Nat} {x2 : Int32} {u3 : Option Value} {s0 : Int32} (h0 : oc1 a0) : runI call iX1_readCollar (61, [some (.ref a0), some (.ref 1), some (.int x2), u3], [.int s0], (mm L X I J)) = if x2 = s0 then bnd (call nX7_noneSuch [.ref 1] (mm L X I J)) (fun v m' => runI call iX1_readCollar (71, [some (.ref a0), some (.ref 1), some (.int x2), some (.int s0)], v.toList ++ [], m')) else bnd (call nX1_join [.ref a0, .int x2, .int s0] (mm L X (up2 I a0 1 ((I a0 1) + (nI 1))) J)) (fun v m' => runI call iX1_readCollar (88, [some (.ref a0), some (.ref 1), some (.int x2), some (.int s0)], v.toList ++ [], m')) := by
  refine Eq.trans (st1 dX1_readCollar_61 rfl rfl) ?_
  refine Eq.trans (st1 dX1_readCollar_62 rfl rfl) ?_
  refine Eq.trans (st1 dX1_readCollar_63 rfl rfl) ?_
  refine Eq.trans (ic_ne (tgt := 72) dX1_readCollar_64 (by decide +kernel)) (ite_cong (fun _ => ?_) (fun _ => ?_))
  · refine Eq.trans (st1 dX1_readCollar_67 rfl rfl) ?_
    exact iv0 dX1_readCollar_68 rfl cp_1_110 rfl rfl (kd_ka ka_1) ka_1.1 (Nat.le_of_ble_eq_true rfl)
  · refine Eq.trans (st1 dX1_readCollar_72 rfl rfl) ?_
    refine Eq.trans (st1 dX1_readCollar_73 rfl rfl) ?_
    refine Eq.trans (getIm dX1_readCollar_74 cp_1_46 (ks1_0 h0) (.inl rfl)) ?_
    refine Eq.trans (xiconst dX1_readCollar_77 ci_1) ?_
    refine Eq.trans (st1 dX1_readCollar_78 rfl rfl) ?_
    refine Eq.trans (putIm dX1_readCollar_79 cp_1_46 (ks1_0 h0) rfl) ?_
    refine Eq.trans (st1 dX1_readCollar_82 rfl rfl) ?_
    refine Eq.trans (st1 dX1_readCollar_83 rfl rfl) ?_
    refine Eq.trans (st1 dX1_readCollar_84 rfl rfl) ?_
    exact iv0 dX1_readCollar_85 rfl cp_1_113 rfl rfl (kd_ka (ks1_0 h0)) (ks1_0 h0).1 (Nat.le_of_ble_eq_true rfl)
theorem q_X1_readCollar_88 {call : CALL} {L X : Nat} {I : Nat → Nat → Int32} {J : Nat → Nat → Int64} {u0 : Option Value} {u1 : Option Value} {u2 : Option Value} {u3 : Option Value} : runI call iX1_readCollar (88, [u0, u1, u2, u3], [], (mm L X I J)) = some (.inl (some (.int (nI 1))), (mm L X I J)) := by
  refine Eq.trans (xiconst dX1_readCollar_88 ci_1) ?_
  exact ret1 dX1_readCollar_89 rfl (.inr rfl)
theorem q_X1_readCollar_71 {call : CALL} {L X : Nat} {I : Nat → Nat → Int32} {J : Nat → Nat → Int64} {u0 : Option Value} {u1 : Option Value} {u2 : Option Value} {u3 : Option Value} {s0 : Int32} : runI call iX1_readCollar (71, [u0, u1, u2, u3], [.int s0], (mm L X I J)) = gd (b01 s0) (some (.inl (some (.int s0)), (mm L X I J))) := by
  exact ret1g dX1_readCollar_71 rfl
theorem q_X1_join_0 {call : CALL} {L X : Nat} {I : Nat → Nat → Int32} {J : Nat → Nat → Int64} {a0 : Nat} {x1 : Int32} {x2 : Int32} (h0 : oc1 a0) : runI call iX1_join (0, [some (.ref a0), some (.int x1), some (.int x2)], [], (mm L X I J)) = bndN (call nX11_pick [.ref (a0 + 9), .int x1] (mm L X I J)) (fun v m' => runI call iX1_join (13, [some (.ref a0), some (.int x1), some (.int x2)], v.toList ++ [.int x1, .ref (a0 + 9)], m')) := by
  refine Eq.trans (st1 dX1_join_0 rfl rfl) ?_
  refine Eq.trans (getRm dX1_join_1 cp_1_36 (ks1_0 h0) rfl (rs1_12 h0)) ?_
  refine Eq.trans (st1 dX1_join_4 rfl rfl) ?_
  refine Eq.trans (st1 dX1_join_5 rfl rfl) ?_
  refine Eq.trans (getRm dX1_join_6 cp_1_36 (ks1_0 h0) rfl (rs1_12 h0)) ?_
  refine Eq.trans (st1 dX1_join_9 rfl rfl) ?_
  exact is3 dX1_join_10 cp_1_106 (Nat.le_of_ble_eq_true rfl) rfl rfl (Nat.le_of_ble_eq_true rfl)
theorem q_X1_join_13 {call : CALL} {L X : Nat} {I : Nat → Nat → Int32} {J : Nat → Nat → Int64} {a0 : Nat} {x1 : Int32} {x2 : Int32} {s1 : Int32} {s2 : Int32} (h0 : oc1 a0) : runI call iX1_join (13, [some (.ref a0), some (.int x1), some (.int x2)], [.int s2, .int s1, .ref (a0 + 9)], (mm L X I J)) = bndN (call nX11_put [.ref (a0 + 9), .int s1, .int (s2 ||| ((nI 1) <<< (x2 &&& 31)))] (mm L X I J)) (fun v m' => runI call iX1_join (20, [some (.ref a0), some (.int x1), some (.int x2)], v.toList ++ [], m')) := by
  refine Eq.trans (xiconst dX1_join_13 ci_1) ?_
  refine Eq.trans (st1 dX1_join_14 rfl rfl) ?_
  refine Eq.trans (st1 dX1_join_15 rfl rfl) ?_
  refine Eq.trans (st1 dX1_join_16 rfl rfl) ?_
  exact is3 dX1_join_17 cp_1_124 (Nat.le_of_ble_eq_true rfl) rfl rfl (Nat.le_of_ble_eq_true rfl)
theorem q_X1_join_20 {call : CALL} {L X : Nat} {I : Nat → Nat → Int32} {J : Nat → Nat → Int64} {a0 : Nat} {x1 : Int32} {x2 : Int32} (h0 : oc1 a0) : runI call iX1_join (20, [some (.ref a0), some (.int x1), some (.int x2)], [], (mm L X I J)) = bndN (call nX11_pick [.ref (a0 + 9), .int x2] (mm L X I J)) (fun v m' => runI call iX1_join (33, [some (.ref a0), some (.int x1), some (.int x2)], v.toList ++ [.int x2, .ref (a0 + 9)], m')) := by
  refine Eq.trans (st1 dX1_join_20 rfl rfl) ?_
  refine Eq.trans (getRm dX1_join_21 cp_1_36 (ks1_0 h0) rfl (rs1_12 h0)) ?_
  refine Eq.trans (st1 dX1_join_24 rfl rfl) ?_
  refine Eq.trans (st1 dX1_join_25 rfl rfl) ?_
  refine Eq.trans (getRm dX1_join_26 cp_1_36 (ks1_0 h0) rfl (rs1_12 h0)) ?_
  refine Eq.trans (st1 dX1_join_29 rfl rfl) ?_
  exact is3 dX1_join_30 cp_1_106 (Nat.le_of_ble_eq_true rfl) rfl rfl (Nat.le_of_ble_eq_true rfl)
theorem q_X1_join_33 {call : CALL} {L X : Nat} {I : Nat → Nat → Int32} {J : Nat → Nat → Int64} {u0 : Option Value} {x1 : Int32} {u2 : Option Value} {a0 : Nat} {s1 : Int32} {s2 : Int32} (h0 : oc1 a0) : runI call iX1_join (33, [u0, some (.int x1), u2], [.int s2, .int s1, .ref (a0 + 9)], (mm L X I J)) = bndN (call nX11_put [.ref (a0 + 9), .int s1, .int (s2 ||| ((nI 1) <<< (x1 &&& 31)))] (mm L X I J)) (fun v m' => runI call iX1_join (40, [u0, some (.int x1), u2], v.toList ++ [], m')) := by
  refine Eq.trans (xiconst dX1_join_33 ci_1) ?_
  refine Eq.trans (st1 dX1_join_34 rfl rfl) ?_
  refine Eq.trans (st1 dX1_join_35 rfl rfl) ?_
  refine Eq.trans (st1 dX1_join_36 rfl rfl) ?_
  exact is3 dX1_join_37 cp_1_124 (Nat.le_of_ble_eq_true rfl) rfl rfl (Nat.le_of_ble_eq_true rfl)
theorem q_X1_join_40 {call : CALL} {L X : Nat} {I : Nat → Nat → Int32} {J : Nat → Nat → Int64} {u0 : Option Value} {u1 : Option Value} {u2 : Option Value} : runI call iX1_join (40, [u0, u1, u2], [], (mm L X I J)) = some (.inl none, (mm L X I J)) := by
  exact ret3 dX1_join_40 (.inl rfl)
theorem q_X1_readFire_0 {call : CALL} {L X : Nat} {I : Nat → Nat → Int32} {J : Nat → Nat → Int64} {a0 : Nat} (h0 : oc1 a0) : runI call iX1_readFire (0, [some (.ref a0), some (.ref 1), none], [], (mm L X I J)) = bndN (call nX1_readTo [.ref (a0 + 7), .int (I a0 2), .ref 1, .int (nI 0), .int (nI 200)] (mm L X I J)) (fun v m' => runI call iX1_readFire (16, [some (.ref a0), some (.ref 1), none], v.toList ++ [], m')) := by
  refine Eq.trans (st1 dX1_readFire_0 rfl rfl) ?_
  refine Eq.trans (getRm dX1_readFire_1 cp_1_30 (ks1_0 h0) rfl (rs1_10 h0)) ?_
  refine Eq.trans (st1 dX1_readFire_4 rfl rfl) ?_
  refine Eq.trans (getIm dX1_readFire_5 cp_1_49 (ks1_0 h0) (.inl rfl)) ?_
  refine Eq.trans (st1 dX1_readFire_8 rfl rfl) ?_
  refine Eq.trans (xiconst dX1_readFire_9 ci_0) ?_
  refine Eq.trans (xsipush dX1_readFire_10 cs_200) ?_
  exact is2 dX1_readFire_13 cp_1_102 (Nat.le_of_ble_eq_true rfl) rfl rfl (Nat.le_of_ble_eq_true rfl)
theorem q_X1_readFire_16 {call : CALL} {L X : Nat} {I : Nat → Nat → Int32} {J : Nat → Nat → Int64} {a0 : Nat} {u2 : Option Value} {s0 : Int32} (h0 : oc1 a0) : runI call iX1_readFire (16, [some (.ref a0), some (.ref 1), u2], [.int s0], (mm L X I J)) = if s0 = (nI 0) then runI call iX1_readFire (41, [some (.ref a0), some (.ref 1), u2], [], (mm L X I J)) else bndN (call nX1_readTo [.ref (a0 + 8), .int (I a0 2), .ref 1, .int (nI 1), .int (nI 99)] (mm L X I J)) (fun v m' => runI call iX1_readFire (34, [some (.ref a0), some (.ref 1), u2], v.toList ++ [], m')) := by
  refine Eq.trans (if_eq (tgt := 41) dX1_readFire_16 (by decide +kernel)) (ite_cong (fun _ => ?_) (fun _ => ?_))
  · rfl
  · refine Eq.trans (st1 dX1_readFire_19 rfl rfl) ?_
    refine Eq.trans (getRm dX1_readFire_20 cp_1_33 (ks1_0 h0) rfl (rs1_11 h0)) ?_
    refine Eq.trans (st1 dX1_readFire_23 rfl rfl) ?_
    refine Eq.trans (getIm dX1_readFire_24 cp_1_49 (ks1_0 h0) (.inl rfl)) ?_
    refine Eq.trans (st1 dX1_readFire_27 rfl rfl) ?_
    refine Eq.trans (xiconst dX1_readFire_28 ci_1) ?_
    refine Eq.trans (xbipush dX1_readFire_29 cb_99) ?_
    exact is2 dX1_readFire_31 cp_1_102 (Nat.le_of_ble_eq_true rfl) rfl rfl (Nat.le_of_ble_eq_true rfl)
theorem q_X1_readFire_41 {call : CALL} {L X : Nat} {I : Nat → Nat → Int32} {J : Nat → Nat → Int64} {a0 : Nat} {u1 : Option Value} {u2 : Option Value} (h0 : oc1 a0) : runI call iX1_readFire (41, [some (.ref a0), u1, u2], [], (mm L X I J)) = runI call iX1_readFire (42, [some (.ref a0), u1, u2], [.int (nI 0)], (mm L X I J)) := by
  refine Eq.trans (xiconst dX1_readFire_41 ci_0) ?_
  rfl
theorem q_X1_readFire_34 {call : CALL} {L X : Nat} {I : Nat → Nat → Int32} {J : Nat → Nat → Int64} {a0 : Nat} {u1 : Option Value} {u2 : Option Value} {s0 : Int32} (h0 : oc1 a0) : runI call iX1_readFire (34, [some (.ref a0), u1, u2], [.int s0], (mm L X I J)) = if s0 = (nI 0) then runI call iX1_readFire (41, [some (.ref a0), u1, u2], [], (mm L X I J)) else runI call iX1_readFire (42, [some (.ref a0), u1, u2], [.int (nI 1)], (mm L X I J)) := by
  refine Eq.trans (if_eq (tgt := 41) dX1_readFire_34 (by decide +kernel)) (ite_cong (fun _ => ?_) (fun _ => ?_))
  · rfl
  · refine Eq.trans (xiconst dX1_readFire_37 ci_1) ?_
    refine Eq.trans (go_to (tgt := 42) dX1_readFire_38 (by decide +kernel)) ?_
    rfl
theorem q_X1_readFire_42 {call : CALL} {L X : Nat} {I : Nat → Nat → Int32} {J : Nat → Nat → Int64} {a0 : Nat} {u1 : Option Value} {u2 : Option Value} {s0 : Int32} (h0 : oc1 a0) (hu1 : okv u1 = true) : runI call iX1_readFire (42, [some (.ref a0), u1, u2], [.int s0], (mm L X I J)) = gd (b01 s0) (some (.inl (some (.int s0)), (mm L X (up2 I a0 2 ((I a0 2) + (nI 1))) J))) := by
  refine Eq.trans (xst1 (k := 2) dX1_readFire_42 hu1 rfl) ?_
  refine Eq.trans (st1 dX1_readFire_43 rfl rfl) ?_
  refine Eq.trans (st1 dX1_readFire_44 rfl rfl) ?_
  refine Eq.trans (getIm dX1_readFire_45 cp_1_49 (ks1_0 h0) (.inl rfl)) ?_
  refine Eq.trans (xiconst dX1_readFire_48 ci_1) ?_
  refine Eq.trans (st1 dX1_readFire_49 rfl rfl) ?_
  refine Eq.trans (putIm dX1_readFire_50 cp_1_49 (ks1_0 h0) rfl) ?_
  refine Eq.trans (st1 dX1_readFire_53 rfl rfl) ?_
  exact ret1g dX1_readFire_54 rfl
theorem q_X1_readHope_0 {call : CALL} {L X : Nat} {I : Nat → Nat → Int32} {J : Nat → Nat → Int64} {a0 : Nat} (h0 : oc1 a0) : runI call iX1_readHope (0, [some (.ref a0), some (.ref 1), none], [], (mm L X I J)) = bnd (call nX7_numeral [.ref 1, .int (nI 0), .int (nI 99)] (mm L X I J)) (fun v m' => runI call iX1_readHope (7, [some (.ref a0), some (.ref 1), none], v.toList ++ [], m')) := by
  refine Eq.trans (st1 dX1_readHope_0 rfl rfl) ?_
  refine Eq.trans (xiconst dX1_readHope_1 ci_0) ?_
  refine Eq.trans (xbipush dX1_readHope_2 cb_99) ?_
  exact iv0 dX1_readHope_4 rfl cp_1_117 rfl rfl (kd_ka ka_1) ka_1.1 (Nat.le_of_ble_eq_true rfl)
theorem q_X1_readHope_7 {call : CALL} {L X : Nat} {I : Nat → Nat → Int32} {J : Nat → Nat → Int64} {a0 : Nat} {u2 : Option Value} {s0 : Int32} (h0 : oc1 a0) : runI call iX1_readHope (7, [some (.ref a0), some (.ref 1), u2], [.int s0], (mm L X I J)) = gd (b01 s0) (some (.inl (some (.int s0)), (mm L X (up2 I a0 3 (I 1 4)) J))) := by
  refine Eq.trans (st1 dX1_readHope_7 rfl rfl) ?_
  refine Eq.trans (st1 dX1_readHope_8 rfl rfl) ?_
  refine Eq.trans (st1 dX1_readHope_9 rfl rfl) ?_
  refine Eq.trans (getIm dX1_readHope_10 cp_1_121 ka_1 (.inl rfl)) ?_
  refine Eq.trans (putIm dX1_readHope_13 cp_1_52 (ks1_0 h0) rfl) ?_
  refine Eq.trans (st1 dX1_readHope_16 rfl rfl) ?_
  exact ret1g dX1_readHope_17 rfl
theorem q_X1_become_0 {call : CALL} {L X : Nat} {I : Nat → Nat → Int32} {J : Nat → Nat → Int64} {a0 : Nat} {a1 : Nat} (h0 : oc1 a0) (h1 : oc1 a1) : runI call iX1_become (0, [some (.ref a0), some (.ref a1)], [], (mm L X I J)) = runI call iX1_become (32, [some (.ref a0), some (.ref a1)], [], (mm L X (up2 (up2 (up2 (up2 I a0 0 (I a1 0)) a0 1 ((up2 I a0 0 (I a1 0)) a1 1)) a0 2 ((up2 (up2 I a0 0 (I a1 0)) a0 1 ((up2 I a0 0 (I a1 0)) a1 1)) a1 2)) a0 3 ((up2 (up2 (up2 I a0 0 (I a1 0)) a0 1 ((up2 I a0 0 (I a1 0)) a1 1)) a0 2 ((up2 (up2 I a0 0 (I a1 0)) a0 1 ((up2 I a0 0 (I a1 0)) a1 1)) a1 2)) a1 3)) J)) := by
  refine Eq.trans (st1 dX1_become_0 rfl rfl) ?_
  refine Eq.trans (st1 dX1_become_1 rfl rfl) ?_
  refine Eq.trans (getIm dX1_become_2 cp_1_42 (ks1_0 h1) (.inl rfl)) ?_
  refine Eq.trans (putIm dX1_become_5 cp_1_42 (ks1_0 h0) rfl) ?_
  refine Eq.trans (st1 dX1_become_8 rfl rfl) ?_
  refine Eq.trans (st1 dX1_become_9 rfl rfl) ?_
  refine Eq.trans (getIm dX1_become_10 cp_1_46 (ks1_0 h1) (.inl rfl)) ?_
  refine Eq.trans (putIm dX1_become_13 cp_1_46 (ks1_0 h0) rfl) ?_
  refine Eq.trans (st1 dX1_become_16 rfl rfl) ?_
  refine Eq.trans (st1 dX1_become_17 rfl rfl) ?_
  refine Eq.trans (getIm dX1_become_18 cp_1_49 (ks1_0 h1) (.inl rfl)) ?_
  refine Eq.trans (putIm dX1_become_21 cp_1_49 (ks1_0 h0) rfl) ?_
  refine Eq.trans (st1 dX1_become_24 rfl rfl) ?_
  refine Eq.trans (st1 dX1_become_25 rfl rfl) ?_
  refine Eq.trans (getIm dX1_become_26 cp_1_52 (ks1_0 h1) (.inl rfl)) ?_
  refine Eq.trans (putIm dX1_become_29 cp_1_52 (ks1_0 h0) rfl) ?_
  rfl
theorem q_X1_become_32 {call : CALL} {L X : Nat} {I : Nat → Nat → Int32} {J : Nat → Nat → Int64} {a0 : Nat} {a1 : Nat} (h0 : oc1 a0) (h1 : oc1 a1) : runI call iX1_become (32, [some (.ref a0), some (.ref a1)], [], (mm L X I J)) = gd (cpok (nI 0) (nI 0) (nI 6) 6 6) (gd (cpok (nI 0) (nI 0) (nI 6) 6 6) (runI call iX1_become (62, [some (.ref a0), some (.ref a1)], [], (mm L X (up1 (up1 I (a0 + 1) (va_cpy (I (a1 + 1)) (I (a0 + 1)) ((nI 0)).toNatClampNeg ((nI 0)).toNatClampNeg ((nI 6)).toNatClampNeg)) (a0 + 2) (va_cpy ((up1 I (a0 + 1) (va_cpy (I (a1 + 1)) (I (a0 + 1)) ((nI 0)).toNatClampNeg ((nI 0)).toNatClampNeg ((nI 6)).toNatClampNeg)) (a1 + 2)) ((up1 I (a0 + 1) (va_cpy (I (a1 + 1)) (I (a0 + 1)) ((nI 0)).toNatClampNeg ((nI 0)).toNatClampNeg ((nI 6)).toNatClampNeg)) (a0 + 2)) ((nI 0)).toNatClampNeg ((nI 0)).toNatClampNeg ((nI 6)).toNatClampNeg)) J)))) := by
  refine Eq.trans (st1 dX1_become_32 rfl rfl) ?_
  refine Eq.trans (getRm dX1_become_33 cp_1_9 (ks1_0 h1) rfl (rs1_4 h1)) ?_
  refine Eq.trans (xiconst dX1_become_36 ci_0) ?_
  refine Eq.trans (st1 dX1_become_37 rfl rfl) ?_
  refine Eq.trans (getRm dX1_become_38 cp_1_9 (ks1_0 h0) rfl (rs1_4 h0)) ?_
  refine Eq.trans (xiconst dX1_become_41 ci_0) ?_
  refine Eq.trans (xbipush dX1_become_42 cb_6) ?_
  refine Eq.trans (icpym dX1_become_44 cp_1_55 (ks1_1 h1) (ks1_1 h0) (Nat.le_of_ble_eq_true rfl)) (gd_congr fun _ => ?_)
  refine Eq.trans (st1 dX1_become_47 rfl rfl) ?_
  refine Eq.trans (getRm dX1_become_48 cp_1_15 (ks1_0 h1) rfl (rs1_5 h1)) ?_
  refine Eq.trans (xiconst dX1_become_51 ci_0) ?_
  refine Eq.trans (st1 dX1_become_52 rfl rfl) ?_
  refine Eq.trans (getRm dX1_become_53 cp_1_15 (ks1_0 h0) rfl (rs1_5 h0)) ?_
  refine Eq.trans (xiconst dX1_become_56 ci_0) ?_
  refine Eq.trans (xbipush dX1_become_57 cb_6) ?_
  refine Eq.trans (icpym dX1_become_59 cp_1_55 (ks1_2 h1) (ks1_2 h0) (Nat.le_of_ble_eq_true rfl)) (gd_congr fun _ => ?_)
  rfl
theorem q_X1_become_62 {call : CALL} {L X : Nat} {I : Nat → Nat → Int32} {J : Nat → Nat → Int64} {a0 : Nat} {a1 : Nat} (h0 : oc1 a0) (h1 : oc1 a1) : runI call iX1_become (62, [some (.ref a0), some (.ref a1)], [], (mm L X I J)) = gd (cpok (nI 0) (nI 0) (nI 6) 6 6) (gd (cpok (nI 0) (nI 0) (nI 6) 6 6) (runI call iX1_become (92, [some (.ref a0), some (.ref a1)], [], (mm L X (up1 (up1 I (a0 + 3) (va_cpy (I (a1 + 3)) (I (a0 + 3)) ((nI 0)).toNatClampNeg ((nI 0)).toNatClampNeg ((nI 6)).toNatClampNeg)) (a0 + 4) (va_cpy ((up1 I (a0 + 3) (va_cpy (I (a1 + 3)) (I (a0 + 3)) ((nI 0)).toNatClampNeg ((nI 0)).toNatClampNeg ((nI 6)).toNatClampNeg)) (a1 + 4)) ((up1 I (a0 + 3) (va_cpy (I (a1 + 3)) (I (a0 + 3)) ((nI 0)).toNatClampNeg ((nI 0)).toNatClampNeg ((nI 6)).toNatClampNeg)) (a0 + 4)) ((nI 0)).toNatClampNeg ((nI 0)).toNatClampNeg ((nI 6)).toNatClampNeg)) J)))) := by
  refine Eq.trans (st1 dX1_become_62 rfl rfl) ?_
  refine Eq.trans (getRm dX1_become_63 cp_1_18 (ks1_0 h1) rfl (rs1_6 h1)) ?_
  refine Eq.trans (xiconst dX1_become_66 ci_0) ?_
  refine Eq.trans (st1 dX1_become_67 rfl rfl) ?_
  refine Eq.trans (getRm dX1_become_68 cp_1_18 (ks1_0 h0) rfl (rs1_6 h0)) ?_
  refine Eq.trans (xiconst dX1_become_71 ci_0) ?_
  refine Eq.trans (xbipush dX1_become_72 cb_6) ?_
  refine Eq.trans (icpym dX1_become_74 cp_1_55 (ks1_3 h1) (ks1_3 h0) (Nat.le_of_ble_eq_true rfl)) (gd_congr fun _ => ?_)
  refine Eq.trans (st1 dX1_become_77 rfl rfl) ?_
  refine Eq.trans (getRm dX1_become_78 cp_1_21 (ks1_0 h1) rfl (rs1_7 h1)) ?_
  refine Eq.trans (xiconst dX1_become_81 ci_0) ?_
  refine Eq.trans (st1 dX1_become_82 rfl rfl) ?_
  refine Eq.trans (getRm dX1_become_83 cp_1_21 (ks1_0 h0) rfl (rs1_7 h0)) ?_
  refine Eq.trans (xiconst dX1_become_86 ci_0) ?_
  refine Eq.trans (xbipush dX1_become_87 cb_6) ?_
  refine Eq.trans (icpym dX1_become_89 cp_1_55 (ks1_4 h1) (ks1_4 h0) (Nat.le_of_ble_eq_true rfl)) (gd_congr fun _ => ?_)
  rfl
theorem q_X1_become_92 {call : CALL} {L X : Nat} {I : Nat → Nat → Int32} {J : Nat → Nat → Int64} {a0 : Nat} {a1 : Nat} (h0 : oc1 a0) (h1 : oc1 a1) : runI call iX1_become (92, [some (.ref a0), some (.ref a1)], [], (mm L X I J)) = gd (cpok (nI 0) (nI 0) (nI 4) 4 4) (gd (cpok (nI 0) (nI 0) (nI 4) 4 4) (runI call iX1_become (120, [some (.ref a0), some (.ref a1)], [], (mm L X (up1 (up1 I (a0 + 5) (va_cpy (I (a1 + 5)) (I (a0 + 5)) ((nI 0)).toNatClampNeg ((nI 0)).toNatClampNeg ((nI 4)).toNatClampNeg)) (a0 + 6) (va_cpy ((up1 I (a0 + 5) (va_cpy (I (a1 + 5)) (I (a0 + 5)) ((nI 0)).toNatClampNeg ((nI 0)).toNatClampNeg ((nI 4)).toNatClampNeg)) (a1 + 6)) ((up1 I (a0 + 5) (va_cpy (I (a1 + 5)) (I (a0 + 5)) ((nI 0)).toNatClampNeg ((nI 0)).toNatClampNeg ((nI 4)).toNatClampNeg)) (a0 + 6)) ((nI 0)).toNatClampNeg ((nI 0)).toNatClampNeg ((nI 4)).toNatClampNeg)) J)))) := by
  refine Eq.trans (st1 dX1_become_92 rfl rfl) ?_
  refine Eq.trans (getRm dX1_become_93 cp_1_24 (ks1_0 h1) rfl (rs1_8 h1)) ?_
  refine Eq.trans (xiconst dX1_become_96 ci_0) ?_
  refine Eq.trans (st1 dX1_become_97 rfl rfl) ?_
  refine Eq.trans (getRm dX1_become_98 cp_1_24 (ks1_0 h0) rfl (rs1_8 h0)) ?_
  refine Eq.trans (xiconst dX1_become_101 ci_0) ?_
  refine Eq.trans (xiconst dX1_become_102 ci_4) ?_
  refine Eq.trans (icpym dX1_become_103 cp_1_55 (ks1_5 h1) (ks1_5 h0) (Nat.le_of_ble_eq_true rfl)) (gd_congr fun _ => ?_)
  refine Eq.trans (st1 dX1_become_106 rfl rfl) ?_
  refine Eq.trans (getRm dX1_become_107 cp_1_27 (ks1_0 h1) rfl (rs1_9 h1)) ?_
  refine Eq.trans (xiconst dX1_become_110 ci_0) ?_
  refine Eq.trans (st1 dX1_become_111 rfl rfl) ?_
  refine Eq.trans (getRm dX1_become_112 cp_1_27 (ks1_0 h0) rfl (rs1_9 h0)) ?_
  refine Eq.trans (xiconst dX1_become_115 ci_0) ?_
  refine Eq.trans (xiconst dX1_become_116 ci_4) ?_
  refine Eq.trans (icpym dX1_become_117 cp_1_55 (ks1_6 h1) (ks1_6 h0) (Nat.le_of_ble_eq_true rfl)) (gd_congr fun _ => ?_)
  rfl
theorem q_X1_become_120 {call : CALL} {L X : Nat} {I : Nat → Nat → Int32} {J : Nat → Nat → Int64} {a0 : Nat} {a1 : Nat} (h0 : oc1 a0) (h1 : oc1 a1) : runI call iX1_become (120, [some (.ref a0), some (.ref a1)], [], (mm L X I J)) = gd (cpok (nI 0) (nI 0) (nI 5) 5 5) (gd (cpok (nI 0) (nI 0) (nI 5) 5 5) (runI call iX1_become (148, [some (.ref a0), some (.ref a1)], [], (mm L X (up1 (up1 I (a0 + 7) (va_cpy (I (a1 + 7)) (I (a0 + 7)) ((nI 0)).toNatClampNeg ((nI 0)).toNatClampNeg ((nI 5)).toNatClampNeg)) (a0 + 8) (va_cpy ((up1 I (a0 + 7) (va_cpy (I (a1 + 7)) (I (a0 + 7)) ((nI 0)).toNatClampNeg ((nI 0)).toNatClampNeg ((nI 5)).toNatClampNeg)) (a1 + 8)) ((up1 I (a0 + 7) (va_cpy (I (a1 + 7)) (I (a0 + 7)) ((nI 0)).toNatClampNeg ((nI 0)).toNatClampNeg ((nI 5)).toNatClampNeg)) (a0 + 8)) ((nI 0)).toNatClampNeg ((nI 0)).toNatClampNeg ((nI 5)).toNatClampNeg)) J)))) := by
  refine Eq.trans (st1 dX1_become_120 rfl rfl) ?_
  refine Eq.trans (getRm dX1_become_121 cp_1_30 (ks1_0 h1) rfl (rs1_10 h1)) ?_
  refine Eq.trans (xiconst dX1_become_124 ci_0) ?_
  refine Eq.trans (st1 dX1_become_125 rfl rfl) ?_
  refine Eq.trans (getRm dX1_become_126 cp_1_30 (ks1_0 h0) rfl (rs1_10 h0)) ?_
  refine Eq.trans (xiconst dX1_become_129 ci_0) ?_
  refine Eq.trans (xiconst dX1_become_130 ci_5) ?_
  refine Eq.trans (icpym dX1_become_131 cp_1_55 (ks1_7 h1) (ks1_7 h0) (Nat.le_of_ble_eq_true rfl)) (gd_congr fun _ => ?_)
  refine Eq.trans (st1 dX1_become_134 rfl rfl) ?_
  refine Eq.trans (getRm dX1_become_135 cp_1_33 (ks1_0 h1) rfl (rs1_11 h1)) ?_
  refine Eq.trans (xiconst dX1_become_138 ci_0) ?_
  refine Eq.trans (st1 dX1_become_139 rfl rfl) ?_
  refine Eq.trans (getRm dX1_become_140 cp_1_33 (ks1_0 h0) rfl (rs1_11 h0)) ?_
  refine Eq.trans (xiconst dX1_become_143 ci_0) ?_
  refine Eq.trans (xiconst dX1_become_144 ci_5) ?_
  refine Eq.trans (icpym dX1_become_145 cp_1_55 (ks1_8 h1) (ks1_8 h0) (Nat.le_of_ble_eq_true rfl)) (gd_congr fun _ => ?_)
  rfl
theorem q_X1_become_148 {call : CALL} {L X : Nat} {I : Nat → Nat → Int32} {J : Nat → Nat → Int64} {a0 : Nat} {a1 : Nat} (h0 : oc1 a0) (h1 : oc1 a1) : runI call iX1_become (148, [some (.ref a0), some (.ref a1)], [], (mm L X I J)) = gd (cpok (nI 0) (nI 0) (nI 10) 10 10) (some (.inl none, (mm L X (up1 I (a0 + 9) (va_cpy (I (a1 + 9)) (I (a0 + 9)) ((nI 0)).toNatClampNeg ((nI 0)).toNatClampNeg ((nI 10)).toNatClampNeg)) J))) := by
  refine Eq.trans (st1 dX1_become_148 rfl rfl) ?_
  refine Eq.trans (getRm dX1_become_149 cp_1_36 (ks1_0 h1) rfl (rs1_12 h1)) ?_
  refine Eq.trans (xiconst dX1_become_152 ci_0) ?_
  refine Eq.trans (st1 dX1_become_153 rfl rfl) ?_
  refine Eq.trans (getRm dX1_become_154 cp_1_36 (ks1_0 h0) rfl (rs1_12 h0)) ?_
  refine Eq.trans (xiconst dX1_become_157 ci_0) ?_
  refine Eq.trans (xbipush dX1_become_158 cb_10) ?_
  refine Eq.trans (icpym dX1_become_160 cp_1_55 (ks1_9 h1) (ks1_9 h0) (Nat.le_of_ble_eq_true rfl)) (gd_congr fun _ => ?_)
  exact ret3 dX1_become_163 (.inl rfl)
theorem q_X1_reaches_0 {call : CALL} {L X : Nat} {I : Nat → Nat → Int32} {J : Nat → Nat → Int64} {a0 : Nat} {x1 : Int32} {x2 : Int32} {x3 : Int32} (h0 : oc1 a0) : runI call iX1_reaches (0, [some (.ref a0), some (.int x1), some (.int x2), some (.int x3)], [], (mm L X I J)) = bndN (call nX11_pick [.ref (a0 + 7), .int x1] (mm L X I J)) (fun v m' => runI call iX1_reaches (9, [some (.ref a0), some (.int x1), some (.int x2), some (.int x3)], v.toList ++ [.int x2], m')) := by
  refine Eq.trans (st1 dX1_reaches_0 rfl rfl) ?_
  refine Eq.trans (st1 dX1_reaches_1 rfl rfl) ?_
  refine Eq.trans (getRm dX1_reaches_2 cp_1_30 (ks1_0 h0) rfl (rs1_10 h0)) ?_
  refine Eq.trans (st1 dX1_reaches_5 rfl rfl) ?_
  exact is3 dX1_reaches_6 cp_1_106 (Nat.le_of_ble_eq_true rfl) rfl rfl (Nat.le_of_ble_eq_true rfl)
theorem q_X1_reaches_9 {call : CALL} {L X : Nat} {I : Nat → Nat → Int32} {J : Nat → Nat → Int64} {a0 : Nat} {x1 : Int32} {u2 : Option Value} {x3 : Int32} {s0 : Int32} {s1 : Int32} (h0 : oc1 a0) : runI call iX1_reaches (9, [some (.ref a0), some (.int x1), u2, some (.int x3)], [.int s1, .int s0], (mm L X I J)) = if s0 < s1 then some (.inl (some (.int (nI 0))), (mm L X I J)) else bndN (call nX11_pick [.ref (a0 + 8), .int x1] (mm L X I J)) (fun v m' => runI call iX1_reaches (21, [some (.ref a0), some (.int x1), u2, some (.int x3)], v.toList ++ [.int x3], m')) := by
  refine Eq.trans (ic_lt (tgt := 28) dX1_reaches_9 (by decide +kernel)) (ite_cong (fun _ => ?_) (fun _ => ?_))
  · refine Eq.trans (xiconst dX1_reaches_28 ci_0) ?_
    exact ret1 dX1_reaches_29 rfl (.inl rfl)
  · refine Eq.trans (st1 dX1_reaches_12 rfl rfl) ?_
    refine Eq.trans (st1 dX1_reaches_13 rfl rfl) ?_
    refine Eq.trans (getRm dX1_reaches_14 cp_1_33 (ks1_0 h0) rfl (rs1_11 h0)) ?_
    refine Eq.trans (st1 dX1_reaches_17 rfl rfl) ?_
    exact is3 dX1_reaches_18 cp_1_106 (Nat.le_of_ble_eq_true rfl) rfl rfl (Nat.le_of_ble_eq_true rfl)
theorem q_X1_reaches_21 {call : CALL} {L X : Nat} {I : Nat → Nat → Int32} {J : Nat → Nat → Int64} {u0 : Option Value} {u1 : Option Value} {u2 : Option Value} {u3 : Option Value} {s0 : Int32} {s1 : Int32} : runI call iX1_reaches (21, [u0, u1, u2, u3], [.int s1, .int s0], (mm L X I J)) = if s0 < s1 then some (.inl (some (.int (nI 0))), (mm L X I J)) else some (.inl (some (.int (nI 1))), (mm L X I J)) := by
  refine Eq.trans (ic_lt (tgt := 28) dX1_reaches_21 (by decide +kernel)) (ite_cong (fun _ => ?_) (fun _ => ?_))
  · refine Eq.trans (xiconst dX1_reaches_28 ci_0) ?_
    exact ret1 dX1_reaches_29 rfl (.inl rfl)
  · refine Eq.trans (xiconst dX1_reaches_24 ci_1) ?_
    refine Eq.trans (go_to (tgt := 29) dX1_reaches_25 (by decide +kernel)) ?_
    exact ret1 dX1_reaches_29 rfl (.inr rfl)
theorem q_X1_part_0 {call : CALL} {L X : Nat} {I : Nat → Nat → Int32} {J : Nat → Nat → Int64} {a0 : Nat} {x1 : Int32} {x2 : Int32} (h0 : oc1 a0) : runI call iX1_part (0, [some (.ref a0), some (.int x1), some (.int x2)], [], (mm L X I J)) = bndN (call nX11_pick [.ref (a0 + 9), .int x1] (mm L X I J)) (fun v m' => runI call iX1_part (13, [some (.ref a0), some (.int x1), some (.int x2)], v.toList ++ [.int x1, .ref (a0 + 9)], m')) := by
  refine Eq.trans (st1 dX1_part_0 rfl rfl) ?_
  refine Eq.trans (getRm dX1_part_1 cp_1_36 (ks1_0 h0) rfl (rs1_12 h0)) ?_
  refine Eq.trans (st1 dX1_part_4 rfl rfl) ?_
  refine Eq.trans (st1 dX1_part_5 rfl rfl) ?_
  refine Eq.trans (getRm dX1_part_6 cp_1_36 (ks1_0 h0) rfl (rs1_12 h0)) ?_
  refine Eq.trans (st1 dX1_part_9 rfl rfl) ?_
  exact is3 dX1_part_10 cp_1_106 (Nat.le_of_ble_eq_true rfl) rfl rfl (Nat.le_of_ble_eq_true rfl)
theorem q_X1_part_13 {call : CALL} {L X : Nat} {I : Nat → Nat → Int32} {J : Nat → Nat → Int64} {a0 : Nat} {x1 : Int32} {x2 : Int32} {s1 : Int32} {s2 : Int32} (h0 : oc1 a0) : runI call iX1_part (13, [some (.ref a0), some (.int x1), some (.int x2)], [.int s2, .int s1, .ref (a0 + 9)], (mm L X I J)) = bndN (call nX11_put [.ref (a0 + 9), .int s1, .int (s2 &&& (((nI 1) <<< (x2 &&& 31)) ^^^ (-1 : Int32)))] (mm L X I J)) (fun v m' => runI call iX1_part (22, [some (.ref a0), some (.int x1), some (.int x2)], v.toList ++ [], m')) := by
  refine Eq.trans (xiconst dX1_part_13 ci_1) ?_
  refine Eq.trans (st1 dX1_part_14 rfl rfl) ?_
  refine Eq.trans (st1 dX1_part_15 rfl rfl) ?_
  refine Eq.trans (xiconst dX1_part_16 ci_m1) ?_
  refine Eq.trans (st1 dX1_part_17 rfl rfl) ?_
  refine Eq.trans (st1 dX1_part_18 rfl rfl) ?_
  exact is3 dX1_part_19 cp_1_124 (Nat.le_of_ble_eq_true rfl) rfl rfl (Nat.le_of_ble_eq_true rfl)
theorem q_X1_part_22 {call : CALL} {L X : Nat} {I : Nat → Nat → Int32} {J : Nat → Nat → Int64} {a0 : Nat} {x1 : Int32} {x2 : Int32} (h0 : oc1 a0) : runI call iX1_part (22, [some (.ref a0), some (.int x1), some (.int x2)], [], (mm L X I J)) = bndN (call nX11_pick [.ref (a0 + 9), .int x2] (mm L X I J)) (fun v m' => runI call iX1_part (35, [some (.ref a0), some (.int x1), some (.int x2)], v.toList ++ [.int x2, .ref (a0 + 9)], m')) := by
  refine Eq.trans (st1 dX1_part_22 rfl rfl) ?_
  refine Eq.trans (getRm dX1_part_23 cp_1_36 (ks1_0 h0) rfl (rs1_12 h0)) ?_
  refine Eq.trans (st1 dX1_part_26 rfl rfl) ?_
  refine Eq.trans (st1 dX1_part_27 rfl rfl) ?_
  refine Eq.trans (getRm dX1_part_28 cp_1_36 (ks1_0 h0) rfl (rs1_12 h0)) ?_
  refine Eq.trans (st1 dX1_part_31 rfl rfl) ?_
  exact is3 dX1_part_32 cp_1_106 (Nat.le_of_ble_eq_true rfl) rfl rfl (Nat.le_of_ble_eq_true rfl)
theorem q_X1_part_35 {call : CALL} {L X : Nat} {I : Nat → Nat → Int32} {J : Nat → Nat → Int64} {u0 : Option Value} {x1 : Int32} {u2 : Option Value} {a0 : Nat} {s1 : Int32} {s2 : Int32} (h0 : oc1 a0) : runI call iX1_part (35, [u0, some (.int x1), u2], [.int s2, .int s1, .ref (a0 + 9)], (mm L X I J)) = bndN (call nX11_put [.ref (a0 + 9), .int s1, .int (s2 &&& (((nI 1) <<< (x1 &&& 31)) ^^^ (-1 : Int32)))] (mm L X I J)) (fun v m' => runI call iX1_part (44, [u0, some (.int x1), u2], v.toList ++ [], m')) := by
  refine Eq.trans (xiconst dX1_part_35 ci_1) ?_
  refine Eq.trans (st1 dX1_part_36 rfl rfl) ?_
  refine Eq.trans (st1 dX1_part_37 rfl rfl) ?_
  refine Eq.trans (xiconst dX1_part_38 ci_m1) ?_
  refine Eq.trans (st1 dX1_part_39 rfl rfl) ?_
  refine Eq.trans (st1 dX1_part_40 rfl rfl) ?_
  exact is3 dX1_part_41 cp_1_124 (Nat.le_of_ble_eq_true rfl) rfl rfl (Nat.le_of_ble_eq_true rfl)
theorem q_X1_part_44 {call : CALL} {L X : Nat} {I : Nat → Nat → Int32} {J : Nat → Nat → Int64} {u0 : Option Value} {u1 : Option Value} {u2 : Option Value} : runI call iX1_part (44, [u0, u1, u2], [], (mm L X I J)) = some (.inl none, (mm L X I J)) := by
  exact ret3 dX1_part_44 (.inl rfl)
theorem q_X1_level_0 {call : CALL} {L X : Nat} {I : Nat → Nat → Int32} {J : Nat → Nat → Int64} {a0 : Nat} {x1 : Int32} {x2 : Int32} (h0 : oc1 a0) : runI call iX1_level (0, [some (.ref a0), some (.int x1), some (.int x2), none, none, none], [], (mm L X I J)) = runI call iX1_level (3, [some (.ref a0), some (.int x1), some (.int x2), some (.int (nI 99)), none, none], [], (mm L X I J)) := by
  refine Eq.trans (xbipush dX1_level_0 cb_99) ?_
  refine Eq.trans (st1 dX1_level_2 rfl rfl) ?_
  rfl
theorem q_X1_level_3 {call : CALL} {L X : Nat} {I : Nat → Nat → Int32} {J : Nat → Nat → Int64} {a0 : Nat} {x1 : Int32} {x2 : Int32} {x3 : Int32} {u4 : Option Value} {u5 : Option Value} (h0 : oc1 a0) : runI call iX1_level (3, [some (.ref a0), some (.int x1), some (.int x2), some (.int x3), u4, u5], [], (mm L X I J)) = if x3 ≤ (nI 0) then some (.inl (some (.int (nI 0))), (mm L X I J)) else runI call iX1_level (13, [some (.ref a0), some (.int x1), some (.int x2), some (.int x3), some (.int (nI 0)), some (.int (nI 0))], [], (mm L X I J)) := by
  refine Eq.trans (st1 dX1_level_3 rfl rfl) ?_
  refine Eq.trans (if_le (tgt := 71) dX1_level_4 (by decide +kernel)) (ite_cong (fun _ => ?_) (fun _ => ?_))
  · refine Eq.trans (xiconst dX1_level_71 ci_0) ?_
    exact ret0 dX1_level_72 rfl
  · refine Eq.trans (xiconst dX1_level_7 ci_0) ?_
    refine Eq.trans (st1 dX1_level_8 rfl rfl) ?_
    refine Eq.trans (xiconst dX1_level_10 ci_0) ?_
    refine Eq.trans (st1 dX1_level_11 rfl rfl) ?_
    rfl
theorem q_X1_level_13 {call : CALL} {L X : Nat} {I : Nat → Nat → Int32} {J : Nat → Nat → Int64} {a0 : Nat} {x1 : Int32} {x2 : Int32} {x3 : Int32} {x4 : Int32} {x5 : Int32} (h0 : oc1 a0) : runI call iX1_level (13, [some (.ref a0), some (.int x1), some (.int x2), some (.int x3), some (.int x4), some (.int x5)], [], (mm L X I J)) = if (I a0 2) ≤ x5 then runI call iX1_level (57, [some (.ref a0), some (.int x1), some (.int x2), some (.int x3), some (.int x4), some (.int x5)], [], (mm L X I J)) else if (nI 5) ≤ x5 then runI call iX1_level (57, [some (.ref a0), some (.int x1), some (.int x2), some (.int x3), some (.int x4), some (.int x5)], [], (mm L X I J)) else bndN (call nX11_bit [.int x1, .int x5] (mm L X I J)) (fun v m' => runI call iX1_level (36, [some (.ref a0), some (.int x1), some (.int x2), some (.int x3), some (.int x4), some (.int x5)], v.toList ++ [.int x4], m')) := by
  refine Eq.trans (st1 dX1_level_13 rfl rfl) ?_
  refine Eq.trans (st1 dX1_level_15 rfl rfl) ?_
  refine Eq.trans (getIm dX1_level_16 cp_1_49 (ks1_0 h0) (.inl rfl)) ?_
  refine Eq.trans (ic_ge (tgt := 57) dX1_level_19 (by decide +kernel)) (ite_cong (fun _ => ?_) (fun _ => ?_))
  · rfl
  · refine Eq.trans (st1 dX1_level_22 rfl rfl) ?_
    refine Eq.trans (xiconst dX1_level_24 ci_5) ?_
    refine Eq.trans (ic_ge (tgt := 57) dX1_level_25 (by decide +kernel)) (ite_cong (fun _ => ?_) (fun _ => ?_))
    · rfl
    · refine Eq.trans (st1 dX1_level_28 rfl rfl) ?_
      refine Eq.trans (st1 dX1_level_30 rfl rfl) ?_
      refine Eq.trans (st1 dX1_level_31 rfl rfl) ?_
      exact is3 dX1_level_33 cp_1_128 (Nat.le_of_ble_eq_true rfl) rfl rfl (Nat.le_of_ble_eq_true rfl)
theorem q_X1_level_57 {call : CALL} {L X : Nat} {I : Nat → Nat → Int32} {J : Nat → Nat → Int64} {a0 : Nat} {x1 : Int32} {x2 : Int32} {x3 : Int32} {x4 : Int32} {u5 : Option Value} (h0 : oc1 a0) : runI call iX1_level (57, [some (.ref a0), some (.int x1), some (.int x2), some (.int x3), some (.int x4), u5], [], (mm L X I J)) = if x2 < x4 then runI call iX1_level (3, [some (.ref a0), some (.int x1), some (.int x2), some (.int (x3 + (-1 : Int32))), some (.int x4), u5], [], (mm L X I J)) else some (.inl (some (.int x3)), (mm L X I J)) := by
  refine Eq.trans (st1 dX1_level_57 rfl rfl) ?_
  refine Eq.trans (st1 dX1_level_59 rfl rfl) ?_
  refine Eq.trans (ic_gt (tgt := 65) dX1_level_60 (by decide +kernel)) (ite_cong (fun _ => ?_) (fun _ => ?_))
  · refine Eq.trans (xinc2 dX1_level_65 ci_m1 rfl (Nat.le_of_ble_eq_true rfl) rfl) ?_
    refine Eq.trans (go_to (tgt := 3) dX1_level_68 (by decide +kernel)) ?_
    rfl
  · refine Eq.trans (st1 dX1_level_63 rfl rfl) ?_
    exact ret0 dX1_level_64 rfl
theorem q_X1_level_36 {call : CALL} {L X : Nat} {I : Nat → Nat → Int32} {J : Nat → Nat → Int64} {a0 : Nat} {x1 : Int32} {x2 : Int32} {x3 : Int32} {u4 : Option Value} {x5 : Int32} {s0 : Int32} {s1 : Int32} (h0 : oc1 a0) : runI call iX1_level (36, [some (.ref a0), some (.int x1), some (.int x2), some (.int x3), u4, some (.int x5)], [.int s1, .int s0], (mm L X I J)) = gd (inb x5 5) (runI call iX1_level (13, [some (.ref a0), some (.int x1), some (.int x2), some (.int x3), some (.int (s0 + (s1 * (if (I (a0 + 8) (x5).toNatClampNeg) < x3 then (I (a0 + 8) (x5).toNatClampNeg) else x3)))), some (.int (x5 + (nI 1)))], [], (mm L X I J))) := by
  refine Eq.trans (st1 dX1_level_36 rfl rfl) ?_
  refine Eq.trans (st1 dX1_level_37 rfl rfl) ?_
  refine Eq.trans (getRm dX1_level_38 cp_1_33 (ks1_0 h0) rfl (rs1_11 h0)) ?_
  refine Eq.trans (st1 dX1_level_41 rfl rfl) ?_
  refine Eq.trans (al1m dX1_level_43 (ks1_8 h0)) (gd_congr fun g1 => ?_)
  refine Eq.trans (imin dX1_level_44 cp_1_142 (Nat.le_of_ble_eq_true rfl)) ?_
  refine Eq.trans (st1 dX1_level_47 rfl rfl) ?_
  refine Eq.trans (st1 dX1_level_48 rfl rfl) ?_
  refine Eq.trans (st1 dX1_level_49 rfl rfl) ?_
  refine Eq.trans (xinc2 dX1_level_51 ci_1 rfl (Nat.le_of_ble_eq_true rfl) rfl) ?_
  refine Eq.trans (go_to (tgt := 13) dX1_level_54 (by decide +kernel)) ?_
  rfl
theorem q_X2_beUntold_0 {call : CALL} {L X : Nat} {I : Nat → Nat → Int32} {J : Nat → Nat → Int64} {a0 : Nat} (h0 : oc2 a0) : runI call iX2_beUntold (0, [some (.ref a0), none], [], (mm L X I J)) = runI call iX2_beUntold (10, [some (.ref a0), some (.int (nI 0))], [], (mm L X (up2 I a0 1 (nI 11)) J)) := by
  refine Eq.trans (st1 dX2_beUntold_0 rfl rfl) ?_
  refine Eq.trans (xgsU dX2_beUntold_1 cp_2_24) ?_
  refine Eq.trans (alen2 dX2_beUntold_4 kd_XU (.inr ⟨by decide, by decide⟩) cn_11) ?_
  refine Eq.trans (putIm dX2_beUntold_5 cp_2_27 (ks2_0 h0) rfl) ?_
  refine Eq.trans (xiconst dX2_beUntold_8 ci_0) ?_
  refine Eq.trans (st1 dX2_beUntold_9 rfl rfl) ?_
  rfl
theorem q_X2_beUntold_10 {call : CALL} {L X : Nat} {I : Nat → Nat → Int32} {J : Nat → Nat → Int64} {a0 : Nat} {x1 : Int32} (h0 : oc2 a0) : runI call iX2_beUntold (10, [some (.ref a0), some (.int x1)], [], (mm L X I J)) = if (nI 11) ≤ x1 then some (.inl none, (mm L X I J)) else if (nI 150) ≤ x1 then some (.inl none, (mm L X I J)) else gd (inb x1 11) (gd (inb x1 150) (runI call iX2_beUntold (10, [some (.ref a0), some (.int (x1 + (nI 1)))], [], (mm L X (up2 I (a0 + 1) (x1).toNatClampNeg (I 1000001 (x1).toNatClampNeg)) J)))) := by
  refine Eq.trans (st1 dX2_beUntold_10 rfl rfl) ?_
  refine Eq.trans (xgsU dX2_beUntold_11 cp_2_24) ?_
  refine Eq.trans (alen2 dX2_beUntold_14 kd_XU (.inr ⟨by decide, by decide⟩) cn_11) ?_
  refine Eq.trans (ic_ge (tgt := 42) dX2_beUntold_15 (by decide +kernel)) (ite_cong (fun _ => ?_) (fun _ => ?_))
  · exact ret3 dX2_beUntold_42 (.inl rfl)
  · refine Eq.trans (st1 dX2_beUntold_18 rfl rfl) ?_
    refine Eq.trans (xsipush dX2_beUntold_19 cs_150) ?_
    refine Eq.trans (ic_ge (tgt := 42) dX2_beUntold_22 (by decide +kernel)) (ite_cong (fun _ => ?_) (fun _ => ?_))
    · exact ret3 dX2_beUntold_42 (.inl rfl)
    · refine Eq.trans (st1 dX2_beUntold_25 rfl rfl) ?_
      refine Eq.trans (getRm dX2_beUntold_26 cp_2_9 (ks2_0 h0) rfl (rs2_0 h0)) ?_
      refine Eq.trans (st1 dX2_beUntold_29 rfl rfl) ?_
      refine Eq.trans (xgsU dX2_beUntold_30 cp_2_24) ?_
      refine Eq.trans (st1 dX2_beUntold_33 rfl rfl) ?_
      refine Eq.trans (al5 dX2_beUntold_34 kd_XU (by decide)) (gd_congr fun g1 => ?_)
      refine Eq.trans (as1m dX2_beUntold_35 (ks2_1 h0)) (gd_congr fun g2 => ?_)
      refine Eq.trans (xinc2 dX2_beUntold_36 ci_1 rfl (Nat.le_of_ble_eq_true rfl) rfl) ?_
      refine Eq.trans (go_to (tgt := 10) dX2_beUntold_39 (by decide +kernel)) ?_
      rfl
theorem q_X2_readFrom_0 {call : CALL} {L X : Nat} {I : Nat → Nat → Int32} {J : Nat → Nat → Int64} {a0 : Nat} (h0 : oc2 a0) : runI call iX2_readFrom (0, [some (.ref a0), some (.ref 1)], [], (mm L X I J)) = bnd (call nX2_readSum [.ref a0, .ref 1, .int (nI 0)] (mm L X (up2 I a0 1 (nI 0)) J)) (fun v m' => runI call iX2_readFrom (11, [some (.ref a0), some (.ref 1)], v.toList ++ [], m')) := by
  refine Eq.trans (st1 dX2_readFrom_0 rfl rfl) ?_
  refine Eq.trans (xiconst dX2_readFrom_1 ci_0) ?_
  refine Eq.trans (putIm dX2_readFrom_2 cp_2_27 (ks2_0 h0) rfl) ?_
  refine Eq.trans (st1 dX2_readFrom_5 rfl rfl) ?_
  refine Eq.trans (st1 dX2_readFrom_6 rfl rfl) ?_
  refine Eq.trans (xiconst dX2_readFrom_7 ci_0) ?_
  exact iv0 dX2_readFrom_8 rfl cp_2_37 rfl rfl (kd_ka (ks2_0 h0)) (ks2_0 h0).1 (Nat.le_of_ble_eq_true rfl)
theorem q_X2_readFrom_11 {call : CALL} {L X : Nat} {I : Nat → Nat → Int32} {J : Nat → Nat → Int64} {u0 : Option Value} {s0 : Int32} : runI call iX2_readFrom (11, [u0, some (.ref 1)], [.int s0], (mm L X I J)) = if s0 = (nI 0) then some (.inl (some (.int (nI 0))), (mm L X I J)) else bnd (call nX7_ended [.ref 1] (mm L X I J)) (fun v m' => runI call iX2_readFrom (18, [u0, some (.ref 1)], v.toList ++ [], m')) := by
  refine Eq.trans (if_eq (tgt := 25) dX2_readFrom_11 (by decide +kernel)) (ite_cong (fun _ => ?_) (fun _ => ?_))
  · refine Eq.trans (xiconst dX2_readFrom_25 ci_0) ?_
    exact ret1 dX2_readFrom_26 rfl (.inl rfl)
  · refine Eq.trans (st1 dX2_readFrom_14 rfl rfl) ?_
    exact iv0 dX2_readFrom_15 rfl cp_2_41 rfl rfl (kd_ka ka_1) ka_1.1 (Nat.le_of_ble_eq_true rfl)
theorem q_X2_readFrom_18 {call : CALL} {L X : Nat} {I : Nat → Nat → Int32} {J : Nat → Nat → Int64} {u0 : Option Value} {u1 : Option Value} {s0 : Int32} : runI call iX2_readFrom (18, [u0, u1], [.int s0], (mm L X I J)) = if s0 = (nI 0) then some (.inl (some (.int (nI 0))), (mm L X I J)) else some (.inl (some (.int (nI 1))), (mm L X I J)) := by
  refine Eq.trans (if_eq (tgt := 25) dX2_readFrom_18 (by decide +kernel)) (ite_cong (fun _ => ?_) (fun _ => ?_))
  · refine Eq.trans (xiconst dX2_readFrom_25 ci_0) ?_
    exact ret1 dX2_readFrom_26 rfl (.inl rfl)
  · refine Eq.trans (xiconst dX2_readFrom_21 ci_1) ?_
    refine Eq.trans (go_to (tgt := 26) dX2_readFrom_22 (by decide +kernel)) ?_
    exact ret1 dX2_readFrom_26 rfl (.inr rfl)
theorem q_X2_readSum_0 {call : CALL} {L X : Nat} {I : Nat → Nat → Int32} {J : Nat → Nat → Int64} {a0 : Nat} {x2 : Int32} (h0 : oc2 a0) : runI call iX2_readSum (0, [some (.ref a0), some (.ref 1), some (.int x2), none, none], [], (mm L X I J)) = bnd (call nX2_readProduct [.ref a0, .ref 1, .int x2] (mm L X I J)) (fun v m' => runI call iX2_readSum (6, [some (.ref a0), some (.ref 1), some (.int x2), none, none], v.toList ++ [], m')) := by
  refine Eq.trans (st1 dX2_readSum_0 rfl rfl) ?_
  refine Eq.trans (st1 dX2_readSum_1 rfl rfl) ?_
  refine Eq.trans (st1 dX2_readSum_2 rfl rfl) ?_
  exact iv0 dX2_readSum_3 rfl cp_2_47 rfl rfl (kd_ka (ks2_0 h0)) (ks2_0 h0).1 (Nat.le_of_ble_eq_true rfl)
theorem q_X2_readSum_6 {call : CALL} {L X : Nat} {I : Nat → Nat → Int32} {J : Nat → Nat → Int64} {a0 : Nat} {x2 : Int32} {u3 : Option Value} {u4 : Option Value} {s0 : Int32} (h0 : oc2 a0) : runI call iX2_readSum (6, [some (.ref a0), some (.ref 1), some (.int x2), u3, u4], [.int s0], (mm L X I J)) = if s0 = (nI 0) then some (.inl (some (.int (nI 0))), (mm L X I J)) else runI call iX2_readSum (13, [some (.ref a0), some (.ref 1), some (.int x2), some (.int (nI 0)), u4], [], (mm L X I J)) := by
  refine Eq.trans (if_ne (tgt := 11) dX2_readSum_6 (by decide +kernel)) (ite_cong (fun _ => ?_) (fun _ => ?_))
  · refine Eq.trans (xiconst dX2_readSum_9 ci_0) ?_
    exact ret1 dX2_readSum_10 rfl (.inl rfl)
  · refine Eq.trans (xiconst dX2_readSum_11 ci_0) ?_
    refine Eq.trans (st1 dX2_readSum_12 rfl rfl) ?_
    rfl
theorem q_X2_readSum_13 {call : CALL} {L X : Nat} {I : Nat → Nat → Int32} {J : Nat → Nat → Int64} {a0 : Nat} {x2 : Int32} {x3 : Int32} {u4 : Option Value} (h0 : oc2 a0) : runI call iX2_readSum (13, [some (.ref a0), some (.ref 1), some (.int x2), some (.int x3), u4], [], (mm L X I J)) = if (nI 150) ≤ x3 then some (.inl (some (.int (nI 0))), (mm L X I J)) else bnd (call nX7_peek [.ref 1] (mm L X I J)) (fun v m' => runI call iX2_readSum (24, [some (.ref a0), some (.ref 1), some (.int x2), some (.int x3), u4], v.toList ++ [], m')) := by
  refine Eq.trans (st1 dX2_readSum_13 rfl rfl) ?_
  refine Eq.trans (xsipush dX2_readSum_14 cs_150) ?_
  refine Eq.trans (ic_ge (tgt := 88) dX2_readSum_17 (by decide +kernel)) (ite_cong (fun _ => ?_) (fun _ => ?_))
  · refine Eq.trans (xiconst dX2_readSum_88 ci_0) ?_
    exact ret1 dX2_readSum_89 rfl (.inl rfl)
  · refine Eq.trans (st1 dX2_readSum_20 rfl rfl) ?_
    exact iv0 dX2_readSum_21 rfl cp_2_50 rfl rfl (kd_ka ka_1) ka_1.1 (Nat.le_of_ble_eq_true rfl)
theorem q_X2_readSum_24 {call : CALL} {L X : Nat} {I : Nat → Nat → Int32} {J : Nat → Nat → Int64} {a0 : Nat} {x2 : Int32} {x3 : Int32} {u4 : Option Value} {s0 : Int32} (h0 : oc2 a0) : runI call iX2_readSum (24, [some (.ref a0), some (.ref 1), some (.int x2), some (.int x3), u4], [.int s0], (mm L X I J)) = if s0 = (nI 43) then runI call iX2_readSum (42, [some (.ref a0), some (.ref 1), some (.int x2), some (.int x3), some (.int s0)], [], (mm L X I J)) else if s0 = (nI 45) then runI call iX2_readSum (42, [some (.ref a0), some (.ref 1), some (.int x2), some (.int x3), some (.int s0)], [], (mm L X I J)) else some (.inl (some (.int (nI 1))), (mm L X I J)) := by
  refine Eq.trans (st1 dX2_readSum_24 rfl rfl) ?_
  refine Eq.trans (st1 dX2_readSum_26 rfl rfl) ?_
  refine Eq.trans (xbipush dX2_readSum_28 cb_43) ?_
  refine Eq.trans (ic_eq (tgt := 42) dX2_readSum_30 (by decide +kernel)) (ite_cong (fun _ => ?_) (fun _ => ?_))
  · rfl
  · refine Eq.trans (st1 dX2_readSum_33 rfl rfl) ?_
    refine Eq.trans (xbipush dX2_readSum_35 cb_45) ?_
    refine Eq.trans (ic_eq (tgt := 42) dX2_readSum_37 (by decide +kernel)) (ite_cong (fun _ => ?_) (fun _ => ?_))
    · rfl
    · refine Eq.trans (xiconst dX2_readSum_40 ci_1) ?_
      exact ret1 dX2_readSum_41 rfl (.inr rfl)
theorem q_X2_readSum_42 {call : CALL} {L X : Nat} {I : Nat → Nat → Int32} {J : Nat → Nat → Int64} {a0 : Nat} {x2 : Int32} {x3 : Int32} {x4 : Int32} (h0 : oc2 a0) : runI call iX2_readSum (42, [some (.ref a0), some (.ref 1), some (.int x2), some (.int x3), some (.int x4)], [], (mm L X I J)) = bnd (call nX7_sign [.ref 1, .int ((x4).toUInt32 % 65536).toInt32] (mm L X I J)) (fun v m' => runI call iX2_readSum (49, [some (.ref a0), some (.ref 1), some (.int x2), some (.int x3), some (.int x4)], v.toList ++ [], m')) := by
  refine Eq.trans (st1 dX2_readSum_42 rfl rfl) ?_
  refine Eq.trans (st1 dX2_readSum_43 rfl rfl) ?_
  refine Eq.trans (st1 dX2_readSum_45 rfl rfl) ?_
  exact iv0 dX2_readSum_46 rfl cp_2_54 rfl rfl (kd_ka ka_1) ka_1.1 (Nat.le_of_ble_eq_true rfl)
theorem q_X2_readSum_49 {call : CALL} {L X : Nat} {I : Nat → Nat → Int32} {J : Nat → Nat → Int64} {a0 : Nat} {x2 : Int32} {x3 : Int32} {x4 : Int32} {s0 : Int32} (h0 : oc2 a0) : runI call iX2_readSum (49, [some (.ref a0), some (.ref 1), some (.int x2), some (.int x3), some (.int x4)], [.int s0], (mm L X I J)) = bnd (call nX2_readProduct [.ref a0, .ref 1, .int x2] (mm L X I J)) (fun v m' => runI call iX2_readSum (56, [some (.ref a0), some (.ref 1), some (.int x2), some (.int x3), some (.int x4)], v.toList ++ [], m')) := by
  refine Eq.trans (st1 dX2_readSum_49 rfl rfl) ?_
  refine Eq.trans (st1 dX2_readSum_50 rfl rfl) ?_
  refine Eq.trans (st1 dX2_readSum_51 rfl rfl) ?_
  refine Eq.trans (st1 dX2_readSum_52 rfl rfl) ?_
  exact iv0 dX2_readSum_53 rfl cp_2_47 rfl rfl (kd_ka (ks2_0 h0)) (ks2_0 h0).1 (Nat.le_of_ble_eq_true rfl)
theorem q_X2_readSum_56 {call : CALL} {L X : Nat} {I : Nat → Nat → Int32} {J : Nat → Nat → Int64} {a0 : Nat} {x2 : Int32} {x3 : Int32} {x4 : Int32} {s0 : Int32} (h0 : oc2 a0) : runI call iX2_readSum (56, [some (.ref a0), some (.ref 1), some (.int x2), some (.int x3), some (.int x4)], [.int s0], (mm L X I J)) = if s0 = (nI 0) then some (.inl (some (.int (nI 0))), (mm L X I J)) else if x4 = (nI 43) then runI call iX2_readSum (78, [some (.ref a0), some (.ref 1), some (.int x2), some (.int x3), some (.int x4)], [.int (nI 2000), .ref a0], (mm L X I J)) else runI call iX2_readSum (78, [some (.ref a0), some (.ref 1), some (.int x2), some (.int x3), some (.int x4)], [.int (nI 2001), .ref a0], (mm L X I J)) := by
  refine Eq.trans (if_ne (tgt := 61) dX2_readSum_56 (by decide +kernel)) (ite_cong (fun _ => ?_) (fun _ => ?_))
  · refine Eq.trans (xiconst dX2_readSum_59 ci_0) ?_
    exact ret1 dX2_readSum_60 rfl (.inl rfl)
  · refine Eq.trans (st1 dX2_readSum_61 rfl rfl) ?_
    refine Eq.trans (st1 dX2_readSum_62 rfl rfl) ?_
    refine Eq.trans (xbipush dX2_readSum_64 cb_43) ?_
    refine Eq.trans (ic_ne (tgt := 75) dX2_readSum_66 (by decide +kernel)) (ite_cong (fun _ => ?_) (fun _ => ?_))
    · refine Eq.trans (xsipush dX2_readSum_69 cs_2000) ?_
      refine Eq.trans (go_to (tgt := 78) dX2_readSum_72 (by decide +kernel)) ?_
      rfl
    · refine Eq.trans (xsipush dX2_readSum_75 cs_2001) ?_
      rfl
theorem q_X2_readSum_78 {call : CALL} {L X : Nat} {I : Nat → Nat → Int32} {J : Nat → Nat → Int64} {a0 : Nat} {x2 : Int32} {x3 : Int32} {u4 : Option Value} {s1 : Int32} (h0 : oc2 a0) : runI call iX2_readSum (78, [some (.ref a0), some (.ref 1), some (.int x2), some (.int x3), u4], [.int s1, .ref a0], (mm L X I J)) = bnd (call nX2_add [.ref a0, .int s1] (mm L X I J)) (fun v m' => runI call iX2_readSum (81, [some (.ref a0), some (.ref 1), some (.int x2), some (.int x3), u4], v.toList ++ [], m')) := by
  exact iv0 dX2_readSum_78 rfl cp_2_58 rfl rfl (kd_ka (ks2_0 h0)) (ks2_0 h0).1 (Nat.le_of_ble_eq_true rfl)
theorem q_X2_readSum_81 {call : CALL} {L X : Nat} {I : Nat → Nat → Int32} {J : Nat → Nat → Int64} {a0 : Nat} {x2 : Int32} {x3 : Int32} {u4 : Option Value} {s0 : Int32} (h0 : oc2 a0) : runI call iX2_readSum (81, [some (.ref a0), some (.ref 1), some (.int x2), some (.int x3), u4], [.int s0], (mm L X I J)) = runI call iX2_readSum (13, [some (.ref a0), some (.ref 1), some (.int x2), some (.int (x3 + (nI 1))), u4], [], (mm L X I J)) := by
  refine Eq.trans (st1 dX2_readSum_81 rfl rfl) ?_
  refine Eq.trans (xinc2 dX2_readSum_82 ci_1 rfl (Nat.le_of_ble_eq_true rfl) rfl) ?_
  refine Eq.trans (go_to (tgt := 13) dX2_readSum_85 (by decide +kernel)) ?_
  rfl
theorem q_X2_readProduct_0 {call : CALL} {L X : Nat} {I : Nat → Nat → Int32} {J : Nat → Nat → Int64} {a0 : Nat} {x2 : Int32} (h0 : oc2 a0) : runI call iX2_readProduct (0, [some (.ref a0), some (.ref 1), some (.int x2), none, none], [], (mm L X I J)) = bnd (call nX2_readUnit [.ref a0, .ref 1, .int x2] (mm L X I J)) (fun v m' => runI call iX2_readProduct (6, [some (.ref a0), some (.ref 1), some (.int x2), none, none], v.toList ++ [], m')) := by
  refine Eq.trans (st1 dX2_readProduct_0 rfl rfl) ?_
  refine Eq.trans (st1 dX2_readProduct_1 rfl rfl) ?_
  refine Eq.trans (st1 dX2_readProduct_2 rfl rfl) ?_
  exact iv0 dX2_readProduct_3 rfl cp_2_62 rfl rfl (kd_ka (ks2_0 h0)) (ks2_0 h0).1 (Nat.le_of_ble_eq_true rfl)
theorem q_X2_readProduct_6 {call : CALL} {L X : Nat} {I : Nat → Nat → Int32} {J : Nat → Nat → Int64} {a0 : Nat} {x2 : Int32} {u3 : Option Value} {u4 : Option Value} {s0 : Int32} (h0 : oc2 a0) : runI call iX2_readProduct (6, [some (.ref a0), some (.ref 1), some (.int x2), u3, u4], [.int s0], (mm L X I J)) = if s0 = (nI 0) then some (.inl (some (.int (nI 0))), (mm L X I J)) else runI call iX2_readProduct (13, [some (.ref a0), some (.ref 1), some (.int x2), some (.int (nI 0)), u4], [], (mm L X I J)) := by
  refine Eq.trans (if_ne (tgt := 11) dX2_readProduct_6 (by decide +kernel)) (ite_cong (fun _ => ?_) (fun _ => ?_))
  · refine Eq.trans (xiconst dX2_readProduct_9 ci_0) ?_
    exact ret1 dX2_readProduct_10 rfl (.inl rfl)
  · refine Eq.trans (xiconst dX2_readProduct_11 ci_0) ?_
    refine Eq.trans (st1 dX2_readProduct_12 rfl rfl) ?_
    rfl
theorem q_X2_readProduct_13 {call : CALL} {L X : Nat} {I : Nat → Nat → Int32} {J : Nat → Nat → Int64} {a0 : Nat} {x2 : Int32} {x3 : Int32} {u4 : Option Value} (h0 : oc2 a0) : runI call iX2_readProduct (13, [some (.ref a0), some (.ref 1), some (.int x2), some (.int x3), u4], [], (mm L X I J)) = if (nI 150) ≤ x3 then some (.inl (some (.int (nI 0))), (mm L X I J)) else bnd (call nX7_peek [.ref 1] (mm L X I J)) (fun v m' => runI call iX2_readProduct (24, [some (.ref a0), some (.ref 1), some (.int x2), some (.int x3), u4], v.toList ++ [], m')) := by
  refine Eq.trans (st1 dX2_readProduct_13 rfl rfl) ?_
  refine Eq.trans (xsipush dX2_readProduct_14 cs_150) ?_
  refine Eq.trans (ic_ge (tgt := 108) dX2_readProduct_17 (by decide +kernel)) (ite_cong (fun _ => ?_) (fun _ => ?_))
  · refine Eq.trans (xiconst dX2_readProduct_108 ci_0) ?_
    exact ret1 dX2_readProduct_109 rfl (.inl rfl)
  · refine Eq.trans (st1 dX2_readProduct_20 rfl rfl) ?_
    exact iv0 dX2_readProduct_21 rfl cp_2_50 rfl rfl (kd_ka ka_1) ka_1.1 (Nat.le_of_ble_eq_true rfl)
theorem q_X2_readProduct_24 {call : CALL} {L X : Nat} {I : Nat → Nat → Int32} {J : Nat → Nat → Int64} {a0 : Nat} {x2 : Int32} {x3 : Int32} {u4 : Option Value} {s0 : Int32} (h0 : oc2 a0) : runI call iX2_readProduct (24, [some (.ref a0), some (.ref 1), some (.int x2), some (.int x3), u4], [.int s0], (mm L X I J)) = if s0 = (nI 42) then runI call iX2_readProduct (49, [some (.ref a0), some (.ref 1), some (.int x2), some (.int x3), some (.int s0)], [], (mm L X I J)) else if s0 = (nI 47) then runI call iX2_readProduct (49, [some (.ref a0), some (.ref 1), some (.int x2), some (.int x3), some (.int s0)], [], (mm L X I J)) else if s0 = (nI 37) then runI call iX2_readProduct (49, [some (.ref a0), some (.ref 1), some (.int x2), some (.int x3), some (.int s0)], [], (mm L X I J)) else some (.inl (some (.int (nI 1))), (mm L X I J)) := by
  refine Eq.trans (st1 dX2_readProduct_24 rfl rfl) ?_
  refine Eq.trans (st1 dX2_readProduct_26 rfl rfl) ?_
  refine Eq.trans (xbipush dX2_readProduct_28 cb_42) ?_
  refine Eq.trans (ic_eq (tgt := 49) dX2_readProduct_30 (by decide +kernel)) (ite_cong (fun _ => ?_) (fun _ => ?_))
  · rfl
  · refine Eq.trans (st1 dX2_readProduct_33 rfl rfl) ?_
    refine Eq.trans (xbipush dX2_readProduct_35 cb_47) ?_
    refine Eq.trans (ic_eq (tgt := 49) dX2_readProduct_37 (by decide +kernel)) (ite_cong (fun _ => ?_) (fun _ => ?_))
    · rfl
    · refine Eq.trans (st1 dX2_readProduct_40 rfl rfl) ?_
      refine Eq.trans (xbipush dX2_readProduct_42 cb_37) ?_
      refine Eq.trans (ic_eq (tgt := 49) dX2_readProduct_44 (by decide +kernel)) (ite_cong (fun _ => ?_) (fun _ => ?_))
      · rfl
      · refine Eq.trans (xiconst dX2_readProduct_47 ci_1) ?_
        exact ret1 dX2_readProduct_48 rfl (.inr rfl)
theorem q_X2_readProduct_49 {call : CALL} {L X : Nat} {I : Nat → Nat → Int32} {J : Nat → Nat → Int64} {a0 : Nat} {x2 : Int32} {x3 : Int32} {x4 : Int32} (h0 : oc2 a0) : runI call iX2_readProduct (49, [some (.ref a0), some (.ref 1), some (.int x2), some (.int x3), some (.int x4)], [], (mm L X I J)) = bnd (call nX7_sign [.ref 1, .int ((x4).toUInt32 % 65536).toInt32] (mm L X I J)) (fun v m' => runI call iX2_readProduct (56, [some (.ref a0), some (.ref 1), some (.int x2), some (.int x3), some (.int x4)], v.toList ++ [], m')) := by
  refine Eq.trans (st1 dX2_readProduct_49 rfl rfl) ?_
  refine Eq.trans (st1 dX2_readProduct_50 rfl rfl) ?_
  refine Eq.trans (st1 dX2_readProduct_52 rfl rfl) ?_
  exact iv0 dX2_readProduct_53 rfl cp_2_54 rfl rfl (kd_ka ka_1) ka_1.1 (Nat.le_of_ble_eq_true rfl)
theorem q_X2_readProduct_56 {call : CALL} {L X : Nat} {I : Nat → Nat → Int32} {J : Nat → Nat → Int64} {a0 : Nat} {x2 : Int32} {x3 : Int32} {x4 : Int32} {s0 : Int32} (h0 : oc2 a0) : runI call iX2_readProduct (56, [some (.ref a0), some (.ref 1), some (.int x2), some (.int x3), some (.int x4)], [.int s0], (mm L X I J)) = bnd (call nX2_readUnit [.ref a0, .ref 1, .int x2] (mm L X I J)) (fun v m' => runI call iX2_readProduct (63, [some (.ref a0), some (.ref 1), some (.int x2), some (.int x3), some (.int x4)], v.toList ++ [], m')) := by
  refine Eq.trans (st1 dX2_readProduct_56 rfl rfl) ?_
  refine Eq.trans (st1 dX2_readProduct_57 rfl rfl) ?_
  refine Eq.trans (st1 dX2_readProduct_58 rfl rfl) ?_
  refine Eq.trans (st1 dX2_readProduct_59 rfl rfl) ?_
  exact iv0 dX2_readProduct_60 rfl cp_2_62 rfl rfl (kd_ka (ks2_0 h0)) (ks2_0 h0).1 (Nat.le_of_ble_eq_true rfl)
theorem q_X2_readProduct_63 {call : CALL} {L X : Nat} {I : Nat → Nat → Int32} {J : Nat → Nat → Int64} {a0 : Nat} {x2 : Int32} {x3 : Int32} {x4 : Int32} {s0 : Int32} (h0 : oc2 a0) : runI call iX2_readProduct (63, [some (.ref a0), some (.ref 1), some (.int x2), some (.int x3), some (.int x4)], [.int s0], (mm L X I J)) = if s0 = (nI 0) then some (.inl (some (.int (nI 0))), (mm L X I J)) else if x4 = (nI 42) then runI call iX2_readProduct (98, [some (.ref a0), some (.ref 1), some (.int x2), some (.int x3), some (.int x4)], [.int (nI 2002), .ref a0], (mm L X I J)) else if x4 = (nI 47) then runI call iX2_readProduct (98, [some (.ref a0), some (.ref 1), some (.int x2), some (.int x3), some (.int x4)], [.int (nI 2003), .ref a0], (mm L X I J)) else runI call iX2_readProduct (98, [some (.ref a0), some (.ref 1), some (.int x2), some (.int x3), some (.int x4)], [.int (nI 2004), .ref a0], (mm L X I J)) := by
  refine Eq.trans (if_ne (tgt := 68) dX2_readProduct_63 (by decide +kernel)) (ite_cong (fun _ => ?_) (fun _ => ?_))
  · refine Eq.trans (xiconst dX2_readProduct_66 ci_0) ?_
    exact ret1 dX2_readProduct_67 rfl (.inl rfl)
  · refine Eq.trans (st1 dX2_readProduct_68 rfl rfl) ?_
    refine Eq.trans (st1 dX2_readProduct_69 rfl rfl) ?_
    refine Eq.trans (xbipush dX2_readProduct_71 cb_42) ?_
    refine Eq.trans (ic_ne (tgt := 82) dX2_readProduct_73 (by decide +kernel)) (ite_cong (fun _ => ?_) (fun _ => ?_))
    · refine Eq.trans (xsipush dX2_readProduct_76 cs_2002) ?_
      refine Eq.trans (go_to (tgt := 98) dX2_readProduct_79 (by decide +kernel)) ?_
      rfl
    · refine Eq.trans (st1 dX2_readProduct_82 rfl rfl) ?_
      refine Eq.trans (xbipush dX2_readProduct_84 cb_47) ?_
      refine Eq.trans (ic_ne (tgt := 95) dX2_readProduct_86 (by decide +kernel)) (ite_cong (fun _ => ?_) (fun _ => ?_))
      · refine Eq.trans (xsipush dX2_readProduct_89 cs_2003) ?_
        refine Eq.trans (go_to (tgt := 98) dX2_readProduct_92 (by decide +kernel)) ?_
        rfl
      · refine Eq.trans (xsipush dX2_readProduct_95 cs_2004) ?_
        rfl
theorem q_X2_readProduct_98 {call : CALL} {L X : Nat} {I : Nat → Nat → Int32} {J : Nat → Nat → Int64} {a0 : Nat} {x2 : Int32} {x3 : Int32} {u4 : Option Value} {s1 : Int32} (h0 : oc2 a0) : runI call iX2_readProduct (98, [some (.ref a0), some (.ref 1), some (.int x2), some (.int x3), u4], [.int s1, .ref a0], (mm L X I J)) = bnd (call nX2_add [.ref a0, .int s1] (mm L X I J)) (fun v m' => runI call iX2_readProduct (101, [some (.ref a0), some (.ref 1), some (.int x2), some (.int x3), u4], v.toList ++ [], m')) := by
  exact iv0 dX2_readProduct_98 rfl cp_2_58 rfl rfl (kd_ka (ks2_0 h0)) (ks2_0 h0).1 (Nat.le_of_ble_eq_true rfl)
theorem q_X2_readProduct_101 {call : CALL} {L X : Nat} {I : Nat → Nat → Int32} {J : Nat → Nat → Int64} {a0 : Nat} {x2 : Int32} {x3 : Int32} {u4 : Option Value} {s0 : Int32} (h0 : oc2 a0) : runI call iX2_readProduct (101, [some (.ref a0), some (.ref 1), some (.int x2), some (.int x3), u4], [.int s0], (mm L X I J)) = runI call iX2_readProduct (13, [some (.ref a0), some (.ref 1), some (.int x2), some (.int (x3 + (nI 1))), u4], [], (mm L X I J)) := by
  refine Eq.trans (st1 dX2_readProduct_101 rfl rfl) ?_
  refine Eq.trans (xinc2 dX2_readProduct_102 ci_1 rfl (Nat.le_of_ble_eq_true rfl) rfl) ?_
  refine Eq.trans (go_to (tgt := 13) dX2_readProduct_105 (by decide +kernel)) ?_
  rfl
theorem q_X2_readUnit_0 {call : CALL} {L X : Nat} {I : Nat → Nat → Int32} {J : Nat → Nat → Int64} {a0 : Nat} {x2 : Int32} (h0 : oc2 a0) : runI call iX2_readUnit (0, [some (.ref a0), some (.ref 1), some (.int x2), none, none], [], (mm L X I J)) = bnd (call nX7_peek [.ref 1] (mm L X I J)) (fun v m' => runI call iX2_readUnit (4, [some (.ref a0), some (.ref 1), some (.int x2), none, none], v.toList ++ [], m')) := by
  refine Eq.trans (st1 dX2_readUnit_0 rfl rfl) ?_
  exact iv0 dX2_readUnit_1 rfl cp_2_50 rfl rfl (kd_ka ka_1) ka_1.1 (Nat.le_of_ble_eq_true rfl)
theorem q_X2_readUnit_4 {call : CALL} {L X : Nat} {I : Nat → Nat → Int32} {J : Nat → Nat → Int64} {a0 : Nat} {x2 : Int32} {u3 : Option Value} {u4 : Option Value} {s0 : Int32} (h0 : oc2 a0) : runI call iX2_readUnit (4, [some (.ref a0), some (.ref 1), some (.int x2), u3, u4], [.int s0], (mm L X I J)) = bndN (call nX7_isDigit [.int s0] (mm L X I J)) (fun v m' => runI call iX2_readUnit (9, [some (.ref a0), some (.ref 1), some (.int x2), some (.int s0), u4], v.toList ++ [], m')) := by
  refine Eq.trans (st1 dX2_readUnit_4 rfl rfl) ?_
  refine Eq.trans (st1 dX2_readUnit_5 rfl rfl) ?_
  exact is2 dX2_readUnit_6 cp_2_65 (Nat.le_of_ble_eq_true rfl) rfl rfl (Nat.le_of_ble_eq_true rfl)
theorem q_X2_readUnit_9 {call : CALL} {L X : Nat} {I : Nat → Nat → Int32} {J : Nat → Nat → Int64} {a0 : Nat} {x2 : Int32} {x3 : Int32} {u4 : Option Value} {s0 : Int32} (h0 : oc2 a0) : runI call iX2_readUnit (9, [some (.ref a0), some (.ref 1), some (.int x2), some (.int x3), u4], [.int s0], (mm L X I J)) = if s0 = (nI 0) then if x3 = (nI 40) then if x2 < (nI 6) then bnd (call nX7_sign [.ref 1, .int (nI 40)] (mm L X I J)) (fun v m' => runI call iX2_readUnit (63, [some (.ref a0), some (.ref 1), some (.int x2), some (.int x3), u4], v.toList ++ [], m')) else bnd (call nX7_tooMany [.ref 1] (mm L X I J)) (fun v m' => runI call iX2_readUnit (56, [some (.ref a0), some (.ref 1), some (.int x2), some (.int x3), u4], v.toList ++ [], m')) else bnd (call nX7_named [.ref 1, .ref 1000004] (mm L X I J)) (fun v m' => runI call iX2_readUnit (98, [some (.ref a0), some (.ref 1), some (.int x2), some (.int x3), u4], v.toList ++ [], m')) else bnd (call nX7_numeral [.ref 1, .int (nI 0), .int (nI 999)] (mm L X I J)) (fun v m' => runI call iX2_readUnit (20, [some (.ref a0), some (.ref 1), some (.int x2), some (.int x3), u4], v.toList ++ [], m')) := by
  refine Eq.trans (if_eq (tgt := 40) dX2_readUnit_9 (by decide +kernel)) (ite_cong (fun _ => ?_) (fun _ => ?_))
  · refine Eq.trans (st1 dX2_readUnit_40 rfl rfl) ?_
    refine Eq.trans (xbipush dX2_readUnit_41 cb_40) ?_
    refine Eq.trans (ic_ne (tgt := 92) dX2_readUnit_43 (by decide +kernel)) (ite_cong (fun _ => ?_) (fun _ => ?_))
    · refine Eq.trans (st1 dX2_readUnit_46 rfl rfl) ?_
      refine Eq.trans (xbipush dX2_readUnit_47 cb_6) ?_
      refine Eq.trans (ic_lt (tgt := 57) dX2_readUnit_49 (by decide +kernel)) (ite_cong (fun _ => ?_) (fun _ => ?_))
      · refine Eq.trans (st1 dX2_readUnit_57 rfl rfl) ?_
        refine Eq.trans (xbipush dX2_readUnit_58 cb_40) ?_
        exact iv0 dX2_readUnit_60 rfl cp_2_54 rfl rfl (kd_ka ka_1) ka_1.1 (Nat.le_of_ble_eq_true rfl)
      · refine Eq.trans (st1 dX2_readUnit_52 rfl rfl) ?_
        exact iv0 dX2_readUnit_53 rfl cp_2_75 rfl rfl (kd_ka ka_1) ka_1.1 (Nat.le_of_ble_eq_true rfl)
    · refine Eq.trans (st1 dX2_readUnit_92 rfl rfl) ?_
      refine Eq.trans (xldcS (a := 1000004) dX2_readUnit_93 cp_2_78 (by decide)) ?_
      exact iv0 dX2_readUnit_95 rfl cp_2_80 rfl rfl (kd_ka ka_1) ka_1.1 (Nat.le_of_ble_eq_true rfl)
  · refine Eq.trans (st1 dX2_readUnit_12 rfl rfl) ?_
    refine Eq.trans (xiconst dX2_readUnit_13 ci_0) ?_
    refine Eq.trans (xsipush dX2_readUnit_14 cs_999) ?_
    exact iv0 dX2_readUnit_17 rfl cp_2_68 rfl rfl (kd_ka ka_1) ka_1.1 (Nat.le_of_ble_eq_true rfl)
theorem q_X2_readUnit_98 {call : CALL} {L X : Nat} {I : Nat → Nat → Int32} {J : Nat → Nat → Int64} {a0 : Nat} {x2 : Int32} {u3 : Option Value} {u4 : Option Value} {s0 : Int32} (h0 : oc2 a0) (hu3 : okv u3 = true) : runI call iX2_readUnit (98, [some (.ref a0), some (.ref 1), some (.int x2), u3, u4], [.int s0], (mm L X I J)) = if (nI 9) ≤ s0 then if x2 < (nI 6) then bnd (call nX7_sign [.ref 1, .int (nI 91)] (mm L X I J)) (fun v m' => runI call iX2_readUnit (148, [some (.ref a0), some (.ref 1), some (.int x2), u3, some (.int s0)], v.toList ++ [], m')) else bnd (call nX7_tooMany [.ref 1] (mm L X I J)) (fun v m' => runI call iX2_readUnit (141, [some (.ref a0), some (.ref 1), some (.int x2), u3, some (.int s0)], v.toList ++ [], m')) else if s0 < (nI 0) then some (.inl (some (.int (nI 0))), (mm L X I J)) else bnd (call nX2_add [.ref a0, .int ((nI 1000) + s0)] (mm L X I J)) (fun v m' => runI call iX2_readUnit (122, [some (.ref a0), some (.ref 1), some (.int x2), u3, some (.int s0)], v.toList ++ [], m')) := by
  refine Eq.trans (xst2 (k := 4) dX2_readUnit_98 hu3 rfl) ?_
  refine Eq.trans (st1 dX2_readUnit_100 rfl rfl) ?_
  refine Eq.trans (xbipush dX2_readUnit_102 cb_9) ?_
  refine Eq.trans (ic_ge (tgt := 131) dX2_readUnit_104 (by decide +kernel)) (ite_cong (fun _ => ?_) (fun _ => ?_))
  · refine Eq.trans (st1 dX2_readUnit_131 rfl rfl) ?_
    refine Eq.trans (xbipush dX2_readUnit_132 cb_6) ?_
    refine Eq.trans (ic_lt (tgt := 142) dX2_readUnit_134 (by decide +kernel)) (ite_cong (fun _ => ?_) (fun _ => ?_))
    · refine Eq.trans (st1 dX2_readUnit_142 rfl rfl) ?_
      refine Eq.trans (xbipush dX2_readUnit_143 cb_91) ?_
      exact iv0 dX2_readUnit_145 rfl cp_2_54 rfl rfl (kd_ka ka_1) ka_1.1 (Nat.le_of_ble_eq_true rfl)
    · refine Eq.trans (st1 dX2_readUnit_137 rfl rfl) ?_
      exact iv0 dX2_readUnit_138 rfl cp_2_75 rfl rfl (kd_ka ka_1) ka_1.1 (Nat.le_of_ble_eq_true rfl)
  · refine Eq.trans (st1 dX2_readUnit_107 rfl rfl) ?_
    refine Eq.trans (if_lt (tgt := 129) dX2_readUnit_109 (by decide +kernel)) (ite_cong (fun _ => ?_) (fun _ => ?_))
    · refine Eq.trans (xiconst dX2_readUnit_129 ci_0) ?_
      exact ret1 dX2_readUnit_130 rfl (.inl rfl)
    · refine Eq.trans (st1 dX2_readUnit_112 rfl rfl) ?_
      refine Eq.trans (xsipush dX2_readUnit_113 cs_1000) ?_
      refine Eq.trans (st1 dX2_readUnit_116 rfl rfl) ?_
      refine Eq.trans (st1 dX2_readUnit_118 rfl rfl) ?_
      exact iv0 dX2_readUnit_119 rfl cp_2_58 rfl rfl (kd_ka (ks2_0 h0)) (ks2_0 h0).1 (Nat.le_of_ble_eq_true rfl)
theorem q_X2_readUnit_63 {call : CALL} {L X : Nat} {I : Nat → Nat → Int32} {J : Nat → Nat → Int64} {a0 : Nat} {x2 : Int32} {u3 : Option Value} {u4 : Option Value} {s0 : Int32} (h0 : oc2 a0) : runI call iX2_readUnit (63, [some (.ref a0), some (.ref 1), some (.int x2), u3, u4], [.int s0], (mm L X I J)) = if s0 = (nI 0) then some (.inl (some (.int (nI 0))), (mm L X I J)) else bnd (call nX2_readSum [.ref a0, .ref 1, .int (x2 + (nI 1))] (mm L X I J)) (fun v m' => runI call iX2_readUnit (74, [some (.ref a0), some (.ref 1), some (.int x2), u3, u4], v.toList ++ [], m')) := by
  refine Eq.trans (if_eq (tgt := 90) dX2_readUnit_63 (by decide +kernel)) (ite_cong (fun _ => ?_) (fun _ => ?_))
  · refine Eq.trans (xiconst dX2_readUnit_90 ci_0) ?_
    exact ret1 dX2_readUnit_91 rfl (.inl rfl)
  · refine Eq.trans (st1 dX2_readUnit_66 rfl rfl) ?_
    refine Eq.trans (st1 dX2_readUnit_67 rfl rfl) ?_
    refine Eq.trans (st1 dX2_readUnit_68 rfl rfl) ?_
    refine Eq.trans (xiconst dX2_readUnit_69 ci_1) ?_
    refine Eq.trans (st1 dX2_readUnit_70 rfl rfl) ?_
    exact iv0 dX2_readUnit_71 rfl cp_2_37 rfl rfl (kd_ka (ks2_0 h0)) (ks2_0 h0).1 (Nat.le_of_ble_eq_true rfl)
theorem q_X2_readUnit_56 {call : CALL} {L X : Nat} {I : Nat → Nat → Int32} {J : Nat → Nat → Int64} {u0 : Option Value} {u1 : Option Value} {u2 : Option Value} {u3 : Option Value} {u4 : Option Value} {s0 : Int32} : runI call iX2_readUnit (56, [u0, u1, u2, u3, u4], [.int s0], (mm L X I J)) = gd (b01 s0) (some (.inl (some (.int s0)), (mm L X I J))) := by
  exact ret1g dX2_readUnit_56 rfl
theorem q_X2_readUnit_20 {call : CALL} {L X : Nat} {I : Nat → Nat → Int32} {J : Nat → Nat → Int64} {a0 : Nat} {u2 : Option Value} {u3 : Option Value} {u4 : Option Value} {s0 : Int32} (h0 : oc2 a0) : runI call iX2_readUnit (20, [some (.ref a0), some (.ref 1), u2, u3, u4], [.int s0], (mm L X I J)) = if s0 = (nI 0) then some (.inl (some (.int (nI 0))), (mm L X I J)) else bnd (call nX2_add [.ref a0, .int (I 1 4)] (mm L X I J)) (fun v m' => runI call iX2_readUnit (31, [some (.ref a0), some (.ref 1), u2, u3, u4], v.toList ++ [], m')) := by
  refine Eq.trans (if_eq (tgt := 38) dX2_readUnit_20 (by decide +kernel)) (ite_cong (fun _ => ?_) (fun _ => ?_))
  · refine Eq.trans (xiconst dX2_readUnit_38 ci_0) ?_
    exact ret1 dX2_readUnit_39 rfl (.inl rfl)
  · refine Eq.trans (st1 dX2_readUnit_23 rfl rfl) ?_
    refine Eq.trans (st1 dX2_readUnit_24 rfl rfl) ?_
    refine Eq.trans (getIm dX2_readUnit_25 cp_2_72 ka_1 (.inl rfl)) ?_
    exact iv0 dX2_readUnit_28 rfl cp_2_58 rfl rfl (kd_ka (ks2_0 h0)) (ks2_0 h0).1 (Nat.le_of_ble_eq_true rfl)
theorem q_X2_readUnit_148 {call : CALL} {L X : Nat} {I : Nat → Nat → Int32} {J : Nat → Nat → Int64} {a0 : Nat} {x2 : Int32} {u3 : Option Value} {x4 : Int32} {s0 : Int32} (h0 : oc2 a0) : runI call iX2_readUnit (148, [some (.ref a0), some (.ref 1), some (.int x2), u3, some (.int x4)], [.int s0], (mm L X I J)) = if s0 = (nI 0) then some (.inl (some (.int (nI 0))), (mm L X I J)) else bnd (call nX2_readSum [.ref a0, .ref 1, .int (x2 + (nI 1))] (mm L X I J)) (fun v m' => runI call iX2_readUnit (159, [some (.ref a0), some (.ref 1), some (.int x2), u3, some (.int x4)], v.toList ++ [], m')) := by
  refine Eq.trans (if_eq (tgt := 211) dX2_readUnit_148 (by decide +kernel)) (ite_cong (fun _ => ?_) (fun _ => ?_))
  · refine Eq.trans (xiconst dX2_readUnit_211 ci_0) ?_
    exact ret1 dX2_readUnit_212 rfl (.inl rfl)
  · refine Eq.trans (st1 dX2_readUnit_151 rfl rfl) ?_
    refine Eq.trans (st1 dX2_readUnit_152 rfl rfl) ?_
    refine Eq.trans (st1 dX2_readUnit_153 rfl rfl) ?_
    refine Eq.trans (xiconst dX2_readUnit_154 ci_1) ?_
    refine Eq.trans (st1 dX2_readUnit_155 rfl rfl) ?_
    exact iv0 dX2_readUnit_156 rfl cp_2_37 rfl rfl (kd_ka (ks2_0 h0)) (ks2_0 h0).1 (Nat.le_of_ble_eq_true rfl)
theorem q_X2_readUnit_141 {call : CALL} {L X : Nat} {I : Nat → Nat → Int32} {J : Nat → Nat → Int64} {u0 : Option Value} {u1 : Option Value} {u2 : Option Value} {u3 : Option Value} {u4 : Option Value} {s0 : Int32} : runI call iX2_readUnit (141, [u0, u1, u2, u3, u4], [.int s0], (mm L X I J)) = gd (b01 s0) (some (.inl (some (.int s0)), (mm L X I J))) := by
  exact ret1g dX2_readUnit_141 rfl
theorem q_X2_readUnit_122 {call : CALL} {L X : Nat} {I : Nat → Nat → Int32} {J : Nat → Nat → Int64} {u0 : Option Value} {u1 : Option Value} {u2 : Option Value} {u3 : Option Value} {u4 : Option Value} {s0 : Int32} : runI call iX2_readUnit (122, [u0, u1, u2, u3, u4], [.int s0], (mm L X I J)) = if s0 = (nI 0) then some (.inl (some (.int (nI 0))), (mm L X I J)) else some (.inl (some (.int (nI 1))), (mm L X I J)) := by
  refine Eq.trans (if_eq (tgt := 129) dX2_readUnit_122 (by decide +kernel)) (ite_cong (fun _ => ?_) (fun _ => ?_))
  · refine Eq.trans (xiconst dX2_readUnit_129 ci_0) ?_
    exact ret1 dX2_readUnit_130 rfl (.inl rfl)
  · refine Eq.trans (xiconst dX2_readUnit_125 ci_1) ?_
    refine Eq.trans (go_to (tgt := 130) dX2_readUnit_126 (by decide +kernel)) ?_
    exact ret1 dX2_readUnit_130 rfl (.inr rfl)
theorem q_X2_readUnit_74 {call : CALL} {L X : Nat} {I : Nat → Nat → Int32} {J : Nat → Nat → Int64} {u0 : Option Value} {u2 : Option Value} {u3 : Option Value} {u4 : Option Value} {s0 : Int32} : runI call iX2_readUnit (74, [u0, some (.ref 1), u2, u3, u4], [.int s0], (mm L X I J)) = if s0 = (nI 0) then some (.inl (some (.int (nI 0))), (mm L X I J)) else bnd (call nX7_sign [.ref 1, .int (nI 41)] (mm L X I J)) (fun v m' => runI call iX2_readUnit (83, [u0, some (.ref 1), u2, u3, u4], v.toList ++ [], m')) := by
  refine Eq.trans (if_eq (tgt := 90) dX2_readUnit_74 (by decide +kernel)) (ite_cong (fun _ => ?_) (fun _ => ?_))
  · refine Eq.trans (xiconst dX2_readUnit_90 ci_0) ?_
    exact ret1 dX2_readUnit_91 rfl (.inl rfl)
  · refine Eq.trans (st1 dX2_readUnit_77 rfl rfl) ?_
    refine Eq.trans (xbipush dX2_readUnit_78 cb_41) ?_
    exact iv0 dX2_readUnit_80 rfl cp_2_54 rfl rfl (kd_ka ka_1) ka_1.1 (Nat.le_of_ble_eq_true rfl)
theorem q_X2_readUnit_31 {call : CALL} {L X : Nat} {I : Nat → Nat → Int32} {J : Nat → Nat → Int64} {u0 : Option Value} {u1 : Option Value} {u2 : Option Value} {u3 : Option Value} {u4 : Option Value} {s0 : Int32} : runI call iX2_readUnit (31, [u0, u1, u2, u3, u4], [.int s0], (mm L X I J)) = if s0 = (nI 0) then some (.inl (some (.int (nI 0))), (mm L X I J)) else some (.inl (some (.int (nI 1))), (mm L X I J)) := by
  refine Eq.trans (if_eq (tgt := 38) dX2_readUnit_31 (by decide +kernel)) (ite_cong (fun _ => ?_) (fun _ => ?_))
  · refine Eq.trans (xiconst dX2_readUnit_38 ci_0) ?_
    exact ret1 dX2_readUnit_39 rfl (.inl rfl)
  · refine Eq.trans (xiconst dX2_readUnit_34 ci_1) ?_
    refine Eq.trans (go_to (tgt := 39) dX2_readUnit_35 (by decide +kernel)) ?_
    exact ret1 dX2_readUnit_39 rfl (.inr rfl)
theorem q_X2_readUnit_159 {call : CALL} {L X : Nat} {I : Nat → Nat → Int32} {J : Nat → Nat → Int64} {a0 : Nat} {x2 : Int32} {u3 : Option Value} {x4 : Int32} {s0 : Int32} (h0 : oc2 a0) : runI call iX2_readUnit (159, [some (.ref a0), some (.ref 1), some (.int x2), u3, some (.int x4)], [.int s0], (mm L X I J)) = if s0 = (nI 0) then some (.inl (some (.int (nI 0))), (mm L X I J)) else bnd (call nX7_sign [.ref 1, .int (nI 44)] (mm L X I J)) (fun v m' => runI call iX2_readUnit (168, [some (.ref a0), some (.ref 1), some (.int x2), u3, some (.int x4)], v.toList ++ [], m')) := by
  refine Eq.trans (if_eq (tgt := 211) dX2_readUnit_159 (by decide +kernel)) (ite_cong (fun _ => ?_) (fun _ => ?_))
  · refine Eq.trans (xiconst dX2_readUnit_211 ci_0) ?_
    exact ret1 dX2_readUnit_212 rfl (.inl rfl)
  · refine Eq.trans (st1 dX2_readUnit_162 rfl rfl) ?_
    refine Eq.trans (xbipush dX2_readUnit_163 cb_44) ?_
    exact iv0 dX2_readUnit_165 rfl cp_2_54 rfl rfl (kd_ka ka_1) ka_1.1 (Nat.le_of_ble_eq_true rfl)
theorem q_X2_readUnit_83 {call : CALL} {L X : Nat} {I : Nat → Nat → Int32} {J : Nat → Nat → Int64} {u0 : Option Value} {u1 : Option Value} {u2 : Option Value} {u3 : Option Value} {u4 : Option Value} {s0 : Int32} : runI call iX2_readUnit (83, [u0, u1, u2, u3, u4], [.int s0], (mm L X I J)) = if s0 = (nI 0) then some (.inl (some (.int (nI 0))), (mm L X I J)) else some (.inl (some (.int (nI 1))), (mm L X I J)) := by
  refine Eq.trans (if_eq (tgt := 90) dX2_readUnit_83 (by decide +kernel)) (ite_cong (fun _ => ?_) (fun _ => ?_))
  · refine Eq.trans (xiconst dX2_readUnit_90 ci_0) ?_
    exact ret1 dX2_readUnit_91 rfl (.inl rfl)
  · refine Eq.trans (xiconst dX2_readUnit_86 ci_1) ?_
    refine Eq.trans (go_to (tgt := 91) dX2_readUnit_87 (by decide +kernel)) ?_
    exact ret1 dX2_readUnit_91 rfl (.inr rfl)
theorem q_X2_readUnit_168 {call : CALL} {L X : Nat} {I : Nat → Nat → Int32} {J : Nat → Nat → Int64} {a0 : Nat} {x2 : Int32} {u3 : Option Value} {x4 : Int32} {s0 : Int32} (h0 : oc2 a0) : runI call iX2_readUnit (168, [some (.ref a0), some (.ref 1), some (.int x2), u3, some (.int x4)], [.int s0], (mm L X I J)) = if s0 = (nI 0) then some (.inl (some (.int (nI 0))), (mm L X I J)) else bnd (call nX2_readSum [.ref a0, .ref 1, .int (x2 + (nI 1))] (mm L X I J)) (fun v m' => runI call iX2_readUnit (179, [some (.ref a0), some (.ref 1), some (.int x2), u3, some (.int x4)], v.toList ++ [], m')) := by
  refine Eq.trans (if_eq (tgt := 211) dX2_readUnit_168 (by decide +kernel)) (ite_cong (fun _ => ?_) (fun _ => ?_))
  · refine Eq.trans (xiconst dX2_readUnit_211 ci_0) ?_
    exact ret1 dX2_readUnit_212 rfl (.inl rfl)
  · refine Eq.trans (st1 dX2_readUnit_171 rfl rfl) ?_
    refine Eq.trans (st1 dX2_readUnit_172 rfl rfl) ?_
    refine Eq.trans (st1 dX2_readUnit_173 rfl rfl) ?_
    refine Eq.trans (xiconst dX2_readUnit_174 ci_1) ?_
    refine Eq.trans (st1 dX2_readUnit_175 rfl rfl) ?_
    exact iv0 dX2_readUnit_176 rfl cp_2_37 rfl rfl (kd_ka (ks2_0 h0)) (ks2_0 h0).1 (Nat.le_of_ble_eq_true rfl)
theorem q_X2_readUnit_179 {call : CALL} {L X : Nat} {I : Nat → Nat → Int32} {J : Nat → Nat → Int64} {a0 : Nat} {u2 : Option Value} {u3 : Option Value} {x4 : Int32} {s0 : Int32} (h0 : oc2 a0) : runI call iX2_readUnit (179, [some (.ref a0), some (.ref 1), u2, u3, some (.int x4)], [.int s0], (mm L X I J)) = if s0 = (nI 0) then some (.inl (some (.int (nI 0))), (mm L X I J)) else bnd (call nX7_sign [.ref 1, .int (nI 93)] (mm L X I J)) (fun v m' => runI call iX2_readUnit (188, [some (.ref a0), some (.ref 1), u2, u3, some (.int x4)], v.toList ++ [], m')) := by
  refine Eq.trans (if_eq (tgt := 211) dX2_readUnit_179 (by decide +kernel)) (ite_cong (fun _ => ?_) (fun _ => ?_))
  · refine Eq.trans (xiconst dX2_readUnit_211 ci_0) ?_
    exact ret1 dX2_readUnit_212 rfl (.inl rfl)
  · refine Eq.trans (st1 dX2_readUnit_182 rfl rfl) ?_
    refine Eq.trans (xbipush dX2_readUnit_183 cb_93) ?_
    exact iv0 dX2_readUnit_185 rfl cp_2_54 rfl rfl (kd_ka ka_1) ka_1.1 (Nat.le_of_ble_eq_true rfl)
theorem q_X2_readUnit_188 {call : CALL} {L X : Nat} {I : Nat → Nat → Int32} {J : Nat → Nat → Int64} {a0 : Nat} {u1 : Option Value} {u2 : Option Value} {u3 : Option Value} {x4 : Int32} {s0 : Int32} (h0 : oc2 a0) : runI call iX2_readUnit (188, [some (.ref a0), u1, u2, u3, some (.int x4)], [.int s0], (mm L X I J)) = if s0 = (nI 0) then some (.inl (some (.int (nI 0))), (mm L X I J)) else bnd (call nX2_add [.ref a0, .int (((nI 2005) + x4) - (nI 9))] (mm L X I J)) (fun v m' => runI call iX2_readUnit (204, [some (.ref a0), u1, u2, u3, some (.int x4)], v.toList ++ [], m')) := by
  refine Eq.trans (if_eq (tgt := 211) dX2_readUnit_188 (by decide +kernel)) (ite_cong (fun _ => ?_) (fun _ => ?_))
  · refine Eq.trans (xiconst dX2_readUnit_211 ci_0) ?_
    exact ret1 dX2_readUnit_212 rfl (.inl rfl)
  · refine Eq.trans (st1 dX2_readUnit_191 rfl rfl) ?_
    refine Eq.trans (xsipush dX2_readUnit_192 cs_2005) ?_
    refine Eq.trans (st1 dX2_readUnit_195 rfl rfl) ?_
    refine Eq.trans (st1 dX2_readUnit_197 rfl rfl) ?_
    refine Eq.trans (xbipush dX2_readUnit_198 cb_9) ?_
    refine Eq.trans (st1 dX2_readUnit_200 rfl rfl) ?_
    exact iv0 dX2_readUnit_201 rfl cp_2_58 rfl rfl (kd_ka (ks2_0 h0)) (ks2_0 h0).1 (Nat.le_of_ble_eq_true rfl)
theorem q_X2_readUnit_204 {call : CALL} {L X : Nat} {I : Nat → Nat → Int32} {J : Nat → Nat → Int64} {u0 : Option Value} {u1 : Option Value} {u2 : Option Value} {u3 : Option Value} {u4 : Option Value} {s0 : Int32} : runI call iX2_readUnit (204, [u0, u1, u2, u3, u4], [.int s0], (mm L X I J)) = if s0 = (nI 0) then some (.inl (some (.int (nI 0))), (mm L X I J)) else some (.inl (some (.int (nI 1))), (mm L X I J)) := by
  refine Eq.trans (if_eq (tgt := 211) dX2_readUnit_204 (by decide +kernel)) (ite_cong (fun _ => ?_) (fun _ => ?_))
  · refine Eq.trans (xiconst dX2_readUnit_211 ci_0) ?_
    exact ret1 dX2_readUnit_212 rfl (.inl rfl)
  · refine Eq.trans (xiconst dX2_readUnit_207 ci_1) ?_
    refine Eq.trans (go_to (tgt := 212) dX2_readUnit_208 (by decide +kernel)) ?_
    exact ret1 dX2_readUnit_212 rfl (.inr rfl)
