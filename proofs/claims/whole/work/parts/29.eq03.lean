/-! EQUATIONS OF THE METHODS (written by gen_eq.py) -/
theorem q_X8_worstPlace_0 {call : CALL} {L X : Nat} {I : Nat → Nat → Int32} {J : Nat → Nat → Int64} {a1 : Nat} (h1 : oc3 a1) : runI call iX8_worstPlace (0, [some (.ref 52), some (.ref a1), none, none], [], (mm L X I J)) = bnd (call nX8_arriving [.ref 52, .ref a1, .int (I a1 7)] (mm L X I J)) (fun v m' => runI call iX8_worstPlace (9, [some (.ref 52), some (.ref a1), none, none], v.toList ++ [], m')) := by
  refine Eq.trans (st1 dX8_worstPlace_0 rfl rfl) ?_
  refine Eq.trans (st1 dX8_worstPlace_1 rfl rfl) ?_
  refine Eq.trans (st1 dX8_worstPlace_2 rfl rfl) ?_
  refine Eq.trans (getIm dX8_worstPlace_3 cp_8_92 (ks3_0 h1) (.inl rfl)) ?_
  exact iv0 dX8_worstPlace_6 rfl cp_8_95 rfl rfl (kd_ka ka_52) ka_52.1 (Nat.le_of_ble_eq_true rfl)
theorem q_X8_worstPlace_9 {call : CALL} {L X : Nat} {I : Nat → Nat → Int32} {J : Nat → Nat → Int64} {a1 : Nat} {u2 : Option Value} {u3 : Option Value} {s0 : Int32} (h1 : oc3 a1) : runI call iX8_worstPlace (9, [some (.ref 52), some (.ref a1), u2, u3], [.int s0], (mm L X I J)) = runI call iX8_worstPlace (14, [some (.ref 52), some (.ref a1), some (.int (-1 : Int32)), some (.int (nI 0))], [], (mm L X I J)) := by
  refine Eq.trans (st1 dX8_worstPlace_9 rfl rfl) ?_
  refine Eq.trans (xiconst dX8_worstPlace_10 ci_m1) ?_
  refine Eq.trans (st1 dX8_worstPlace_11 rfl rfl) ?_
  refine Eq.trans (xiconst dX8_worstPlace_12 ci_0) ?_
  refine Eq.trans (st1 dX8_worstPlace_13 rfl rfl) ?_
  rfl
theorem q_X8_worstPlace_14 {call : CALL} {L X : Nat} {I : Nat → Nat → Int32} {J : Nat → Nat → Int64} {a1 : Nat} {x2 : Int32} {x3 : Int32} (h1 : oc3 a1) : runI call iX8_worstPlace (14, [some (.ref 52), some (.ref a1), some (.int x2), some (.int x3)], [], (mm L X I J)) = if (I a1 5) ≤ x3 then some (.inl (some (.int x2)), (mm L X I J)) else if (nI 6) ≤ x3 then some (.inl (some (.int x2)), (mm L X I J)) else if x2 = (-1 : Int32) then runI call iX8_worstPlace (48, [some (.ref 52), some (.ref a1), some (.int x2), some (.int x3)], [], (mm L X I J)) else bnd (call nX8_lostAt [.ref 52, .ref a1, .int x3] (mm L X I J)) (fun v m' => runI call iX8_worstPlace (39, [some (.ref 52), some (.ref a1), some (.int x2), some (.int x3)], v.toList ++ [], m')) := by
  refine Eq.trans (st1 dX8_worstPlace_14 rfl rfl) ?_
  refine Eq.trans (st1 dX8_worstPlace_15 rfl rfl) ?_
  refine Eq.trans (getIm dX8_worstPlace_16 cp_8_33 (ks3_0 h1) (.inl rfl)) ?_
  refine Eq.trans (ic_ge (tgt := 56) dX8_worstPlace_19 (by decide +kernel)) (ite_cong (fun _ => ?_) (fun _ => ?_))
  · refine Eq.trans (st1 dX8_worstPlace_56 rfl rfl) ?_
    exact ret0 dX8_worstPlace_57 rfl
  · refine Eq.trans (st1 dX8_worstPlace_22 rfl rfl) ?_
    refine Eq.trans (xbipush dX8_worstPlace_23 cb_6) ?_
    refine Eq.trans (ic_ge (tgt := 56) dX8_worstPlace_25 (by decide +kernel)) (ite_cong (fun _ => ?_) (fun _ => ?_))
    · refine Eq.trans (st1 dX8_worstPlace_56 rfl rfl) ?_
      exact ret0 dX8_worstPlace_57 rfl
    · refine Eq.trans (st1 dX8_worstPlace_28 rfl rfl) ?_
      refine Eq.trans (xiconst dX8_worstPlace_29 ci_m1) ?_
      refine Eq.trans (ic_eq (tgt := 48) dX8_worstPlace_30 (by decide +kernel)) (ite_cong (fun _ => ?_) (fun _ => ?_))
      · rfl
      · refine Eq.trans (st1 dX8_worstPlace_33 rfl rfl) ?_
        refine Eq.trans (st1 dX8_worstPlace_34 rfl rfl) ?_
        refine Eq.trans (st1 dX8_worstPlace_35 rfl rfl) ?_
        exact iv0 dX8_worstPlace_36 rfl cp_8_107 rfl rfl (kd_ka ka_52) ka_52.1 (Nat.le_of_ble_eq_true rfl)
theorem q_X8_worstPlace_48 {call : CALL} {L X : Nat} {I : Nat → Nat → Int32} {J : Nat → Nat → Int64} {a1 : Nat} {u2 : Option Value} {x3 : Int32} (h1 : oc3 a1) : runI call iX8_worstPlace (48, [some (.ref 52), some (.ref a1), u2, some (.int x3)], [], (mm L X I J)) = runI call iX8_worstPlace (50, [some (.ref 52), some (.ref a1), some (.int x3), some (.int x3)], [], (mm L X I J)) := by
  refine Eq.trans (st1 dX8_worstPlace_48 rfl rfl) ?_
  refine Eq.trans (st1 dX8_worstPlace_49 rfl rfl) ?_
  rfl
theorem q_X8_worstPlace_39 {call : CALL} {L X : Nat} {I : Nat → Nat → Int32} {J : Nat → Nat → Int64} {a1 : Nat} {x2 : Int32} {x3 : Int32} {s0 : Int32} (h1 : oc3 a1) : runI call iX8_worstPlace (39, [some (.ref 52), some (.ref a1), some (.int x2), some (.int x3)], [.int s0], (mm L X I J)) = bnd (call nX8_lostAt [.ref 52, .ref a1, .int x2] (mm L X I J)) (fun v m' => runI call iX8_worstPlace (45, [some (.ref 52), some (.ref a1), some (.int x2), some (.int x3)], v.toList ++ [.int s0], m')) := by
  refine Eq.trans (st1 dX8_worstPlace_39 rfl rfl) ?_
  refine Eq.trans (st1 dX8_worstPlace_40 rfl rfl) ?_
  refine Eq.trans (st1 dX8_worstPlace_41 rfl rfl) ?_
  exact iv0 dX8_worstPlace_42 rfl cp_8_107 rfl rfl (kd_ka ka_52) ka_52.1 (Nat.le_of_ble_eq_true rfl)
theorem q_X8_worstPlace_50 {call : CALL} {L X : Nat} {I : Nat → Nat → Int32} {J : Nat → Nat → Int64} {a1 : Nat} {x2 : Int32} {x3 : Int32} (h1 : oc3 a1) : runI call iX8_worstPlace (50, [some (.ref 52), some (.ref a1), some (.int x2), some (.int x3)], [], (mm L X I J)) = runI call iX8_worstPlace (14, [some (.ref 52), some (.ref a1), some (.int x2), some (.int (x3 + (nI 1)))], [], (mm L X I J)) := by
  refine Eq.trans (xinc2 dX8_worstPlace_50 ci_1 rfl (Nat.le_of_ble_eq_true rfl) rfl) ?_
  refine Eq.trans (go_to (tgt := 14) dX8_worstPlace_53 (by decide +kernel)) ?_
  rfl
theorem q_X8_worstPlace_45 {call : CALL} {L X : Nat} {I : Nat → Nat → Int32} {J : Nat → Nat → Int64} {a1 : Nat} {x2 : Int32} {x3 : Int32} {s0 : Int32} {s1 : Int32} (h1 : oc3 a1) : runI call iX8_worstPlace (45, [some (.ref 52), some (.ref a1), some (.int x2), some (.int x3)], [.int s1, .int s0], (mm L X I J)) = if s0 ≤ s1 then runI call iX8_worstPlace (50, [some (.ref 52), some (.ref a1), some (.int x2), some (.int x3)], [], (mm L X I J)) else runI call iX8_worstPlace (48, [some (.ref 52), some (.ref a1), some (.int x2), some (.int x3)], [], (mm L X I J)) := by
  refine Eq.trans (ic_le (tgt := 50) dX8_worstPlace_45 (by decide +kernel)) (ite_cong (fun _ => ?_) (fun _ => ?_))
  · rfl
  · rfl
theorem q_X8_lostAt_0 {call : CALL} {L X : Nat} {I : Nat → Nat → Int32} {J : Nat → Nat → Int64} {a1 : Nat} {x2 : Int32} (h1 : oc3 a1) : runI call iX8_lostAt (0, [some (.ref 52), some (.ref a1), some (.int x2), none], [], (mm L X I J)) = if x2 = (nI 0) then runI call iX8_lostAt (21, [some (.ref 52), some (.ref a1), some (.int x2), none], [.int (I a1 7)], (mm L X I J)) else bndN (call nX11_pick [.ref 53, .int (x2 - (nI 1))] (mm L X I J)) (fun v m' => runI call iX8_lostAt (21, [some (.ref 52), some (.ref a1), some (.int x2), none], v.toList ++ [], m')) := by
  refine Eq.trans (st1 dX8_lostAt_0 rfl rfl) ?_
  refine Eq.trans (if_ne (tgt := 11) dX8_lostAt_1 (by decide +kernel)) (ite_cong (fun _ => ?_) (fun _ => ?_))
  · refine Eq.trans (st1 dX8_lostAt_4 rfl rfl) ?_
    refine Eq.trans (getIm dX8_lostAt_5 cp_8_92 (ks3_0 h1) (.inl rfl)) ?_
    refine Eq.trans (go_to (tgt := 21) dX8_lostAt_8 (by decide +kernel)) ?_
    rfl
  · refine Eq.trans (st1 dX8_lostAt_11 rfl rfl) ?_
    refine Eq.trans (getRm dX8_lostAt_12 cp_8_9 ka_52 rfl r_52_2) ?_
    refine Eq.trans (st1 dX8_lostAt_15 rfl rfl) ?_
    refine Eq.trans (xiconst dX8_lostAt_16 ci_1) ?_
    refine Eq.trans (st1 dX8_lostAt_17 rfl rfl) ?_
    exact is3 dX8_lostAt_18 cp_8_61 (Nat.le_of_ble_eq_true rfl) rfl rfl (Nat.le_of_ble_eq_true rfl)
theorem q_X8_lostAt_21 {call : CALL} {L X : Nat} {I : Nat → Nat → Int32} {J : Nat → Nat → Int64} {u1 : Option Value} {x2 : Int32} {u3 : Option Value} {s0 : Int32} : runI call iX8_lostAt (21, [some (.ref 52), u1, some (.int x2), u3], [.int s0], (mm L X I J)) = bndN (call nX11_pick [.ref 53, .int x2] (mm L X I J)) (fun v m' => runI call iX8_lostAt (31, [some (.ref 52), u1, some (.int x2), some (.int s0)], v.toList ++ [.int s0], m')) := by
  refine Eq.trans (st1 dX8_lostAt_21 rfl rfl) ?_
  refine Eq.trans (st1 dX8_lostAt_22 rfl rfl) ?_
  refine Eq.trans (st1 dX8_lostAt_23 rfl rfl) ?_
  refine Eq.trans (getRm dX8_lostAt_24 cp_8_9 ka_52 rfl r_52_2) ?_
  refine Eq.trans (st1 dX8_lostAt_27 rfl rfl) ?_
  exact is3 dX8_lostAt_28 cp_8_61 (Nat.le_of_ble_eq_true rfl) rfl rfl (Nat.le_of_ble_eq_true rfl)
theorem q_X8_lostAt_31 {call : CALL} {L X : Nat} {I : Nat → Nat → Int32} {J : Nat → Nat → Int64} {u0 : Option Value} {u1 : Option Value} {u2 : Option Value} {u3 : Option Value} {s0 : Int32} {s1 : Int32} : runI call iX8_lostAt (31, [u0, u1, u2, u3], [.int s1, .int s0], (mm L X I J)) = some (.inl (some (.int (s0 - s1))), (mm L X I J)) := by
  refine Eq.trans (st1 dX8_lostAt_31 rfl rfl) ?_
  exact ret0 dX8_lostAt_32 rfl
theorem q_X9_readFrom_0 {call : CALL} {L X : Nat} {I : Nat → Nat → Int32} {J : Nat → Nat → Int64} {x2 : Int32} : runI call iX9_readFrom (0, [some (.ref 37), some (.ref 1), some (.int x2), none, none, none], [], (mm L X I J)) = runI call iX9_readFrom (12, [some (.ref 37), some (.ref 1), some (.int x2), some (.int (nI 0)), none, none], [], (mm L X (up2 (up2 I 37 3 (nI 0)) 37 6 (nI 0)) J)) := by
  refine Eq.trans (st1 dX9_readFrom_0 rfl rfl) ?_
  refine Eq.trans (xiconst dX9_readFrom_1 ci_0) ?_
  refine Eq.trans (putIm dX9_readFrom_2 cp_9_27 ka_37 rfl) ?_
  refine Eq.trans (st1 dX9_readFrom_5 rfl rfl) ?_
  refine Eq.trans (xiconst dX9_readFrom_6 ci_0) ?_
  refine Eq.trans (putIm dX9_readFrom_7 cp_9_31 ka_37 rfl) ?_
  refine Eq.trans (xiconst dX9_readFrom_10 ci_0) ?_
  refine Eq.trans (st1 dX9_readFrom_11 rfl rfl) ?_
  rfl
theorem q_X9_readFrom_12 {call : CALL} {L X : Nat} {I : Nat → Nat → Int32} {J : Nat → Nat → Int64} {x2 : Int32} {x3 : Int32} {u4 : Option Value} {u5 : Option Value} : runI call iX9_readFrom (12, [some (.ref 37), some (.ref 1), some (.int x2), some (.int x3), u4, u5], [], (mm L X I J)) = if (nI 150) < x3 then some (.inl (some (.int (nI 0))), (mm L X I J)) else bnd (call nX7_peek [.ref 1] (mm L X I J)) (fun v m' => runI call iX9_readFrom (23, [some (.ref 37), some (.ref 1), some (.int x2), some (.int x3), u4, u5], v.toList ++ [], m')) := by
  refine Eq.trans (st1 dX9_readFrom_12 rfl rfl) ?_
  refine Eq.trans (xsipush dX9_readFrom_13 cs_150) ?_
  refine Eq.trans (ic_gt (tgt := 83) dX9_readFrom_16 (by decide +kernel)) (ite_cong (fun _ => ?_) (fun _ => ?_))
  · refine Eq.trans (xiconst dX9_readFrom_83 ci_0) ?_
    exact ret1 dX9_readFrom_84 rfl (.inl rfl)
  · refine Eq.trans (st1 dX9_readFrom_19 rfl rfl) ?_
    exact iv0 dX9_readFrom_20 rfl cp_9_34 rfl rfl (kd_ka ka_1) ka_1.1 (Nat.le_of_ble_eq_true rfl)
theorem q_X9_readFrom_23 {call : CALL} {L X : Nat} {I : Nat → Nat → Int32} {J : Nat → Nat → Int64} {x2 : Int32} {x3 : Int32} {u4 : Option Value} {u5 : Option Value} {s0 : Int32} : runI call iX9_readFrom (23, [some (.ref 37), some (.ref 1), some (.int x2), some (.int x3), u4, u5], [.int s0], (mm L X I J)) = if s0 = (-1 : Int32) then if (I 37 6) = (nI 0) then some (.inl (some (.int (nI 1))), (mm L X I J)) else runI call iX9_readFrom (40, [some (.ref 37), some (.ref 1), some (.int x2), some (.int x3), some (.int s0), u5], [], (mm L X I J)) else runI call iX9_readFrom (40, [some (.ref 37), some (.ref 1), some (.int x2), some (.int x3), some (.int s0), u5], [], (mm L X I J)) := by
  refine Eq.trans (st1 dX9_readFrom_23 rfl rfl) ?_
  refine Eq.trans (st1 dX9_readFrom_25 rfl rfl) ?_
  refine Eq.trans (xiconst dX9_readFrom_27 ci_m1) ?_
  refine Eq.trans (ic_ne (tgt := 40) dX9_readFrom_28 (by decide +kernel)) (ite_cong (fun _ => ?_) (fun _ => ?_))
  · refine Eq.trans (st1 dX9_readFrom_31 rfl rfl) ?_
    refine Eq.trans (getIm dX9_readFrom_32 cp_9_31 ka_37 (.inl rfl)) ?_
    refine Eq.trans (if_ne (tgt := 40) dX9_readFrom_35 (by decide +kernel)) (ite_cong (fun _ => ?_) (fun _ => ?_))
    · refine Eq.trans (xiconst dX9_readFrom_38 ci_1) ?_
      exact ret1 dX9_readFrom_39 rfl (.inr rfl)
    · rfl
  · rfl
theorem q_X9_readFrom_40 {call : CALL} {L X : Nat} {I : Nat → Nat → Int32} {J : Nat → Nat → Int64} {x2 : Int32} {x3 : Int32} {x4 : Int32} {u5 : Option Value} : runI call iX9_readFrom (40, [some (.ref 37), some (.ref 1), some (.int x2), some (.int x3), some (.int x4), u5], [], (mm L X I J)) = if x4 = (nI 93) then if (I 37 6) ≤ (nI 0) then runI call iX9_readFrom (62, [some (.ref 37), some (.ref 1), some (.int x2), some (.int x3), some (.int x4), u5], [], (mm L X I J)) else bnd (call nX9_readClose [.ref 37, .ref 1] (mm L X I J)) (fun v m' => runI call iX9_readFrom (59, [some (.ref 37), some (.ref 1), some (.int x2), some (.int x3), some (.int x4), u5], v.toList ++ [], m')) else runI call iX9_readFrom (62, [some (.ref 37), some (.ref 1), some (.int x2), some (.int x3), some (.int x4), u5], [], (mm L X I J)) := by
  refine Eq.trans (st1 dX9_readFrom_40 rfl rfl) ?_
  refine Eq.trans (xbipush dX9_readFrom_42 cb_93) ?_
  refine Eq.trans (ic_ne (tgt := 62) dX9_readFrom_44 (by decide +kernel)) (ite_cong (fun _ => ?_) (fun _ => ?_))
  · refine Eq.trans (st1 dX9_readFrom_47 rfl rfl) ?_
    refine Eq.trans (getIm dX9_readFrom_48 cp_9_31 ka_37 (.inl rfl)) ?_
    refine Eq.trans (if_le (tgt := 62) dX9_readFrom_51 (by decide +kernel)) (ite_cong (fun _ => ?_) (fun _ => ?_))
    · rfl
    · refine Eq.trans (st1 dX9_readFrom_54 rfl rfl) ?_
      refine Eq.trans (st1 dX9_readFrom_55 rfl rfl) ?_
      exact iv0 dX9_readFrom_56 rfl cp_9_40 rfl rfl (kd_ka ka_37) ka_37.1 (Nat.le_of_ble_eq_true rfl)
  · rfl
theorem q_X9_readFrom_62 {call : CALL} {L X : Nat} {I : Nat → Nat → Int32} {J : Nat → Nat → Int64} {x2 : Int32} {x3 : Int32} {u4 : Option Value} {u5 : Option Value} : runI call iX9_readFrom (62, [some (.ref 37), some (.ref 1), some (.int x2), some (.int x3), u4, u5], [], (mm L X I J)) = bnd (call nX9_readStep [.ref 37, .ref 1, .int x2] (mm L X I J)) (fun v m' => runI call iX9_readFrom (68, [some (.ref 37), some (.ref 1), some (.int x2), some (.int x3), u4, u5], v.toList ++ [], m')) := by
  refine Eq.trans (st1 dX9_readFrom_62 rfl rfl) ?_
  refine Eq.trans (st1 dX9_readFrom_63 rfl rfl) ?_
  refine Eq.trans (st1 dX9_readFrom_64 rfl rfl) ?_
  exact iv0 dX9_readFrom_65 rfl cp_9_44 rfl rfl (kd_ka ka_37) ka_37.1 (Nat.le_of_ble_eq_true rfl)
theorem q_X9_readFrom_59 {call : CALL} {L X : Nat} {I : Nat → Nat → Int32} {J : Nat → Nat → Int64} {x2 : Int32} {x3 : Int32} {u4 : Option Value} {u5 : Option Value} {s0 : Int32} : runI call iX9_readFrom (59, [some (.ref 37), some (.ref 1), some (.int x2), some (.int x3), u4, u5], [.int s0], (mm L X I J)) = runI call iX9_readFrom (68, [some (.ref 37), some (.ref 1), some (.int x2), some (.int x3), u4, u5], [.int s0], (mm L X I J)) := by
  refine Eq.trans (go_to (tgt := 68) dX9_readFrom_59 (by decide +kernel)) ?_
  rfl
theorem q_X9_readFrom_68 {call : CALL} {L X : Nat} {I : Nat → Nat → Int32} {J : Nat → Nat → Int64} {x2 : Int32} {x3 : Int32} {u4 : Option Value} {u5 : Option Value} {s0 : Int32} (hu4 : okv u4 = true) : runI call iX9_readFrom (68, [some (.ref 37), some (.ref 1), some (.int x2), some (.int x3), u4, u5], [.int s0], (mm L X I J)) = if s0 = (nI 0) then some (.inl (some (.int (nI 0))), (mm L X I J)) else runI call iX9_readFrom (12, [some (.ref 37), some (.ref 1), some (.int x2), some (.int (x3 + (nI 1))), u4, some (.int s0)], [], (mm L X I J)) := by
  refine Eq.trans (xst2 (k := 5) dX9_readFrom_68 hu4 rfl) ?_
  refine Eq.trans (st1 dX9_readFrom_70 rfl rfl) ?_
  refine Eq.trans (if_ne (tgt := 77) dX9_readFrom_72 (by decide +kernel)) (ite_cong (fun _ => ?_) (fun _ => ?_))
  · refine Eq.trans (xiconst dX9_readFrom_75 ci_0) ?_
    exact ret1 dX9_readFrom_76 rfl (.inl rfl)
  · refine Eq.trans (xinc2 dX9_readFrom_77 ci_1 rfl (Nat.le_of_ble_eq_true rfl) rfl) ?_
    refine Eq.trans (go_to (tgt := 12) dX9_readFrom_80 (by decide +kernel)) ?_
    rfl
theorem q_X9_readClose_0 {call : CALL} {L X : Nat} {I : Nat → Nat → Int32} {J : Nat → Nat → Int64}  : runI call iX9_readClose (0, [some (.ref 37), some (.ref 1), none], [], (mm L X I J)) = bndN (call nX11_pick [.ref 41, .int ((up2 I 37 6 ((I 37 6) - (nI 1))) 37 6)] (mm L X (up2 I 37 6 ((I 37 6) - (nI 1))) J)) (fun v m' => runI call iX9_readClose (21, [some (.ref 37), some (.ref 1), none], v.toList ++ [], m')) := by
  refine Eq.trans (st1 dX9_readClose_0 rfl rfl) ?_
  refine Eq.trans (st1 dX9_readClose_1 rfl rfl) ?_
  refine Eq.trans (getIm dX9_readClose_2 cp_9_31 ka_37 (.inl rfl)) ?_
  refine Eq.trans (xiconst dX9_readClose_5 ci_1) ?_
  refine Eq.trans (st1 dX9_readClose_6 rfl rfl) ?_
  refine Eq.trans (putIm dX9_readClose_7 cp_9_31 ka_37 rfl) ?_
  refine Eq.trans (st1 dX9_readClose_10 rfl rfl) ?_
  refine Eq.trans (getRm dX9_readClose_11 cp_9_21 ka_37 rfl r_37_4) ?_
  refine Eq.trans (st1 dX9_readClose_14 rfl rfl) ?_
  refine Eq.trans (getIm dX9_readClose_15 cp_9_31 ka_37 (.inl rfl)) ?_
  exact is3 dX9_readClose_18 cp_9_48 (Nat.le_of_ble_eq_true rfl) rfl rfl (Nat.le_of_ble_eq_true rfl)
theorem q_X9_readClose_21 {call : CALL} {L X : Nat} {I : Nat → Nat → Int32} {J : Nat → Nat → Int64} {u2 : Option Value} {s0 : Int32} : runI call iX9_readClose (21, [some (.ref 37), some (.ref 1), u2], [.int s0], (mm L X I J)) = bndN (call nX11_put [.ref 40, .int s0, .int (I 37 3)] (mm L X I J)) (fun v m' => runI call iX9_readClose (34, [some (.ref 37), some (.ref 1), some (.int s0)], v.toList ++ [], m')) := by
  refine Eq.trans (st1 dX9_readClose_21 rfl rfl) ?_
  refine Eq.trans (st1 dX9_readClose_22 rfl rfl) ?_
  refine Eq.trans (getRm dX9_readClose_23 cp_9_18 ka_37 rfl r_37_2) ?_
  refine Eq.trans (st1 dX9_readClose_26 rfl rfl) ?_
  refine Eq.trans (st1 dX9_readClose_27 rfl rfl) ?_
  refine Eq.trans (getIm dX9_readClose_28 cp_9_27 ka_37 (.inl rfl)) ?_
  exact is3 dX9_readClose_31 cp_9_52 (Nat.le_of_ble_eq_true rfl) rfl rfl (Nat.le_of_ble_eq_true rfl)
theorem q_X9_readClose_34 {call : CALL} {L X : Nat} {I : Nat → Nat → Int32} {J : Nat → Nat → Int64} {x2 : Int32} : runI call iX9_readClose (34, [some (.ref 37), some (.ref 1), some (.int x2)], [], (mm L X I J)) = bnd (call nX9_add [.ref 37, .int (nI 9), .int (nI 0), .int x2] (mm L X I J)) (fun v m' => runI call iX9_readClose (42, [some (.ref 37), some (.ref 1), some (.int x2)], v.toList ++ [], m')) := by
  refine Eq.trans (st1 dX9_readClose_34 rfl rfl) ?_
  refine Eq.trans (xbipush dX9_readClose_35 cb_9) ?_
  refine Eq.trans (xiconst dX9_readClose_37 ci_0) ?_
  refine Eq.trans (st1 dX9_readClose_38 rfl rfl) ?_
  exact iv0 dX9_readClose_39 rfl cp_9_56 rfl rfl (kd_ka ka_37) ka_37.1 (Nat.le_of_ble_eq_true rfl)
theorem q_X9_readClose_42 {call : CALL} {L X : Nat} {I : Nat → Nat → Int32} {J : Nat → Nat → Int64} {u0 : Option Value} {u2 : Option Value} : runI call iX9_readClose (42, [u0, some (.ref 1), u2], [], (mm L X I J)) = bnd (call nX7_sign [.ref 1, .int (nI 93)] (mm L X I J)) (fun v m' => runI call iX9_readClose (48, [u0, some (.ref 1), u2], v.toList ++ [], m')) := by
  refine Eq.trans (st1 dX9_readClose_42 rfl rfl) ?_
  refine Eq.trans (xbipush dX9_readClose_43 cb_93) ?_
  exact iv0 dX9_readClose_45 rfl cp_9_60 rfl rfl (kd_ka ka_1) ka_1.1 (Nat.le_of_ble_eq_true rfl)
theorem q_X9_readClose_48 {call : CALL} {L X : Nat} {I : Nat → Nat → Int32} {J : Nat → Nat → Int64} {u0 : Option Value} {u2 : Option Value} {s0 : Int32} : runI call iX9_readClose (48, [u0, some (.ref 1), u2], [.int s0], (mm L X I J)) = if s0 = (nI 0) then some (.inl (some (.int (nI 0))), (mm L X I J)) else bnd (call nX7_sign [.ref 1, .int (nI 59)] (mm L X I J)) (fun v m' => runI call iX9_readClose (57, [u0, some (.ref 1), u2], v.toList ++ [], m')) := by
  refine Eq.trans (if_eq (tgt := 64) dX9_readClose_48 (by decide +kernel)) (ite_cong (fun _ => ?_) (fun _ => ?_))
  · refine Eq.trans (xiconst dX9_readClose_64 ci_0) ?_
    exact ret1 dX9_readClose_65 rfl (.inl rfl)
  · refine Eq.trans (st1 dX9_readClose_51 rfl rfl) ?_
    refine Eq.trans (xbipush dX9_readClose_52 cb_59) ?_
    exact iv0 dX9_readClose_54 rfl cp_9_60 rfl rfl (kd_ka ka_1) ka_1.1 (Nat.le_of_ble_eq_true rfl)
theorem q_X9_readClose_57 {call : CALL} {L X : Nat} {I : Nat → Nat → Int32} {J : Nat → Nat → Int64} {u0 : Option Value} {u1 : Option Value} {u2 : Option Value} {s0 : Int32} : runI call iX9_readClose (57, [u0, u1, u2], [.int s0], (mm L X I J)) = if s0 = (nI 0) then some (.inl (some (.int (nI 0))), (mm L X I J)) else some (.inl (some (.int (nI 1))), (mm L X I J)) := by
  refine Eq.trans (if_eq (tgt := 64) dX9_readClose_57 (by decide +kernel)) (ite_cong (fun _ => ?_) (fun _ => ?_))
  · refine Eq.trans (xiconst dX9_readClose_64 ci_0) ?_
    exact ret1 dX9_readClose_65 rfl (.inl rfl)
  · refine Eq.trans (xiconst dX9_readClose_60 ci_1) ?_
    refine Eq.trans (go_to (tgt := 65) dX9_readClose_61 (by decide +kernel)) ?_
    exact ret1 dX9_readClose_65 rfl (.inr rfl)
theorem q_X9_add_0 {call : CALL} {L X : Nat} {I : Nat → Nat → Int32} {J : Nat → Nat → Int64} {x1 : Int32} {x2 : Int32} {x3 : Int32} : runI call iX9_add (0, [some (.ref 37), some (.int x1), some (.int x2), some (.int x3)], [], (mm L X I J)) = bndN (call nX11_put [.ref 38, .int (I 37 3), .int x1] (mm L X I J)) (fun v m' => runI call iX9_add (12, [some (.ref 37), some (.int x1), some (.int x2), some (.int x3)], v.toList ++ [], m')) := by
  refine Eq.trans (st1 dX9_add_0 rfl rfl) ?_
  refine Eq.trans (getRm dX9_add_1 cp_9_11 ka_37 rfl r_37_0) ?_
  refine Eq.trans (st1 dX9_add_4 rfl rfl) ?_
  refine Eq.trans (getIm dX9_add_5 cp_9_27 ka_37 (.inl rfl)) ?_
  refine Eq.trans (st1 dX9_add_8 rfl rfl) ?_
  exact is3 dX9_add_9 cp_9_52 (Nat.le_of_ble_eq_true rfl) rfl rfl (Nat.le_of_ble_eq_true rfl)
theorem q_X9_add_12 {call : CALL} {L X : Nat} {I : Nat → Nat → Int32} {J : Nat → Nat → Int64} {u1 : Option Value} {x2 : Int32} {x3 : Int32} : runI call iX9_add (12, [some (.ref 37), u1, some (.int x2), some (.int x3)], [], (mm L X I J)) = bndN (call nX11_put [.ref 39, .int (I 37 3), .int x2] (mm L X I J)) (fun v m' => runI call iX9_add (24, [some (.ref 37), u1, some (.int x2), some (.int x3)], v.toList ++ [], m')) := by
  refine Eq.trans (st1 dX9_add_12 rfl rfl) ?_
  refine Eq.trans (getRm dX9_add_13 cp_9_15 ka_37 rfl r_37_1) ?_
  refine Eq.trans (st1 dX9_add_16 rfl rfl) ?_
  refine Eq.trans (getIm dX9_add_17 cp_9_27 ka_37 (.inl rfl)) ?_
  refine Eq.trans (st1 dX9_add_20 rfl rfl) ?_
  exact is3 dX9_add_21 cp_9_52 (Nat.le_of_ble_eq_true rfl) rfl rfl (Nat.le_of_ble_eq_true rfl)
theorem q_X9_add_24 {call : CALL} {L X : Nat} {I : Nat → Nat → Int32} {J : Nat → Nat → Int64} {u1 : Option Value} {u2 : Option Value} {x3 : Int32} : runI call iX9_add (24, [some (.ref 37), u1, u2, some (.int x3)], [], (mm L X I J)) = bndN (call nX11_put [.ref 40, .int (I 37 3), .int x3] (mm L X I J)) (fun v m' => runI call iX9_add (36, [some (.ref 37), u1, u2, some (.int x3)], v.toList ++ [], m')) := by
  refine Eq.trans (st1 dX9_add_24 rfl rfl) ?_
  refine Eq.trans (getRm dX9_add_25 cp_9_18 ka_37 rfl r_37_2) ?_
  refine Eq.trans (st1 dX9_add_28 rfl rfl) ?_
  refine Eq.trans (getIm dX9_add_29 cp_9_27 ka_37 (.inl rfl)) ?_
  refine Eq.trans (st1 dX9_add_32 rfl rfl) ?_
  exact is3 dX9_add_33 cp_9_52 (Nat.le_of_ble_eq_true rfl) rfl rfl (Nat.le_of_ble_eq_true rfl)
theorem q_X9_add_36 {call : CALL} {L X : Nat} {I : Nat → Nat → Int32} {J : Nat → Nat → Int64} {u1 : Option Value} {u2 : Option Value} {u3 : Option Value} : runI call iX9_add (36, [some (.ref 37), u1, u2, u3], [], (mm L X I J)) = some (.inl none, (mm L X (up2 I 37 3 (if ((I 37 3) + (nI 1)) < (nI 75) then ((I 37 3) + (nI 1)) else (nI 75))) J)) := by
  refine Eq.trans (st1 dX9_add_36 rfl rfl) ?_
  refine Eq.trans (xbipush dX9_add_37 cb_75) ?_
  refine Eq.trans (st1 dX9_add_39 rfl rfl) ?_
  refine Eq.trans (getIm dX9_add_40 cp_9_27 ka_37 (.inl rfl)) ?_
  refine Eq.trans (xiconst dX9_add_43 ci_1) ?_
  refine Eq.trans (st1 dX9_add_44 rfl rfl) ?_
  refine Eq.trans (imin dX9_add_45 cp_9_84 (Nat.le_of_ble_eq_true rfl)) ?_
  refine Eq.trans (putIm dX9_add_48 cp_9_27 ka_37 rfl) ?_
  exact ret3 dX9_add_51 (.inl rfl)
theorem q_X9_readStep_0 {call : CALL} {L X : Nat} {I : Nat → Nat → Int32} {J : Nat → Nat → Int64} {x2 : Int32} : runI call iX9_readStep (0, [some (.ref 37), some (.ref 1), some (.int x2), none, none, none], [], (mm L X I J)) = bnd (call nX7_named [.ref 1, .ref 1000006] (mm L X I J)) (fun v m' => runI call iX9_readStep (6, [some (.ref 37), some (.ref 1), some (.int x2), none, none, none], v.toList ++ [], m')) := by
  refine Eq.trans (st1 dX9_readStep_0 rfl rfl) ?_
  refine Eq.trans (xldcS (a := 1000006) dX9_readStep_1 cp_9_64 (by decide)) ?_
  exact iv0 dX9_readStep_3 rfl cp_9_66 rfl rfl (kd_ka ka_1) ka_1.1 (Nat.le_of_ble_eq_true rfl)
theorem q_X9_readStep_6 {call : CALL} {L X : Nat} {I : Nat → Nat → Int32} {J : Nat → Nat → Int64} {x2 : Int32} {u3 : Option Value} {u4 : Option Value} {u5 : Option Value} {s0 : Int32} : runI call iX9_readStep (6, [some (.ref 37), some (.ref 1), some (.int x2), u3, u4, u5], [.int s0], (mm L X I J)) = if (nI 0) ≤ s0 then if s0 = (nI 8) then bnd (call nX9_readAgain [.ref 37, .ref 1] (mm L X I J)) (fun v m' => runI call iX9_readStep (24, [some (.ref 37), some (.ref 1), some (.int x2), some (.int s0), u4, u5], v.toList ++ [], m')) else if s0 = (nI 2) then runI call iX9_readStep (72, [some (.ref 37), some (.ref 1), some (.int x2), some (.int s0), some (.int (nI 0)), some (.int (nI 0))], [], (mm L X I J)) else if s0 = (nI 7) then runI call iX9_readStep (72, [some (.ref 37), some (.ref 1), some (.int x2), some (.int s0), some (.int (nI 0)), some (.int (nI 0))], [], (mm L X I J)) else if s0 = (nI 6) then runI call iX9_readStep (58, [some (.ref 37), some (.ref 1), some (.int x2), some (.int s0), some (.int (nI 0)), some (.int (nI 0))], [.int (nI 99), .int (nI 0), .ref 1], (mm L X I J)) else runI call iX9_readStep (58, [some (.ref 37), some (.ref 1), some (.int x2), some (.int s0), some (.int (nI 0)), some (.int (nI 0))], [.int (x2 - (nI 1)), .int (nI 0), .ref 1], (mm L X I J)) else some (.inl (some (.int (nI 0))), (mm L X I J)) := by
  refine Eq.trans (st1 dX9_readStep_6 rfl rfl) ?_
  refine Eq.trans (st1 dX9_readStep_7 rfl rfl) ?_
  refine Eq.trans (if_ge (tgt := 13) dX9_readStep_8 (by decide +kernel)) (ite_cong (fun _ => ?_) (fun _ => ?_))
  · refine Eq.trans (st1 dX9_readStep_13 rfl rfl) ?_
    refine Eq.trans (xbipush dX9_readStep_14 cb_8) ?_
    refine Eq.trans (ic_ne (tgt := 25) dX9_readStep_16 (by decide +kernel)) (ite_cong (fun _ => ?_) (fun _ => ?_))
    · refine Eq.trans (st1 dX9_readStep_19 rfl rfl) ?_
      refine Eq.trans (st1 dX9_readStep_20 rfl rfl) ?_
      exact iv0 dX9_readStep_21 rfl cp_9_70 rfl rfl (kd_ka ka_37) ka_37.1 (Nat.le_of_ble_eq_true rfl)
    · refine Eq.trans (xiconst dX9_readStep_25 ci_0) ?_
      refine Eq.trans (st1 dX9_readStep_26 rfl rfl) ?_
      refine Eq.trans (xiconst dX9_readStep_28 ci_0) ?_
      refine Eq.trans (st1 dX9_readStep_29 rfl rfl) ?_
      refine Eq.trans (st1 dX9_readStep_31 rfl rfl) ?_
      refine Eq.trans (xiconst dX9_readStep_32 ci_2) ?_
      refine Eq.trans (ic_eq (tgt := 72) dX9_readStep_33 (by decide +kernel)) (ite_cong (fun _ => ?_) (fun _ => ?_))
      · rfl
      · refine Eq.trans (st1 dX9_readStep_36 rfl rfl) ?_
        refine Eq.trans (xbipush dX9_readStep_37 cb_7) ?_
        refine Eq.trans (ic_eq (tgt := 72) dX9_readStep_39 (by decide +kernel)) (ite_cong (fun _ => ?_) (fun _ => ?_))
        · rfl
        · refine Eq.trans (st1 dX9_readStep_42 rfl rfl) ?_
          refine Eq.trans (xiconst dX9_readStep_43 ci_0) ?_
          refine Eq.trans (st1 dX9_readStep_44 rfl rfl) ?_
          refine Eq.trans (xbipush dX9_readStep_45 cb_6) ?_
          refine Eq.trans (ic_ne (tgt := 55) dX9_readStep_47 (by decide +kernel)) (ite_cong (fun _ => ?_) (fun _ => ?_))
          · refine Eq.trans (xbipush dX9_readStep_50 cb_99) ?_
            refine Eq.trans (go_to (tgt := 58) dX9_readStep_52 (by decide +kernel)) ?_
            rfl
          · refine Eq.trans (st1 dX9_readStep_55 rfl rfl) ?_
            refine Eq.trans (xiconst dX9_readStep_56 ci_1) ?_
            refine Eq.trans (st1 dX9_readStep_57 rfl rfl) ?_
            rfl
  · refine Eq.trans (xiconst dX9_readStep_11 ci_0) ?_
    exact ret1 dX9_readStep_12 rfl (.inl rfl)
theorem q_X9_readStep_72 {call : CALL} {L X : Nat} {I : Nat → Nat → Int32} {J : Nat → Nat → Int64} {u2 : Option Value} {x3 : Int32} {x4 : Int32} {x5 : Int32} : runI call iX9_readStep (72, [some (.ref 37), some (.ref 1), u2, some (.int x3), some (.int x4), some (.int x5)], [], (mm L X I J)) = if x3 = (nI 3) then bnd (call nX7_numeral [.ref 1, .int (nI 0), .int (nI 9)] (mm L X I J)) (fun v m' => runI call iX9_readStep (84, [some (.ref 37), some (.ref 1), u2, some (.int x3), some (.int x4), some (.int x5)], v.toList ++ [], m')) else runI call iX9_readStep (95, [some (.ref 37), some (.ref 1), u2, some (.int x3), some (.int x4), some (.int x5)], [], (mm L X I J)) := by
  refine Eq.trans (st1 dX9_readStep_72 rfl rfl) ?_
  refine Eq.trans (xiconst dX9_readStep_73 ci_3) ?_
  refine Eq.trans (ic_ne (tgt := 95) dX9_readStep_74 (by decide +kernel)) (ite_cong (fun _ => ?_) (fun _ => ?_))
  · refine Eq.trans (st1 dX9_readStep_77 rfl rfl) ?_
    refine Eq.trans (xiconst dX9_readStep_78 ci_0) ?_
    refine Eq.trans (xbipush dX9_readStep_79 cb_9) ?_
    exact iv0 dX9_readStep_81 rfl cp_9_73 rfl rfl (kd_ka ka_1) ka_1.1 (Nat.le_of_ble_eq_true rfl)
  · rfl
theorem q_X9_readStep_58 {call : CALL} {L X : Nat} {I : Nat → Nat → Int32} {J : Nat → Nat → Int64} {u2 : Option Value} {x3 : Int32} {u4 : Option Value} {x5 : Int32} {s1 : Int32} {s2 : Int32} : runI call iX9_readStep (58, [some (.ref 37), some (.ref 1), u2, some (.int x3), u4, some (.int x5)], [.int s2, .int s1, .ref 1], (mm L X I J)) = bnd (call nX7_numeral [.ref 1, .int s1, .int s2] (mm L X I J)) (fun v m' => runI call iX9_readStep (61, [some (.ref 37), some (.ref 1), u2, some (.int x3), u4, some (.int x5)], v.toList ++ [], m')) := by
  exact iv0 dX9_readStep_58 rfl cp_9_73 rfl rfl (kd_ka ka_1) ka_1.1 (Nat.le_of_ble_eq_true rfl)
theorem q_X9_readStep_24 {call : CALL} {L X : Nat} {I : Nat → Nat → Int32} {J : Nat → Nat → Int64} {u0 : Option Value} {u1 : Option Value} {u2 : Option Value} {u3 : Option Value} {u4 : Option Value} {u5 : Option Value} {s0 : Int32} : runI call iX9_readStep (24, [u0, u1, u2, u3, u4, u5], [.int s0], (mm L X I J)) = gd (b01 s0) (some (.inl (some (.int s0)), (mm L X I J))) := by
  exact ret1g dX9_readStep_24 rfl
theorem q_X9_readStep_95 {call : CALL} {L X : Nat} {I : Nat → Nat → Int32} {J : Nat → Nat → Int64} {u2 : Option Value} {x3 : Int32} {x4 : Int32} {x5 : Int32} : runI call iX9_readStep (95, [some (.ref 37), some (.ref 1), u2, some (.int x3), some (.int x4), some (.int x5)], [], (mm L X I J)) = bnd (call nX9_add [.ref 37, .int x3, .int x4, .int x5] (mm L X I J)) (fun v m' => runI call iX9_readStep (104, [some (.ref 37), some (.ref 1), u2, some (.int x3), some (.int x4), some (.int x5)], v.toList ++ [], m')) := by
  refine Eq.trans (st1 dX9_readStep_95 rfl rfl) ?_
  refine Eq.trans (st1 dX9_readStep_96 rfl rfl) ?_
  refine Eq.trans (st1 dX9_readStep_97 rfl rfl) ?_
  refine Eq.trans (st1 dX9_readStep_99 rfl rfl) ?_
  exact iv0 dX9_readStep_101 rfl cp_9_56 rfl rfl (kd_ka ka_37) ka_37.1 (Nat.le_of_ble_eq_true rfl)
theorem q_X9_readStep_84 {call : CALL} {L X : Nat} {I : Nat → Nat → Int32} {J : Nat → Nat → Int64} {u2 : Option Value} {x3 : Int32} {x4 : Int32} {u5 : Option Value} {s0 : Int32} : runI call iX9_readStep (84, [some (.ref 37), some (.ref 1), u2, some (.int x3), some (.int x4), u5], [.int s0], (mm L X I J)) = if s0 = (nI 0) then some (.inl (some (.int (nI 0))), (mm L X I J)) else runI call iX9_readStep (95, [some (.ref 37), some (.ref 1), u2, some (.int x3), some (.int x4), some (.int (I 1 4))], [], (mm L X I J)) := by
  refine Eq.trans (if_ne (tgt := 89) dX9_readStep_84 (by decide +kernel)) (ite_cong (fun _ => ?_) (fun _ => ?_))
  · refine Eq.trans (xiconst dX9_readStep_87 ci_0) ?_
    exact ret1 dX9_readStep_88 rfl (.inl rfl)
  · refine Eq.trans (st1 dX9_readStep_89 rfl rfl) ?_
    refine Eq.trans (getIm dX9_readStep_90 cp_9_77 ka_1 (.inl rfl)) ?_
    refine Eq.trans (st1 dX9_readStep_93 rfl rfl) ?_
    rfl
theorem q_X9_readStep_61 {call : CALL} {L X : Nat} {I : Nat → Nat → Int32} {J : Nat → Nat → Int64} {u2 : Option Value} {x3 : Int32} {u4 : Option Value} {x5 : Int32} {s0 : Int32} : runI call iX9_readStep (61, [some (.ref 37), some (.ref 1), u2, some (.int x3), u4, some (.int x5)], [.int s0], (mm L X I J)) = if s0 = (nI 0) then some (.inl (some (.int (nI 0))), (mm L X I J)) else runI call iX9_readStep (72, [some (.ref 37), some (.ref 1), u2, some (.int x3), some (.int (I 1 4)), some (.int x5)], [], (mm L X I J)) := by
  refine Eq.trans (if_ne (tgt := 66) dX9_readStep_61 (by decide +kernel)) (ite_cong (fun _ => ?_) (fun _ => ?_))
  · refine Eq.trans (xiconst dX9_readStep_64 ci_0) ?_
    exact ret1 dX9_readStep_65 rfl (.inl rfl)
  · refine Eq.trans (st1 dX9_readStep_66 rfl rfl) ?_
    refine Eq.trans (getIm dX9_readStep_67 cp_9_77 ka_1 (.inl rfl)) ?_
    refine Eq.trans (st1 dX9_readStep_70 rfl rfl) ?_
    rfl
theorem q_X9_readStep_104 {call : CALL} {L X : Nat} {I : Nat → Nat → Int32} {J : Nat → Nat → Int64} {u0 : Option Value} {u2 : Option Value} {u3 : Option Value} {u4 : Option Value} {u5 : Option Value} : runI call iX9_readStep (104, [u0, some (.ref 1), u2, u3, u4, u5], [], (mm L X I J)) = bnd (call nX7_sign [.ref 1, .int (nI 59)] (mm L X I J)) (fun v m' => runI call iX9_readStep (110, [u0, some (.ref 1), u2, u3, u4, u5], v.toList ++ [], m')) := by
  refine Eq.trans (st1 dX9_readStep_104 rfl rfl) ?_
  refine Eq.trans (xbipush dX9_readStep_105 cb_59) ?_
  exact iv0 dX9_readStep_107 rfl cp_9_60 rfl rfl (kd_ka ka_1) ka_1.1 (Nat.le_of_ble_eq_true rfl)
theorem q_X9_readStep_110 {call : CALL} {L X : Nat} {I : Nat → Nat → Int32} {J : Nat → Nat → Int64} {u0 : Option Value} {u1 : Option Value} {u2 : Option Value} {u3 : Option Value} {u4 : Option Value} {u5 : Option Value} {s0 : Int32} : runI call iX9_readStep (110, [u0, u1, u2, u3, u4, u5], [.int s0], (mm L X I J)) = gd (b01 s0) (some (.inl (some (.int s0)), (mm L X I J))) := by
  exact ret1g dX9_readStep_110 rfl
theorem q_X9_readAgain_0 {call : CALL} {L X : Nat} {I : Nat → Nat → Int32} {J : Nat → Nat → Int64}  : runI call iX9_readAgain (0, [some (.ref 37), some (.ref 1)], [], (mm L X I J)) = if (I 37 6) < (nI 6) then bnd (call nX7_numeral [.ref 1, .int (nI 0), .int (nI 30)] (mm L X I J)) (fun v m' => runI call iX9_readAgain (21, [some (.ref 37), some (.ref 1)], v.toList ++ [], m')) else bnd (call nX7_tooMany [.ref 1] (mm L X I J)) (fun v m' => runI call iX9_readAgain (13, [some (.ref 37), some (.ref 1)], v.toList ++ [], m')) := by
  refine Eq.trans (st1 dX9_readAgain_0 rfl rfl) ?_
  refine Eq.trans (getIm dX9_readAgain_1 cp_9_31 ka_37 (.inl rfl)) ?_
  refine Eq.trans (xbipush dX9_readAgain_4 cb_6) ?_
  refine Eq.trans (ic_lt (tgt := 14) dX9_readAgain_6 (by decide +kernel)) (ite_cong (fun _ => ?_) (fun _ => ?_))
  · refine Eq.trans (st1 dX9_readAgain_14 rfl rfl) ?_
    refine Eq.trans (xiconst dX9_readAgain_15 ci_0) ?_
    refine Eq.trans (xbipush dX9_readAgain_16 cb_30) ?_
    exact iv0 dX9_readAgain_18 rfl cp_9_73 rfl rfl (kd_ka ka_1) ka_1.1 (Nat.le_of_ble_eq_true rfl)
  · refine Eq.trans (st1 dX9_readAgain_9 rfl rfl) ?_
    exact iv0 dX9_readAgain_10 rfl cp_9_80 rfl rfl (kd_ka ka_1) ka_1.1 (Nat.le_of_ble_eq_true rfl)
theorem q_X9_readAgain_21 {call : CALL} {L X : Nat} {I : Nat → Nat → Int32} {J : Nat → Nat → Int64} {s0 : Int32} : runI call iX9_readAgain (21, [some (.ref 37), some (.ref 1)], [.int s0], (mm L X I J)) = if s0 = (nI 0) then some (.inl (some (.int (nI 0))), (mm L X I J)) else bndN (call nX11_put [.ref 41, .int (I 37 6), .int (I 37 3)] (mm L X I J)) (fun v m' => runI call iX9_readAgain (41, [some (.ref 37), some (.ref 1)], v.toList ++ [], m')) := by
  refine Eq.trans (if_ne (tgt := 26) dX9_readAgain_21 (by decide +kernel)) (ite_cong (fun _ => ?_) (fun _ => ?_))
  · refine Eq.trans (xiconst dX9_readAgain_24 ci_0) ?_
    exact ret1 dX9_readAgain_25 rfl (.inl rfl)
  · refine Eq.trans (st1 dX9_readAgain_26 rfl rfl) ?_
    refine Eq.trans (getRm dX9_readAgain_27 cp_9_21 ka_37 rfl r_37_4) ?_
    refine Eq.trans (st1 dX9_readAgain_30 rfl rfl) ?_
    refine Eq.trans (getIm dX9_readAgain_31 cp_9_31 ka_37 (.inl rfl)) ?_
    refine Eq.trans (st1 dX9_readAgain_34 rfl rfl) ?_
    refine Eq.trans (getIm dX9_readAgain_35 cp_9_27 ka_37 (.inl rfl)) ?_
    exact is3 dX9_readAgain_38 cp_9_52 (Nat.le_of_ble_eq_true rfl) rfl rfl (Nat.le_of_ble_eq_true rfl)
theorem q_X9_readAgain_13 {call : CALL} {L X : Nat} {I : Nat → Nat → Int32} {J : Nat → Nat → Int64} {u0 : Option Value} {u1 : Option Value} {s0 : Int32} : runI call iX9_readAgain (13, [u0, u1], [.int s0], (mm L X I J)) = gd (b01 s0) (some (.inl (some (.int s0)), (mm L X I J))) := by
  exact ret1g dX9_readAgain_13 rfl
theorem q_X9_readAgain_41 {call : CALL} {L X : Nat} {I : Nat → Nat → Int32} {J : Nat → Nat → Int64}  : runI call iX9_readAgain (41, [some (.ref 37), some (.ref 1)], [], (mm L X I J)) = bnd (call nX9_add [.ref 37, .int (nI 8), .int ((up2 I 37 6 ((I 37 6) + (nI 1))) 1 4), .int (nI 0)] (mm L X (up2 I 37 6 ((I 37 6) + (nI 1))) J)) (fun v m' => runI call iX9_readAgain (62, [some (.ref 37), some (.ref 1)], v.toList ++ [], m')) := by
  refine Eq.trans (st1 dX9_readAgain_41 rfl rfl) ?_
  refine Eq.trans (st1 dX9_readAgain_42 rfl rfl) ?_
  refine Eq.trans (getIm dX9_readAgain_43 cp_9_31 ka_37 (.inl rfl)) ?_
  refine Eq.trans (xiconst dX9_readAgain_46 ci_1) ?_
  refine Eq.trans (st1 dX9_readAgain_47 rfl rfl) ?_
  refine Eq.trans (putIm dX9_readAgain_48 cp_9_31 ka_37 rfl) ?_
  refine Eq.trans (st1 dX9_readAgain_51 rfl rfl) ?_
  refine Eq.trans (xbipush dX9_readAgain_52 cb_8) ?_
  refine Eq.trans (st1 dX9_readAgain_54 rfl rfl) ?_
  refine Eq.trans (getIm dX9_readAgain_55 cp_9_77 ka_1 (.inl rfl)) ?_
  refine Eq.trans (xiconst dX9_readAgain_58 ci_0) ?_
  exact iv0 dX9_readAgain_59 rfl cp_9_56 rfl rfl (kd_ka ka_37) ka_37.1 (Nat.le_of_ble_eq_true rfl)
theorem q_X9_readAgain_62 {call : CALL} {L X : Nat} {I : Nat → Nat → Int32} {J : Nat → Nat → Int64} {u0 : Option Value} : runI call iX9_readAgain (62, [u0, some (.ref 1)], [], (mm L X I J)) = bnd (call nX7_sign [.ref 1, .int (nI 91)] (mm L X I J)) (fun v m' => runI call iX9_readAgain (68, [u0, some (.ref 1)], v.toList ++ [], m')) := by
  refine Eq.trans (st1 dX9_readAgain_62 rfl rfl) ?_
  refine Eq.trans (xbipush dX9_readAgain_63 cb_91) ?_
  exact iv0 dX9_readAgain_65 rfl cp_9_60 rfl rfl (kd_ka ka_1) ka_1.1 (Nat.le_of_ble_eq_true rfl)
theorem q_X9_readAgain_68 {call : CALL} {L X : Nat} {I : Nat → Nat → Int32} {J : Nat → Nat → Int64} {u0 : Option Value} {u1 : Option Value} {s0 : Int32} : runI call iX9_readAgain (68, [u0, u1], [.int s0], (mm L X I J)) = gd (b01 s0) (some (.inl (some (.int s0)), (mm L X I J))) := by
  exact ret1g dX9_readAgain_68 rfl
theorem q_X9_doneOn_0 {call : CALL} {L X : Nat} {I : Nat → Nat → Int32} {J : Nat → Nat → Int64} {a1 : Nat} {a2 : Nat} (h1 : oc3 a1) (h2 : oc1 a2) : runI call iX9_doneOn (0, [some (.ref 37), some (.ref a1), some (.ref a2), some (.ref 52), none, none, none, none, none], [], (mm L X I J)) = runI call iX9_doneOn (22, [some (.ref 37), some (.ref a1), some (.ref a2), some (.ref 52), some (.int (nI 0)), some (.int (nI 0)), some (.int (nI 0)), some (.int (nI 0)), none], [], (mm L X (up2 (up2 I 37 7 (nI 0)) 37 6 (nI 0)) J)) := by
  refine Eq.trans (xiconst dX9_doneOn_0 ci_0) ?_
  refine Eq.trans (st1 dX9_doneOn_1 rfl rfl) ?_
  refine Eq.trans (xiconst dX9_doneOn_3 ci_0) ?_
  refine Eq.trans (st1 dX9_doneOn_4 rfl rfl) ?_
  refine Eq.trans (xiconst dX9_doneOn_6 ci_0) ?_
  refine Eq.trans (st1 dX9_doneOn_7 rfl rfl) ?_
  refine Eq.trans (st1 dX9_doneOn_9 rfl rfl) ?_
  refine Eq.trans (xiconst dX9_doneOn_10 ci_0) ?_
  refine Eq.trans (putIm dX9_doneOn_11 cp_9_90 ka_37 rfl) ?_
  refine Eq.trans (st1 dX9_doneOn_14 rfl rfl) ?_
  refine Eq.trans (xiconst dX9_doneOn_15 ci_0) ?_
  refine Eq.trans (putIm dX9_doneOn_16 cp_9_31 ka_37 rfl) ?_
  refine Eq.trans (xiconst dX9_doneOn_19 ci_0) ?_
  refine Eq.trans (st1 dX9_doneOn_20 rfl rfl) ?_
  rfl
theorem q_X9_doneOn_22 {call : CALL} {L X : Nat} {I : Nat → Nat → Int32} {J : Nat → Nat → Int64} {a1 : Nat} {a2 : Nat} {x4 : Int32} {x5 : Int32} {x6 : Int32} {x7 : Int32} {u8 : Option Value} (h1 : oc3 a1) (h2 : oc1 a2) : runI call iX9_doneOn (22, [some (.ref 37), some (.ref a1), some (.ref a2), some (.ref 52), some (.int x4), some (.int x5), some (.int x6), some (.int x7), u8], [], (mm L X I J)) = if (nI 6200) ≤ x7 then some (.inl (some (.int x4)), (mm L X I J)) else if (I 37 3) ≤ x6 then some (.inl (some (.int x4)), (mm L X I J)) else if (nI 200) ≤ x5 then some (.inl (some (.int x4)), (mm L X I J)) else bndN (call nX11_pick [.ref 38, .int x6] (mm L X I J)) (fun v m' => runI call iX9_doneOn (56, [some (.ref 37), some (.ref a1), some (.ref a2), some (.ref 52), some (.int x4), some (.int x5), some (.int x6), some (.int x7), u8], v.toList ++ [], m')) := by
  refine Eq.trans (st1 dX9_doneOn_22 rfl rfl) ?_
  refine Eq.trans (xsipush dX9_doneOn_24 cs_6200) ?_
  refine Eq.trans (ic_ge (tgt := 134) dX9_doneOn_27 (by decide +kernel)) (ite_cong (fun _ => ?_) (fun _ => ?_))
  · refine Eq.trans (st1 dX9_doneOn_134 rfl rfl) ?_
    exact ret0 dX9_doneOn_136 rfl
  · refine Eq.trans (st1 dX9_doneOn_30 rfl rfl) ?_
    refine Eq.trans (st1 dX9_doneOn_32 rfl rfl) ?_
    refine Eq.trans (getIm dX9_doneOn_33 cp_9_27 ka_37 (.inl rfl)) ?_
    refine Eq.trans (ic_ge (tgt := 134) dX9_doneOn_36 (by decide +kernel)) (ite_cong (fun _ => ?_) (fun _ => ?_))
    · refine Eq.trans (st1 dX9_doneOn_134 rfl rfl) ?_
      exact ret0 dX9_doneOn_136 rfl
    · refine Eq.trans (st1 dX9_doneOn_39 rfl rfl) ?_
      refine Eq.trans (xsipush dX9_doneOn_41 cs_200) ?_
      refine Eq.trans (ic_ge (tgt := 134) dX9_doneOn_44 (by decide +kernel)) (ite_cong (fun _ => ?_) (fun _ => ?_))
      · refine Eq.trans (st1 dX9_doneOn_134 rfl rfl) ?_
        exact ret0 dX9_doneOn_136 rfl
      · refine Eq.trans (st1 dX9_doneOn_47 rfl rfl) ?_
        refine Eq.trans (getRm dX9_doneOn_48 cp_9_11 ka_37 rfl r_37_0) ?_
        refine Eq.trans (st1 dX9_doneOn_51 rfl rfl) ?_
        exact is3 dX9_doneOn_53 cp_9_48 (Nat.le_of_ble_eq_true rfl) rfl rfl (Nat.le_of_ble_eq_true rfl)
theorem q_X9_doneOn_56 {call : CALL} {L X : Nat} {I : Nat → Nat → Int32} {J : Nat → Nat → Int64} {a1 : Nat} {a2 : Nat} {x4 : Int32} {x5 : Int32} {x6 : Int32} {x7 : Int32} {u8 : Option Value} {s0 : Int32} (h1 : oc3 a1) (h2 : oc1 a2) : runI call iX9_doneOn (56, [some (.ref 37), some (.ref a1), some (.ref a2), some (.ref 52), some (.int x4), some (.int x5), some (.int x6), some (.int x7), u8], [.int s0], (mm L X I J)) = if s0 = (nI 9) then bnd (call nX9_behindClose [.ref 37, .int x6] (mm L X I J)) (fun v m' => runI call iX9_doneOn (71, [some (.ref 37), some (.ref a1), some (.ref a2), some (.ref 52), some (.int x4), some (.int x5), some (.int x6), some (.int x7), some (.int s0)], v.toList ++ [], m')) else if s0 = (nI 8) then bnd (call nX9_behindAgain [.ref 37, .int x6] (mm L X I J)) (fun v m' => runI call iX9_doneOn (92, [some (.ref 37), some (.ref a1), some (.ref a2), some (.ref 52), some (.int x4), some (.int (x5 + (nI 1))), some (.int x6), some (.int x7), some (.int s0)], v.toList ++ [], m')) else bnd (call nX9_isDone [.ref 37, .int x6, .ref a1, .ref a2, .ref 52] (mm L X I J)) (fun v m' => runI call iX9_doneOn (106, [some (.ref 37), some (.ref a1), some (.ref a2), some (.ref 52), some (.int x4), some (.int (x5 + (nI 1))), some (.int x6), some (.int x7), some (.int s0)], v.toList ++ [], m')) := by
  refine Eq.trans (st1 dX9_doneOn_56 rfl rfl) ?_
  refine Eq.trans (st1 dX9_doneOn_58 rfl rfl) ?_
  refine Eq.trans (xbipush dX9_doneOn_60 cb_9) ?_
  refine Eq.trans (ic_ne (tgt := 76) dX9_doneOn_62 (by decide +kernel)) (ite_cong (fun _ => ?_) (fun _ => ?_))
  · refine Eq.trans (st1 dX9_doneOn_65 rfl rfl) ?_
    refine Eq.trans (st1 dX9_doneOn_66 rfl rfl) ?_
    exact iv0 dX9_doneOn_68 rfl cp_9_93 rfl rfl (kd_ka ka_37) ka_37.1 (Nat.le_of_ble_eq_true rfl)
  · refine Eq.trans (xinc2 dX9_doneOn_76 ci_1 rfl (Nat.le_of_ble_eq_true rfl) rfl) ?_
    refine Eq.trans (st1 dX9_doneOn_79 rfl rfl) ?_
    refine Eq.trans (xbipush dX9_doneOn_81 cb_8) ?_
    refine Eq.trans (ic_ne (tgt := 97) dX9_doneOn_83 (by decide +kernel)) (ite_cong (fun _ => ?_) (fun _ => ?_))
    · refine Eq.trans (st1 dX9_doneOn_86 rfl rfl) ?_
      refine Eq.trans (st1 dX9_doneOn_87 rfl rfl) ?_
      exact iv0 dX9_doneOn_89 rfl cp_9_97 rfl rfl (kd_ka ka_37) ka_37.1 (Nat.le_of_ble_eq_true rfl)
    · refine Eq.trans (st1 dX9_doneOn_97 rfl rfl) ?_
      refine Eq.trans (st1 dX9_doneOn_98 rfl rfl) ?_
      refine Eq.trans (st1 dX9_doneOn_100 rfl rfl) ?_
      refine Eq.trans (st1 dX9_doneOn_101 rfl rfl) ?_
      refine Eq.trans (st1 dX9_doneOn_102 rfl rfl) ?_
      exact iv0 dX9_doneOn_103 rfl cp_9_100 rfl rfl (kd_ka ka_37) ka_37.1 (Nat.le_of_ble_eq_true rfl)
theorem q_X9_doneOn_106 {call : CALL} {L X : Nat} {I : Nat → Nat → Int32} {J : Nat → Nat → Int64} {a1 : Nat} {a2 : Nat} {x4 : Int32} {x5 : Int32} {x6 : Int32} {x7 : Int32} {u8 : Option Value} {s0 : Int32} (h1 : oc3 a1) (h2 : oc1 a2) : runI call iX9_doneOn (106, [some (.ref 37), some (.ref a1), some (.ref a2), some (.ref 52), some (.int x4), some (.int x5), some (.int x6), some (.int x7), u8], [.int s0], (mm L X I J)) = if s0 = (nI 0) then runI call iX9_doneOn (125, [some (.ref 37), some (.ref a1), some (.ref a2), some (.ref 52), some (.int x4), some (.int x5), some (.int x6), some (.int x7), u8], [], (mm L X (up2 I 37 7 ((I 37 7) + (nI 1))) J)) else runI call iX9_doneOn (125, [some (.ref 37), some (.ref a1), some (.ref a2), some (.ref 52), some (.int (x4 + (nI 1))), some (.int x5), some (.int x6), some (.int x7), u8], [], (mm L X I J)) := by
  refine Eq.trans (if_eq (tgt := 115) dX9_doneOn_106 (by decide +kernel)) (ite_cong (fun _ => ?_) (fun _ => ?_))
  · refine Eq.trans (st1 dX9_doneOn_115 rfl rfl) ?_
    refine Eq.trans (st1 dX9_doneOn_116 rfl rfl) ?_
    refine Eq.trans (getIm dX9_doneOn_117 cp_9_90 ka_37 (.inl rfl)) ?_
    refine Eq.trans (xiconst dX9_doneOn_120 ci_1) ?_
    refine Eq.trans (st1 dX9_doneOn_121 rfl rfl) ?_
    refine Eq.trans (putIm dX9_doneOn_122 cp_9_90 ka_37 rfl) ?_
    rfl
  · refine Eq.trans (xinc2 dX9_doneOn_109 ci_1 rfl (Nat.le_of_ble_eq_true rfl) rfl) ?_
    refine Eq.trans (go_to (tgt := 125) dX9_doneOn_112 (by decide +kernel)) ?_
    rfl
theorem q_X9_doneOn_92 {call : CALL} {L X : Nat} {I : Nat → Nat → Int32} {J : Nat → Nat → Int64} {a1 : Nat} {a2 : Nat} {x4 : Int32} {x5 : Int32} {u6 : Option Value} {x7 : Int32} {u8 : Option Value} {s0 : Int32} (h1 : oc3 a1) (h2 : oc1 a2) : runI call iX9_doneOn (92, [some (.ref 37), some (.ref a1), some (.ref a2), some (.ref 52), some (.int x4), some (.int x5), u6, some (.int x7), u8], [.int s0], (mm L X I J)) = runI call iX9_doneOn (128, [some (.ref 37), some (.ref a1), some (.ref a2), some (.ref 52), some (.int x4), some (.int x5), some (.int s0), some (.int x7), u8], [], (mm L X I J)) := by
  refine Eq.trans (st1 dX9_doneOn_92 rfl rfl) ?_
  refine Eq.trans (go_to (tgt := 128) dX9_doneOn_94 (by decide +kernel)) ?_
  rfl
theorem q_X9_doneOn_71 {call : CALL} {L X : Nat} {I : Nat → Nat → Int32} {J : Nat → Nat → Int64} {a1 : Nat} {a2 : Nat} {x4 : Int32} {x5 : Int32} {u6 : Option Value} {x7 : Int32} {u8 : Option Value} {s0 : Int32} (h1 : oc3 a1) (h2 : oc1 a2) : runI call iX9_doneOn (71, [some (.ref 37), some (.ref a1), some (.ref a2), some (.ref 52), some (.int x4), some (.int x5), u6, some (.int x7), u8], [.int s0], (mm L X I J)) = runI call iX9_doneOn (128, [some (.ref 37), some (.ref a1), some (.ref a2), some (.ref 52), some (.int x4), some (.int x5), some (.int s0), some (.int x7), u8], [], (mm L X I J)) := by
  refine Eq.trans (st1 dX9_doneOn_71 rfl rfl) ?_
  refine Eq.trans (go_to (tgt := 128) dX9_doneOn_73 (by decide +kernel)) ?_
  rfl
theorem q_X9_doneOn_125 {call : CALL} {L X : Nat} {I : Nat → Nat → Int32} {J : Nat → Nat → Int64} {a1 : Nat} {a2 : Nat} {x4 : Int32} {x5 : Int32} {x6 : Int32} {x7 : Int32} {u8 : Option Value} (h1 : oc3 a1) (h2 : oc1 a2) : runI call iX9_doneOn (125, [some (.ref 37), some (.ref a1), some (.ref a2), some (.ref 52), some (.int x4), some (.int x5), some (.int x6), some (.int x7), u8], [], (mm L X I J)) = runI call iX9_doneOn (128, [some (.ref 37), some (.ref a1), some (.ref a2), some (.ref 52), some (.int x4), some (.int x5), some (.int (x6 + (nI 1))), some (.int x7), u8], [], (mm L X I J)) := by
  refine Eq.trans (xinc2 dX9_doneOn_125 ci_1 rfl (Nat.le_of_ble_eq_true rfl) rfl) ?_
  rfl
theorem q_X9_doneOn_128 {call : CALL} {L X : Nat} {I : Nat → Nat → Int32} {J : Nat → Nat → Int64} {a1 : Nat} {a2 : Nat} {x4 : Int32} {x5 : Int32} {x6 : Int32} {x7 : Int32} {u8 : Option Value} (h1 : oc3 a1) (h2 : oc1 a2) : runI call iX9_doneOn (128, [some (.ref 37), some (.ref a1), some (.ref a2), some (.ref 52), some (.int x4), some (.int x5), some (.int x6), some (.int x7), u8], [], (mm L X I J)) = runI call iX9_doneOn (22, [some (.ref 37), some (.ref a1), some (.ref a2), some (.ref 52), some (.int x4), some (.int x5), some (.int x6), some (.int (x7 + (nI 1))), u8], [], (mm L X I J)) := by
  refine Eq.trans (xinc2 dX9_doneOn_128 ci_1 rfl (Nat.le_of_ble_eq_true rfl) rfl) ?_
  refine Eq.trans (go_to (tgt := 22) dX9_doneOn_131 (by decide +kernel)) ?_
  rfl
theorem q_X9_behindClose_0 {call : CALL} {L X : Nat} {I : Nat → Nat → Int32} {J : Nat → Nat → Int64} {x1 : Int32} : runI call iX9_behindClose (0, [some (.ref 37), some (.int x1), none], [], (mm L X I J)) = bndN (call nX11_pick [.ref 42, .int ((I 37 6) - (nI 1))] (mm L X I J)) (fun v m' => runI call iX9_behindClose (13, [some (.ref 37), some (.int x1), none], v.toList ++ [], m')) := by
  refine Eq.trans (st1 dX9_behindClose_0 rfl rfl) ?_
  refine Eq.trans (getRm dX9_behindClose_1 cp_9_24 ka_37 rfl r_37_5) ?_
  refine Eq.trans (st1 dX9_behindClose_4 rfl rfl) ?_
  refine Eq.trans (getIm dX9_behindClose_5 cp_9_31 ka_37 (.inl rfl)) ?_
  refine Eq.trans (xiconst dX9_behindClose_8 ci_1) ?_
  refine Eq.trans (st1 dX9_behindClose_9 rfl rfl) ?_
  exact is3 dX9_behindClose_10 cp_9_48 (Nat.le_of_ble_eq_true rfl) rfl rfl (Nat.le_of_ble_eq_true rfl)
theorem q_X9_behindClose_13 {call : CALL} {L X : Nat} {I : Nat → Nat → Int32} {J : Nat → Nat → Int64} {x1 : Int32} {u2 : Option Value} {s0 : Int32} : runI call iX9_behindClose (13, [some (.ref 37), some (.int x1), u2], [.int s0], (mm L X I J)) = if (s0 - (nI 1)) ≤ (nI 0) then some (.inl (some (.int (x1 + (nI 1)))), (mm L X (up2 I 37 6 ((I 37 6) - (nI 1))) J)) else bndN (call nX11_put [.ref 42, .int ((I 37 6) - (nI 1)), .int (s0 - (nI 1))] (mm L X I J)) (fun v m' => runI call iX9_behindClose (34, [some (.ref 37), some (.int x1), some (.int (s0 - (nI 1)))], v.toList ++ [], m')) := by
  refine Eq.trans (xiconst dX9_behindClose_13 ci_1) ?_
  refine Eq.trans (st1 dX9_behindClose_14 rfl rfl) ?_
  refine Eq.trans (st1 dX9_behindClose_15 rfl rfl) ?_
  refine Eq.trans (st1 dX9_behindClose_16 rfl rfl) ?_
  refine Eq.trans (if_le (tgt := 45) dX9_behindClose_17 (by decide +kernel)) (ite_cong (fun _ => ?_) (fun _ => ?_))
  · refine Eq.trans (st1 dX9_behindClose_45 rfl rfl) ?_
    refine Eq.trans (st1 dX9_behindClose_46 rfl rfl) ?_
    refine Eq.trans (getIm dX9_behindClose_47 cp_9_31 ka_37 (.inl rfl)) ?_
    refine Eq.trans (xiconst dX9_behindClose_50 ci_1) ?_
    refine Eq.trans (st1 dX9_behindClose_51 rfl rfl) ?_
    refine Eq.trans (putIm dX9_behindClose_52 cp_9_31 ka_37 rfl) ?_
    refine Eq.trans (st1 dX9_behindClose_55 rfl rfl) ?_
    refine Eq.trans (xiconst dX9_behindClose_56 ci_1) ?_
    refine Eq.trans (st1 dX9_behindClose_57 rfl rfl) ?_
    exact ret0 dX9_behindClose_58 rfl
  · refine Eq.trans (st1 dX9_behindClose_20 rfl rfl) ?_
    refine Eq.trans (getRm dX9_behindClose_21 cp_9_24 ka_37 rfl r_37_5) ?_
    refine Eq.trans (st1 dX9_behindClose_24 rfl rfl) ?_
    refine Eq.trans (getIm dX9_behindClose_25 cp_9_31 ka_37 (.inl rfl)) ?_
    refine Eq.trans (xiconst dX9_behindClose_28 ci_1) ?_
    refine Eq.trans (st1 dX9_behindClose_29 rfl rfl) ?_
    refine Eq.trans (st1 dX9_behindClose_30 rfl rfl) ?_
    exact is3 dX9_behindClose_31 cp_9_52 (Nat.le_of_ble_eq_true rfl) rfl rfl (Nat.le_of_ble_eq_true rfl)
theorem q_X9_behindClose_34 {call : CALL} {L X : Nat} {I : Nat → Nat → Int32} {J : Nat → Nat → Int64} {x1 : Int32} {u2 : Option Value} : runI call iX9_behindClose (34, [some (.ref 37), some (.int x1), u2], [], (mm L X I J)) = bndN (call nX11_pick [.ref 40, .int x1] (mm L X I J)) (fun v m' => runI call iX9_behindClose (42, [some (.ref 37), some (.int x1), u2], v.toList ++ [], m')) := by
  refine Eq.trans (st1 dX9_behindClose_34 rfl rfl) ?_
  refine Eq.trans (getRm dX9_behindClose_35 cp_9_18 ka_37 rfl r_37_2) ?_
  refine Eq.trans (st1 dX9_behindClose_38 rfl rfl) ?_
  exact is3 dX9_behindClose_39 cp_9_48 (Nat.le_of_ble_eq_true rfl) rfl rfl (Nat.le_of_ble_eq_true rfl)
theorem q_X9_behindClose_42 {call : CALL} {L X : Nat} {I : Nat → Nat → Int32} {J : Nat → Nat → Int64} {u0 : Option Value} {u1 : Option Value} {u2 : Option Value} {s0 : Int32} : runI call iX9_behindClose (42, [u0, u1, u2], [.int s0], (mm L X I J)) = some (.inl (some (.int (s0 + (nI 1)))), (mm L X I J)) := by
  refine Eq.trans (xiconst dX9_behindClose_42 ci_1) ?_
  refine Eq.trans (st1 dX9_behindClose_43 rfl rfl) ?_
  exact ret0 dX9_behindClose_44 rfl
theorem q_X9_behindAgain_0 {call : CALL} {L X : Nat} {I : Nat → Nat → Int32} {J : Nat → Nat → Int64} {x1 : Int32} : runI call iX9_behindAgain (0, [some (.ref 37), some (.int x1)], [], (mm L X I J)) = bndN (call nX11_pick [.ref 39, .int x1] (mm L X I J)) (fun v m' => runI call iX9_behindAgain (8, [some (.ref 37), some (.int x1)], v.toList ++ [], m')) := by
  refine Eq.trans (st1 dX9_behindAgain_0 rfl rfl) ?_
  refine Eq.trans (getRm dX9_behindAgain_1 cp_9_15 ka_37 rfl r_37_1) ?_
  refine Eq.trans (st1 dX9_behindAgain_4 rfl rfl) ?_
  exact is3 dX9_behindAgain_5 cp_9_48 (Nat.le_of_ble_eq_true rfl) rfl rfl (Nat.le_of_ble_eq_true rfl)
theorem q_X9_behindAgain_8 {call : CALL} {L X : Nat} {I : Nat → Nat → Int32} {J : Nat → Nat → Int64} {x1 : Int32} {s0 : Int32} : runI call iX9_behindAgain (8, [some (.ref 37), some (.int x1)], [.int s0], (mm L X I J)) = if s0 = (nI 0) then bndN (call nX11_pick [.ref 40, .int x1] (mm L X I J)) (fun v m' => runI call iX9_behindAgain (19, [some (.ref 37), some (.int x1)], v.toList ++ [], m')) else bndN (call nX11_pick [.ref 39, .int x1] (mm L X I J)) (fun v m' => runI call iX9_behindAgain (38, [some (.ref 37), some (.int x1)], v.toList ++ [.int (I 37 6), .ref 42], m')) := by
  refine Eq.trans (if_ne (tgt := 22) dX9_behindAgain_8 (by decide +kernel)) (ite_cong (fun _ => ?_) (fun _ => ?_))
  · refine Eq.trans (st1 dX9_behindAgain_11 rfl rfl) ?_
    refine Eq.trans (getRm dX9_behindAgain_12 cp_9_18 ka_37 rfl r_37_2) ?_
    refine Eq.trans (st1 dX9_behindAgain_15 rfl rfl) ?_
    exact is3 dX9_behindAgain_16 cp_9_48 (Nat.le_of_ble_eq_true rfl) rfl rfl (Nat.le_of_ble_eq_true rfl)
  · refine Eq.trans (st1 dX9_behindAgain_22 rfl rfl) ?_
    refine Eq.trans (getRm dX9_behindAgain_23 cp_9_24 ka_37 rfl r_37_5) ?_
    refine Eq.trans (st1 dX9_behindAgain_26 rfl rfl) ?_
    refine Eq.trans (getIm dX9_behindAgain_27 cp_9_31 ka_37 (.inl rfl)) ?_
    refine Eq.trans (st1 dX9_behindAgain_30 rfl rfl) ?_
    refine Eq.trans (getRm dX9_behindAgain_31 cp_9_15 ka_37 rfl r_37_1) ?_
    refine Eq.trans (st1 dX9_behindAgain_34 rfl rfl) ?_
    exact is3 dX9_behindAgain_35 cp_9_48 (Nat.le_of_ble_eq_true rfl) rfl rfl (Nat.le_of_ble_eq_true rfl)
theorem q_X9_behindAgain_38 {call : CALL} {L X : Nat} {I : Nat → Nat → Int32} {J : Nat → Nat → Int64} {x1 : Int32} {s1 : Int32} {s2 : Int32} : runI call iX9_behindAgain (38, [some (.ref 37), some (.int x1)], [.int s2, .int s1, .ref 42], (mm L X I J)) = bndN (call nX11_put [.ref 42, .int s1, .int s2] (mm L X I J)) (fun v m' => runI call iX9_behindAgain (41, [some (.ref 37), some (.int x1)], v.toList ++ [], m')) := by
  exact is3 dX9_behindAgain_38 cp_9_52 (Nat.le_of_ble_eq_true rfl) rfl rfl (Nat.le_of_ble_eq_true rfl)
theorem q_X9_behindAgain_19 {call : CALL} {L X : Nat} {I : Nat → Nat → Int32} {J : Nat → Nat → Int64} {u0 : Option Value} {u1 : Option Value} {s0 : Int32} : runI call iX9_behindAgain (19, [u0, u1], [.int s0], (mm L X I J)) = some (.inl (some (.int (s0 + (nI 1)))), (mm L X I J)) := by
  refine Eq.trans (xiconst dX9_behindAgain_19 ci_1) ?_
  refine Eq.trans (st1 dX9_behindAgain_20 rfl rfl) ?_
  exact ret0 dX9_behindAgain_21 rfl
theorem q_X9_behindAgain_41 {call : CALL} {L X : Nat} {I : Nat → Nat → Int32} {J : Nat → Nat → Int64} {x1 : Int32} : runI call iX9_behindAgain (41, [some (.ref 37), some (.int x1)], [], (mm L X I J)) = some (.inl (some (.int (x1 + (nI 1)))), (mm L X (up2 I 37 6 ((I 37 6) + (nI 1))) J)) := by
  refine Eq.trans (st1 dX9_behindAgain_41 rfl rfl) ?_
  refine Eq.trans (st1 dX9_behindAgain_42 rfl rfl) ?_
  refine Eq.trans (getIm dX9_behindAgain_43 cp_9_31 ka_37 (.inl rfl)) ?_
  refine Eq.trans (xiconst dX9_behindAgain_46 ci_1) ?_
  refine Eq.trans (st1 dX9_behindAgain_47 rfl rfl) ?_
  refine Eq.trans (putIm dX9_behindAgain_48 cp_9_31 ka_37 rfl) ?_
  refine Eq.trans (st1 dX9_behindAgain_51 rfl rfl) ?_
  refine Eq.trans (xiconst dX9_behindAgain_52 ci_1) ?_
  refine Eq.trans (st1 dX9_behindAgain_53 rfl rfl) ?_
  exact ret0 dX9_behindAgain_54 rfl
theorem q_X9_isDone_0 {call : CALL} {L X : Nat} {I : Nat → Nat → Int32} {J : Nat → Nat → Int64} {x1 : Int32} {a2 : Nat} {a3 : Nat} (h2 : oc3 a2) (h3 : oc1 a3) : runI call iX9_isDone (0, [some (.ref 37), some (.int x1), some (.ref a2), some (.ref a3), some (.ref 52), none], [], (mm L X I J)) = bndN (call nX11_pick [.ref 39, .int x1] (mm L X I J)) (fun v m' => runI call iX9_isDone (8, [some (.ref 37), some (.int x1), some (.ref a2), some (.ref a3), some (.ref 52), none], v.toList ++ [], m')) := by
  refine Eq.trans (st1 dX9_isDone_0 rfl rfl) ?_
  refine Eq.trans (getRm dX9_isDone_1 cp_9_15 ka_37 rfl r_37_1) ?_
  refine Eq.trans (st1 dX9_isDone_4 rfl rfl) ?_
  exact is3 dX9_isDone_5 cp_9_48 (Nat.le_of_ble_eq_true rfl) rfl rfl (Nat.le_of_ble_eq_true rfl)
theorem q_X9_isDone_8 {call : CALL} {L X : Nat} {I : Nat → Nat → Int32} {J : Nat → Nat → Int64} {x1 : Int32} {a2 : Nat} {a3 : Nat} {u5 : Option Value} {s0 : Int32} (h2 : oc3 a2) (h3 : oc1 a3) : runI call iX9_isDone (8, [some (.ref 37), some (.int x1), some (.ref a2), some (.ref a3), some (.ref 52), u5], [.int s0], (mm L X I J)) = bndN (call nX11_pick [.ref 38, .int x1] (mm L X I J)) (fun v m' => runI call iX9_isDone (18, [some (.ref 37), some (.int x1), some (.ref a2), some (.ref a3), some (.ref 52), some (.int s0)], v.toList ++ [], m')) := by
  refine Eq.trans (st1 dX9_isDone_8 rfl rfl) ?_
  refine Eq.trans (st1 dX9_isDone_10 rfl rfl) ?_
  refine Eq.trans (getRm dX9_isDone_11 cp_9_11 ka_37 rfl r_37_0) ?_
  refine Eq.trans (st1 dX9_isDone_14 rfl rfl) ?_
  exact is3 dX9_isDone_15 cp_9_48 (Nat.le_of_ble_eq_true rfl) rfl rfl (Nat.le_of_ble_eq_true rfl)
theorem q_X9_isDone_18 {call : CALL} {L X : Nat} {I : Nat → Nat → Int32} {J : Nat → Nat → Int64} {x1 : Int32} {a2 : Nat} {a3 : Nat} {x5 : Int32} {s0 : Int32} (h2 : oc3 a2) (h3 : oc1 a3) : runI call iX9_isDone (18, [some (.ref 37), some (.int x1), some (.ref a2), some (.ref a3), some (.ref 52), some (.int x5)], [.int s0], (mm L X I J)) = if s0 = (nI 0) then runI call iX9_isDone (60, [some (.ref 37), some (.int x1), some (.ref a2), some (.ref a3), some (.ref 52), some (.int x5)], [], (mm L X I J)) else if s0 = (nI 1) then runI call iX9_isDone (67, [some (.ref 37), some (.int x1), some (.ref a2), some (.ref a3), some (.ref 52), some (.int x5)], [], (mm L X I J)) else if s0 = (nI 2) then runI call iX9_isDone (75, [some (.ref 37), some (.int x1), some (.ref a2), some (.ref a3), some (.ref 52), some (.int x5)], [], (mm L X I J)) else if s0 = (nI 3) then runI call iX9_isDone (80, [some (.ref 37), some (.int x1), some (.ref a2), some (.ref a3), some (.ref 52), some (.int x5)], [], (mm L X I J)) else if s0 = (nI 4) then runI call iX9_isDone (95, [some (.ref 37), some (.int x1), some (.ref a2), some (.ref a3), some (.ref 52), some (.int x5)], [], (mm L X I J)) else if s0 = (nI 5) then runI call iX9_isDone (102, [some (.ref 37), some (.int x1), some (.ref a2), some (.ref a3), some (.ref 52), some (.int x5)], [], (mm L X I J)) else if s0 = (nI 6) then runI call iX9_isDone (109, [some (.ref 37), some (.int x1), some (.ref a2), some (.ref a3), some (.ref 52), some (.int x5)], [], (mm L X I J)) else runI call iX9_isDone (116, [some (.ref 37), some (.int x1), some (.ref a2), some (.ref a3), some (.ref 52), some (.int x5)], [], (mm L X I J)) := by
  refine ite_cong2 (fun e0 => sw_t dX9_isDone_18 (by rw [e0]; decide +kernel)) (fun e0 => ?_)
  refine ite_cong2 (fun e1 => sw_t dX9_isDone_18 (by rw [e1]; decide +kernel)) (fun e1 => ?_)
  refine ite_cong2 (fun e2 => sw_t dX9_isDone_18 (by rw [e2]; decide +kernel)) (fun e2 => ?_)
  refine ite_cong2 (fun e3 => sw_t dX9_isDone_18 (by rw [e3]; decide +kernel)) (fun e3 => ?_)
  refine ite_cong2 (fun e4 => sw_t dX9_isDone_18 (by rw [e4]; decide +kernel)) (fun e4 => ?_)
  refine ite_cong2 (fun e5 => sw_t dX9_isDone_18 (by rw [e5]; decide +kernel)) (fun e5 => ?_)
  refine ite_cong2 (fun e6 => sw_t dX9_isDone_18 (by rw [e6]; decide +kernel)) (fun e6 => ?_)
  exact sw_t dX9_isDone_18 (swT_dflt (vs := [(0 : Int), (1 : Int), (2 : Int), (3 : Int), (4 : Int), (5 : Int), (6 : Int)]) (by decide +kernel) (fun v hv => by simp only [List.mem_cons, List.not_mem_nil, or_false] at hv; rcases hv with rfl | rfl | rfl | rfl | rfl | rfl | rfl <;> first | exact ne_toInt (by decide +kernel) e0 | exact ne_toInt (by decide +kernel) e1 | exact ne_toInt (by decide +kernel) e2 | exact ne_toInt (by decide +kernel) e3 | exact ne_toInt (by decide +kernel) e4 | exact ne_toInt (by decide +kernel) e5 | exact ne_toInt (by decide +kernel) e6))
theorem q_X9_isDone_60 {call : CALL} {L X : Nat} {I : Nat → Nat → Int32} {J : Nat → Nat → Int64} {u0 : Option Value} {u1 : Option Value} {a2 : Nat} {u3 : Option Value} {u4 : Option Value} {x5 : Int32} (h2 : oc3 a2) : runI call iX9_isDone (60, [u0, u1, some (.ref a2), u3, u4, some (.int x5)], [], (mm L X I J)) = bnd (call nX3_turnRound [.ref a2, .int x5] (mm L X I J)) (fun v m' => runI call iX9_isDone (66, [u0, u1, some (.ref a2), u3, u4, some (.int x5)], v.toList ++ [], m')) := by
  refine Eq.trans (st1 dX9_isDone_60 rfl rfl) ?_
  refine Eq.trans (st1 dX9_isDone_61 rfl rfl) ?_
  exact iv0 dX9_isDone_63 rfl cp_9_104 rfl rfl (kd_ka (ks3_0 h2)) (ks3_0 h2).1 (Nat.le_of_ble_eq_true rfl)
theorem q_X9_isDone_67 {call : CALL} {L X : Nat} {I : Nat → Nat → Int32} {J : Nat → Nat → Int64} {u0 : Option Value} {u1 : Option Value} {a2 : Nat} {a3 : Nat} {u4 : Option Value} {x5 : Int32} (h2 : oc3 a2) (h3 : oc1 a3) : runI call iX9_isDone (67, [u0, u1, some (.ref a2), some (.ref a3), u4, some (.int x5)], [], (mm L X I J)) = bnd (call nX3_layDown [.ref a2, .ref a3, .int x5] (mm L X I J)) (fun v m' => runI call iX9_isDone (74, [u0, u1, some (.ref a2), some (.ref a3), u4, some (.int x5)], v.toList ++ [], m')) := by
  refine Eq.trans (st1 dX9_isDone_67 rfl rfl) ?_
  refine Eq.trans (st1 dX9_isDone_68 rfl rfl) ?_
  refine Eq.trans (st1 dX9_isDone_69 rfl rfl) ?_
  exact iv0 dX9_isDone_71 rfl cp_9_110 rfl rfl (kd_ka (ks3_0 h2)) (ks3_0 h2).1 (Nat.le_of_ble_eq_true rfl)
theorem q_X9_isDone_75 {call : CALL} {L X : Nat} {I : Nat → Nat → Int32} {J : Nat → Nat → Int64} {u0 : Option Value} {u1 : Option Value} {a2 : Nat} {u3 : Option Value} {u4 : Option Value} {u5 : Option Value} (h2 : oc3 a2) : runI call iX9_isDone (75, [u0, u1, some (.ref a2), u3, u4, u5], [], (mm L X I J)) = bnd (call nX3_liftLast [.ref a2] (mm L X I J)) (fun v m' => runI call iX9_isDone (79, [u0, u1, some (.ref a2), u3, u4, u5], v.toList ++ [], m')) := by
  refine Eq.trans (st1 dX9_isDone_75 rfl rfl) ?_
  exact iv0 dX9_isDone_76 rfl cp_9_114 rfl rfl (kd_ka (ks3_0 h2)) (ks3_0 h2).1 (Nat.le_of_ble_eq_true rfl)
theorem q_X9_isDone_80 {call : CALL} {L X : Nat} {I : Nat → Nat → Int32} {J : Nat → Nat → Int64} {x1 : Int32} {a2 : Nat} {u3 : Option Value} {u4 : Option Value} {x5 : Int32} (h2 : oc3 a2) : runI call iX9_isDone (80, [some (.ref 37), some (.int x1), some (.ref a2), u3, u4, some (.int x5)], [], (mm L X I J)) = bndN (call nX11_pick [.ref 40, .int x1] (mm L X I J)) (fun v m' => runI call iX9_isDone (91, [some (.ref 37), some (.int x1), some (.ref a2), u3, u4, some (.int x5)], v.toList ++ [.int x5, .ref a2], m')) := by
  refine Eq.trans (st1 dX9_isDone_80 rfl rfl) ?_
  refine Eq.trans (st1 dX9_isDone_81 rfl rfl) ?_
  refine Eq.trans (st1 dX9_isDone_83 rfl rfl) ?_
  refine Eq.trans (getRm dX9_isDone_84 cp_9_18 ka_37 rfl r_37_2) ?_
  refine Eq.trans (st1 dX9_isDone_87 rfl rfl) ?_
  exact is3 dX9_isDone_88 cp_9_48 (Nat.le_of_ble_eq_true rfl) rfl rfl (Nat.le_of_ble_eq_true rfl)
theorem q_X9_isDone_95 {call : CALL} {L X : Nat} {I : Nat → Nat → Int32} {J : Nat → Nat → Int64} {u0 : Option Value} {u1 : Option Value} {a2 : Nat} {u3 : Option Value} {u4 : Option Value} {x5 : Int32} (h2 : oc3 a2) : runI call iX9_isDone (95, [u0, u1, some (.ref a2), u3, u4, some (.int x5)], [], (mm L X I J)) = bnd (call nX3_burstOnce [.ref a2, .int x5] (mm L X I J)) (fun v m' => runI call iX9_isDone (101, [u0, u1, some (.ref a2), u3, u4, some (.int x5)], v.toList ++ [], m')) := by
  refine Eq.trans (st1 dX9_isDone_95 rfl rfl) ?_
  refine Eq.trans (st1 dX9_isDone_96 rfl rfl) ?_
  exact iv0 dX9_isDone_98 rfl cp_9_120 rfl rfl (kd_ka (ks3_0 h2)) (ks3_0 h2).1 (Nat.le_of_ble_eq_true rfl)
theorem q_X9_isDone_102 {call : CALL} {L X : Nat} {I : Nat → Nat → Int32} {J : Nat → Nat → Int64} {u0 : Option Value} {u1 : Option Value} {a2 : Nat} {u3 : Option Value} {u4 : Option Value} {x5 : Int32} (h2 : oc3 a2) : runI call iX9_isDone (102, [u0, u1, some (.ref a2), u3, u4, some (.int x5)], [], (mm L X I J)) = bnd (call nX3_patchOnce [.ref a2, .int x5] (mm L X I J)) (fun v m' => runI call iX9_isDone (108, [u0, u1, some (.ref a2), u3, u4, some (.int x5)], v.toList ++ [], m')) := by
  refine Eq.trans (st1 dX9_isDone_102 rfl rfl) ?_
  refine Eq.trans (st1 dX9_isDone_103 rfl rfl) ?_
  exact iv0 dX9_isDone_105 rfl cp_9_123 rfl rfl (kd_ka (ks3_0 h2)) (ks3_0 h2).1 (Nat.le_of_ble_eq_true rfl)
theorem q_X9_isDone_109 {call : CALL} {L X : Nat} {I : Nat → Nat → Int32} {J : Nat → Nat → Int64} {u0 : Option Value} {u1 : Option Value} {a2 : Nat} {u3 : Option Value} {u4 : Option Value} {x5 : Int32} (h2 : oc3 a2) : runI call iX9_isDone (109, [u0, u1, some (.ref a2), u3, u4, some (.int x5)], [], (mm L X I J)) = bnd (call nX3_hopeFor [.ref a2, .int x5] (mm L X I J)) (fun v m' => runI call iX9_isDone (115, [u0, u1, some (.ref a2), u3, u4, some (.int x5)], v.toList ++ [], m')) := by
  refine Eq.trans (st1 dX9_isDone_109 rfl rfl) ?_
  refine Eq.trans (st1 dX9_isDone_110 rfl rfl) ?_
  exact iv0 dX9_isDone_112 rfl cp_9_126 rfl rfl (kd_ka (ks3_0 h2)) (ks3_0 h2).1 (Nat.le_of_ble_eq_true rfl)
theorem q_X9_isDone_116 {call : CALL} {L X : Nat} {I : Nat → Nat → Int32} {J : Nat → Nat → Int64} {u0 : Option Value} {u1 : Option Value} {a2 : Nat} {u3 : Option Value} {u5 : Option Value} (h2 : oc3 a2) : runI call iX9_isDone (116, [u0, u1, some (.ref a2), u3, some (.ref 52), u5], [], (mm L X I J)) = if (I a2 6) < (nI 500) then bnd (call nX8_reachedBits [.ref 52, .ref a2] (mm L X I J)) (fun v m' => runI call iX9_isDone (135, [u0, u1, some (.ref a2), u3, some (.ref 52), u5], v.toList ++ [.ref a2], m')) else some (.inl (some (.int (nI 0))), (mm L X I J)) := by
  refine Eq.trans (st1 dX9_isDone_116 rfl rfl) ?_
  refine Eq.trans (getIm dX9_isDone_117 cp_9_129 (ks3_0 h2) (.inl rfl)) ?_
  refine Eq.trans (xsipush dX9_isDone_120 cs_500) ?_
  refine Eq.trans (ic_lt (tgt := 128) dX9_isDone_123 (by decide +kernel)) (ite_cong (fun _ => ?_) (fun _ => ?_))
  · refine Eq.trans (st1 dX9_isDone_128 rfl rfl) ?_
    refine Eq.trans (st1 dX9_isDone_129 rfl rfl) ?_
    refine Eq.trans (st1 dX9_isDone_131 rfl rfl) ?_
    exact iv0 dX9_isDone_132 rfl cp_9_132 rfl rfl (kd_ka ka_52) ka_52.1 (Nat.le_of_ble_eq_true rfl)
  · refine Eq.trans (xiconst dX9_isDone_126 ci_0) ?_
    exact ret1 dX9_isDone_127 rfl (.inl rfl)
theorem q_X9_isDone_66 {call : CALL} {L X : Nat} {I : Nat → Nat → Int32} {J : Nat → Nat → Int64} {u0 : Option Value} {u1 : Option Value} {u2 : Option Value} {u3 : Option Value} {u4 : Option Value} {u5 : Option Value} {s0 : Int32} : runI call iX9_isDone (66, [u0, u1, u2, u3, u4, u5], [.int s0], (mm L X I J)) = gd (b01 s0) (some (.inl (some (.int s0)), (mm L X I J))) := by
  exact ret1g dX9_isDone_66 rfl
theorem q_X9_isDone_74 {call : CALL} {L X : Nat} {I : Nat → Nat → Int32} {J : Nat → Nat → Int64} {u0 : Option Value} {u1 : Option Value} {u2 : Option Value} {u3 : Option Value} {u4 : Option Value} {u5 : Option Value} {s0 : Int32} : runI call iX9_isDone (74, [u0, u1, u2, u3, u4, u5], [.int s0], (mm L X I J)) = gd (b01 s0) (some (.inl (some (.int s0)), (mm L X I J))) := by
  exact ret1g dX9_isDone_74 rfl
theorem q_X9_isDone_79 {call : CALL} {L X : Nat} {I : Nat → Nat → Int32} {J : Nat → Nat → Int64} {u0 : Option Value} {u1 : Option Value} {u2 : Option Value} {u3 : Option Value} {u4 : Option Value} {u5 : Option Value} {s0 : Int32} : runI call iX9_isDone (79, [u0, u1, u2, u3, u4, u5], [.int s0], (mm L X I J)) = gd (b01 s0) (some (.inl (some (.int s0)), (mm L X I J))) := by
  exact ret1g dX9_isDone_79 rfl
theorem q_X9_isDone_91 {call : CALL} {L X : Nat} {I : Nat → Nat → Int32} {J : Nat → Nat → Int64} {u0 : Option Value} {u1 : Option Value} {u2 : Option Value} {u3 : Option Value} {u4 : Option Value} {u5 : Option Value} {a2 : Nat} {s1 : Int32} {s2 : Int32} (h2 : oc3 a2) : runI call iX9_isDone (91, [u0, u1, u2, u3, u4, u5], [.int s2, .int s1, .ref a2], (mm L X I J)) = bnd (call nX3_bendTo [.ref a2, .int s1, .int s2] (mm L X I J)) (fun v m' => runI call iX9_isDone (94, [u0, u1, u2, u3, u4, u5], v.toList ++ [], m')) := by
  exact iv0 dX9_isDone_91 rfl cp_9_117 rfl rfl (kd_ka (ks3_0 h2)) (ks3_0 h2).1 (Nat.le_of_ble_eq_true rfl)
theorem q_X9_isDone_101 {call : CALL} {L X : Nat} {I : Nat → Nat → Int32} {J : Nat → Nat → Int64} {u0 : Option Value} {u1 : Option Value} {u2 : Option Value} {u3 : Option Value} {u4 : Option Value} {u5 : Option Value} {s0 : Int32} : runI call iX9_isDone (101, [u0, u1, u2, u3, u4, u5], [.int s0], (mm L X I J)) = gd (b01 s0) (some (.inl (some (.int s0)), (mm L X I J))) := by
  exact ret1g dX9_isDone_101 rfl
theorem q_X9_isDone_108 {call : CALL} {L X : Nat} {I : Nat → Nat → Int32} {J : Nat → Nat → Int64} {u0 : Option Value} {u1 : Option Value} {u2 : Option Value} {u3 : Option Value} {u4 : Option Value} {u5 : Option Value} {s0 : Int32} : runI call iX9_isDone (108, [u0, u1, u2, u3, u4, u5], [.int s0], (mm L X I J)) = gd (b01 s0) (some (.inl (some (.int s0)), (mm L X I J))) := by
  exact ret1g dX9_isDone_108 rfl
theorem q_X9_isDone_115 {call : CALL} {L X : Nat} {I : Nat → Nat → Int32} {J : Nat → Nat → Int64} {u0 : Option Value} {u1 : Option Value} {u2 : Option Value} {u3 : Option Value} {u4 : Option Value} {u5 : Option Value} {s0 : Int32} : runI call iX9_isDone (115, [u0, u1, u2, u3, u4, u5], [.int s0], (mm L X I J)) = gd (b01 s0) (some (.inl (some (.int s0)), (mm L X I J))) := by
  exact ret1g dX9_isDone_115 rfl
theorem q_X9_isDone_135 {call : CALL} {L X : Nat} {I : Nat → Nat → Int32} {J : Nat → Nat → Int64} {u0 : Option Value} {u1 : Option Value} {u2 : Option Value} {u3 : Option Value} {u4 : Option Value} {u5 : Option Value} {a2 : Nat} {s1 : Int32} (h2 : oc3 a2) : runI call iX9_isDone (135, [u0, u1, u2, u3, u4, u5], [.int s1, .ref a2], (mm L X I J)) = bnd (call nX3_passHour [.ref a2, .int s1] (mm L X I J)) (fun v m' => runI call iX9_isDone (138, [u0, u1, u2, u3, u4, u5], v.toList ++ [], m')) := by
  exact iv0 dX9_isDone_135 rfl cp_9_138 rfl rfl (kd_ka (ks3_0 h2)) (ks3_0 h2).1 (Nat.le_of_ble_eq_true rfl)
theorem q_X9_isDone_94 {call : CALL} {L X : Nat} {I : Nat → Nat → Int32} {J : Nat → Nat → Int64} {u0 : Option Value} {u1 : Option Value} {u2 : Option Value} {u3 : Option Value} {u4 : Option Value} {u5 : Option Value} {s0 : Int32} : runI call iX9_isDone (94, [u0, u1, u2, u3, u4, u5], [.int s0], (mm L X I J)) = gd (b01 s0) (some (.inl (some (.int s0)), (mm L X I J))) := by
  exact ret1g dX9_isDone_94 rfl
theorem q_X9_isDone_138 {call : CALL} {L X : Nat} {I : Nat → Nat → Int32} {J : Nat → Nat → Int64} {u0 : Option Value} {u1 : Option Value} {u2 : Option Value} {u3 : Option Value} {u4 : Option Value} {u5 : Option Value} {s0 : Int32} : runI call iX9_isDone (138, [u0, u1, u2, u3, u4, u5], [.int s0], (mm L X I J)) = some (.inl (some (.int (nI 1))), (mm L X I J)) := by
  refine Eq.trans (st1 dX9_isDone_138 rfl rfl) ?_
  refine Eq.trans (xiconst dX9_isDone_139 ci_1) ?_
  exact ret1 dX9_isDone_140 rfl (.inr rfl)
theorem q_X10_outAfter_0 {call : CALL} {L X : Nat} {I : Nat → Nat → Int32} {J : Nat → Nat → Int64} {a1 : Nat} {x2 : Int32} (h1 : oc3 a1) : runI call iX10_outAfter (0, [some (.ref 66), some (.ref a1), some (.int x2), none, none], [], (mm L X I J)) = bnd (call nX3_become [.ref 67, .ref a1] (mm L X I J)) (fun v m' => runI call iX10_outAfter (8, [some (.ref 66), some (.ref a1), some (.int x2), none, none], v.toList ++ [], m')) := by
  refine Eq.trans (st1 dX10_outAfter_0 rfl rfl) ?_
  refine Eq.trans (getRm dX10_outAfter_1 cp_10_10 ka_66 rfl r_66_2) ?_
  refine Eq.trans (st1 dX10_outAfter_4 rfl rfl) ?_
  exact iv0 dX10_outAfter_5 rfl cp_10_24 rfl rfl (kd_ka ka_67) ka_67.1 (Nat.le_of_ble_eq_true rfl)
theorem q_X10_outAfter_8 {call : CALL} {L X : Nat} {I : Nat → Nat → Int32} {J : Nat → Nat → Int64} {u1 : Option Value} {x2 : Int32} {u3 : Option Value} {u4 : Option Value} : runI call iX10_outAfter (8, [some (.ref 66), u1, some (.int x2), u3, u4], [], (mm L X I J)) = bnd (call nX8_reachedBits [.ref 52, .ref 67] (mm L X I J)) (fun v m' => runI call iX10_outAfter (19, [some (.ref 66), u1, some (.int x2), u3, u4], v.toList ++ [], m')) := by
  refine Eq.trans (st1 dX10_outAfter_8 rfl rfl) ?_
  refine Eq.trans (getRm dX10_outAfter_9 cp_10_20 ka_66 rfl r_66_1) ?_
  refine Eq.trans (st1 dX10_outAfter_12 rfl rfl) ?_
  refine Eq.trans (getRm dX10_outAfter_13 cp_10_10 ka_66 rfl r_66_2) ?_
  exact iv0 dX10_outAfter_16 rfl cp_10_28 rfl rfl (kd_ka ka_52) ka_52.1 (Nat.le_of_ble_eq_true rfl)
theorem q_X10_outAfter_19 {call : CALL} {L X : Nat} {I : Nat → Nat → Int32} {J : Nat → Nat → Int64} {u1 : Option Value} {x2 : Int32} {u3 : Option Value} {u4 : Option Value} {s0 : Int32} : runI call iX10_outAfter (19, [some (.ref 66), u1, some (.int x2), u3, u4], [.int s0], (mm L X I J)) = runI call iX10_outAfter (23, [some (.ref 66), u1, some (.int x2), some (.int s0), some (.int (nI 0))], [], (mm L X I J)) := by
  refine Eq.trans (st1 dX10_outAfter_19 rfl rfl) ?_
  refine Eq.trans (xiconst dX10_outAfter_20 ci_0) ?_
  refine Eq.trans (st1 dX10_outAfter_21 rfl rfl) ?_
  rfl
theorem q_X10_outAfter_23 {call : CALL} {L X : Nat} {I : Nat → Nat → Int32} {J : Nat → Nat → Int64} {u1 : Option Value} {x2 : Int32} {x3 : Int32} {x4 : Int32} : runI call iX10_outAfter (23, [some (.ref 66), u1, some (.int x2), some (.int x3), some (.int x4)], [], (mm L X I J)) = if x2 ≤ x4 then bnd (call nX3_outBits [.ref 67] (mm L X I J)) (fun v m' => runI call iX10_outAfter (51, [some (.ref 66), u1, some (.int x2), some (.int x3), some (.int x4)], v.toList ++ [], m')) else bnd (call nX3_passHour [.ref 67, .int x3] (mm L X I J)) (fun v m' => runI call iX10_outAfter (37, [some (.ref 66), u1, some (.int x2), some (.int x3), some (.int x4)], v.toList ++ [], m')) := by
  refine Eq.trans (st1 dX10_outAfter_23 rfl rfl) ?_
  refine Eq.trans (st1 dX10_outAfter_25 rfl rfl) ?_
  refine Eq.trans (ic_ge (tgt := 44) dX10_outAfter_26 (by decide +kernel)) (ite_cong (fun _ => ?_) (fun _ => ?_))
  · refine Eq.trans (st1 dX10_outAfter_44 rfl rfl) ?_
    refine Eq.trans (getRm dX10_outAfter_45 cp_10_10 ka_66 rfl r_66_2) ?_
    exact iv0 dX10_outAfter_48 rfl cp_10_38 rfl rfl (kd_ka ka_67) ka_67.1 (Nat.le_of_ble_eq_true rfl)
  · refine Eq.trans (st1 dX10_outAfter_29 rfl rfl) ?_
    refine Eq.trans (getRm dX10_outAfter_30 cp_10_10 ka_66 rfl r_66_2) ?_
    refine Eq.trans (st1 dX10_outAfter_33 rfl rfl) ?_
    exact iv0 dX10_outAfter_34 rfl cp_10_34 rfl rfl (kd_ka ka_67) ka_67.1 (Nat.le_of_ble_eq_true rfl)
theorem q_X10_outAfter_51 {call : CALL} {L X : Nat} {I : Nat → Nat → Int32} {J : Nat → Nat → Int64} {u0 : Option Value} {u1 : Option Value} {u2 : Option Value} {u3 : Option Value} {u4 : Option Value} {s0 : Int32} : runI call iX10_outAfter (51, [u0, u1, u2, u3, u4], [.int s0], (mm L X I J)) = some (.inl (some (.int s0)), (mm L X I J)) := by
  exact ret0 dX10_outAfter_51 rfl
theorem q_X10_outAfter_37 {call : CALL} {L X : Nat} {I : Nat → Nat → Int32} {J : Nat → Nat → Int64} {u1 : Option Value} {x2 : Int32} {x3 : Int32} {x4 : Int32} {s0 : Int32} : runI call iX10_outAfter (37, [some (.ref 66), u1, some (.int x2), some (.int x3), some (.int x4)], [.int s0], (mm L X I J)) = runI call iX10_outAfter (23, [some (.ref 66), u1, some (.int x2), some (.int x3), some (.int (x4 + (nI 1)))], [], (mm L X I J)) := by
  refine Eq.trans (st1 dX10_outAfter_37 rfl rfl) ?_
  refine Eq.trans (xinc2 dX10_outAfter_38 ci_1 rfl (Nat.le_of_ble_eq_true rfl) rfl) ?_
  refine Eq.trans (go_to (tgt := 23) dX10_outAfter_41 (by decide +kernel)) ?_
  rfl
theorem q_X10_live_0 {call : CALL} {L X : Nat} {I : Nat → Nat → Int32} {J : Nat → Nat → Int64} {a1 : Nat} {x2 : Int32} {x3 : Int32} {x4 : Int32} (h1 : oc3 a1) : runI call iX10_live (0, [some (.ref 66), some (.ref a1), some (.int x2), some (.int x3), some (.int x4), none], [], (mm L X I J)) = bnd (call nX3_become [.ref 67, .ref a1] (mm L X I J)) (fun v m' => runI call iX10_live (8, [some (.ref 66), some (.ref a1), some (.int x2), some (.int x3), some (.int x4), none], v.toList ++ [], m')) := by
  refine Eq.trans (st1 dX10_live_0 rfl rfl) ?_
  refine Eq.trans (getRm dX10_live_1 cp_10_10 ka_66 rfl r_66_2) ?_
  refine Eq.trans (st1 dX10_live_4 rfl rfl) ?_
  exact iv0 dX10_live_5 rfl cp_10_24 rfl rfl (kd_ka ka_67) ka_67.1 (Nat.le_of_ble_eq_true rfl)
theorem q_X10_live_8 {call : CALL} {L X : Nat} {I : Nat → Nat → Int32} {J : Nat → Nat → Int64} {u1 : Option Value} {x2 : Int32} {x3 : Int32} {x4 : Int32} {u5 : Option Value} : runI call iX10_live (8, [some (.ref 66), u1, some (.int x2), some (.int x3), some (.int x4), u5], [], (mm L X I J)) = runI call iX10_live (21, [some (.ref 66), u1, some (.int x2), some (.int x3), some (.int x4), some (.int (nI 0))], [], (mm L X (up2 (up2 I 66 4 x2) 66 3 (nI 0)) J)) := by
  refine Eq.trans (st1 dX10_live_8 rfl rfl) ?_
  refine Eq.trans (st1 dX10_live_9 rfl rfl) ?_
  refine Eq.trans (putIm dX10_live_10 cp_10_42 ka_66 rfl) ?_
  refine Eq.trans (st1 dX10_live_13 rfl rfl) ?_
  refine Eq.trans (xiconst dX10_live_14 ci_0) ?_
  refine Eq.trans (putIm dX10_live_15 cp_10_46 ka_66 rfl) ?_
  refine Eq.trans (xiconst dX10_live_18 ci_0) ?_
  refine Eq.trans (st1 dX10_live_19 rfl rfl) ?_
  rfl
theorem q_X10_live_21 {call : CALL} {L X : Nat} {I : Nat → Nat → Int32} {J : Nat → Nat → Int64} {u1 : Option Value} {u2 : Option Value} {x3 : Int32} {x4 : Int32} {x5 : Int32} : runI call iX10_live (21, [some (.ref 66), u1, u2, some (.int x3), some (.int x4), some (.int x5)], [], (mm L X I J)) = if x3 ≤ x5 then some (.inl none, (mm L X I J)) else if (I 3 0) ≤ (nI 0) then runI call iX10_live (43, [some (.ref 66), u1, u2, some (.int x3), some (.int x4), some (.int x5)], [], (mm L X I J)) else bnd (call nX10_doDrawn [.ref 66, .int x4] (mm L X I J)) (fun v m' => runI call iX10_live (43, [some (.ref 66), u1, u2, some (.int x3), some (.int x4), some (.int x5)], v.toList ++ [], m')) := by
  refine Eq.trans (st1 dX10_live_21 rfl rfl) ?_
  refine Eq.trans (st1 dX10_live_23 rfl rfl) ?_
  refine Eq.trans (ic_ge (tgt := 76) dX10_live_24 (by decide +kernel)) (ite_cong (fun _ => ?_) (fun _ => ?_))
  · exact ret3 dX10_live_76 (.inl rfl)
  · refine Eq.trans (st1 dX10_live_27 rfl rfl) ?_
    refine Eq.trans (getRm dX10_live_28 cp_10_16 ka_66 rfl r_66_0) ?_
    refine Eq.trans (getIm dX10_live_31 cp_10_49 ka_3 (.inl rfl)) ?_
    refine Eq.trans (if_le (tgt := 43) dX10_live_34 (by decide +kernel)) (ite_cong (fun _ => ?_) (fun _ => ?_))
    · rfl
    · refine Eq.trans (st1 dX10_live_37 rfl rfl) ?_
      refine Eq.trans (st1 dX10_live_38 rfl rfl) ?_
      exact iv0 dX10_live_40 rfl cp_10_54 rfl rfl (kd_ka ka_66) ka_66.1 (Nat.le_of_ble_eq_true rfl)
theorem q_X10_live_43 {call : CALL} {L X : Nat} {I : Nat → Nat → Int32} {J : Nat → Nat → Int64} {u1 : Option Value} {u2 : Option Value} {x3 : Int32} {x4 : Int32} {x5 : Int32} : runI call iX10_live (43, [some (.ref 66), u1, u2, some (.int x3), some (.int x4), some (.int x5)], [], (mm L X I J)) = bnd (call nX8_reachedBits [.ref 52, .ref 67] (mm L X I J)) (fun v m' => runI call iX10_live (63, [some (.ref 66), u1, u2, some (.int x3), some (.int x4), some (.int x5)], v.toList ++ [.ref 67, .int (I 66 3), .ref 66], m')) := by
  refine Eq.trans (st1 dX10_live_43 rfl rfl) ?_
  refine Eq.trans (st1 dX10_live_44 rfl rfl) ?_
  refine Eq.trans (getIm dX10_live_45 cp_10_46 ka_66 (.inl rfl)) ?_
  refine Eq.trans (st1 dX10_live_48 rfl rfl) ?_
  refine Eq.trans (getRm dX10_live_49 cp_10_10 ka_66 rfl r_66_2) ?_
  refine Eq.trans (st1 dX10_live_52 rfl rfl) ?_
  refine Eq.trans (getRm dX10_live_53 cp_10_20 ka_66 rfl r_66_1) ?_
  refine Eq.trans (st1 dX10_live_56 rfl rfl) ?_
  refine Eq.trans (getRm dX10_live_57 cp_10_10 ka_66 rfl r_66_2) ?_
  exact iv0 dX10_live_60 rfl cp_10_28 rfl rfl (kd_ka ka_52) ka_52.1 (Nat.le_of_ble_eq_true rfl)
theorem q_X10_live_63 {call : CALL} {L X : Nat} {I : Nat → Nat → Int32} {J : Nat → Nat → Int64} {u1 : Option Value} {u2 : Option Value} {x3 : Int32} {x4 : Int32} {x5 : Int32} {s1 : Int32} {s3 : Int32} : runI call iX10_live (63, [some (.ref 66), u1, u2, some (.int x3), some (.int x4), some (.int x5)], [.int s3, .ref 67, .int s1, .ref 66], (mm L X I J)) = bnd (call nX3_passHour [.ref 67, .int s3] (mm L X I J)) (fun v m' => runI call iX10_live (66, [some (.ref 66), u1, u2, some (.int x3), some (.int x4), some (.int x5)], v.toList ++ [.int s1, .ref 66], m')) := by
  exact iv0 dX10_live_63 rfl cp_10_34 rfl rfl (kd_ka ka_67) ka_67.1 (Nat.le_of_ble_eq_true rfl)
theorem q_X10_live_66 {call : CALL} {L X : Nat} {I : Nat → Nat → Int32} {J : Nat → Nat → Int64} {u1 : Option Value} {u2 : Option Value} {x3 : Int32} {x4 : Int32} {x5 : Int32} {s1 : Int32} {s2 : Int32} : runI call iX10_live (66, [some (.ref 66), u1, u2, some (.int x3), some (.int x4), some (.int x5)], [.int s2, .int s1, .ref 66], (mm L X I J)) = runI call iX10_live (21, [some (.ref 66), u1, u2, some (.int x3), some (.int x4), some (.int (x5 + (nI 1)))], [], (mm L X (up2 I 66 3 (s1 + s2)) J)) := by
  refine Eq.trans (st1 dX10_live_66 rfl rfl) ?_
  refine Eq.trans (putIm dX10_live_67 cp_10_46 ka_66 rfl) ?_
  refine Eq.trans (xinc2 dX10_live_70 ci_1 rfl (Nat.le_of_ble_eq_true rfl) rfl) ?_
  refine Eq.trans (go_to (tgt := 21) dX10_live_73 (by decide +kernel)) ?_
  rfl
theorem q_X10_doDrawn_0 {call : CALL} {L X : Nat} {I : Nat → Nat → Int32} {J : Nat → Nat → Int64} {x1 : Int32} : runI call iX10_doDrawn (0, [some (.ref 66), some (.int x1), none], [], (mm L X I J)) = bnd (call nX10_drawn [.ref 66, .int (I 3 0)] (mm L X I J)) (fun v m' => runI call iX10_doDrawn (11, [some (.ref 66), some (.int x1), none], v.toList ++ [], m')) := by
  refine Eq.trans (st1 dX10_doDrawn_0 rfl rfl) ?_
  refine Eq.trans (st1 dX10_doDrawn_1 rfl rfl) ?_
  refine Eq.trans (getRm dX10_doDrawn_2 cp_10_16 ka_66 rfl r_66_0) ?_
  refine Eq.trans (getIm dX10_doDrawn_5 cp_10_49 ka_3 (.inl rfl)) ?_
  exact iv0 dX10_doDrawn_8 rfl cp_10_58 rfl rfl (kd_ka ka_66) ka_66.1 (Nat.le_of_ble_eq_true rfl)
theorem q_X10_doDrawn_11 {call : CALL} {L X : Nat} {I : Nat → Nat → Int32} {J : Nat → Nat → Int64} {x1 : Int32} {u2 : Option Value} {s0 : Int32} : runI call iX10_doDrawn (11, [some (.ref 66), some (.int x1), u2], [.int s0], (mm L X I J)) = bnd (call nX10_drawn [.ref 66, .int (nI 4)] (mm L X I J)) (fun v m' => runI call iX10_doDrawn (17, [some (.ref 66), some (.int x1), some (.int s0)], v.toList ++ [], m')) := by
  refine Eq.trans (st1 dX10_doDrawn_11 rfl rfl) ?_
  refine Eq.trans (st1 dX10_doDrawn_12 rfl rfl) ?_
  refine Eq.trans (xiconst dX10_doDrawn_13 ci_4) ?_
  exact iv0 dX10_doDrawn_14 rfl cp_10_58 rfl rfl (kd_ka ka_66) ka_66.1 (Nat.le_of_ble_eq_true rfl)
theorem q_X10_doDrawn_17 {call : CALL} {L X : Nat} {I : Nat → Nat → Int32} {J : Nat → Nat → Int64} {x1 : Int32} {x2 : Int32} {s0 : Int32} : runI call iX10_doDrawn (17, [some (.ref 66), some (.int x1), some (.int x2)], [.int s0], (mm L X I J)) = if s0 = (nI 0) then runI call iX10_doDrawn (44, [some (.ref 66), some (.int x1), some (.int x2)], [], (mm L X I J)) else if s0 = (nI 1) then runI call iX10_doDrawn (60, [some (.ref 66), some (.int x1), some (.int x2)], [], (mm L X I J)) else if s0 = (nI 2) then runI call iX10_doDrawn (72, [some (.ref 66), some (.int x1), some (.int x2)], [], (mm L X I J)) else runI call iX10_doDrawn (84, [some (.ref 66), some (.int x1), some (.int x2)], [], (mm L X I J)) := by
  refine ite_cong2 (fun e0 => sw_t dX10_doDrawn_17 (by rw [e0]; decide +kernel)) (fun e0 => ?_)
  refine ite_cong2 (fun e1 => sw_t dX10_doDrawn_17 (by rw [e1]; decide +kernel)) (fun e1 => ?_)
  refine ite_cong2 (fun e2 => sw_t dX10_doDrawn_17 (by rw [e2]; decide +kernel)) (fun e2 => ?_)
  exact sw_t dX10_doDrawn_17 (swT_dflt (vs := [(0 : Int), (1 : Int), (2 : Int)]) (by decide +kernel) (fun v hv => by simp only [List.mem_cons, List.not_mem_nil, or_false] at hv; rcases hv with rfl | rfl | rfl <;> first | exact ne_toInt (by decide +kernel) e0 | exact ne_toInt (by decide +kernel) e1 | exact ne_toInt (by decide +kernel) e2))
theorem q_X10_doDrawn_44 {call : CALL} {L X : Nat} {I : Nat → Nat → Int32} {J : Nat → Nat → Int64} {x1 : Int32} {x2 : Int32} : runI call iX10_doDrawn (44, [some (.ref 66), some (.int x1), some (.int x2)], [], (mm L X I J)) = bnd (call nX3_layDown [.ref 67, .ref 3, .int x2] (mm L X I J)) (fun v m' => runI call iX10_doDrawn (56, [some (.ref 66), some (.int x1), some (.int x2)], v.toList ++ [], m')) := by
  refine Eq.trans (st1 dX10_doDrawn_44 rfl rfl) ?_
  refine Eq.trans (getRm dX10_doDrawn_45 cp_10_10 ka_66 rfl r_66_2) ?_
  refine Eq.trans (st1 dX10_doDrawn_48 rfl rfl) ?_
  refine Eq.trans (getRm dX10_doDrawn_49 cp_10_16 ka_66 rfl r_66_0) ?_
  refine Eq.trans (st1 dX10_doDrawn_52 rfl rfl) ?_
  exact iv0 dX10_doDrawn_53 rfl cp_10_61 rfl rfl (kd_ka ka_67) ka_67.1 (Nat.le_of_ble_eq_true rfl)
theorem q_X10_doDrawn_60 {call : CALL} {L X : Nat} {I : Nat → Nat → Int32} {J : Nat → Nat → Int64} {x1 : Int32} {x2 : Int32} : runI call iX10_doDrawn (60, [some (.ref 66), some (.int x1), some (.int x2)], [], (mm L X I J)) = bnd (call nX3_turnRound [.ref 67, .int x2] (mm L X I J)) (fun v m' => runI call iX10_doDrawn (68, [some (.ref 66), some (.int x1), some (.int x2)], v.toList ++ [], m')) := by
  refine Eq.trans (st1 dX10_doDrawn_60 rfl rfl) ?_
  refine Eq.trans (getRm dX10_doDrawn_61 cp_10_10 ka_66 rfl r_66_2) ?_
  refine Eq.trans (st1 dX10_doDrawn_64 rfl rfl) ?_
  exact iv0 dX10_doDrawn_65 rfl cp_10_65 rfl rfl (kd_ka ka_67) ka_67.1 (Nat.le_of_ble_eq_true rfl)
theorem q_X10_doDrawn_72 {call : CALL} {L X : Nat} {I : Nat → Nat → Int32} {J : Nat → Nat → Int64} {x1 : Int32} {x2 : Int32} : runI call iX10_doDrawn (72, [some (.ref 66), some (.int x1), some (.int x2)], [], (mm L X I J)) = bnd (call nX3_burstOnce [.ref 67, .int x2] (mm L X I J)) (fun v m' => runI call iX10_doDrawn (80, [some (.ref 66), some (.int x1), some (.int x2)], v.toList ++ [], m')) := by
  refine Eq.trans (st1 dX10_doDrawn_72 rfl rfl) ?_
  refine Eq.trans (getRm dX10_doDrawn_73 cp_10_10 ka_66 rfl r_66_2) ?_
  refine Eq.trans (st1 dX10_doDrawn_76 rfl rfl) ?_
  exact iv0 dX10_doDrawn_77 rfl cp_10_69 rfl rfl (kd_ka ka_67) ka_67.1 (Nat.le_of_ble_eq_true rfl)
theorem q_X10_doDrawn_84 {call : CALL} {L X : Nat} {I : Nat → Nat → Int32} {J : Nat → Nat → Int64} {x1 : Int32} {x2 : Int32} : runI call iX10_doDrawn (84, [some (.ref 66), some (.int x1), some (.int x2)], [], (mm L X I J)) = bnd (call nX3_patchOnce [.ref 67, .int x2] (mm L X I J)) (fun v m' => runI call iX10_doDrawn (92, [some (.ref 66), some (.int x1), some (.int x2)], v.toList ++ [], m')) := by
  refine Eq.trans (st1 dX10_doDrawn_84 rfl rfl) ?_
  refine Eq.trans (getRm dX10_doDrawn_85 cp_10_10 ka_66 rfl r_66_2) ?_
  refine Eq.trans (st1 dX10_doDrawn_88 rfl rfl) ?_
  exact iv0 dX10_doDrawn_89 rfl cp_10_72 rfl rfl (kd_ka ka_67) ka_67.1 (Nat.le_of_ble_eq_true rfl)
theorem q_X10_doDrawn_56 {call : CALL} {L X : Nat} {I : Nat → Nat → Int32} {J : Nat → Nat → Int64} {x1 : Int32} {u2 : Option Value} {s0 : Int32} : runI call iX10_doDrawn (56, [some (.ref 66), some (.int x1), u2], [.int s0], (mm L X I J)) = runI call iX10_doDrawn (93, [some (.ref 66), some (.int x1), u2], [], (mm L X I J)) := by
  refine Eq.trans (st1 dX10_doDrawn_56 rfl rfl) ?_
  refine Eq.trans (go_to (tgt := 93) dX10_doDrawn_57 (by decide +kernel)) ?_
  rfl
theorem q_X10_doDrawn_68 {call : CALL} {L X : Nat} {I : Nat → Nat → Int32} {J : Nat → Nat → Int64} {x1 : Int32} {u2 : Option Value} {s0 : Int32} : runI call iX10_doDrawn (68, [some (.ref 66), some (.int x1), u2], [.int s0], (mm L X I J)) = runI call iX10_doDrawn (93, [some (.ref 66), some (.int x1), u2], [], (mm L X I J)) := by
  refine Eq.trans (st1 dX10_doDrawn_68 rfl rfl) ?_
  refine Eq.trans (go_to (tgt := 93) dX10_doDrawn_69 (by decide +kernel)) ?_
  rfl
theorem q_X10_doDrawn_80 {call : CALL} {L X : Nat} {I : Nat → Nat → Int32} {J : Nat → Nat → Int64} {x1 : Int32} {u2 : Option Value} {s0 : Int32} : runI call iX10_doDrawn (80, [some (.ref 66), some (.int x1), u2], [.int s0], (mm L X I J)) = runI call iX10_doDrawn (93, [some (.ref 66), some (.int x1), u2], [], (mm L X I J)) := by
  refine Eq.trans (st1 dX10_doDrawn_80 rfl rfl) ?_
  refine Eq.trans (go_to (tgt := 93) dX10_doDrawn_81 (by decide +kernel)) ?_
  rfl
theorem q_X10_doDrawn_92 {call : CALL} {L X : Nat} {I : Nat → Nat → Int32} {J : Nat → Nat → Int64} {x1 : Int32} {u2 : Option Value} {s0 : Int32} : runI call iX10_doDrawn (92, [some (.ref 66), some (.int x1), u2], [.int s0], (mm L X I J)) = runI call iX10_doDrawn (93, [some (.ref 66), some (.int x1), u2], [], (mm L X I J)) := by
  refine Eq.trans (st1 dX10_doDrawn_92 rfl rfl) ?_
  rfl
theorem q_X10_doDrawn_93 {call : CALL} {L X : Nat} {I : Nat → Nat → Int32} {J : Nat → Nat → Int64} {x1 : Int32} {u2 : Option Value} : runI call iX10_doDrawn (93, [some (.ref 66), some (.int x1), u2], [], (mm L X I J)) = bnd (call nX10_drawn [.ref 66, .int (nI 16)] (mm L X I J)) (fun v m' => runI call iX10_doDrawn (99, [some (.ref 66), some (.int x1), u2], v.toList ++ [], m')) := by
  refine Eq.trans (st1 dX10_doDrawn_93 rfl rfl) ?_
  refine Eq.trans (xbipush dX10_doDrawn_94 cb_16) ?_
  exact iv0 dX10_doDrawn_96 rfl cp_10_58 rfl rfl (kd_ka ka_66) ka_66.1 (Nat.le_of_ble_eq_true rfl)
theorem q_X10_doDrawn_99 {call : CALL} {L X : Nat} {I : Nat → Nat → Int32} {J : Nat → Nat → Int64} {x1 : Int32} {u2 : Option Value} {s0 : Int32} : runI call iX10_doDrawn (99, [some (.ref 66), some (.int x1), u2], [.int s0], (mm L X I J)) = if x1 ≤ s0 then some (.inl none, (mm L X I J)) else bnd (call nX3_liftLast [.ref 67] (mm L X I J)) (fun v m' => runI call iX10_doDrawn (110, [some (.ref 66), some (.int x1), u2], v.toList ++ [], m')) := by
  refine Eq.trans (st1 dX10_doDrawn_99 rfl rfl) ?_
  refine Eq.trans (ic_ge (tgt := 111) dX10_doDrawn_100 (by decide +kernel)) (ite_cong (fun _ => ?_) (fun _ => ?_))
  · exact ret3 dX10_doDrawn_111 (.inl rfl)
  · refine Eq.trans (st1 dX10_doDrawn_103 rfl rfl) ?_
    refine Eq.trans (getRm dX10_doDrawn_104 cp_10_10 ka_66 rfl r_66_2) ?_
    exact iv0 dX10_doDrawn_107 rfl cp_10_75 rfl rfl (kd_ka ka_67) ka_67.1 (Nat.le_of_ble_eq_true rfl)
theorem q_X10_doDrawn_110 {call : CALL} {L X : Nat} {I : Nat → Nat → Int32} {J : Nat → Nat → Int64} {u0 : Option Value} {u1 : Option Value} {u2 : Option Value} {s0 : Int32} : runI call iX10_doDrawn (110, [u0, u1, u2], [.int s0], (mm L X I J)) = some (.inl none, (mm L X I J)) := by
  refine Eq.trans (st1 dX10_doDrawn_110 rfl rfl) ?_
  exact ret3 dX10_doDrawn_111 (.inl rfl)
theorem q_X10_drawn_0 {call : CALL} {L X : Nat} {I : Nat → Nat → Int32} {J : Nat → Nat → Int64} {x1 : Int32} : runI call iX10_drawn (0, [some (.ref 66), some (.int x1)], [], (mm L X I J)) = if x1 ≤ (nI 0) then some (.inl (some (.int (nI 0))), (mm L X (up2 I 66 4 (((I 66 4) * (nI 1103515245)) + (nI 12345))) J)) else gd (nz x1) (some (.inl (some (.int ((((((up2 I 66 4 (((I 66 4) * (nI 1103515245)) + (nI 12345))) 66 4)).toUInt32 >>> (((nI 16)).toUInt32 &&& Int32.toUInt32 31)).toInt32 &&& (nI 32767)) - (((((up2 I 66 4 (((I 66 4) * (nI 1103515245)) + (nI 12345))) 66 4)).toUInt32 >>> (((nI 16)).toUInt32 &&& Int32.toUInt32 31)).toInt32 &&& (nI 32767)) / x1 * x1))), (mm L X (up2 I 66 4 (((I 66 4) * (nI 1103515245)) + (nI 12345))) J))) := by
  refine Eq.trans (st1 dX10_drawn_0 rfl rfl) ?_
  refine Eq.trans (st1 dX10_drawn_1 rfl rfl) ?_
  refine Eq.trans (getIm dX10_drawn_2 cp_10_42 ka_66 (.inl rfl)) ?_
  refine Eq.trans (xldc1 dX10_drawn_5 cp_10_79 cn_1103515245) ?_
  refine Eq.trans (st1 dX10_drawn_7 rfl rfl) ?_
  refine Eq.trans (xsipush dX10_drawn_8 cs_12345) ?_
  refine Eq.trans (st1 dX10_drawn_11 rfl rfl) ?_
  refine Eq.trans (putIm dX10_drawn_12 cp_10_42 ka_66 rfl) ?_
  refine Eq.trans (st1 dX10_drawn_15 rfl rfl) ?_
  refine Eq.trans (if_le (tgt := 35) dX10_drawn_16 (by decide +kernel)) (ite_cong (fun _ => ?_) (fun _ => ?_))
  · refine Eq.trans (xiconst dX10_drawn_35 ci_0) ?_
    exact ret0 dX10_drawn_36 rfl
  · refine Eq.trans (st1 dX10_drawn_19 rfl rfl) ?_
    refine Eq.trans (getIm dX10_drawn_20 cp_10_42 ka_66 (.inl rfl)) ?_
    refine Eq.trans (xbipush dX10_drawn_23 cb_16) ?_
    refine Eq.trans (st1 dX10_drawn_25 rfl rfl) ?_
    refine Eq.trans (xsipush dX10_drawn_26 cs_32767) ?_
    refine Eq.trans (st1 dX10_drawn_29 rfl rfl) ?_
    refine Eq.trans (st1 dX10_drawn_30 rfl rfl) ?_
    refine Eq.trans (irmg dX10_drawn_31) (gd_congr fun g1 => ?_)
    refine Eq.trans (go_to (tgt := 36) dX10_drawn_32 (by decide +kernel)) ?_
    exact ret0 dX10_drawn_36 rfl
theorem q_X11_feed_0 {call : CALL} {L X : Nat} {I : Nat → Nat → Int32} {J : Nat → Nat → Int64} {x1 : Int32} {x2 : Int32} {x3 : Int32} {x4 : Int32} {x5 : Int32} : runI call iX11_feed (0, [some (.ref 0), some (.int x1), some (.int x2), some (.int x3), some (.int x4), some (.int x5)], [], (mm L X I J)) = bnd (call nX7_hasRoom [.ref 1] (mm L X I J)) (fun v m' => runI call iX11_feed (7, [some (.ref 0), some (.int x1), some (.int x2), some (.int x3), some (.int x4), some (.int x5)], v.toList ++ [], m')) := by
  refine Eq.trans (st1 dX11_feed_0 rfl rfl) ?_
  refine Eq.trans (getRm dX11_feed_1 cp_11_10 ka_0 rfl r_0_0) ?_
  exact iv0 dX11_feed_4 rfl cp_11_109 rfl rfl (kd_ka ka_1) ka_1.1 (Nat.le_of_ble_eq_true rfl)
theorem q_X11_feed_7 {call : CALL} {L X : Nat} {I : Nat → Nat → Int32} {J : Nat → Nat → Int64} {x1 : Int32} {x2 : Int32} {x3 : Int32} {x4 : Int32} {x5 : Int32} {s0 : Int32} : runI call iX11_feed (7, [some (.ref 0), some (.int x1), some (.int x2), some (.int x3), some (.int x4), some (.int x5)], [.int s0], (mm L X I J)) = if s0 = (nI 0) then some (.inl (some (.int (-1 : Int32))), (mm L X I J)) else bnd (call nX7_append [.ref 1, .int x1] (mm L X I J)) (fun v m' => runI call iX11_feed (20, [some (.ref 0), some (.int x1), some (.int x2), some (.int x3), some (.int x4), some (.int x5)], v.toList ++ [], m')) := by
  refine Eq.trans (if_ne (tgt := 12) dX11_feed_7 (by decide +kernel)) (ite_cong (fun _ => ?_) (fun _ => ?_))
  · refine Eq.trans (xiconst dX11_feed_10 ci_m1) ?_
    exact ret0 dX11_feed_11 rfl
  · refine Eq.trans (st1 dX11_feed_12 rfl rfl) ?_
    refine Eq.trans (getRm dX11_feed_13 cp_11_10 ka_0 rfl r_0_0) ?_
    refine Eq.trans (st1 dX11_feed_16 rfl rfl) ?_
    exact iv0 dX11_feed_17 rfl cp_11_113 rfl rfl (kd_ka ka_1) ka_1.1 (Nat.le_of_ble_eq_true rfl)
theorem q_X11_feed_20 {call : CALL} {L X : Nat} {I : Nat → Nat → Int32} {J : Nat → Nat → Int64} {u1 : Option Value} {x2 : Int32} {x3 : Int32} {x4 : Int32} {x5 : Int32} : runI call iX11_feed (20, [some (.ref 0), u1, some (.int x2), some (.int x3), some (.int x4), some (.int x5)], [], (mm L X I J)) = bnd (call nX7_append [.ref 1, .int x2] (mm L X I J)) (fun v m' => runI call iX11_feed (28, [some (.ref 0), u1, some (.int x2), some (.int x3), some (.int x4), some (.int x5)], v.toList ++ [], m')) := by
  refine Eq.trans (st1 dX11_feed_20 rfl rfl) ?_
  refine Eq.trans (getRm dX11_feed_21 cp_11_10 ka_0 rfl r_0_0) ?_
  refine Eq.trans (st1 dX11_feed_24 rfl rfl) ?_
  exact iv0 dX11_feed_25 rfl cp_11_113 rfl rfl (kd_ka ka_1) ka_1.1 (Nat.le_of_ble_eq_true rfl)
theorem q_X11_feed_28 {call : CALL} {L X : Nat} {I : Nat → Nat → Int32} {J : Nat → Nat → Int64} {u1 : Option Value} {u2 : Option Value} {x3 : Int32} {x4 : Int32} {x5 : Int32} : runI call iX11_feed (28, [some (.ref 0), u1, u2, some (.int x3), some (.int x4), some (.int x5)], [], (mm L X I J)) = bnd (call nX7_append [.ref 1, .int x3] (mm L X I J)) (fun v m' => runI call iX11_feed (36, [some (.ref 0), u1, u2, some (.int x3), some (.int x4), some (.int x5)], v.toList ++ [], m')) := by
  refine Eq.trans (st1 dX11_feed_28 rfl rfl) ?_
  refine Eq.trans (getRm dX11_feed_29 cp_11_10 ka_0 rfl r_0_0) ?_
  refine Eq.trans (st1 dX11_feed_32 rfl rfl) ?_
  exact iv0 dX11_feed_33 rfl cp_11_113 rfl rfl (kd_ka ka_1) ka_1.1 (Nat.le_of_ble_eq_true rfl)
theorem q_X11_feed_36 {call : CALL} {L X : Nat} {I : Nat → Nat → Int32} {J : Nat → Nat → Int64} {u1 : Option Value} {u2 : Option Value} {u3 : Option Value} {x4 : Int32} {x5 : Int32} : runI call iX11_feed (36, [some (.ref 0), u1, u2, u3, some (.int x4), some (.int x5)], [], (mm L X I J)) = bnd (call nX7_append [.ref 1, .int x4] (mm L X I J)) (fun v m' => runI call iX11_feed (45, [some (.ref 0), u1, u2, u3, some (.int x4), some (.int x5)], v.toList ++ [], m')) := by
  refine Eq.trans (st1 dX11_feed_36 rfl rfl) ?_
  refine Eq.trans (getRm dX11_feed_37 cp_11_10 ka_0 rfl r_0_0) ?_
  refine Eq.trans (st1 dX11_feed_40 rfl rfl) ?_
  exact iv0 dX11_feed_42 rfl cp_11_113 rfl rfl (kd_ka ka_1) ka_1.1 (Nat.le_of_ble_eq_true rfl)
theorem q_X11_feed_45 {call : CALL} {L X : Nat} {I : Nat → Nat → Int32} {J : Nat → Nat → Int64} {u1 : Option Value} {u2 : Option Value} {u3 : Option Value} {u4 : Option Value} {x5 : Int32} : runI call iX11_feed (45, [some (.ref 0), u1, u2, u3, u4, some (.int x5)], [], (mm L X I J)) = bnd (call nX7_append [.ref 1, .int x5] (mm L X I J)) (fun v m' => runI call iX11_feed (54, [some (.ref 0), u1, u2, u3, u4, some (.int x5)], v.toList ++ [], m')) := by
  refine Eq.trans (st1 dX11_feed_45 rfl rfl) ?_
  refine Eq.trans (getRm dX11_feed_46 cp_11_10 ka_0 rfl r_0_0) ?_
  refine Eq.trans (st1 dX11_feed_49 rfl rfl) ?_
  exact iv0 dX11_feed_51 rfl cp_11_113 rfl rfl (kd_ka ka_1) ka_1.1 (Nat.le_of_ble_eq_true rfl)
theorem q_X11_feed_54 {call : CALL} {L X : Nat} {I : Nat → Nat → Int32} {J : Nat → Nat → Int64} {u1 : Option Value} {u2 : Option Value} {u3 : Option Value} {u4 : Option Value} {u5 : Option Value} : runI call iX11_feed (54, [some (.ref 0), u1, u2, u3, u4, u5], [], (mm L X I J)) = some (.inl (some (.int (I 1 1))), (mm L X I J)) := by
  refine Eq.trans (st1 dX11_feed_54 rfl rfl) ?_
  refine Eq.trans (getRm dX11_feed_55 cp_11_10 ka_0 rfl r_0_0) ?_
  refine Eq.trans (getIm dX11_feed_58 cp_11_116 ka_1 (.inl rfl)) ?_
  exact ret0 dX11_feed_61 rfl
theorem q_X11_fault_0 {call : CALL} {L X : Nat} {I : Nat → Nat → Int32} {J : Nat → Nat → Int64}  : runI call iX11_fault (0, [some (.ref 0)], [], (mm L X I J)) = some (.inl (some (.int (I 1 3))), (mm L X I J)) := by
  refine Eq.trans (st1 dX11_fault_0 rfl rfl) ?_
  refine Eq.trans (getRm dX11_fault_1 cp_11_10 ka_0 rfl r_0_0) ?_
  refine Eq.trans (getIm dX11_fault_4 cp_11_180 ka_1 (.inl rfl)) ?_
  exact ret0 dX11_fault_7 rfl
theorem q_X11_undo_0 {call : CALL} {L X : Nat} {I : Nat → Nat → Int32} {J : Nat → Nat → Int64}  : runI call iX11_undo (0, [some (.ref 0)], [], (mm L X I J)) = if (nI 0) < (I 48 3) then bnd (call nX4_pop [.ref 48, .ref 43] (mm L X I J)) (fun v m' => runI call iX11_undo (23, [some (.ref 0)], v.toList ++ [], m')) else some (.inl (some (.int (-1 : Int32))), (mm L X I J)) := by
  refine Eq.trans (st1 dX11_undo_0 rfl rfl) ?_
  refine Eq.trans (getRm dX11_undo_1 cp_11_63 ka_0 rfl r_0_9) ?_
  refine Eq.trans (getIm dX11_undo_4 cp_11_183 ka_48 (.inl rfl)) ?_
  refine Eq.trans (if_gt (tgt := 12) dX11_undo_7 (by decide +kernel)) (ite_cong (fun _ => ?_) (fun _ => ?_))
  · refine Eq.trans (st1 dX11_undo_12 rfl rfl) ?_
    refine Eq.trans (getRm dX11_undo_13 cp_11_63 ka_0 rfl r_0_9) ?_
    refine Eq.trans (st1 dX11_undo_16 rfl rfl) ?_
    refine Eq.trans (getRm dX11_undo_17 cp_11_56 ka_0 rfl r_0_8) ?_
    exact iv0 dX11_undo_20 rfl cp_11_186 rfl rfl (kd_ka ka_48) ka_48.1 (Nat.le_of_ble_eq_true rfl)
  · refine Eq.trans (xiconst dX11_undo_10 ci_m1) ?_
    exact ret0 dX11_undo_11 rfl
theorem q_X11_undo_23 {call : CALL} {L X : Nat} {I : Nat → Nat → Int32} {J : Nat → Nat → Int64}  : runI call iX11_undo (23, [some (.ref 0)], [], (mm L X I J)) = bnd (call nX5_forgetShort [.ref 56] (mm L X (up2 I 37 7 (nI 0)) J)) (fun v m' => runI call iX11_undo (38, [some (.ref 0)], v.toList ++ [], m')) := by
  refine Eq.trans (st1 dX11_undo_23 rfl rfl) ?_
  refine Eq.trans (getRm dX11_undo_24 cp_11_49 ka_0 rfl r_0_7) ?_
  refine Eq.trans (xiconst dX11_undo_27 ci_0) ?_
  refine Eq.trans (putIm dX11_undo_28 cp_11_143 ka_37 rfl) ?_
  refine Eq.trans (st1 dX11_undo_31 rfl rfl) ?_
  refine Eq.trans (getRm dX11_undo_32 cp_11_81 ka_0 rfl r_0_11) ?_
  exact iv0 dX11_undo_35 rfl cp_11_156 rfl rfl (kd_ka ka_56) ka_56.1 (Nat.le_of_ble_eq_true rfl)
theorem q_X11_undo_38 {call : CALL} {L X : Nat} {I : Nat → Nat → Int32} {J : Nat → Nat → Int64}  : runI call iX11_undo (38, [some (.ref 0)], [], (mm L X I J)) = some (.inl (some (.int (I 48 3))), (mm L X I J)) := by
  refine Eq.trans (st1 dX11_undo_38 rfl rfl) ?_
  refine Eq.trans (getRm dX11_undo_39 cp_11_63 ka_0 rfl r_0_9) ?_
  refine Eq.trans (getIm dX11_undo_42 cp_11_183 ka_48 (.inl rfl)) ?_
  exact ret0 dX11_undo_45 rfl
theorem q_X11_wed_0 {call : CALL} {L X : Nat} {I : Nat → Nat → Int32} {J : Nat → Nat → Int64}  : runI call iX11_wed (0, [some (.ref 0)], [], (mm L X I J)) = bnd (call nX5_mostPairs [.ref 56] (mm L X I J)) (fun v m' => runI call iX11_wed (7, [some (.ref 0)], v.toList ++ [], m')) := by
  refine Eq.trans (st1 dX11_wed_0 rfl rfl) ?_
  refine Eq.trans (getRm dX11_wed_1 cp_11_81 ka_0 rfl r_0_11) ?_
  exact iv0 dX11_wed_4 rfl cp_11_370 rfl rfl (kd_ka ka_56) ka_56.1 (Nat.le_of_ble_eq_true rfl)
theorem q_X11_wed_7 {call : CALL} {L X : Nat} {I : Nat → Nat → Int32} {J : Nat → Nat → Int64} {u0 : Option Value} {s0 : Int32} : runI call iX11_wed (7, [u0], [.int s0], (mm L X I J)) = some (.inl (some (.int s0)), (mm L X I J)) := by
  exact ret0 dX11_wed_7 rfl
theorem q_X11_bit_0 {call : CALL} {L X : Nat} {I : Nat → Nat → Int32} {J : Nat → Nat → Int64} {x0 : Int32} {x1 : Int32} : runI call iX11_bit (0, [some (.int x0), some (.int x1)], [], (mm L X I J)) = some (.inl (some (.int ((x0 >>> (x1 &&& 31)) &&& (nI 1)))), (mm L X I J)) := by
  refine Eq.trans (st1 dX11_bit_0 rfl rfl) ?_
  refine Eq.trans (st1 dX11_bit_1 rfl rfl) ?_
  refine Eq.trans (st1 dX11_bit_2 rfl rfl) ?_
  refine Eq.trans (xiconst dX11_bit_3 ci_1) ?_
  refine Eq.trans (st1 dX11_bit_4 rfl rfl) ?_
  exact ret0 dX11_bit_5 rfl
theorem q_X11_pick_0 {call : CALL} {L X : Nat} {I : Nat → Nat → Int32} {J : Nat → Nat → Int64} {r0 : Nat} {n0 : Nat} {x1 : Int32} (k0 : ka r0 1 n0) : runI call iX11_pick (0, [some (.ref r0), some (.int x1)], [], (mm L X I J)) = if x1 < (nI 0) then some (.inl (some (.int (nI 0))), (mm L X I J)) else if (nI n0) ≤ x1 then some (.inl (some (.int (nI 0))), (mm L X I J)) else gd (inb x1 n0) (some (.inl (some (.int (I r0 (x1).toNatClampNeg))), (mm L X I J))) := by
  refine Eq.trans (st1 dX11_pick_0 rfl rfl) ?_
  refine Eq.trans (if_lt (tgt := 16) dX11_pick_1 (by decide +kernel)) (ite_cong (fun _ => ?_) (fun _ => ?_))
  · refine Eq.trans (xiconst dX11_pick_16 ci_0) ?_
    exact ret0 dX11_pick_17 rfl
  · refine Eq.trans (st1 dX11_pick_4 rfl rfl) ?_
    refine Eq.trans (st1 dX11_pick_5 rfl rfl) ?_
    refine Eq.trans (alen dX11_pick_6 (kd_ka k0) (.inl ⟨k0.1, by decide⟩)) ?_
    refine Eq.trans (ic_ge (tgt := 16) dX11_pick_7 (by decide +kernel)) (ite_cong (fun _ => ?_) (fun _ => ?_))
    · refine Eq.trans (xiconst dX11_pick_16 ci_0) ?_
      exact ret0 dX11_pick_17 rfl
    · refine Eq.trans (st1 dX11_pick_10 rfl rfl) ?_
      refine Eq.trans (st1 dX11_pick_11 rfl rfl) ?_
      refine Eq.trans (al1m dX11_pick_12 k0) (gd_congr fun g1 => ?_)
      refine Eq.trans (go_to (tgt := 17) dX11_pick_13 (by decide +kernel)) ?_
      exact ret0 dX11_pick_17 rfl
theorem q_X11_image_0 {call : CALL} {L X : Nat} {I : Nat → Nat → Int32} {J : Nat → Nat → Int64}  : runI call iX11_image (0, [some (.ref 0)], [], (mm L X I J)) = bnd (call nX4_canKeep [.ref 48] (mm L X I J)) (fun v m' => runI call iX11_image (7, [some (.ref 0)], v.toList ++ [], m')) := by
  refine Eq.trans (st1 dX11_image_0 rfl rfl) ?_
  refine Eq.trans (getRm dX11_image_1 cp_11_63 ka_0 rfl r_0_9) ?_
  exact iv0 dX11_image_4 rfl cp_11_422 rfl rfl (kd_ka ka_48) ka_48.1 (Nat.le_of_ble_eq_true rfl)
theorem q_X11_image_7 {call : CALL} {L X : Nat} {I : Nat → Nat → Int32} {J : Nat → Nat → Int64} {s0 : Int32} : runI call iX11_image (7, [some (.ref 0)], [.int s0], (mm L X I J)) = if s0 = (nI 0) then some (.inl (some (.int (-1 : Int32))), (mm L X I J)) else bnd (call nX4_keep [.ref 48, .ref 43] (mm L X I J)) (fun v m' => runI call iX11_image (23, [some (.ref 0)], v.toList ++ [], m')) := by
  refine Eq.trans (if_ne (tgt := 12) dX11_image_7 (by decide +kernel)) (ite_cong (fun _ => ?_) (fun _ => ?_))
  · refine Eq.trans (xiconst dX11_image_10 ci_m1) ?_
    exact ret0 dX11_image_11 rfl
  · refine Eq.trans (st1 dX11_image_12 rfl rfl) ?_
    refine Eq.trans (getRm dX11_image_13 cp_11_63 ka_0 rfl r_0_9) ?_
    refine Eq.trans (st1 dX11_image_16 rfl rfl) ?_
    refine Eq.trans (getRm dX11_image_17 cp_11_56 ka_0 rfl r_0_8) ?_
    exact iv0 dX11_image_20 rfl cp_11_425 rfl rfl (kd_ka ka_48) ka_48.1 (Nat.le_of_ble_eq_true rfl)
theorem q_X11_image_23 {call : CALL} {L X : Nat} {I : Nat → Nat → Int32} {J : Nat → Nat → Int64}  : runI call iX11_image (23, [some (.ref 0)], [], (mm L X I J)) = some (.inl (some (.int (I 48 4))), (mm L X I J)) := by
  refine Eq.trans (st1 dX11_image_23 rfl rfl) ?_
  refine Eq.trans (getRm dX11_image_24 cp_11_63 ka_0 rfl r_0_9) ?_
  refine Eq.trans (getIm dX11_image_27 cp_11_428 ka_48 (.inl rfl)) ?_
  exact ret0 dX11_image_30 rfl
theorem q_X11_restore_0 {call : CALL} {L X : Nat} {I : Nat → Nat → Int32} {J : Nat → Nat → Int64}  : runI call iX11_restore (0, [some (.ref 0)], [], (mm L X I J)) = if (nI 0) < (I 48 4) then bnd (call nX4_bringBack [.ref 48, .ref 43] (mm L X I J)) (fun v m' => runI call iX11_restore (23, [some (.ref 0)], v.toList ++ [], m')) else some (.inl (some (.int (-1 : Int32))), (mm L X I J)) := by
  refine Eq.trans (st1 dX11_restore_0 rfl rfl) ?_
  refine Eq.trans (getRm dX11_restore_1 cp_11_63 ka_0 rfl r_0_9) ?_
  refine Eq.trans (getIm dX11_restore_4 cp_11_428 ka_48 (.inl rfl)) ?_
  refine Eq.trans (if_gt (tgt := 12) dX11_restore_7 (by decide +kernel)) (ite_cong (fun _ => ?_) (fun _ => ?_))
  · refine Eq.trans (st1 dX11_restore_12 rfl rfl) ?_
    refine Eq.trans (getRm dX11_restore_13 cp_11_63 ka_0 rfl r_0_9) ?_
    refine Eq.trans (st1 dX11_restore_16 rfl rfl) ?_
    refine Eq.trans (getRm dX11_restore_17 cp_11_56 ka_0 rfl r_0_8) ?_
    exact iv0 dX11_restore_20 rfl cp_11_431 rfl rfl (kd_ka ka_48) ka_48.1 (Nat.le_of_ble_eq_true rfl)
  · refine Eq.trans (xiconst dX11_restore_10 ci_m1) ?_
    exact ret0 dX11_restore_11 rfl
theorem q_X11_restore_23 {call : CALL} {L X : Nat} {I : Nat → Nat → Int32} {J : Nat → Nat → Int64}  : runI call iX11_restore (23, [some (.ref 0)], [], (mm L X I J)) = bnd (call nX5_forgetShort [.ref 56] (mm L X (up2 I 37 7 (nI 0)) J)) (fun v m' => runI call iX11_restore (38, [some (.ref 0)], v.toList ++ [], m')) := by
  refine Eq.trans (st1 dX11_restore_23 rfl rfl) ?_
  refine Eq.trans (getRm dX11_restore_24 cp_11_49 ka_0 rfl r_0_7) ?_
  refine Eq.trans (xiconst dX11_restore_27 ci_0) ?_
  refine Eq.trans (putIm dX11_restore_28 cp_11_143 ka_37 rfl) ?_
  refine Eq.trans (st1 dX11_restore_31 rfl rfl) ?_
  refine Eq.trans (getRm dX11_restore_32 cp_11_81 ka_0 rfl r_0_11) ?_
  exact iv0 dX11_restore_35 rfl cp_11_156 rfl rfl (kd_ka ka_56) ka_56.1 (Nat.le_of_ble_eq_true rfl)
theorem q_X11_restore_38 {call : CALL} {L X : Nat} {I : Nat → Nat → Int32} {J : Nat → Nat → Int64}  : runI call iX11_restore (38, [some (.ref 0)], [], (mm L X I J)) = some (.inl (some (.int (I 48 4))), (mm L X I J)) := by
  refine Eq.trans (st1 dX11_restore_38 rfl rfl) ?_
  refine Eq.trans (getRm dX11_restore_39 cp_11_63 ka_0 rfl r_0_9) ?_
  refine Eq.trans (getIm dX11_restore_42 cp_11_428 ka_48 (.inl rfl)) ?_
  exact ret0 dX11_restore_45 rfl
theorem q_X11_status_0 {call : CALL} {L X : Nat} {I : Nat → Nat → Int32} {J : Nat → Nat → Int64} {x1 : Int32} : runI call iX11_status (0, [some (.ref 0), some (.int x1)], [], (mm L X I J)) = if x1 = (nI 0) then some (.inl (some (.int (I 0 14))), (mm L X I J)) else if x1 = (nI 1) then some (.inl (some (.int (I 0 15))), (mm L X I J)) else some (.inl (some (.int (-1 : Int32))), (mm L X I J)) := by
  refine Eq.trans (st1 dX11_status_0 rfl rfl) ?_
  refine Eq.trans (if_ne (tgt := 11) dX11_status_1 (by decide +kernel)) (ite_cong (fun _ => ?_) (fun _ => ?_))
  · refine Eq.trans (st1 dX11_status_4 rfl rfl) ?_
    refine Eq.trans (getIm dX11_status_5 cp_11_434 ka_0 (.inl rfl)) ?_
    refine Eq.trans (go_to (tgt := 24) dX11_status_8 (by decide +kernel)) ?_
    exact ret0 dX11_status_24 rfl
  · refine Eq.trans (st1 dX11_status_11 rfl rfl) ?_
    refine Eq.trans (xiconst dX11_status_12 ci_1) ?_
    refine Eq.trans (ic_ne (tgt := 23) dX11_status_13 (by decide +kernel)) (ite_cong (fun _ => ?_) (fun _ => ?_))
    · refine Eq.trans (st1 dX11_status_16 rfl rfl) ?_
      refine Eq.trans (getIm dX11_status_17 cp_11_437 ka_0 (.inl rfl)) ?_
      refine Eq.trans (go_to (tgt := 24) dX11_status_20 (by decide +kernel)) ?_
      exact ret0 dX11_status_24 rfl
    · refine Eq.trans (xiconst dX11_status_23 ci_m1) ?_
      exact ret0 dX11_status_24 rfl
theorem q_X11_count_0 {call : CALL} {L X : Nat} {I : Nat → Nat → Int32} {J : Nat → Nat → Int64} {x1 : Int32} : runI call iX11_count (0, [some (.ref 0), some (.int x1)], [], (mm L X I J)) = runI call iX11_count (1, [some (.ref 0), some (.int x1)], [.int x1], (mm L X I J)) := by
  refine Eq.trans (st1 dX11_count_0 rfl rfl) ?_
  rfl
theorem q_X11_count_1 {call : CALL} {L X : Nat} {I : Nat → Nat → Int32} {J : Nat → Nat → Int64} {u1 : Option Value} {s0 : Int32} : runI call iX11_count (1, [some (.ref 0), u1], [.int s0], (mm L X I J)) = if s0 = (nI 0) then runI call iX11_count (28, [some (.ref 0), u1], [], (mm L X I J)) else if s0 = (nI 1) then runI call iX11_count (36, [some (.ref 0), u1], [], (mm L X I J)) else if s0 = (nI 2) then runI call iX11_count (44, [some (.ref 0), u1], [], (mm L X I J)) else runI call iX11_count (52, [some (.ref 0), u1], [], (mm L X I J)) := by
  refine ite_cong2 (fun e0 => sw_t dX11_count_1 (by rw [e0]; decide +kernel)) (fun e0 => ?_)
  refine ite_cong2 (fun e1 => sw_t dX11_count_1 (by rw [e1]; decide +kernel)) (fun e1 => ?_)
  refine ite_cong2 (fun e2 => sw_t dX11_count_1 (by rw [e2]; decide +kernel)) (fun e2 => ?_)
  exact sw_t dX11_count_1 (swT_dflt (vs := [(0 : Int), (1 : Int), (2 : Int)]) (by decide +kernel) (fun v hv => by simp only [List.mem_cons, List.not_mem_nil, or_false] at hv; rcases hv with rfl | rfl | rfl <;> first | exact ne_toInt (by decide +kernel) e0 | exact ne_toInt (by decide +kernel) e1 | exact ne_toInt (by decide +kernel) e2))
theorem q_X11_count_28 {call : CALL} {L X : Nat} {I : Nat → Nat → Int32} {J : Nat → Nat → Int64} {u1 : Option Value} : runI call iX11_count (28, [some (.ref 0), u1], [], (mm L X I J)) = some (.inl (some (.int (I 48 4))), (mm L X I J)) := by
  refine Eq.trans (st1 dX11_count_28 rfl rfl) ?_
  refine Eq.trans (getRm dX11_count_29 cp_11_63 ka_0 rfl r_0_9) ?_
  refine Eq.trans (getIm dX11_count_32 cp_11_428 ka_48 (.inl rfl)) ?_
  exact ret0 dX11_count_35 rfl
theorem q_X11_count_36 {call : CALL} {L X : Nat} {I : Nat → Nat → Int32} {J : Nat → Nat → Int64} {u1 : Option Value} : runI call iX11_count (36, [some (.ref 0), u1], [], (mm L X I J)) = some (.inl (some (.int (I 1 1))), (mm L X I J)) := by
  refine Eq.trans (st1 dX11_count_36 rfl rfl) ?_
  refine Eq.trans (getRm dX11_count_37 cp_11_10 ka_0 rfl r_0_0) ?_
  refine Eq.trans (getIm dX11_count_40 cp_11_116 ka_1 (.inl rfl)) ?_
  exact ret0 dX11_count_43 rfl
theorem q_X11_count_44 {call : CALL} {L X : Nat} {I : Nat → Nat → Int32} {J : Nat → Nat → Int64} {u1 : Option Value} : runI call iX11_count (44, [some (.ref 0), u1], [], (mm L X I J)) = some (.inl (some (.int (I 48 3))), (mm L X I J)) := by
  refine Eq.trans (st1 dX11_count_44 rfl rfl) ?_
  refine Eq.trans (getRm dX11_count_45 cp_11_63 ka_0 rfl r_0_9) ?_
  refine Eq.trans (getIm dX11_count_48 cp_11_183 ka_48 (.inl rfl)) ?_
  exact ret0 dX11_count_51 rfl
theorem q_X11_count_52 {call : CALL} {L X : Nat} {I : Nat → Nat → Int32} {J : Nat → Nat → Int64} {u0 : Option Value} {u1 : Option Value} : runI call iX11_count (52, [u0, u1], [], (mm L X I J)) = some (.inl (some (.int (-1 : Int32))), (mm L X I J)) := by
  refine Eq.trans (xiconst dX11_count_52 ci_m1) ?_
  exact ret0 dX11_count_53 rfl
theorem q_X11_house_0 {call : CALL} {L X : Nat} {I : Nat → Nat → Int32} {J : Nat → Nat → Int64} {x1 : Int32} : runI call iX11_house (0, [some (.ref 0), some (.int x1)], [], (mm L X I J)) = bnd (call nX11_open [.ref 0, .int x1, .int (nI 600)] (mm L X I J)) (fun v m' => runI call iX11_house (8, [some (.ref 0), some (.int x1)], v.toList ++ [], m')) := by
  refine Eq.trans (st1 dX11_house_0 rfl rfl) ?_
  refine Eq.trans (st1 dX11_house_1 rfl rfl) ?_
  refine Eq.trans (xsipush dX11_house_2 cs_600) ?_
  exact iv0 dX11_house_5 rfl cp_11_119 rfl rfl (kd_ka ka_0) ka_0.1 (Nat.le_of_ble_eq_true rfl)
theorem q_X11_house_8 {call : CALL} {L X : Nat} {I : Nat → Nat → Int32} {J : Nat → Nat → Int64} {u1 : Option Value} : runI call iX11_house (8, [some (.ref 0), u1], [], (mm L X I J)) = bnd (call nX1_readFrom [.ref 13, .ref 1] (mm L X I J)) (fun v m' => runI call iX11_house (19, [some (.ref 0), u1], v.toList ++ [], m')) := by
  refine Eq.trans (st1 dX11_house_8 rfl rfl) ?_
  refine Eq.trans (getRm dX11_house_9 cp_11_23 ka_0 rfl r_0_2) ?_
  refine Eq.trans (st1 dX11_house_12 rfl rfl) ?_
  refine Eq.trans (getRm dX11_house_13 cp_11_10 ka_0 rfl r_0_0) ?_
  exact iv0 dX11_house_16 rfl cp_11_123 rfl rfl (kd_ka ka_13) ka_13.1 (Nat.le_of_ble_eq_true rfl)
theorem q_X11_house_19 {call : CALL} {L X : Nat} {I : Nat → Nat → Int32} {J : Nat → Nat → Int64} {u1 : Option Value} {s0 : Int32} : runI call iX11_house (19, [some (.ref 0), u1], [.int s0], (mm L X I J)) = if s0 = (nI 0) then some (.inl (some (.int ((I 1 2) - (nI 10)))), (mm L X I J)) else bnd (call nX1_become [.ref 3, .ref 13] (mm L X I J)) (fun v m' => runI call iX11_house (44, [some (.ref 0), u1], v.toList ++ [], m')) := by
  refine Eq.trans (if_ne (tgt := 33) dX11_house_19 (by decide +kernel)) (ite_cong (fun _ => ?_) (fun _ => ?_))
  · refine Eq.trans (st1 dX11_house_22 rfl rfl) ?_
    refine Eq.trans (getRm dX11_house_23 cp_11_10 ka_0 rfl r_0_0) ?_
    refine Eq.trans (getIm dX11_house_26 cp_11_127 ka_1 (.inl rfl)) ?_
    refine Eq.trans (xbipush dX11_house_29 cb_10) ?_
    refine Eq.trans (st1 dX11_house_31 rfl rfl) ?_
    exact ret0 dX11_house_32 rfl
  · refine Eq.trans (st1 dX11_house_33 rfl rfl) ?_
    refine Eq.trans (getRm dX11_house_34 cp_11_19 ka_0 rfl r_0_1) ?_
    refine Eq.trans (st1 dX11_house_37 rfl rfl) ?_
    refine Eq.trans (getRm dX11_house_38 cp_11_23 ka_0 rfl r_0_2) ?_
    exact iv0 dX11_house_41 rfl cp_11_130 rfl rfl (kd_ka ka_3) ka_3.1 (Nat.le_of_ble_eq_true rfl)
theorem q_X11_house_44 {call : CALL} {L X : Nat} {I : Nat → Nat → Int32} {J : Nat → Nat → Int64} {u1 : Option Value} : runI call iX11_house (44, [some (.ref 0), u1], [], (mm L X I J)) = bnd (call nX2_beUntold [.ref 23] (mm L X I J)) (fun v m' => runI call iX11_house (51, [some (.ref 0), u1], v.toList ++ [], m')) := by
  refine Eq.trans (st1 dX11_house_44 rfl rfl) ?_
  refine Eq.trans (getRm dX11_house_45 cp_11_29 ka_0 rfl r_0_3) ?_
  exact iv0 dX11_house_48 rfl cp_11_134 rfl rfl (kd_ka ka_23) ka_23.1 (Nat.le_of_ble_eq_true rfl)
theorem q_X11_house_51 {call : CALL} {L X : Nat} {I : Nat → Nat → Int32} {J : Nat → Nat → Int64} {u1 : Option Value} : runI call iX11_house (51, [some (.ref 0), u1], [], (mm L X I J)) = bnd (call nX0_clear [.ref 31] (mm L X I J)) (fun v m' => runI call iX11_house (58, [some (.ref 0), u1], v.toList ++ [], m')) := by
  refine Eq.trans (st1 dX11_house_51 rfl rfl) ?_
  refine Eq.trans (getRm dX11_house_52 cp_11_39 ka_0 rfl r_0_5) ?_
  exact iv0 dX11_house_55 rfl cp_11_137 rfl rfl (kd_ka ka_31) ka_31.1 (Nat.le_of_ble_eq_true rfl)
theorem q_X11_house_58 {call : CALL} {L X : Nat} {I : Nat → Nat → Int32} {J : Nat → Nat → Int64} {u1 : Option Value} : runI call iX11_house (58, [some (.ref 0), u1], [], (mm L X I J)) = bnd (call nX4_forget [.ref 48] (mm L X I J)) (fun v m' => runI call iX11_house (65, [some (.ref 0), u1], v.toList ++ [], m')) := by
  refine Eq.trans (st1 dX11_house_58 rfl rfl) ?_
  refine Eq.trans (getRm dX11_house_59 cp_11_63 ka_0 rfl r_0_9) ?_
  exact iv0 dX11_house_62 rfl cp_11_140 rfl rfl (kd_ka ka_48) ka_48.1 (Nat.le_of_ble_eq_true rfl)
theorem q_X11_house_65 {call : CALL} {L X : Nat} {I : Nat → Nat → Int32} {J : Nat → Nat → Int64} {u1 : Option Value} : runI call iX11_house (65, [some (.ref 0), u1], [], (mm L X I J)) = bnd (call nX3_begin [.ref 43, .int (I 3 3)] (mm L X I J)) (fun v m' => runI call iX11_house (79, [some (.ref 0), u1], v.toList ++ [], m')) := by
  refine Eq.trans (st1 dX11_house_65 rfl rfl) ?_
  refine Eq.trans (getRm dX11_house_66 cp_11_56 ka_0 rfl r_0_8) ?_
  refine Eq.trans (st1 dX11_house_69 rfl rfl) ?_
  refine Eq.trans (getRm dX11_house_70 cp_11_19 ka_0 rfl r_0_1) ?_
  refine Eq.trans (getIm dX11_house_73 cp_11_101 ka_3 (.inl rfl)) ?_
  exact iv0 dX11_house_76 rfl cp_11_105 rfl rfl (kd_ka ka_43) ka_43.1 (Nat.le_of_ble_eq_true rfl)
theorem q_X11_house_79 {call : CALL} {L X : Nat} {I : Nat → Nat → Int32} {J : Nat → Nat → Int64} {u1 : Option Value} : runI call iX11_house (79, [some (.ref 0), u1], [], (mm L X I J)) = bnd (call nX5_forgetHouse [.ref 56] (mm L X (up2 I 37 7 (nI 0)) J)) (fun v m' => runI call iX11_house (94, [some (.ref 0), u1], v.toList ++ [], m')) := by
  refine Eq.trans (st1 dX11_house_79 rfl rfl) ?_
  refine Eq.trans (getRm dX11_house_80 cp_11_49 ka_0 rfl r_0_7) ?_
  refine Eq.trans (xiconst dX11_house_83 ci_0) ?_
  refine Eq.trans (putIm dX11_house_84 cp_11_143 ka_37 rfl) ?_
  refine Eq.trans (st1 dX11_house_87 rfl rfl) ?_
  refine Eq.trans (getRm dX11_house_88 cp_11_81 ka_0 rfl r_0_11) ?_
  exact iv0 dX11_house_91 rfl cp_11_146 rfl rfl (kd_ka ka_56) ka_56.1 (Nat.le_of_ble_eq_true rfl)
theorem q_X11_house_94 {call : CALL} {L X : Nat} {I : Nat → Nat → Int32} {J : Nat → Nat → Int64} {u1 : Option Value} : runI call iX11_house (94, [some (.ref 0), u1], [], (mm L X I J)) = some (.inl (some (.int (I 3 0))), (mm L X I J)) := by
  refine Eq.trans (st1 dX11_house_94 rfl rfl) ?_
  refine Eq.trans (getRm dX11_house_95 cp_11_19 ka_0 rfl r_0_1) ?_
  refine Eq.trans (getIm dX11_house_98 cp_11_149 ka_3 (.inl rfl)) ?_
  exact ret0 dX11_house_101 rfl
theorem q_X11_open_0 {call : CALL} {L X : Nat} {I : Nat → Nat → Int32} {J : Nat → Nat → Int64} {x1 : Int32} {x2 : Int32} : runI call iX11_open (0, [some (.ref 0), some (.int x1), some (.int x2)], [], (mm L X I J)) = if x1 < (nI 0) then runI call iX11_open (25, [some (.ref 0), some (.int x1), some (.int x2)], [.ref 0], (mm L X I J)) else if x2 < x1 then runI call iX11_open (25, [some (.ref 0), some (.int x1), some (.int x2)], [.ref 0], (mm L X I J)) else if (I 1 1) < x1 then runI call iX11_open (25, [some (.ref 0), some (.int x1), some (.int x2)], [.ref 0], (mm L X I J)) else runI call iX11_open (26, [some (.ref 0), some (.int x1), some (.int x2)], [.int (nI 1), .ref 0], (mm L X I J)) := by
  refine Eq.trans (st1 dX11_open_0 rfl rfl) ?_
  refine Eq.trans (st1 dX11_open_1 rfl rfl) ?_
  refine Eq.trans (if_lt (tgt := 25) dX11_open_2 (by decide +kernel)) (ite_cong (fun _ => ?_) (fun _ => ?_))
  · rfl
  · refine Eq.trans (st1 dX11_open_5 rfl rfl) ?_
    refine Eq.trans (st1 dX11_open_6 rfl rfl) ?_
    refine Eq.trans (ic_gt (tgt := 25) dX11_open_7 (by decide +kernel)) (ite_cong (fun _ => ?_) (fun _ => ?_))
    · rfl
    · refine Eq.trans (st1 dX11_open_10 rfl rfl) ?_
      refine Eq.trans (st1 dX11_open_11 rfl rfl) ?_
      refine Eq.trans (getRm dX11_open_12 cp_11_10 ka_0 rfl r_0_0) ?_
      refine Eq.trans (getIm dX11_open_15 cp_11_116 ka_1 (.inl rfl)) ?_
      refine Eq.trans (ic_gt (tgt := 25) dX11_open_18 (by decide +kernel)) (ite_cong (fun _ => ?_) (fun _ => ?_))
      · rfl
      · refine Eq.trans (xiconst dX11_open_21 ci_1) ?_
        refine Eq.trans (go_to (tgt := 26) dX11_open_22 (by decide +kernel)) ?_
        rfl
theorem q_X11_open_25 {call : CALL} {L X : Nat} {I : Nat → Nat → Int32} {J : Nat → Nat → Int64} {x1 : Int32} {u2 : Option Value} : runI call iX11_open (25, [some (.ref 0), some (.int x1), u2], [.ref 0], (mm L X I J)) = runI call iX11_open (26, [some (.ref 0), some (.int x1), u2], [.int (nI 0), .ref 0], (mm L X I J)) := by
  refine Eq.trans (xiconst dX11_open_25 ci_0) ?_
  rfl
theorem q_X11_open_26 {call : CALL} {L X : Nat} {I : Nat → Nat → Int32} {J : Nat → Nat → Int64} {x1 : Int32} {u2 : Option Value} {s1 : Int32} : runI call iX11_open (26, [some (.ref 0), some (.int x1), u2], [.int s1, .ref 0], (mm L X I J)) = bnd (call nX11_expect [.ref 0, .int s1] (mm L X I J)) (fun v m' => runI call iX11_open (29, [some (.ref 0), some (.int x1), u2], v.toList ++ [], m')) := by
  exact iv0 dX11_open_26 rfl cp_11_193 rfl rfl (kd_ka ka_0) ka_0.1 (Nat.le_of_ble_eq_true rfl)
theorem q_X11_open_29 {call : CALL} {L X : Nat} {I : Nat → Nat → Int32} {J : Nat → Nat → Int64} {x1 : Int32} {u2 : Option Value} : runI call iX11_open (29, [some (.ref 0), some (.int x1), u2], [], (mm L X I J)) = bnd (call nX7_begin [.ref 1, .int x1] (mm L X I J)) (fun v m' => runI call iX11_open (37, [some (.ref 0), some (.int x1), u2], v.toList ++ [], m')) := by
  refine Eq.trans (st1 dX11_open_29 rfl rfl) ?_
  refine Eq.trans (getRm dX11_open_30 cp_11_10 ka_0 rfl r_0_0) ?_
  refine Eq.trans (st1 dX11_open_33 rfl rfl) ?_
  exact iv0 dX11_open_34 rfl cp_11_440 rfl rfl (kd_ka ka_1) ka_1.1 (Nat.le_of_ble_eq_true rfl)
theorem q_X11_open_37 {call : CALL} {L X : Nat} {I : Nat → Nat → Int32} {J : Nat → Nat → Int64} {u0 : Option Value} {u1 : Option Value} {u2 : Option Value} : runI call iX11_open (37, [u0, u1, u2], [], (mm L X I J)) = some (.inl none, (mm L X I J)) := by
  exact ret3 dX11_open_37 (.inl rfl)
theorem q_X11_expect_0 {call : CALL} {L X : Nat} {I : Nat → Nat → Int32} {J : Nat → Nat → Int64} {x1 : Int32} : runI call iX11_expect (0, [some (.ref 0), some (.int x1)], [], (mm L X I J)) = if x1 = (nI 0) then some (.inr 1, mm L (X + 1) (up2 I 0 15 ((I 0 15) + (nI 1))) J) else some (.inl none, (mm L X I J)) := by
  refine Eq.trans (st1 dX11_expect_0 rfl rfl) ?_
  refine Eq.trans (if_ne (tgt := 25) dX11_expect_1 (by decide +kernel)) (ite_cong (fun _ => ?_) (fun _ => ?_))
  · refine Eq.trans (st1 dX11_expect_4 rfl rfl) ?_
    refine Eq.trans (st1 dX11_expect_5 rfl rfl) ?_
    refine Eq.trans (getIm dX11_expect_6 cp_11_437 ka_0 (.inl rfl)) ?_
    refine Eq.trans (xiconst dX11_expect_9 ci_1) ?_
    refine Eq.trans (st1 dX11_expect_10 rfl rfl) ?_
    refine Eq.trans (putIm dX11_expect_11 cp_11_437 ka_0 rfl) ?_
    exact ithr dX11_expect_14 cp_11_441 rfl dX11_expect_17 dX11_expect_18 dX11_expect_21 dX11_expect_24 rfl
  · exact ret3 dX11_expect_25 (.inl rfl)
theorem q_X11_within_0 {call : CALL} {L X : Nat} {I : Nat → Nat → Int32} {J : Nat → Nat → Int64} {x0 : Int32} {x1 : Int32} {x2 : Int32} : runI call iX11_within (0, [some (.int x0), some (.int x1), some (.int x2)], [], (mm L X I J)) = if x0 < x1 then some (.inl (some (.int (nI 0))), (mm L X I J)) else if x2 < x0 then some (.inl (some (.int (nI 0))), (mm L X I J)) else some (.inl (some (.int (nI 1))), (mm L X I J)) := by
  refine Eq.trans (st1 dX11_within_0 rfl rfl) ?_
  refine Eq.trans (st1 dX11_within_1 rfl rfl) ?_
  refine Eq.trans (ic_lt (tgt := 14) dX11_within_2 (by decide +kernel)) (ite_cong (fun _ => ?_) (fun _ => ?_))
  · refine Eq.trans (xiconst dX11_within_14 ci_0) ?_
    exact ret1 dX11_within_15 rfl (.inl rfl)
  · refine Eq.trans (st1 dX11_within_5 rfl rfl) ?_
    refine Eq.trans (st1 dX11_within_6 rfl rfl) ?_
    refine Eq.trans (ic_gt (tgt := 14) dX11_within_7 (by decide +kernel)) (ite_cong (fun _ => ?_) (fun _ => ?_))
    · refine Eq.trans (xiconst dX11_within_14 ci_0) ?_
      exact ret1 dX11_within_15 rfl (.inl rfl)
    · refine Eq.trans (xiconst dX11_within_10 ci_1) ?_
      refine Eq.trans (go_to (tgt := 15) dX11_within_11 (by decide +kernel)) ?_
      exact ret1 dX11_within_15 rfl (.inr rfl)
theorem q_X11_put_0 {call : CALL} {L X : Nat} {I : Nat → Nat → Int32} {J : Nat → Nat → Int64} {r0 : Nat} {n0 : Nat} {x1 : Int32} {x2 : Int32} (k0 : ka r0 1 n0) : runI call iX11_put (0, [some (.ref r0), some (.int x1), some (.int x2)], [], (mm L X I J)) = if x1 < (nI 0) then some (.inl none, (mm L X I J)) else if (nI n0) ≤ x1 then some (.inl none, (mm L X I J)) else gd (inb x1 n0) (some (.inl none, (mm L X (up2 I r0 (x1).toNatClampNeg x2) J))) := by
  refine Eq.trans (st1 dX11_put_0 rfl rfl) ?_
  refine Eq.trans (if_lt (tgt := 14) dX11_put_1 (by decide +kernel)) (ite_cong (fun _ => ?_) (fun _ => ?_))
  · exact ret3 dX11_put_14 (.inl rfl)
  · refine Eq.trans (st1 dX11_put_4 rfl rfl) ?_
    refine Eq.trans (st1 dX11_put_5 rfl rfl) ?_
    refine Eq.trans (alen dX11_put_6 (kd_ka k0) (.inl ⟨k0.1, by decide⟩)) ?_
    refine Eq.trans (ic_ge (tgt := 14) dX11_put_7 (by decide +kernel)) (ite_cong (fun _ => ?_) (fun _ => ?_))
    · exact ret3 dX11_put_14 (.inl rfl)
    · refine Eq.trans (st1 dX11_put_10 rfl rfl) ?_
      refine Eq.trans (st1 dX11_put_11 rfl rfl) ?_
      refine Eq.trans (st1 dX11_put_12 rfl rfl) ?_
      refine Eq.trans (as1m dX11_put_13 k0) (gd_congr fun g1 => ?_)
      exact ret3 dX11_put_14 (.inl rfl)
theorem q_X11_law_0 {call : CALL} {L X : Nat} {I : Nat → Nat → Int32} {J : Nat → Nat → Int64} {x1 : Int32} : runI call iX11_law (0, [some (.ref 0), some (.int x1)], [], (mm L X I J)) = bnd (call nX11_open [.ref 0, .int x1, .int (nI 150)] (mm L X I J)) (fun v m' => runI call iX11_law (8, [some (.ref 0), some (.int x1)], v.toList ++ [], m')) := by
  refine Eq.trans (st1 dX11_law_0 rfl rfl) ?_
  refine Eq.trans (st1 dX11_law_1 rfl rfl) ?_
  refine Eq.trans (xsipush dX11_law_2 cs_150) ?_
  exact iv0 dX11_law_5 rfl cp_11_119 rfl rfl (kd_ka ka_0) ka_0.1 (Nat.le_of_ble_eq_true rfl)
theorem q_X11_law_8 {call : CALL} {L X : Nat} {I : Nat → Nat → Int32} {J : Nat → Nat → Int64} {u1 : Option Value} : runI call iX11_law (8, [some (.ref 0), u1], [], (mm L X I J)) = bnd (call nX2_readFrom [.ref 27, .ref 1] (mm L X I J)) (fun v m' => runI call iX11_law (19, [some (.ref 0), u1], v.toList ++ [], m')) := by
  refine Eq.trans (st1 dX11_law_8 rfl rfl) ?_
  refine Eq.trans (getRm dX11_law_9 cp_11_33 ka_0 rfl r_0_4) ?_
  refine Eq.trans (st1 dX11_law_12 rfl rfl) ?_
  refine Eq.trans (getRm dX11_law_13 cp_11_10 ka_0 rfl r_0_0) ?_
  exact iv0 dX11_law_16 rfl cp_11_152 rfl rfl (kd_ka ka_27) ka_27.1 (Nat.le_of_ble_eq_true rfl)
theorem q_X11_law_19 {call : CALL} {L X : Nat} {I : Nat → Nat → Int32} {J : Nat → Nat → Int64} {u1 : Option Value} {s0 : Int32} : runI call iX11_law (19, [some (.ref 0), u1], [.int s0], (mm L X I J)) = if s0 = (nI 0) then some (.inl (some (.int ((I 1 2) - (nI 10)))), (mm L X I J)) else bnd (call nX2_become [.ref 23, .ref 27] (mm L X I J)) (fun v m' => runI call iX11_law (44, [some (.ref 0), u1], v.toList ++ [], m')) := by
  refine Eq.trans (if_ne (tgt := 33) dX11_law_19 (by decide +kernel)) (ite_cong (fun _ => ?_) (fun _ => ?_))
  · refine Eq.trans (st1 dX11_law_22 rfl rfl) ?_
    refine Eq.trans (getRm dX11_law_23 cp_11_10 ka_0 rfl r_0_0) ?_
    refine Eq.trans (getIm dX11_law_26 cp_11_127 ka_1 (.inl rfl)) ?_
    refine Eq.trans (xbipush dX11_law_29 cb_10) ?_
    refine Eq.trans (st1 dX11_law_31 rfl rfl) ?_
    exact ret0 dX11_law_32 rfl
  · refine Eq.trans (st1 dX11_law_33 rfl rfl) ?_
    refine Eq.trans (getRm dX11_law_34 cp_11_29 ka_0 rfl r_0_3) ?_
    refine Eq.trans (st1 dX11_law_37 rfl rfl) ?_
    refine Eq.trans (getRm dX11_law_38 cp_11_33 ka_0 rfl r_0_4) ?_
    exact iv0 dX11_law_41 rfl cp_11_153 rfl rfl (kd_ka ka_23) ka_23.1 (Nat.le_of_ble_eq_true rfl)
theorem q_X11_law_44 {call : CALL} {L X : Nat} {I : Nat → Nat → Int32} {J : Nat → Nat → Int64} {u1 : Option Value} : runI call iX11_law (44, [some (.ref 0), u1], [], (mm L X I J)) = bnd (call nX5_forgetShort [.ref 56] (mm L X I J)) (fun v m' => runI call iX11_law (51, [some (.ref 0), u1], v.toList ++ [], m')) := by
  refine Eq.trans (st1 dX11_law_44 rfl rfl) ?_
  refine Eq.trans (getRm dX11_law_45 cp_11_81 ka_0 rfl r_0_11) ?_
  exact iv0 dX11_law_48 rfl cp_11_156 rfl rfl (kd_ka ka_56) ka_56.1 (Nat.le_of_ble_eq_true rfl)
theorem q_X11_law_51 {call : CALL} {L X : Nat} {I : Nat → Nat → Int32} {J : Nat → Nat → Int64} {u0 : Option Value} {u1 : Option Value} : runI call iX11_law (51, [u0, u1], [], (mm L X I J)) = some (.inl (some (.int (nI 1))), (mm L X I J)) := by
  refine Eq.trans (xiconst dX11_law_51 ci_1) ?_
  exact ret0 dX11_law_52 rfl
theorem q_X11_work_0 {call : CALL} {L X : Nat} {I : Nat → Nat → Int32} {J : Nat → Nat → Int64} {x1 : Int32} : runI call iX11_work (0, [some (.ref 0), some (.int x1)], [], (mm L X I J)) = bnd (call nX11_open [.ref 0, .int x1, .int (nI 150)] (mm L X I J)) (fun v m' => runI call iX11_work (8, [some (.ref 0), some (.int x1)], v.toList ++ [], m')) := by
  refine Eq.trans (st1 dX11_work_0 rfl rfl) ?_
  refine Eq.trans (st1 dX11_work_1 rfl rfl) ?_
  refine Eq.trans (xsipush dX11_work_2 cs_150) ?_
  exact iv0 dX11_work_5 rfl cp_11_119 rfl rfl (kd_ka ka_0) ka_0.1 (Nat.le_of_ble_eq_true rfl)
theorem q_X11_work_8 {call : CALL} {L X : Nat} {I : Nat → Nat → Int32} {J : Nat → Nat → Int64} {u1 : Option Value} : runI call iX11_work (8, [some (.ref 0), u1], [], (mm L X I J)) = bnd (call nX4_isFull [.ref 48] (mm L X I J)) (fun v m' => runI call iX11_work (15, [some (.ref 0), u1], v.toList ++ [], m')) := by
  refine Eq.trans (st1 dX11_work_8 rfl rfl) ?_
  refine Eq.trans (getRm dX11_work_9 cp_11_63 ka_0 rfl r_0_9) ?_
  exact iv0 dX11_work_12 rfl cp_11_159 rfl rfl (kd_ka ka_48) ka_48.1 (Nat.le_of_ble_eq_true rfl)
theorem q_X11_work_15 {call : CALL} {L X : Nat} {I : Nat → Nat → Int32} {J : Nat → Nat → Int64} {u1 : Option Value} {s0 : Int32} : runI call iX11_work (15, [some (.ref 0), u1], [.int s0], (mm L X I J)) = if s0 = (nI 0) then bnd (call nX9_readFrom [.ref 37, .ref 1, .int (I 3 0)] (mm L X I J)) (fun v m' => runI call iX11_work (39, [some (.ref 0), u1], v.toList ++ [], m')) else some (.inl (some (.int (-20 : Int32))), (mm L X I J)) := by
  refine Eq.trans (if_eq (tgt := 21) dX11_work_15 (by decide +kernel)) (ite_cong (fun _ => ?_) (fun _ => ?_))
  · refine Eq.trans (st1 dX11_work_21 rfl rfl) ?_
    refine Eq.trans (getRm dX11_work_22 cp_11_49 ka_0 rfl r_0_7) ?_
    refine Eq.trans (st1 dX11_work_25 rfl rfl) ?_
    refine Eq.trans (getRm dX11_work_26 cp_11_10 ka_0 rfl r_0_0) ?_
    refine Eq.trans (st1 dX11_work_29 rfl rfl) ?_
    refine Eq.trans (getRm dX11_work_30 cp_11_19 ka_0 rfl r_0_1) ?_
    refine Eq.trans (getIm dX11_work_33 cp_11_149 ka_3 (.inl rfl)) ?_
    exact iv0 dX11_work_36 rfl cp_11_162 rfl rfl (kd_ka ka_37) ka_37.1 (Nat.le_of_ble_eq_true rfl)
  · refine Eq.trans (xbipush dX11_work_18 cb_m20) ?_
    exact ret0 dX11_work_20 rfl
theorem q_X11_work_39 {call : CALL} {L X : Nat} {I : Nat → Nat → Int32} {J : Nat → Nat → Int64} {u1 : Option Value} {s0 : Int32} : runI call iX11_work (39, [some (.ref 0), u1], [.int s0], (mm L X I J)) = if s0 = (nI 0) then some (.inl (some (.int ((I 1 2) - (nI 10)))), (mm L X I J)) else bnd (call nX4_push [.ref 48, .ref 43] (mm L X I J)) (fun v m' => runI call iX11_work (64, [some (.ref 0), u1], v.toList ++ [], m')) := by
  refine Eq.trans (if_ne (tgt := 53) dX11_work_39 (by decide +kernel)) (ite_cong (fun _ => ?_) (fun _ => ?_))
  · refine Eq.trans (st1 dX11_work_42 rfl rfl) ?_
    refine Eq.trans (getRm dX11_work_43 cp_11_10 ka_0 rfl r_0_0) ?_
    refine Eq.trans (getIm dX11_work_46 cp_11_127 ka_1 (.inl rfl)) ?_
    refine Eq.trans (xbipush dX11_work_49 cb_10) ?_
    refine Eq.trans (st1 dX11_work_51 rfl rfl) ?_
    exact ret0 dX11_work_52 rfl
  · refine Eq.trans (st1 dX11_work_53 rfl rfl) ?_
    refine Eq.trans (getRm dX11_work_54 cp_11_63 ka_0 rfl r_0_9) ?_
    refine Eq.trans (st1 dX11_work_57 rfl rfl) ?_
    refine Eq.trans (getRm dX11_work_58 cp_11_56 ka_0 rfl r_0_8) ?_
    exact iv0 dX11_work_61 rfl cp_11_165 rfl rfl (kd_ka ka_48) ka_48.1 (Nat.le_of_ble_eq_true rfl)
theorem q_X11_work_64 {call : CALL} {L X : Nat} {I : Nat → Nat → Int32} {J : Nat → Nat → Int64} {u1 : Option Value} : runI call iX11_work (64, [some (.ref 0), u1], [], (mm L X I J)) = bnd (call nX5_forgetShort [.ref 56] (mm L X I J)) (fun v m' => runI call iX11_work (71, [some (.ref 0), u1], v.toList ++ [], m')) := by
  refine Eq.trans (st1 dX11_work_64 rfl rfl) ?_
  refine Eq.trans (getRm dX11_work_65 cp_11_81 ka_0 rfl r_0_11) ?_
  exact iv0 dX11_work_68 rfl cp_11_156 rfl rfl (kd_ka ka_56) ka_56.1 (Nat.le_of_ble_eq_true rfl)
theorem q_X11_work_71 {call : CALL} {L X : Nat} {I : Nat → Nat → Int32} {J : Nat → Nat → Int64} {u1 : Option Value} : runI call iX11_work (71, [some (.ref 0), u1], [], (mm L X I J)) = bnd (call nX9_doneOn [.ref 37, .ref 43, .ref 3, .ref 52] (mm L X I J)) (fun v m' => runI call iX11_work (90, [some (.ref 0), u1], v.toList ++ [], m')) := by
  refine Eq.trans (st1 dX11_work_71 rfl rfl) ?_
  refine Eq.trans (getRm dX11_work_72 cp_11_49 ka_0 rfl r_0_7) ?_
  refine Eq.trans (st1 dX11_work_75 rfl rfl) ?_
  refine Eq.trans (getRm dX11_work_76 cp_11_56 ka_0 rfl r_0_8) ?_
  refine Eq.trans (st1 dX11_work_79 rfl rfl) ?_
  refine Eq.trans (getRm dX11_work_80 cp_11_19 ka_0 rfl r_0_1) ?_
  refine Eq.trans (st1 dX11_work_83 rfl rfl) ?_
  refine Eq.trans (getRm dX11_work_84 cp_11_72 ka_0 rfl r_0_10) ?_
  exact iv0 dX11_work_87 rfl cp_11_169 rfl rfl (kd_ka ka_37) ka_37.1 (Nat.le_of_ble_eq_true rfl)
theorem q_X11_work_90 {call : CALL} {L X : Nat} {I : Nat → Nat → Int32} {J : Nat → Nat → Int64} {u0 : Option Value} {u1 : Option Value} {s0 : Int32} : runI call iX11_work (90, [u0, u1], [.int s0], (mm L X I J)) = some (.inl (some (.int s0)), (mm L X I J)) := by
  exact ret0 dX11_work_90 rfl
theorem q_X11_book_0 {call : CALL} {L X : Nat} {I : Nat → Nat → Int32} {J : Nat → Nat → Int64} {x1 : Int32} : runI call iX11_book (0, [some (.ref 0), some (.int x1)], [], (mm L X I J)) = bnd (call nX11_open [.ref 0, .int x1, .int (nI 60)] (mm L X I J)) (fun v m' => runI call iX11_book (7, [some (.ref 0), some (.int x1)], v.toList ++ [], m')) := by
  refine Eq.trans (st1 dX11_book_0 rfl rfl) ?_
  refine Eq.trans (st1 dX11_book_1 rfl rfl) ?_
  refine Eq.trans (xbipush dX11_book_2 cb_60) ?_
  exact iv0 dX11_book_4 rfl cp_11_119 rfl rfl (kd_ka ka_0) ka_0.1 (Nat.le_of_ble_eq_true rfl)
theorem q_X11_book_7 {call : CALL} {L X : Nat} {I : Nat → Nat → Int32} {J : Nat → Nat → Int64} {u1 : Option Value} : runI call iX11_book (7, [some (.ref 0), u1], [], (mm L X I J)) = bnd (call nX0_readFrom [.ref 34, .ref 1] (mm L X I J)) (fun v m' => runI call iX11_book (18, [some (.ref 0), u1], v.toList ++ [], m')) := by
  refine Eq.trans (st1 dX11_book_7 rfl rfl) ?_
  refine Eq.trans (getRm dX11_book_8 cp_11_43 ka_0 rfl r_0_6) ?_
  refine Eq.trans (st1 dX11_book_11 rfl rfl) ?_
  refine Eq.trans (getRm dX11_book_12 cp_11_10 ka_0 rfl r_0_0) ?_
  exact iv0 dX11_book_15 rfl cp_11_173 rfl rfl (kd_ka ka_34) ka_34.1 (Nat.le_of_ble_eq_true rfl)
theorem q_X11_book_18 {call : CALL} {L X : Nat} {I : Nat → Nat → Int32} {J : Nat → Nat → Int64} {u1 : Option Value} {s0 : Int32} : runI call iX11_book (18, [some (.ref 0), u1], [.int s0], (mm L X I J)) = if s0 = (nI 0) then some (.inl (some (.int ((I 1 2) - (nI 10)))), (mm L X I J)) else bnd (call nX0_become [.ref 31, .ref 34] (mm L X I J)) (fun v m' => runI call iX11_book (43, [some (.ref 0), u1], v.toList ++ [], m')) := by
  refine Eq.trans (if_ne (tgt := 32) dX11_book_18 (by decide +kernel)) (ite_cong (fun _ => ?_) (fun _ => ?_))
  · refine Eq.trans (st1 dX11_book_21 rfl rfl) ?_
    refine Eq.trans (getRm dX11_book_22 cp_11_10 ka_0 rfl r_0_0) ?_
    refine Eq.trans (getIm dX11_book_25 cp_11_127 ka_1 (.inl rfl)) ?_
    refine Eq.trans (xbipush dX11_book_28 cb_10) ?_
    refine Eq.trans (st1 dX11_book_30 rfl rfl) ?_
    exact ret0 dX11_book_31 rfl
  · refine Eq.trans (st1 dX11_book_32 rfl rfl) ?_
    refine Eq.trans (getRm dX11_book_33 cp_11_39 ka_0 rfl r_0_5) ?_
    refine Eq.trans (st1 dX11_book_36 rfl rfl) ?_
    refine Eq.trans (getRm dX11_book_37 cp_11_43 ka_0 rfl r_0_6) ?_
    exact iv0 dX11_book_40 rfl cp_11_174 rfl rfl (kd_ka ka_31) ka_31.1 (Nat.le_of_ble_eq_true rfl)
theorem q_X11_book_43 {call : CALL} {L X : Nat} {I : Nat → Nat → Int32} {J : Nat → Nat → Int64} {u1 : Option Value} : runI call iX11_book (43, [some (.ref 0), u1], [], (mm L X I J)) = some (.inl (some (.int (I 31 0))), (mm L X I J)) := by
  refine Eq.trans (st1 dX11_book_43 rfl rfl) ?_
  refine Eq.trans (getRm dX11_book_44 cp_11_39 ka_0 rfl r_0_5) ?_
  refine Eq.trans (getIm dX11_book_47 cp_11_177 ka_31 (.inl rfl)) ?_
  exact ret0 dX11_book_50 rfl
theorem q_X11_told_0 {call : CALL} {L X : Nat} {I : Nat → Nat → Int32} {J : Nat → Nat → Int64} {x1 : Int32} : runI call iX11_told (0, [some (.ref 0), some (.int x1)], [], (mm L X I J)) = bndN (call nX11_within [.int x1, .int (nI 0), .int (nI 11)] (mm L X I J)) (fun v m' => runI call iX11_told (8, [some (.ref 0), some (.int x1)], v.toList ++ [.ref 0], m')) := by
  refine Eq.trans (st1 dX11_told_0 rfl rfl) ?_
  refine Eq.trans (st1 dX11_told_1 rfl rfl) ?_
  refine Eq.trans (xiconst dX11_told_2 ci_0) ?_
  refine Eq.trans (xbipush dX11_told_3 cb_11) ?_
  exact is2 dX11_told_5 cp_11_189 (Nat.le_of_ble_eq_true rfl) rfl rfl (Nat.le_of_ble_eq_true rfl)
theorem q_X11_told_8 {call : CALL} {L X : Nat} {I : Nat → Nat → Int32} {J : Nat → Nat → Int64} {x1 : Int32} {s1 : Int32} : runI call iX11_told (8, [some (.ref 0), some (.int x1)], [.int s1, .ref 0], (mm L X I J)) = bnd (call nX11_expect [.ref 0, .int s1] (mm L X I J)) (fun v m' => runI call iX11_told (11, [some (.ref 0), some (.int x1)], v.toList ++ [], m')) := by
  exact iv0 dX11_told_8 rfl cp_11_193 rfl rfl (kd_ka ka_0) ka_0.1 (Nat.le_of_ble_eq_true rfl)
theorem q_X11_told_11 {call : CALL} {L X : Nat} {I : Nat → Nat → Int32} {J : Nat → Nat → Int64} {x1 : Int32} : runI call iX11_told (11, [some (.ref 0), some (.int x1)], [], (mm L X I J)) = runI call iX11_told (12, [some (.ref 0), some (.int x1)], [.int x1], (mm L X I J)) := by
  refine Eq.trans (st1 dX11_told_11 rfl rfl) ?_
  rfl
theorem q_X11_told_12 {call : CALL} {L X : Nat} {I : Nat → Nat → Int32} {J : Nat → Nat → Int64} {u1 : Option Value} {s0 : Int32} : runI call iX11_told (12, [some (.ref 0), u1], [.int s0], (mm L X I J)) = if s0 = (nI 0) then runI call iX11_told (72, [some (.ref 0), u1], [], (mm L X I J)) else if s0 = (nI 1) then runI call iX11_told (80, [some (.ref 0), u1], [], (mm L X I J)) else if s0 = (nI 2) then runI call iX11_told (88, [some (.ref 0), u1], [], (mm L X I J)) else if s0 = (nI 3) then runI call iX11_told (96, [some (.ref 0), u1], [], (mm L X I J)) else if s0 = (nI 4) then runI call iX11_told (104, [some (.ref 0), u1], [], (mm L X I J)) else if s0 = (nI 5) then runI call iX11_told (112, [some (.ref 0), u1], [], (mm L X I J)) else if s0 = (nI 6) then runI call iX11_told (120, [some (.ref 0), u1], [], (mm L X I J)) else if s0 = (nI 7) then runI call iX11_told (132, [some (.ref 0), u1], [], (mm L X I J)) else if s0 = (nI 8) then runI call iX11_told (151, [some (.ref 0), u1], [], (mm L X I J)) else if s0 = (nI 9) then runI call iX11_told (159, [some (.ref 0), u1], [], (mm L X I J)) else if s0 = (nI 10) then runI call iX11_told (167, [some (.ref 0), u1], [], (mm L X I J)) else runI call iX11_told (175, [some (.ref 0), u1], [], (mm L X I J)) := by
  refine ite_cong2 (fun e0 => sw_t dX11_told_12 (by rw [e0]; decide +kernel)) (fun e0 => ?_)
  refine ite_cong2 (fun e1 => sw_t dX11_told_12 (by rw [e1]; decide +kernel)) (fun e1 => ?_)
  refine ite_cong2 (fun e2 => sw_t dX11_told_12 (by rw [e2]; decide +kernel)) (fun e2 => ?_)
  refine ite_cong2 (fun e3 => sw_t dX11_told_12 (by rw [e3]; decide +kernel)) (fun e3 => ?_)
  refine ite_cong2 (fun e4 => sw_t dX11_told_12 (by rw [e4]; decide +kernel)) (fun e4 => ?_)
  refine ite_cong2 (fun e5 => sw_t dX11_told_12 (by rw [e5]; decide +kernel)) (fun e5 => ?_)
  refine ite_cong2 (fun e6 => sw_t dX11_told_12 (by rw [e6]; decide +kernel)) (fun e6 => ?_)
  refine ite_cong2 (fun e7 => sw_t dX11_told_12 (by rw [e7]; decide +kernel)) (fun e7 => ?_)
  refine ite_cong2 (fun e8 => sw_t dX11_told_12 (by rw [e8]; decide +kernel)) (fun e8 => ?_)
  refine ite_cong2 (fun e9 => sw_t dX11_told_12 (by rw [e9]; decide +kernel)) (fun e9 => ?_)
  refine ite_cong2 (fun e10 => sw_t dX11_told_12 (by rw [e10]; decide +kernel)) (fun e10 => ?_)
  exact sw_t dX11_told_12 (swT_dflt (vs := [(0 : Int), (1 : Int), (2 : Int), (3 : Int), (4 : Int), (5 : Int), (6 : Int), (7 : Int), (8 : Int), (9 : Int), (10 : Int)]) (by decide +kernel) (fun v hv => by simp only [List.mem_cons, List.not_mem_nil, or_false] at hv; rcases hv with rfl | rfl | rfl | rfl | rfl | rfl | rfl | rfl | rfl | rfl | rfl <;> first | exact ne_toInt (by decide +kernel) e0 | exact ne_toInt (by decide +kernel) e1 | exact ne_toInt (by decide +kernel) e2 | exact ne_toInt (by decide +kernel) e3 | exact ne_toInt (by decide +kernel) e4 | exact ne_toInt (by decide +kernel) e5 | exact ne_toInt (by decide +kernel) e6 | exact ne_toInt (by decide +kernel) e7 | exact ne_toInt (by decide +kernel) e8 | exact ne_toInt (by decide +kernel) e9 | exact ne_toInt (by decide +kernel) e10))
theorem q_X11_told_72 {call : CALL} {L X : Nat} {I : Nat → Nat → Int32} {J : Nat → Nat → Int64} {u1 : Option Value} : runI call iX11_told (72, [some (.ref 0), u1], [], (mm L X I J)) = some (.inl (some (.int (I 3 0))), (mm L X I J)) := by
  refine Eq.trans (st1 dX11_told_72 rfl rfl) ?_
  refine Eq.trans (getRm dX11_told_73 cp_11_19 ka_0 rfl r_0_1) ?_
  refine Eq.trans (getIm dX11_told_76 cp_11_149 ka_3 (.inl rfl)) ?_
  exact ret0 dX11_told_79 rfl
theorem q_X11_told_80 {call : CALL} {L X : Nat} {I : Nat → Nat → Int32} {J : Nat → Nat → Int64} {u1 : Option Value} : runI call iX11_told (80, [some (.ref 0), u1], [], (mm L X I J)) = some (.inl (some (.int (I 3 1))), (mm L X I J)) := by
  refine Eq.trans (st1 dX11_told_80 rfl rfl) ?_
  refine Eq.trans (getRm dX11_told_81 cp_11_19 ka_0 rfl r_0_1) ?_
  refine Eq.trans (getIm dX11_told_84 cp_11_197 ka_3 (.inl rfl)) ?_
  exact ret0 dX11_told_87 rfl
theorem q_X11_told_88 {call : CALL} {L X : Nat} {I : Nat → Nat → Int32} {J : Nat → Nat → Int64} {u1 : Option Value} : runI call iX11_told (88, [some (.ref 0), u1], [], (mm L X I J)) = some (.inl (some (.int (I 3 2))), (mm L X I J)) := by
  refine Eq.trans (st1 dX11_told_88 rfl rfl) ?_
  refine Eq.trans (getRm dX11_told_89 cp_11_19 ka_0 rfl r_0_1) ?_
  refine Eq.trans (getIm dX11_told_92 cp_11_200 ka_3 (.inl rfl)) ?_
  exact ret0 dX11_told_95 rfl
theorem q_X11_told_96 {call : CALL} {L X : Nat} {I : Nat → Nat → Int32} {J : Nat → Nat → Int64} {u1 : Option Value} : runI call iX11_told (96, [some (.ref 0), u1], [], (mm L X I J)) = some (.inl (some (.int (I 43 6))), (mm L X I J)) := by
  refine Eq.trans (st1 dX11_told_96 rfl rfl) ?_
  refine Eq.trans (getRm dX11_told_97 cp_11_56 ka_0 rfl r_0_8) ?_
  refine Eq.trans (getIm dX11_told_100 cp_11_203 ka_43 (.inl rfl)) ?_
  exact ret0 dX11_told_103 rfl
theorem q_X11_told_104 {call : CALL} {L X : Nat} {I : Nat → Nat → Int32} {J : Nat → Nat → Int64} {u1 : Option Value} : runI call iX11_told (104, [some (.ref 0), u1], [], (mm L X I J)) = some (.inl (some (.int (I 43 5))), (mm L X I J)) := by
  refine Eq.trans (st1 dX11_told_104 rfl rfl) ?_
  refine Eq.trans (getRm dX11_told_105 cp_11_56 ka_0 rfl r_0_8) ?_
  refine Eq.trans (getIm dX11_told_108 cp_11_206 ka_43 (.inl rfl)) ?_
  exact ret0 dX11_told_111 rfl
theorem q_X11_told_112 {call : CALL} {L X : Nat} {I : Nat → Nat → Int32} {J : Nat → Nat → Int64} {u1 : Option Value} : runI call iX11_told (112, [some (.ref 0), u1], [], (mm L X I J)) = bnd (call nX3_rowBits [.ref 43] (mm L X I J)) (fun v m' => runI call iX11_told (119, [some (.ref 0), u1], v.toList ++ [], m')) := by
  refine Eq.trans (st1 dX11_told_112 rfl rfl) ?_
  refine Eq.trans (getRm dX11_told_113 cp_11_56 ka_0 rfl r_0_8) ?_
  exact iv0 dX11_told_116 rfl cp_11_209 rfl rfl (kd_ka ka_43) ka_43.1 (Nat.le_of_ble_eq_true rfl)
theorem q_X11_told_120 {call : CALL} {L X : Nat} {I : Nat → Nat → Int32} {J : Nat → Nat → Int64} {u1 : Option Value} : runI call iX11_told (120, [some (.ref 0), u1], [], (mm L X I J)) = bnd (call nX3_longNow [.ref 43, .ref 3] (mm L X I J)) (fun v m' => runI call iX11_told (131, [some (.ref 0), u1], v.toList ++ [], m')) := by
  refine Eq.trans (st1 dX11_told_120 rfl rfl) ?_
  refine Eq.trans (getRm dX11_told_121 cp_11_56 ka_0 rfl r_0_8) ?_
  refine Eq.trans (st1 dX11_told_124 rfl rfl) ?_
  refine Eq.trans (getRm dX11_told_125 cp_11_19 ka_0 rfl r_0_1) ?_
  exact iv0 dX11_told_128 rfl cp_11_213 rfl rfl (kd_ka ka_43) ka_43.1 (Nat.le_of_ble_eq_true rfl)
theorem q_X11_told_132 {call : CALL} {L X : Nat} {I : Nat → Nat → Int32} {J : Nat → Nat → Int64} {u1 : Option Value} : runI call iX11_told (132, [some (.ref 0), u1], [], (mm L X I J)) = bnd (call nX8_arriving [.ref 52, .ref 43, .int (I 43 7)] (mm L X I J)) (fun v m' => runI call iX11_told (150, [some (.ref 0), u1], v.toList ++ [], m')) := by
  refine Eq.trans (st1 dX11_told_132 rfl rfl) ?_
  refine Eq.trans (getRm dX11_told_133 cp_11_72 ka_0 rfl r_0_10) ?_
  refine Eq.trans (st1 dX11_told_136 rfl rfl) ?_
  refine Eq.trans (getRm dX11_told_137 cp_11_56 ka_0 rfl r_0_8) ?_
  refine Eq.trans (st1 dX11_told_140 rfl rfl) ?_
  refine Eq.trans (getRm dX11_told_141 cp_11_56 ka_0 rfl r_0_8) ?_
  refine Eq.trans (getIm dX11_told_144 cp_11_217 ka_43 (.inl rfl)) ?_
  exact iv0 dX11_told_147 rfl cp_11_218 rfl rfl (kd_ka ka_52) ka_52.1 (Nat.le_of_ble_eq_true rfl)
theorem q_X11_told_151 {call : CALL} {L X : Nat} {I : Nat → Nat → Int32} {J : Nat → Nat → Int64} {u1 : Option Value} : runI call iX11_told (151, [some (.ref 0), u1], [], (mm L X I J)) = bnd (call nX3_outBits [.ref 43] (mm L X I J)) (fun v m' => runI call iX11_told (158, [some (.ref 0), u1], v.toList ++ [], m')) := by
  refine Eq.trans (st1 dX11_told_151 rfl rfl) ?_
  refine Eq.trans (getRm dX11_told_152 cp_11_56 ka_0 rfl r_0_8) ?_
  exact iv0 dX11_told_155 rfl cp_11_222 rfl rfl (kd_ka ka_43) ka_43.1 (Nat.le_of_ble_eq_true rfl)
theorem q_X11_told_159 {call : CALL} {L X : Nat} {I : Nat → Nat → Int32} {J : Nat → Nat → Int64} {u1 : Option Value} : runI call iX11_told (159, [some (.ref 0), u1], [], (mm L X I J)) = some (.inl (some (.int (I 31 0))), (mm L X I J)) := by
  refine Eq.trans (st1 dX11_told_159 rfl rfl) ?_
  refine Eq.trans (getRm dX11_told_160 cp_11_39 ka_0 rfl r_0_5) ?_
  refine Eq.trans (getIm dX11_told_163 cp_11_177 ka_31 (.inl rfl)) ?_
  exact ret0 dX11_told_166 rfl
theorem q_X11_told_167 {call : CALL} {L X : Nat} {I : Nat → Nat → Int32} {J : Nat → Nat → Int64} {u1 : Option Value} : runI call iX11_told (167, [some (.ref 0), u1], [], (mm L X I J)) = some (.inl (some (.int (I 37 7))), (mm L X I J)) := by
  refine Eq.trans (st1 dX11_told_167 rfl rfl) ?_
  refine Eq.trans (getRm dX11_told_168 cp_11_49 ka_0 rfl r_0_7) ?_
  refine Eq.trans (getIm dX11_told_171 cp_11_143 ka_37 (.inl rfl)) ?_
  exact ret0 dX11_told_174 rfl
theorem q_X11_told_175 {call : CALL} {L X : Nat} {I : Nat → Nat → Int32} {J : Nat → Nat → Int64} {u1 : Option Value} : runI call iX11_told (175, [some (.ref 0), u1], [], (mm L X I J)) = some (.inl (some (.int (I 43 7))), (mm L X I J)) := by
  refine Eq.trans (st1 dX11_told_175 rfl rfl) ?_
  refine Eq.trans (getRm dX11_told_176 cp_11_56 ka_0 rfl r_0_8) ?_
  refine Eq.trans (getIm dX11_told_179 cp_11_217 ka_43 (.inl rfl)) ?_
  exact ret0 dX11_told_182 rfl
theorem q_X11_told_119 {call : CALL} {L X : Nat} {I : Nat → Nat → Int32} {J : Nat → Nat → Int64} {u0 : Option Value} {u1 : Option Value} {s0 : Int32} : runI call iX11_told (119, [u0, u1], [.int s0], (mm L X I J)) = some (.inl (some (.int s0)), (mm L X I J)) := by
  exact ret0 dX11_told_119 rfl
theorem q_X11_told_131 {call : CALL} {L X : Nat} {I : Nat → Nat → Int32} {J : Nat → Nat → Int64} {u0 : Option Value} {u1 : Option Value} {s0 : Int32} : runI call iX11_told (131, [u0, u1], [.int s0], (mm L X I J)) = some (.inl (some (.int s0)), (mm L X I J)) := by
  exact ret0 dX11_told_131 rfl
theorem q_X11_told_150 {call : CALL} {L X : Nat} {I : Nat → Nat → Int32} {J : Nat → Nat → Int64} {u0 : Option Value} {u1 : Option Value} {s0 : Int32} : runI call iX11_told (150, [u0, u1], [.int s0], (mm L X I J)) = some (.inl (some (.int s0)), (mm L X I J)) := by
  exact ret0 dX11_told_150 rfl
theorem q_X11_told_158 {call : CALL} {L X : Nat} {I : Nat → Nat → Int32} {J : Nat → Nat → Int64} {u0 : Option Value} {u1 : Option Value} {s0 : Int32} : runI call iX11_told (158, [u0, u1], [.int s0], (mm L X I J)) = some (.inl (some (.int s0)), (mm L X I J)) := by
  exact ret0 dX11_told_158 rfl
theorem q_X11_piece_0 {call : CALL} {L X : Nat} {I : Nat → Nat → Int32} {J : Nat → Nat → Int64} {x1 : Int32} {x2 : Int32} : runI call iX11_piece (0, [some (.ref 0), some (.int x1), some (.int x2)], [], (mm L X I J)) = bnd (call nX11_expectPiece [.ref 0, .int x1] (mm L X I J)) (fun v m' => runI call iX11_piece (5, [some (.ref 0), some (.int x1), some (.int x2)], v.toList ++ [], m')) := by
  refine Eq.trans (st1 dX11_piece_0 rfl rfl) ?_
  refine Eq.trans (st1 dX11_piece_1 rfl rfl) ?_
  exact iv0 dX11_piece_2 rfl cp_11_225 rfl rfl (kd_ka ka_0) ka_0.1 (Nat.le_of_ble_eq_true rfl)
theorem q_X11_piece_5 {call : CALL} {L X : Nat} {I : Nat → Nat → Int32} {J : Nat → Nat → Int64} {x1 : Int32} {x2 : Int32} : runI call iX11_piece (5, [some (.ref 0), some (.int x1), some (.int x2)], [], (mm L X I J)) = bndN (call nX11_within [.int x2, .int (nI 0), .int (nI 7)] (mm L X I J)) (fun v m' => runI call iX11_piece (13, [some (.ref 0), some (.int x1), some (.int x2)], v.toList ++ [.ref 0], m')) := by
  refine Eq.trans (st1 dX11_piece_5 rfl rfl) ?_
  refine Eq.trans (st1 dX11_piece_6 rfl rfl) ?_
  refine Eq.trans (xiconst dX11_piece_7 ci_0) ?_
  refine Eq.trans (xbipush dX11_piece_8 cb_7) ?_
  exact is2 dX11_piece_10 cp_11_189 (Nat.le_of_ble_eq_true rfl) rfl rfl (Nat.le_of_ble_eq_true rfl)
theorem q_X11_piece_13 {call : CALL} {L X : Nat} {I : Nat → Nat → Int32} {J : Nat → Nat → Int64} {x1 : Int32} {x2 : Int32} {s1 : Int32} : runI call iX11_piece (13, [some (.ref 0), some (.int x1), some (.int x2)], [.int s1, .ref 0], (mm L X I J)) = bnd (call nX11_expect [.ref 0, .int s1] (mm L X I J)) (fun v m' => runI call iX11_piece (16, [some (.ref 0), some (.int x1), some (.int x2)], v.toList ++ [], m')) := by
  exact iv0 dX11_piece_13 rfl cp_11_193 rfl rfl (kd_ka ka_0) ka_0.1 (Nat.le_of_ble_eq_true rfl)
theorem q_X11_piece_16 {call : CALL} {L X : Nat} {I : Nat → Nat → Int32} {J : Nat → Nat → Int64} {x1 : Int32} {x2 : Int32} : runI call iX11_piece (16, [some (.ref 0), some (.int x1), some (.int x2)], [], (mm L X I J)) = runI call iX11_piece (17, [some (.ref 0), some (.int x1), some (.int x2)], [.int x2], (mm L X I J)) := by
  refine Eq.trans (st1 dX11_piece_16 rfl rfl) ?_
  rfl
theorem q_X11_piece_17 {call : CALL} {L X : Nat} {I : Nat → Nat → Int32} {J : Nat → Nat → Int64} {x1 : Int32} {u2 : Option Value} {s0 : Int32} : runI call iX11_piece (17, [some (.ref 0), some (.int x1), u2], [.int s0], (mm L X I J)) = if s0 = (nI 0) then runI call iX11_piece (60, [some (.ref 0), some (.int x1), u2], [], (mm L X I J)) else if s0 = (nI 1) then runI call iX11_piece (72, [some (.ref 0), some (.int x1), u2], [], (mm L X I J)) else if s0 = (nI 2) then runI call iX11_piece (88, [some (.ref 0), some (.int x1), u2], [], (mm L X I J)) else if s0 = (nI 3) then runI call iX11_piece (104, [some (.ref 0), some (.int x1), u2], [], (mm L X I J)) else if s0 = (nI 4) then runI call iX11_piece (116, [some (.ref 0), some (.int x1), u2], [], (mm L X I J)) else if s0 = (nI 5) then runI call iX11_piece (128, [some (.ref 0), some (.int x1), u2], [], (mm L X I J)) else if s0 = (nI 6) then runI call iX11_piece (140, [some (.ref 0), some (.int x1), u2], [], (mm L X I J)) else runI call iX11_piece (152, [some (.ref 0), some (.int x1), u2], [], (mm L X I J)) := by
  refine ite_cong2 (fun e0 => sw_t dX11_piece_17 (by rw [e0]; decide +kernel)) (fun e0 => ?_)
  refine ite_cong2 (fun e1 => sw_t dX11_piece_17 (by rw [e1]; decide +kernel)) (fun e1 => ?_)
  refine ite_cong2 (fun e2 => sw_t dX11_piece_17 (by rw [e2]; decide +kernel)) (fun e2 => ?_)
  refine ite_cong2 (fun e3 => sw_t dX11_piece_17 (by rw [e3]; decide +kernel)) (fun e3 => ?_)
  refine ite_cong2 (fun e4 => sw_t dX11_piece_17 (by rw [e4]; decide +kernel)) (fun e4 => ?_)
  refine ite_cong2 (fun e5 => sw_t dX11_piece_17 (by rw [e5]; decide +kernel)) (fun e5 => ?_)
  refine ite_cong2 (fun e6 => sw_t dX11_piece_17 (by rw [e6]; decide +kernel)) (fun e6 => ?_)
  exact sw_t dX11_piece_17 (swT_dflt (vs := [(0 : Int), (1 : Int), (2 : Int), (3 : Int), (4 : Int), (5 : Int), (6 : Int)]) (by decide +kernel) (fun v hv => by simp only [List.mem_cons, List.not_mem_nil, or_false] at hv; rcases hv with rfl | rfl | rfl | rfl | rfl | rfl | rfl <;> first | exact ne_toInt (by decide +kernel) e0 | exact ne_toInt (by decide +kernel) e1 | exact ne_toInt (by decide +kernel) e2 | exact ne_toInt (by decide +kernel) e3 | exact ne_toInt (by decide +kernel) e4 | exact ne_toInt (by decide +kernel) e5 | exact ne_toInt (by decide +kernel) e6))
theorem q_X11_piece_60 {call : CALL} {L X : Nat} {I : Nat → Nat → Int32} {J : Nat → Nat → Int64} {x1 : Int32} {u2 : Option Value} : runI call iX11_piece (60, [some (.ref 0), some (.int x1), u2], [], (mm L X I J)) = bndN (call nX11_pick [.ref 4, .int x1] (mm L X I J)) (fun v m' => runI call iX11_piece (71, [some (.ref 0), some (.int x1), u2], v.toList ++ [], m')) := by
  refine Eq.trans (st1 dX11_piece_60 rfl rfl) ?_
  refine Eq.trans (getRm dX11_piece_61 cp_11_19 ka_0 rfl r_0_1) ?_
  refine Eq.trans (getRm dX11_piece_64 cp_11_228 ka_3 rfl r_3_4) ?_
  refine Eq.trans (st1 dX11_piece_67 rfl rfl) ?_
  exact is2 dX11_piece_68 cp_11_232 (Nat.le_of_ble_eq_true rfl) rfl rfl (Nat.le_of_ble_eq_true rfl)
theorem q_X11_piece_72 {call : CALL} {L X : Nat} {I : Nat → Nat → Int32} {J : Nat → Nat → Int64} {x1 : Int32} {u2 : Option Value} : runI call iX11_piece (72, [some (.ref 0), some (.int x1), u2], [], (mm L X I J)) = bnd (call nX3_wayOf [.ref 43, .int x1] (mm L X I J)) (fun v m' => runI call iX11_piece (84, [some (.ref 0), some (.int x1), u2], v.toList ++ [.ref 3], m')) := by
  refine Eq.trans (st1 dX11_piece_72 rfl rfl) ?_
  refine Eq.trans (getRm dX11_piece_73 cp_11_19 ka_0 rfl r_0_1) ?_
  refine Eq.trans (st1 dX11_piece_76 rfl rfl) ?_
  refine Eq.trans (getRm dX11_piece_77 cp_11_56 ka_0 rfl r_0_8) ?_
  refine Eq.trans (st1 dX11_piece_80 rfl rfl) ?_
  exact iv0 dX11_piece_81 rfl cp_11_236 rfl rfl (kd_ka ka_43) ka_43.1 (Nat.le_of_ble_eq_true rfl)
theorem q_X11_piece_88 {call : CALL} {L X : Nat} {I : Nat → Nat → Int32} {J : Nat → Nat → Int64} {x1 : Int32} {u2 : Option Value} : runI call iX11_piece (88, [some (.ref 0), some (.int x1), u2], [], (mm L X I J)) = bnd (call nX3_wayOf [.ref 43, .int x1] (mm L X I J)) (fun v m' => runI call iX11_piece (100, [some (.ref 0), some (.int x1), u2], v.toList ++ [.ref 3], m')) := by
  refine Eq.trans (st1 dX11_piece_88 rfl rfl) ?_
  refine Eq.trans (getRm dX11_piece_89 cp_11_19 ka_0 rfl r_0_1) ?_
  refine Eq.trans (st1 dX11_piece_92 rfl rfl) ?_
  refine Eq.trans (getRm dX11_piece_93 cp_11_56 ka_0 rfl r_0_8) ?_
  refine Eq.trans (st1 dX11_piece_96 rfl rfl) ?_
  exact iv0 dX11_piece_97 rfl cp_11_236 rfl rfl (kd_ka ka_43) ka_43.1 (Nat.le_of_ble_eq_true rfl)
theorem q_X11_piece_104 {call : CALL} {L X : Nat} {I : Nat → Nat → Int32} {J : Nat → Nat → Int64} {x1 : Int32} {u2 : Option Value} : runI call iX11_piece (104, [some (.ref 0), some (.int x1), u2], [], (mm L X I J)) = bndN (call nX11_pick [.ref 5, .int x1] (mm L X I J)) (fun v m' => runI call iX11_piece (115, [some (.ref 0), some (.int x1), u2], v.toList ++ [], m')) := by
  refine Eq.trans (st1 dX11_piece_104 rfl rfl) ?_
  refine Eq.trans (getRm dX11_piece_105 cp_11_19 ka_0 rfl r_0_1) ?_
  refine Eq.trans (getRm dX11_piece_108 cp_11_246 ka_3 rfl r_3_5) ?_
  refine Eq.trans (st1 dX11_piece_111 rfl rfl) ?_
  exact is2 dX11_piece_112 cp_11_232 (Nat.le_of_ble_eq_true rfl) rfl rfl (Nat.le_of_ble_eq_true rfl)
theorem q_X11_piece_116 {call : CALL} {L X : Nat} {I : Nat → Nat → Int32} {J : Nat → Nat → Int64} {x1 : Int32} {u2 : Option Value} : runI call iX11_piece (116, [some (.ref 0), some (.int x1), u2], [], (mm L X I J)) = bndN (call nX11_pick [.ref 45, .int x1] (mm L X I J)) (fun v m' => runI call iX11_piece (127, [some (.ref 0), some (.int x1), u2], v.toList ++ [], m')) := by
  refine Eq.trans (st1 dX11_piece_116 rfl rfl) ?_
  refine Eq.trans (getRm dX11_piece_117 cp_11_56 ka_0 rfl r_0_8) ?_
  refine Eq.trans (getRm dX11_piece_120 cp_11_249 ka_43 rfl r_43_1) ?_
  refine Eq.trans (st1 dX11_piece_123 rfl rfl) ?_
  exact is2 dX11_piece_124 cp_11_232 (Nat.le_of_ble_eq_true rfl) rfl rfl (Nat.le_of_ble_eq_true rfl)
theorem q_X11_piece_128 {call : CALL} {L X : Nat} {I : Nat → Nat → Int32} {J : Nat → Nat → Int64} {x1 : Int32} {u2 : Option Value} : runI call iX11_piece (128, [some (.ref 0), some (.int x1), u2], [], (mm L X I J)) = bndN (call nX11_pick [.ref 46, .int x1] (mm L X I J)) (fun v m' => runI call iX11_piece (139, [some (.ref 0), some (.int x1), u2], v.toList ++ [], m')) := by
  refine Eq.trans (st1 dX11_piece_128 rfl rfl) ?_
  refine Eq.trans (getRm dX11_piece_129 cp_11_56 ka_0 rfl r_0_8) ?_
  refine Eq.trans (getRm dX11_piece_132 cp_11_252 ka_43 rfl r_43_2) ?_
  refine Eq.trans (st1 dX11_piece_135 rfl rfl) ?_
  exact is2 dX11_piece_136 cp_11_232 (Nat.le_of_ble_eq_true rfl) rfl rfl (Nat.le_of_ble_eq_true rfl)
theorem q_X11_piece_140 {call : CALL} {L X : Nat} {I : Nat → Nat → Int32} {J : Nat → Nat → Int64} {x1 : Int32} {u2 : Option Value} : runI call iX11_piece (140, [some (.ref 0), some (.int x1), u2], [], (mm L X I J)) = bndN (call nX11_bit [.int (I 43 4), .int x1] (mm L X I J)) (fun v m' => runI call iX11_piece (151, [some (.ref 0), some (.int x1), u2], v.toList ++ [], m')) := by
  refine Eq.trans (st1 dX11_piece_140 rfl rfl) ?_
  refine Eq.trans (getRm dX11_piece_141 cp_11_56 ka_0 rfl r_0_8) ?_
  refine Eq.trans (getIm dX11_piece_144 cp_11_255 ka_43 (.inl rfl)) ?_
  refine Eq.trans (st1 dX11_piece_147 rfl rfl) ?_
  exact is2 dX11_piece_148 cp_11_258 (Nat.le_of_ble_eq_true rfl) rfl rfl (Nat.le_of_ble_eq_true rfl)
theorem q_X11_piece_152 {call : CALL} {L X : Nat} {I : Nat → Nat → Int32} {J : Nat → Nat → Int64} {x1 : Int32} {u2 : Option Value} : runI call iX11_piece (152, [some (.ref 0), some (.int x1), u2], [], (mm L X I J)) = bnd (call nX3_placeOf [.ref 43, .int x1] (mm L X I J)) (fun v m' => runI call iX11_piece (160, [some (.ref 0), some (.int x1), u2], v.toList ++ [], m')) := by
  refine Eq.trans (st1 dX11_piece_152 rfl rfl) ?_
  refine Eq.trans (getRm dX11_piece_153 cp_11_56 ka_0 rfl r_0_8) ?_
  refine Eq.trans (st1 dX11_piece_156 rfl rfl) ?_
  exact iv0 dX11_piece_157 rfl cp_11_262 rfl rfl (kd_ka ka_43) ka_43.1 (Nat.le_of_ble_eq_true rfl)
theorem q_X11_piece_71 {call : CALL} {L X : Nat} {I : Nat → Nat → Int32} {J : Nat → Nat → Int64} {u0 : Option Value} {u1 : Option Value} {u2 : Option Value} {s0 : Int32} : runI call iX11_piece (71, [u0, u1, u2], [.int s0], (mm L X I J)) = some (.inl (some (.int s0)), (mm L X I J)) := by
  exact ret0 dX11_piece_71 rfl
theorem q_X11_piece_84 {call : CALL} {L X : Nat} {I : Nat → Nat → Int32} {J : Nat → Nat → Int64} {u0 : Option Value} {u1 : Option Value} {u2 : Option Value} {s1 : Int32} : runI call iX11_piece (84, [u0, u1, u2], [.int s1, .ref 3], (mm L X I J)) = bnd (call nX1_headOf [.ref 3, .int s1] (mm L X I J)) (fun v m' => runI call iX11_piece (87, [u0, u1, u2], v.toList ++ [], m')) := by
  exact iv0 dX11_piece_84 rfl cp_11_240 rfl rfl (kd_ka ka_3) ka_3.1 (Nat.le_of_ble_eq_true rfl)
theorem q_X11_piece_100 {call : CALL} {L X : Nat} {I : Nat → Nat → Int32} {J : Nat → Nat → Int64} {u0 : Option Value} {u1 : Option Value} {u2 : Option Value} {s1 : Int32} : runI call iX11_piece (100, [u0, u1, u2], [.int s1, .ref 3], (mm L X I J)) = bnd (call nX1_footOf [.ref 3, .int s1] (mm L X I J)) (fun v m' => runI call iX11_piece (103, [u0, u1, u2], v.toList ++ [], m')) := by
  exact iv0 dX11_piece_100 rfl cp_11_243 rfl rfl (kd_ka ka_3) ka_3.1 (Nat.le_of_ble_eq_true rfl)
theorem q_X11_piece_115 {call : CALL} {L X : Nat} {I : Nat → Nat → Int32} {J : Nat → Nat → Int64} {u0 : Option Value} {u1 : Option Value} {u2 : Option Value} {s0 : Int32} : runI call iX11_piece (115, [u0, u1, u2], [.int s0], (mm L X I J)) = some (.inl (some (.int s0)), (mm L X I J)) := by
  exact ret0 dX11_piece_115 rfl
theorem q_X11_piece_127 {call : CALL} {L X : Nat} {I : Nat → Nat → Int32} {J : Nat → Nat → Int64} {u0 : Option Value} {u1 : Option Value} {u2 : Option Value} {s0 : Int32} : runI call iX11_piece (127, [u0, u1, u2], [.int s0], (mm L X I J)) = some (.inl (some (.int s0)), (mm L X I J)) := by
  exact ret0 dX11_piece_127 rfl
theorem q_X11_piece_139 {call : CALL} {L X : Nat} {I : Nat → Nat → Int32} {J : Nat → Nat → Int64} {u0 : Option Value} {u1 : Option Value} {u2 : Option Value} {s0 : Int32} : runI call iX11_piece (139, [u0, u1, u2], [.int s0], (mm L X I J)) = some (.inl (some (.int s0)), (mm L X I J)) := by
  exact ret0 dX11_piece_139 rfl
theorem q_X11_piece_151 {call : CALL} {L X : Nat} {I : Nat → Nat → Int32} {J : Nat → Nat → Int64} {u0 : Option Value} {u1 : Option Value} {u2 : Option Value} {s0 : Int32} : runI call iX11_piece (151, [u0, u1, u2], [.int s0], (mm L X I J)) = some (.inl (some (.int s0)), (mm L X I J)) := by
  exact ret0 dX11_piece_151 rfl
theorem q_X11_piece_160 {call : CALL} {L X : Nat} {I : Nat → Nat → Int32} {J : Nat → Nat → Int64} {u0 : Option Value} {u1 : Option Value} {u2 : Option Value} {s0 : Int32} : runI call iX11_piece (160, [u0, u1, u2], [.int s0], (mm L X I J)) = some (.inl (some (.int s0)), (mm L X I J)) := by
  exact ret0 dX11_piece_160 rfl
theorem q_X11_piece_87 {call : CALL} {L X : Nat} {I : Nat → Nat → Int32} {J : Nat → Nat → Int64} {u0 : Option Value} {u1 : Option Value} {u2 : Option Value} {s0 : Int32} : runI call iX11_piece (87, [u0, u1, u2], [.int s0], (mm L X I J)) = some (.inl (some (.int s0)), (mm L X I J)) := by
  exact ret0 dX11_piece_87 rfl
theorem q_X11_piece_103 {call : CALL} {L X : Nat} {I : Nat → Nat → Int32} {J : Nat → Nat → Int64} {u0 : Option Value} {u1 : Option Value} {u2 : Option Value} {s0 : Int32} : runI call iX11_piece (103, [u0, u1, u2], [.int s0], (mm L X I J)) = some (.inl (some (.int s0)), (mm L X I J)) := by
  exact ret0 dX11_piece_103 rfl
