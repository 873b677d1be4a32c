/-! EQUATIONS OF THE METHODS (written by gen_eq.py) -/
theorem q_X2_add_0 {call : CALL} {L X : Nat} {I : Nat → Nat → Int32} {J : Nat → Nat → Int64} {a0 : Nat} {x1 : Int32} (h0 : oc2 a0) : runI call iX2_add (0, [some (.ref a0), some (.int x1)], [], (mm L X I J)) = bndN (call nX11_put [.ref (a0 + 1), .int (I a0 1), .int x1] (mm L X I J)) (fun v m' => runI call iX2_add (12, [some (.ref a0), some (.int x1)], v.toList ++ [], m')) := by
  refine Eq.trans (st1 dX2_add_0 rfl rfl) ?_
  refine Eq.trans (getRm dX2_add_1 cp_2_9 (ks2_0 h0) rfl (rs2_0 h0)) ?_
  refine Eq.trans (st1 dX2_add_4 rfl rfl) ?_
  refine Eq.trans (getIm dX2_add_5 cp_2_27 (ks2_0 h0) (.inl rfl)) ?_
  refine Eq.trans (st1 dX2_add_8 rfl rfl) ?_
  exact is3 dX2_add_9 cp_2_84 (Nat.le_of_ble_eq_true rfl) rfl rfl (Nat.le_of_ble_eq_true rfl)
theorem q_X2_add_12 {call : CALL} {L X : Nat} {I : Nat → Nat → Int32} {J : Nat → Nat → Int64} {a0 : Nat} {u1 : Option Value} (h0 : oc2 a0) : runI call iX2_add (12, [some (.ref a0), u1], [], (mm L X I J)) = some (.inl (some (.int (nI 1))), (mm L X (up2 I a0 1 (if ((I a0 1) + (nI 1)) < (nI 150) then ((I a0 1) + (nI 1)) else (nI 150))) J)) := by
  refine Eq.trans (st1 dX2_add_12 rfl rfl) ?_
  refine Eq.trans (xsipush dX2_add_13 cs_150) ?_
  refine Eq.trans (st1 dX2_add_16 rfl rfl) ?_
  refine Eq.trans (getIm dX2_add_17 cp_2_27 (ks2_0 h0) (.inl rfl)) ?_
  refine Eq.trans (xiconst dX2_add_20 ci_1) ?_
  refine Eq.trans (st1 dX2_add_21 rfl rfl) ?_
  refine Eq.trans (imin dX2_add_22 cp_2_88 (Nat.le_of_ble_eq_true rfl)) ?_
  refine Eq.trans (putIm dX2_add_25 cp_2_27 (ks2_0 h0) rfl) ?_
  refine Eq.trans (xiconst dX2_add_28 ci_1) ?_
  exact ret1 dX2_add_29 rfl (.inr rfl)
theorem q_X2_become_0 {call : CALL} {L X : Nat} {I : Nat → Nat → Int32} {J : Nat → Nat → Int64} {a0 : Nat} {a1 : Nat} (h0 : oc2 a0) (h1 : oc2 a1) : runI call iX2_become (0, [some (.ref a0), some (.ref a1)], [], (mm L X I J)) = gd (cpok (nI 0) (nI 0) (nI 150) 150 150) (some (.inl none, (mm L X (up1 (up2 I a0 1 (I a1 1)) (a0 + 1) (va_cpy ((up2 I a0 1 (I a1 1)) (a1 + 1)) ((up2 I a0 1 (I a1 1)) (a0 + 1)) ((nI 0)).toNatClampNeg ((nI 0)).toNatClampNeg ((nI 150)).toNatClampNeg)) J))) := by
  refine Eq.trans (st1 dX2_become_0 rfl rfl) ?_
  refine Eq.trans (st1 dX2_become_1 rfl rfl) ?_
  refine Eq.trans (getIm dX2_become_2 cp_2_27 (ks2_0 h1) (.inl rfl)) ?_
  refine Eq.trans (putIm dX2_become_5 cp_2_27 (ks2_0 h0) rfl) ?_
  refine Eq.trans (st1 dX2_become_8 rfl rfl) ?_
  refine Eq.trans (getRm dX2_become_9 cp_2_9 (ks2_0 h1) rfl (rs2_0 h1)) ?_
  refine Eq.trans (xiconst dX2_become_12 ci_0) ?_
  refine Eq.trans (st1 dX2_become_13 rfl rfl) ?_
  refine Eq.trans (getRm dX2_become_14 cp_2_9 (ks2_0 h0) rfl (rs2_0 h0)) ?_
  refine Eq.trans (xiconst dX2_become_17 ci_0) ?_
  refine Eq.trans (xsipush dX2_become_18 cs_150) ?_
  refine Eq.trans (icpym dX2_become_21 cp_2_31 (ks2_1 h1) (ks2_1 h0) (Nat.le_of_ble_eq_true rfl)) (gd_congr fun _ => ?_)
  exact ret3 dX2_become_24 (.inl rfl)
theorem q_X2_tellPiece_0 {call : CALL} {L X : Nat} {I : Nat → Nat → Int32} {J : Nat → Nat → Int64} {a0 : Nat} {x1 : Int32} {x2 : Int32} {x3 : Int32} {x4 : Int32} (h0 : oc2 a0) : runI call iX2_tellPiece (0, [some (.ref a0), some (.int x1), some (.int x2), some (.int x3), some (.int x4)], [], (mm L X I J)) = runI call iX2_tellPiece (31, [some (.ref a0), some (.int x1), some (.int x2), some (.int x3), some (.int x4)], [], (mm L X (up2 (up2 (up2 (up2 I (a0 + 3) 1 x1) (a0 + 3) 2 x2) (a0 + 3) 6 x3) (a0 + 3) 8 x4) J)) := by
  refine Eq.trans (st1 dX2_tellPiece_0 rfl rfl) ?_
  refine Eq.trans (getRm dX2_tellPiece_1 cp_2_18 (ks2_0 h0) rfl (rs2_3 h0)) ?_
  refine Eq.trans (xiconst dX2_tellPiece_4 ci_1) ?_
  refine Eq.trans (st1 dX2_tellPiece_5 rfl rfl) ?_
  refine Eq.trans (as1c dX2_tellPiece_6 (ks2_3 h0) (by decide +kernel) nc_1) ?_
  refine Eq.trans (st1 dX2_tellPiece_7 rfl rfl) ?_
  refine Eq.trans (getRm dX2_tellPiece_8 cp_2_18 (ks2_0 h0) rfl (rs2_3 h0)) ?_
  refine Eq.trans (xiconst dX2_tellPiece_11 ci_2) ?_
  refine Eq.trans (st1 dX2_tellPiece_12 rfl rfl) ?_
  refine Eq.trans (as1c dX2_tellPiece_13 (ks2_3 h0) (by decide +kernel) nc_2) ?_
  refine Eq.trans (st1 dX2_tellPiece_14 rfl rfl) ?_
  refine Eq.trans (getRm dX2_tellPiece_15 cp_2_18 (ks2_0 h0) rfl (rs2_3 h0)) ?_
  refine Eq.trans (xbipush dX2_tellPiece_18 cb_6) ?_
  refine Eq.trans (st1 dX2_tellPiece_20 rfl rfl) ?_
  refine Eq.trans (as1c dX2_tellPiece_21 (ks2_3 h0) (by decide +kernel) nc_6) ?_
  refine Eq.trans (st1 dX2_tellPiece_22 rfl rfl) ?_
  refine Eq.trans (getRm dX2_tellPiece_23 cp_2_18 (ks2_0 h0) rfl (rs2_3 h0)) ?_
  refine Eq.trans (xbipush dX2_tellPiece_26 cb_8) ?_
  refine Eq.trans (st1 dX2_tellPiece_28 rfl rfl) ?_
  refine Eq.trans (as1c dX2_tellPiece_30 (ks2_3 h0) (by decide +kernel) nc_8) ?_
  rfl
theorem q_X2_tellPiece_31 {call : CALL} {L X : Nat} {I : Nat → Nat → Int32} {J : Nat → Nat → Int64} {u0 : Option Value} {u1 : Option Value} {u2 : Option Value} {u3 : Option Value} {u4 : Option Value} : runI call iX2_tellPiece (31, [u0, u1, u2, u3, u4], [], (mm L X I J)) = some (.inl none, (mm L X I J)) := by
  exact ret3 dX2_tellPiece_31 (.inl rfl)
theorem q_X2_tellNow_0 {call : CALL} {L X : Nat} {I : Nat → Nat → Int32} {J : Nat → Nat → Int64} {a0 : Nat} {x1 : Int32} {x2 : Int32} {x3 : Int32} {x4 : Int32} {x5 : Int32} (h0 : oc2 a0) : runI call iX2_tellNow (0, [some (.ref a0), some (.int x1), some (.int x2), some (.int x3), some (.int x4), some (.int x5)], [], (mm L X I J)) = runI call iX2_tellNow (29, [some (.ref a0), some (.int x1), some (.int x2), some (.int x3), some (.int x4), some (.int x5)], [], (mm L X (up2 (up2 (up2 (up2 I (a0 + 3) 0 x1) (a0 + 3) 3 x2) (a0 + 3) 4 x3) (a0 + 3) 5 x4) J)) := by
  refine Eq.trans (st1 dX2_tellNow_0 rfl rfl) ?_
  refine Eq.trans (getRm dX2_tellNow_1 cp_2_18 (ks2_0 h0) rfl (rs2_3 h0)) ?_
  refine Eq.trans (xiconst dX2_tellNow_4 ci_0) ?_
  refine Eq.trans (st1 dX2_tellNow_5 rfl rfl) ?_
  refine Eq.trans (as1c dX2_tellNow_6 (ks2_3 h0) (by decide +kernel) nc_0) ?_
  refine Eq.trans (st1 dX2_tellNow_7 rfl rfl) ?_
  refine Eq.trans (getRm dX2_tellNow_8 cp_2_18 (ks2_0 h0) rfl (rs2_3 h0)) ?_
  refine Eq.trans (xiconst dX2_tellNow_11 ci_3) ?_
  refine Eq.trans (st1 dX2_tellNow_12 rfl rfl) ?_
  refine Eq.trans (as1c dX2_tellNow_13 (ks2_3 h0) (by decide +kernel) nc_3) ?_
  refine Eq.trans (st1 dX2_tellNow_14 rfl rfl) ?_
  refine Eq.trans (getRm dX2_tellNow_15 cp_2_18 (ks2_0 h0) rfl (rs2_3 h0)) ?_
  refine Eq.trans (xiconst dX2_tellNow_18 ci_4) ?_
  refine Eq.trans (st1 dX2_tellNow_19 rfl rfl) ?_
  refine Eq.trans (as1c dX2_tellNow_20 (ks2_3 h0) (by decide +kernel) nc_4) ?_
  refine Eq.trans (st1 dX2_tellNow_21 rfl rfl) ?_
  refine Eq.trans (getRm dX2_tellNow_22 cp_2_18 (ks2_0 h0) rfl (rs2_3 h0)) ?_
  refine Eq.trans (xiconst dX2_tellNow_25 ci_5) ?_
  refine Eq.trans (st1 dX2_tellNow_26 rfl rfl) ?_
  refine Eq.trans (as1c dX2_tellNow_28 (ks2_3 h0) (by decide +kernel) nc_5) ?_
  rfl
theorem q_X2_tellNow_29 {call : CALL} {L X : Nat} {I : Nat → Nat → Int32} {J : Nat → Nat → Int64} {a0 : Nat} {u1 : Option Value} {u2 : Option Value} {u3 : Option Value} {u4 : Option Value} {x5 : Int32} (h0 : oc2 a0) : runI call iX2_tellNow (29, [some (.ref a0), u1, u2, u3, u4, some (.int x5)], [], (mm L X I J)) = some (.inl none, (mm L X (up2 I (a0 + 3) 7 x5) J)) := by
  refine Eq.trans (st1 dX2_tellNow_29 rfl rfl) ?_
  refine Eq.trans (getRm dX2_tellNow_30 cp_2_18 (ks2_0 h0) rfl (rs2_3 h0)) ?_
  refine Eq.trans (xbipush dX2_tellNow_33 cb_7) ?_
  refine Eq.trans (st1 dX2_tellNow_35 rfl rfl) ?_
  refine Eq.trans (as1c dX2_tellNow_37 (ks2_3 h0) (by decide +kernel) nc_7) ?_
  exact ret3 dX2_tellNow_38 (.inl rfl)
theorem q_X2_left_0 {call : CALL} {L X : Nat} {I : Nat → Nat → Int32} {J : Nat → Nat → Int64} {a0 : Nat} (h0 : oc2 a0) : runI call iX2_left (0, [some (.ref a0), none, none, none], [], (mm L X I J)) = runI call iX2_left (4, [some (.ref a0), some (.int (nI 0)), some (.int (nI 0)), none], [], (mm L X I J)) := by
  refine Eq.trans (xiconst dX2_left_0 ci_0) ?_
  refine Eq.trans (st1 dX2_left_1 rfl rfl) ?_
  refine Eq.trans (xiconst dX2_left_2 ci_0) ?_
  refine Eq.trans (st1 dX2_left_3 rfl rfl) ?_
  rfl
theorem q_X2_left_4 {call : CALL} {L X : Nat} {I : Nat → Nat → Int32} {J : Nat → Nat → Int64} {a0 : Nat} {x1 : Int32} {x2 : Int32} {u3 : Option Value} (h0 : oc2 a0) : runI call iX2_left (4, [some (.ref a0), some (.int x1), some (.int x2), u3], [], (mm L X I J)) = if (I a0 1) ≤ x2 then runI call iX2_left (116, [some (.ref a0), some (.int x1), some (.int x2), u3], [], (mm L X I J)) else if (nI 150) ≤ x2 then runI call iX2_left (116, [some (.ref a0), some (.int x1), some (.int x2), u3], [], (mm L X I J)) else gd (inb x2 150) (if (nI 2000) ≤ (I (a0 + 1) (x2).toNatClampNeg) then if x1 < (nI 2) then runI call iX2_left (110, [some (.ref a0), some (.int x1), some (.int x2), some (.int (I (a0 + 1) (x2).toNatClampNeg))], [], (mm L X I J)) else if (nI 32) < x1 then runI call iX2_left (110, [some (.ref a0), some (.int x1), some (.int x2), some (.int (I (a0 + 1) (x2).toNatClampNeg))], [], (mm L X I J)) else gd (inb ((x1 + (-1 : Int32)) - (nI 1)) 32) (gd (inb (x1 + (-1 : Int32)) 32) (bndN (call nX2_reckon [.int (I (a0 + 1) (x2).toNatClampNeg), .int (I (a0 + 2) (((x1 + (-1 : Int32)) - (nI 1))).toNatClampNeg), .int (I (a0 + 2) ((x1 + (-1 : Int32))).toNatClampNeg)] (mm L X I J)) (fun v m' => runI call iX2_left (109, [some (.ref a0), some (.int (x1 + (-1 : Int32))), some (.int x2), some (.int (I (a0 + 1) (x2).toNatClampNeg))], v.toList ++ [.int ((x1 + (-1 : Int32)) - (nI 1)), .ref (a0 + 2)], m')))) else if (nI 1000) ≤ (I (a0 + 1) (x2).toNatClampNeg) then bndN (call nX11_pick [.ref (a0 + 3), .int ((I (a0 + 1) (x2).toNatClampNeg) - (nI 1000))] (mm L X I J)) (fun v m' => runI call iX2_left (61, [some (.ref a0), some (.int x1), some (.int x2), some (.int (I (a0 + 1) (x2).toNatClampNeg))], v.toList ++ [.int x1, .ref (a0 + 2)], m')) else runI call iX2_left (61, [some (.ref a0), some (.int x1), some (.int x2), some (.int (I (a0 + 1) (x2).toNatClampNeg))], [.int (I (a0 + 1) (x2).toNatClampNeg), .int x1, .ref (a0 + 2)], (mm L X I J))) := by
  refine Eq.trans (st1 dX2_left_4 rfl rfl) ?_
  refine Eq.trans (st1 dX2_left_5 rfl rfl) ?_
  refine Eq.trans (getIm dX2_left_6 cp_2_27 (ks2_0 h0) (.inl rfl)) ?_
  refine Eq.trans (ic_ge (tgt := 116) dX2_left_9 (by decide +kernel)) (ite_cong (fun _ => ?_) (fun _ => ?_))
  · rfl
  · refine Eq.trans (st1 dX2_left_12 rfl rfl) ?_
    refine Eq.trans (xsipush dX2_left_13 cs_150) ?_
    refine Eq.trans (ic_ge (tgt := 116) dX2_left_16 (by decide +kernel)) (ite_cong (fun _ => ?_) (fun _ => ?_))
    · rfl
    · refine Eq.trans (st1 dX2_left_19 rfl rfl) ?_
      refine Eq.trans (getRm dX2_left_20 cp_2_9 (ks2_0 h0) rfl (rs2_0 h0)) ?_
      refine Eq.trans (st1 dX2_left_23 rfl rfl) ?_
      refine Eq.trans (al1m dX2_left_24 (ks2_1 h0)) (gd_congr fun g1 => ?_)
      refine Eq.trans (st1 dX2_left_25 rfl rfl) ?_
      refine Eq.trans (st1 dX2_left_26 rfl rfl) ?_
      refine Eq.trans (xsipush dX2_left_27 cs_2000) ?_
      refine Eq.trans (ic_ge (tgt := 70) dX2_left_30 (by decide +kernel)) (ite_cong (fun _ => ?_) (fun _ => ?_))
      · refine Eq.trans (st1 dX2_left_70 rfl rfl) ?_
        refine Eq.trans (xiconst dX2_left_71 ci_2) ?_
        refine Eq.trans (ic_lt (tgt := 110) dX2_left_72 (by decide +kernel)) (ite_cong (fun _ => ?_) (fun _ => ?_))
        · rfl
        · refine Eq.trans (st1 dX2_left_75 rfl rfl) ?_
          refine Eq.trans (xbipush dX2_left_76 cb_32) ?_
          refine Eq.trans (ic_gt (tgt := 110) dX2_left_78 (by decide +kernel)) (ite_cong (fun _ => ?_) (fun _ => ?_))
          · rfl
          · refine Eq.trans (xinc2 dX2_left_81 ci_m1 rfl (Nat.le_of_ble_eq_true rfl) rfl) ?_
            refine Eq.trans (st1 dX2_left_84 rfl rfl) ?_
            refine Eq.trans (getRm dX2_left_85 cp_2_15 (ks2_0 h0) rfl (rs2_2 h0)) ?_
            refine Eq.trans (st1 dX2_left_88 rfl rfl) ?_
            refine Eq.trans (xiconst dX2_left_89 ci_1) ?_
            refine Eq.trans (st1 dX2_left_90 rfl rfl) ?_
            refine Eq.trans (st1 dX2_left_91 rfl rfl) ?_
            refine Eq.trans (st1 dX2_left_92 rfl rfl) ?_
            refine Eq.trans (getRm dX2_left_93 cp_2_15 (ks2_0 h0) rfl (rs2_2 h0)) ?_
            refine Eq.trans (st1 dX2_left_96 rfl rfl) ?_
            refine Eq.trans (xiconst dX2_left_97 ci_1) ?_
            refine Eq.trans (st1 dX2_left_98 rfl rfl) ?_
            refine Eq.trans (al1m dX2_left_99 (ks2_2 h0)) (gd_congr fun g2 => ?_)
            refine Eq.trans (st1 dX2_left_100 rfl rfl) ?_
            refine Eq.trans (getRm dX2_left_101 cp_2_15 (ks2_0 h0) rfl (rs2_2 h0)) ?_
            refine Eq.trans (st1 dX2_left_104 rfl rfl) ?_
            refine Eq.trans (al1m dX2_left_105 (ks2_2 h0)) (gd_congr fun g3 => ?_)
            exact is2 dX2_left_106 cp_2_98 (Nat.le_of_ble_eq_true rfl) rfl rfl (Nat.le_of_ble_eq_true rfl)
      · refine Eq.trans (st1 dX2_left_33 rfl rfl) ?_
        refine Eq.trans (getRm dX2_left_34 cp_2_15 (ks2_0 h0) rfl (rs2_2 h0)) ?_
        refine Eq.trans (st1 dX2_left_37 rfl rfl) ?_
        refine Eq.trans (st1 dX2_left_38 rfl rfl) ?_
        refine Eq.trans (xsipush dX2_left_39 cs_1000) ?_
        refine Eq.trans (ic_ge (tgt := 49) dX2_left_42 (by decide +kernel)) (ite_cong (fun _ => ?_) (fun _ => ?_))
        · refine Eq.trans (st1 dX2_left_49 rfl rfl) ?_
          refine Eq.trans (getRm dX2_left_50 cp_2_18 (ks2_0 h0) rfl (rs2_3 h0)) ?_
          refine Eq.trans (st1 dX2_left_53 rfl rfl) ?_
          refine Eq.trans (xsipush dX2_left_54 cs_1000) ?_
          refine Eq.trans (st1 dX2_left_57 rfl rfl) ?_
          exact is3 dX2_left_58 cp_2_94 (Nat.le_of_ble_eq_true rfl) rfl rfl (Nat.le_of_ble_eq_true rfl)
        · refine Eq.trans (st1 dX2_left_45 rfl rfl) ?_
          refine Eq.trans (go_to (tgt := 61) dX2_left_46 (by decide +kernel)) ?_
          rfl
theorem q_X2_left_116 {call : CALL} {L X : Nat} {I : Nat → Nat → Int32} {J : Nat → Nat → Int64} {a0 : Nat} {u1 : Option Value} {u2 : Option Value} {u3 : Option Value} (h0 : oc2 a0) (hu1 : okv u1 = true) : runI call iX2_left (116, [some (.ref a0), u1, u2, u3], [], (mm L X I J)) = if (nI 0) ≤ (I (a0 + 2) 0) then if (I (a0 + 2) 0) ≤ (nI 99) then some (.inl (some (.int (I (a0 + 2) 0))), (mm L X I J)) else some (.inl (some (.int (nI 99))), (mm L X I J)) else some (.inl (some (.int (nI 0))), (mm L X I J)) := by
  refine Eq.trans (st1 dX2_left_116 rfl rfl) ?_
  refine Eq.trans (getRm dX2_left_117 cp_2_15 (ks2_0 h0) rfl (rs2_2 h0)) ?_
  refine Eq.trans (xiconst dX2_left_120 ci_0) ?_
  refine Eq.trans (al1c dX2_left_121 (ks2_2 h0) (by decide +kernel) nc_0) ?_
  refine Eq.trans (xst1 (k := 2) dX2_left_122 hu1 rfl) ?_
  refine Eq.trans (st1 dX2_left_123 rfl rfl) ?_
  refine Eq.trans (if_ge (tgt := 131) dX2_left_124 (by decide +kernel)) (ite_cong (fun _ => ?_) (fun _ => ?_))
  · refine Eq.trans (st1 dX2_left_131 rfl rfl) ?_
    refine Eq.trans (xbipush dX2_left_132 cb_99) ?_
    refine Eq.trans (ic_le (tgt := 142) dX2_left_134 (by decide +kernel)) (ite_cong (fun _ => ?_) (fun _ => ?_))
    · refine Eq.trans (st1 dX2_left_142 rfl rfl) ?_
      exact ret0 dX2_left_143 rfl
    · refine Eq.trans (xbipush dX2_left_137 cb_99) ?_
      refine Eq.trans (go_to (tgt := 143) dX2_left_139 (by decide +kernel)) ?_
      exact ret0 dX2_left_143 rfl
  · refine Eq.trans (xiconst dX2_left_127 ci_0) ?_
    refine Eq.trans (go_to (tgt := 143) dX2_left_128 (by decide +kernel)) ?_
    exact ret0 dX2_left_143 rfl
theorem q_X2_left_110 {call : CALL} {L X : Nat} {I : Nat → Nat → Int32} {J : Nat → Nat → Int64} {a0 : Nat} {x1 : Int32} {x2 : Int32} {u3 : Option Value} (h0 : oc2 a0) : runI call iX2_left (110, [some (.ref a0), some (.int x1), some (.int x2), u3], [], (mm L X I J)) = runI call iX2_left (4, [some (.ref a0), some (.int x1), some (.int (x2 + (nI 1))), u3], [], (mm L X I J)) := by
  refine Eq.trans (xinc2 dX2_left_110 ci_1 rfl (Nat.le_of_ble_eq_true rfl) rfl) ?_
  refine Eq.trans (go_to (tgt := 4) dX2_left_113 (by decide +kernel)) ?_
  rfl
theorem q_X2_left_109 {call : CALL} {L X : Nat} {I : Nat → Nat → Int32} {J : Nat → Nat → Int64} {a0 : Nat} {x1 : Int32} {x2 : Int32} {u3 : Option Value} {s1 : Int32} {s2 : Int32} (h0 : oc2 a0) : runI call iX2_left (109, [some (.ref a0), some (.int x1), some (.int x2), u3], [.int s2, .int s1, .ref (a0 + 2)], (mm L X I J)) = gd (inb s1 32) (runI call iX2_left (110, [some (.ref a0), some (.int x1), some (.int x2), u3], [], (mm L X (up2 I (a0 + 2) (s1).toNatClampNeg s2) J))) := by
  refine Eq.trans (as1m dX2_left_109 (ks2_2 h0)) (gd_congr fun g1 => ?_)
  rfl
theorem q_X2_left_61 {call : CALL} {L X : Nat} {I : Nat → Nat → Int32} {J : Nat → Nat → Int64} {a0 : Nat} {x1 : Int32} {x2 : Int32} {u3 : Option Value} {s1 : Int32} {s2 : Int32} (h0 : oc2 a0) : runI call iX2_left (61, [some (.ref a0), some (.int x1), some (.int x2), u3], [.int s2, .int s1, .ref (a0 + 2)], (mm L X I J)) = bndN (call nX11_put [.ref (a0 + 2), .int s1, .int s2] (mm L X I J)) (fun v m' => runI call iX2_left (64, [some (.ref a0), some (.int x1), some (.int x2), u3], v.toList ++ [], m')) := by
  exact is3 dX2_left_61 cp_2_84 (Nat.le_of_ble_eq_true rfl) rfl rfl (Nat.le_of_ble_eq_true rfl)
theorem q_X2_left_64 {call : CALL} {L X : Nat} {I : Nat → Nat → Int32} {J : Nat → Nat → Int64} {a0 : Nat} {x1 : Int32} {x2 : Int32} {u3 : Option Value} (h0 : oc2 a0) : runI call iX2_left (64, [some (.ref a0), some (.int x1), some (.int x2), u3], [], (mm L X I J)) = runI call iX2_left (110, [some (.ref a0), some (.int (x1 + (nI 1))), some (.int x2), u3], [], (mm L X I J)) := by
  refine Eq.trans (xinc2 dX2_left_64 ci_1 rfl (Nat.le_of_ble_eq_true rfl) rfl) ?_
  refine Eq.trans (go_to (tgt := 110) dX2_left_67 (by decide +kernel)) ?_
  rfl
theorem q_X2_reckon_0 {call : CALL} {L X : Nat} {I : Nat → Nat → Int32} {J : Nat → Nat → Int64} {x0 : Int32} {x1 : Int32} {x2 : Int32} : runI call iX2_reckon (0, [some (.int x0), some (.int x1), some (.int x2)], [], (mm L X I J)) = runI call iX2_reckon (1, [some (.int x0), some (.int x1), some (.int x2)], [.int x0], (mm L X I J)) := by
  refine Eq.trans (st1 dX2_reckon_0 rfl rfl) ?_
  rfl
theorem q_X2_reckon_1 {call : CALL} {L X : Nat} {I : Nat → Nat → Int32} {J : Nat → Nat → Int64} {u0 : Option Value} {x1 : Int32} {x2 : Int32} {s0 : Int32} : runI call iX2_reckon (1, [u0, some (.int x1), some (.int x2)], [.int s0], (mm L X I J)) = if s0 = (nI 2000) then runI call iX2_reckon (40, [u0, some (.int x1), some (.int x2)], [], (mm L X I J)) else if s0 = (nI 2001) then runI call iX2_reckon (44, [u0, some (.int x1), some (.int x2)], [], (mm L X I J)) else if s0 = (nI 2002) then runI call iX2_reckon (48, [u0, some (.int x1), some (.int x2)], [], (mm L X I J)) else if s0 = (nI 2003) then runI call iX2_reckon (52, [u0, some (.int x1), some (.int x2)], [], (mm L X I J)) else if s0 = (nI 2004) then runI call iX2_reckon (64, [u0, some (.int x1), some (.int x2)], [], (mm L X I J)) else if s0 = (nI 2005) then runI call iX2_reckon (76, [u0, some (.int x1), some (.int x2)], [], (mm L X I J)) else runI call iX2_reckon (87, [u0, some (.int x1), some (.int x2)], [], (mm L X I J)) := by
  refine ite_cong2 (fun e2000 => sw_t dX2_reckon_1 (by rw [e2000]; decide +kernel)) (fun e2000 => ?_)
  refine ite_cong2 (fun e2001 => sw_t dX2_reckon_1 (by rw [e2001]; decide +kernel)) (fun e2001 => ?_)
  refine ite_cong2 (fun e2002 => sw_t dX2_reckon_1 (by rw [e2002]; decide +kernel)) (fun e2002 => ?_)
  refine ite_cong2 (fun e2003 => sw_t dX2_reckon_1 (by rw [e2003]; decide +kernel)) (fun e2003 => ?_)
  refine ite_cong2 (fun e2004 => sw_t dX2_reckon_1 (by rw [e2004]; decide +kernel)) (fun e2004 => ?_)
  refine ite_cong2 (fun e2005 => sw_t dX2_reckon_1 (by rw [e2005]; decide +kernel)) (fun e2005 => ?_)
  exact sw_t dX2_reckon_1 (swT_dflt (vs := [(2000 : Int), (2001 : Int), (2002 : Int), (2003 : Int), (2004 : Int), (2005 : Int)]) (by decide +kernel) (fun v hv => by simp only [List.mem_cons, List.not_mem_nil, or_false] at hv; rcases hv with rfl | rfl | rfl | rfl | rfl | rfl <;> first | exact ne_toInt (by decide +kernel) e2000 | exact ne_toInt (by decide +kernel) e2001 | exact ne_toInt (by decide +kernel) e2002 | exact ne_toInt (by decide +kernel) e2003 | exact ne_toInt (by decide +kernel) e2004 | exact ne_toInt (by decide +kernel) e2005))
theorem q_X2_reckon_40 {call : CALL} {L X : Nat} {I : Nat → Nat → Int32} {J : Nat → Nat → Int64} {u0 : Option Value} {x1 : Int32} {x2 : Int32} : runI call iX2_reckon (40, [u0, some (.int x1), some (.int x2)], [], (mm L X I J)) = some (.inl (some (.int (x1 + x2))), (mm L X I J)) := by
  refine Eq.trans (st1 dX2_reckon_40 rfl rfl) ?_
  refine Eq.trans (st1 dX2_reckon_41 rfl rfl) ?_
  refine Eq.trans (st1 dX2_reckon_42 rfl rfl) ?_
  exact ret0 dX2_reckon_43 rfl
theorem q_X2_reckon_44 {call : CALL} {L X : Nat} {I : Nat → Nat → Int32} {J : Nat → Nat → Int64} {u0 : Option Value} {x1 : Int32} {x2 : Int32} : runI call iX2_reckon (44, [u0, some (.int x1), some (.int x2)], [], (mm L X I J)) = some (.inl (some (.int (x1 - x2))), (mm L X I J)) := by
  refine Eq.trans (st1 dX2_reckon_44 rfl rfl) ?_
  refine Eq.trans (st1 dX2_reckon_45 rfl rfl) ?_
  refine Eq.trans (st1 dX2_reckon_46 rfl rfl) ?_
  exact ret0 dX2_reckon_47 rfl
theorem q_X2_reckon_48 {call : CALL} {L X : Nat} {I : Nat → Nat → Int32} {J : Nat → Nat → Int64} {u0 : Option Value} {x1 : Int32} {x2 : Int32} : runI call iX2_reckon (48, [u0, some (.int x1), some (.int x2)], [], (mm L X I J)) = some (.inl (some (.int (x1 * x2))), (mm L X I J)) := by
  refine Eq.trans (st1 dX2_reckon_48 rfl rfl) ?_
  refine Eq.trans (st1 dX2_reckon_49 rfl rfl) ?_
  refine Eq.trans (st1 dX2_reckon_50 rfl rfl) ?_
  exact ret0 dX2_reckon_51 rfl
theorem q_X2_reckon_52 {call : CALL} {L X : Nat} {I : Nat → Nat → Int32} {J : Nat → Nat → Int64} {u0 : Option Value} {x1 : Int32} {x2 : Int32} : runI call iX2_reckon (52, [u0, some (.int x1), some (.int x2)], [], (mm L X I J)) = if x2 = (nI 0) then some (.inl (some (.int (nI 0))), (mm L X I J)) else gd (nz x2) (some (.inl (some (.int (x1 / x2))), (mm L X I J))) := by
  refine Eq.trans (st1 dX2_reckon_52 rfl rfl) ?_
  refine Eq.trans (if_ne (tgt := 60) dX2_reckon_53 (by decide +kernel)) (ite_cong (fun _ => ?_) (fun _ => ?_))
  · refine Eq.trans (xiconst dX2_reckon_56 ci_0) ?_
    refine Eq.trans (go_to (tgt := 63) dX2_reckon_57 (by decide +kernel)) ?_
    exact ret0 dX2_reckon_63 rfl
  · refine Eq.trans (st1 dX2_reckon_60 rfl rfl) ?_
    refine Eq.trans (st1 dX2_reckon_61 rfl rfl) ?_
    refine Eq.trans (idvg dX2_reckon_62) (gd_congr fun g1 => ?_)
    exact ret0 dX2_reckon_63 rfl
theorem q_X2_reckon_64 {call : CALL} {L X : Nat} {I : Nat → Nat → Int32} {J : Nat → Nat → Int64} {u0 : Option Value} {x1 : Int32} {x2 : Int32} : runI call iX2_reckon (64, [u0, some (.int x1), some (.int x2)], [], (mm L X I J)) = if x2 = (nI 0) then some (.inl (some (.int (nI 0))), (mm L X I J)) else gd (nz x2) (some (.inl (some (.int (x1 - x1 / x2 * x2))), (mm L X I J))) := by
  refine Eq.trans (st1 dX2_reckon_64 rfl rfl) ?_
  refine Eq.trans (if_ne (tgt := 72) dX2_reckon_65 (by decide +kernel)) (ite_cong (fun _ => ?_) (fun _ => ?_))
  · refine Eq.trans (xiconst dX2_reckon_68 ci_0) ?_
    refine Eq.trans (go_to (tgt := 75) dX2_reckon_69 (by decide +kernel)) ?_
    exact ret0 dX2_reckon_75 rfl
  · refine Eq.trans (st1 dX2_reckon_72 rfl rfl) ?_
    refine Eq.trans (st1 dX2_reckon_73 rfl rfl) ?_
    refine Eq.trans (irmg dX2_reckon_74) (gd_congr fun g1 => ?_)
    exact ret0 dX2_reckon_75 rfl
theorem q_X2_reckon_76 {call : CALL} {L X : Nat} {I : Nat → Nat → Int32} {J : Nat → Nat → Int64} {u0 : Option Value} {x1 : Int32} {x2 : Int32} : runI call iX2_reckon (76, [u0, some (.int x1), some (.int x2)], [], (mm L X I J)) = if x2 < x1 then some (.inl (some (.int x2)), (mm L X I J)) else some (.inl (some (.int x1)), (mm L X I J)) := by
  refine Eq.trans (st1 dX2_reckon_76 rfl rfl) ?_
  refine Eq.trans (st1 dX2_reckon_77 rfl rfl) ?_
  refine Eq.trans (ic_gt (tgt := 85) dX2_reckon_78 (by decide +kernel)) (ite_cong (fun _ => ?_) (fun _ => ?_))
  · refine Eq.trans (st1 dX2_reckon_85 rfl rfl) ?_
    exact ret0 dX2_reckon_86 rfl
  · refine Eq.trans (st1 dX2_reckon_81 rfl rfl) ?_
    refine Eq.trans (go_to (tgt := 86) dX2_reckon_82 (by decide +kernel)) ?_
    exact ret0 dX2_reckon_86 rfl
theorem q_X2_reckon_87 {call : CALL} {L X : Nat} {I : Nat → Nat → Int32} {J : Nat → Nat → Int64} {u0 : Option Value} {x1 : Int32} {x2 : Int32} : runI call iX2_reckon (87, [u0, some (.int x1), some (.int x2)], [], (mm L X I J)) = if x1 < x2 then some (.inl (some (.int x2)), (mm L X I J)) else some (.inl (some (.int x1)), (mm L X I J)) := by
  refine Eq.trans (st1 dX2_reckon_87 rfl rfl) ?_
  refine Eq.trans (st1 dX2_reckon_88 rfl rfl) ?_
  refine Eq.trans (ic_lt (tgt := 96) dX2_reckon_89 (by decide +kernel)) (ite_cong (fun _ => ?_) (fun _ => ?_))
  · refine Eq.trans (st1 dX2_reckon_96 rfl rfl) ?_
    exact ret0 dX2_reckon_97 rfl
  · refine Eq.trans (st1 dX2_reckon_92 rfl rfl) ?_
    refine Eq.trans (go_to (tgt := 97) dX2_reckon_93 (by decide +kernel)) ?_
    exact ret0 dX2_reckon_97 rfl
theorem q_X3_begin_0 {call : CALL} {L X : Nat} {I : Nat → Nat → Int32} {J : Nat → Nat → Int64} {a0 : Nat} {x1 : Int32} (h0 : oc3 a0) : runI call iX3_begin (0, [some (.ref a0), some (.int x1)], [], (mm L X I J)) = bndN (call nJ7_fill_53178 [.ref (a0 + 2), .int (nI 0)] (mm L X I J)) (fun v m' => runI call iX3_begin (8, [some (.ref a0), some (.int x1)], v.toList ++ [], m')) := by
  refine Eq.trans (st1 dX3_begin_0 rfl rfl) ?_
  refine Eq.trans (getRm dX3_begin_1 cp_3_15 (ks3_0 h0) rfl (rs3_1 h0)) ?_
  refine Eq.trans (xiconst dX3_begin_4 ci_0) ?_
  exact is2 dX3_begin_5 cp_3_24 (Nat.le_of_ble_eq_true rfl) rfl rfl (Nat.le_of_ble_eq_true rfl)
theorem q_X3_begin_8 {call : CALL} {L X : Nat} {I : Nat → Nat → Int32} {J : Nat → Nat → Int64} {a0 : Nat} {x1 : Int32} (h0 : oc3 a0) : runI call iX3_begin (8, [some (.ref a0), some (.int x1)], [], (mm L X I J)) = bndN (call nJ7_fill_53178 [.ref (a0 + 3), .int (nI 0)] (mm L X I J)) (fun v m' => runI call iX3_begin (16, [some (.ref a0), some (.int x1)], v.toList ++ [], m')) := by
  refine Eq.trans (st1 dX3_begin_8 rfl rfl) ?_
  refine Eq.trans (getRm dX3_begin_9 cp_3_18 (ks3_0 h0) rfl (rs3_2 h0)) ?_
  refine Eq.trans (xiconst dX3_begin_12 ci_0) ?_
  exact is2 dX3_begin_13 cp_3_24 (Nat.le_of_ble_eq_true rfl) rfl rfl (Nat.le_of_ble_eq_true rfl)
theorem q_X3_begin_16 {call : CALL} {L X : Nat} {I : Nat → Nat → Int32} {J : Nat → Nat → Int64} {a0 : Nat} {x1 : Int32} (h0 : oc3 a0) : runI call iX3_begin (16, [some (.ref a0), some (.int x1)], [], (mm L X I J)) = bndN (call nJ7_fill_53178 [.ref (a0 + 4), .int (-1 : Int32)] (mm L X I J)) (fun v m' => runI call iX3_begin (24, [some (.ref a0), some (.int x1)], v.toList ++ [], m')) := by
  refine Eq.trans (st1 dX3_begin_16 rfl rfl) ?_
  refine Eq.trans (getRm dX3_begin_17 cp_3_21 (ks3_0 h0) rfl (rs3_3 h0)) ?_
  refine Eq.trans (xiconst dX3_begin_20 ci_m1) ?_
  exact is2 dX3_begin_21 cp_3_24 (Nat.le_of_ble_eq_true rfl) rfl rfl (Nat.le_of_ble_eq_true rfl)
theorem q_X3_begin_24 {call : CALL} {L X : Nat} {I : Nat → Nat → Int32} {J : Nat → Nat → Int64} {a0 : Nat} {x1 : Int32} (h0 : oc3 a0) : runI call iX3_begin (24, [some (.ref a0), some (.int x1)], [], (mm L X I J)) = runI call iX3_begin (44, [some (.ref a0), some (.int x1)], [], (mm L X (up2 (up2 (up2 (up2 I a0 4 (nI 0)) a0 5 (nI 0)) a0 6 (nI 0)) a0 7 x1) J)) := by
  refine Eq.trans (st1 dX3_begin_24 rfl rfl) ?_
  refine Eq.trans (xiconst dX3_begin_25 ci_0) ?_
  refine Eq.trans (putIm dX3_begin_26 cp_3_30 (ks3_0 h0) rfl) ?_
  refine Eq.trans (st1 dX3_begin_29 rfl rfl) ?_
  refine Eq.trans (xiconst dX3_begin_30 ci_0) ?_
  refine Eq.trans (putIm dX3_begin_31 cp_3_34 (ks3_0 h0) rfl) ?_
  refine Eq.trans (st1 dX3_begin_34 rfl rfl) ?_
  refine Eq.trans (xiconst dX3_begin_35 ci_0) ?_
  refine Eq.trans (putIm dX3_begin_36 cp_3_37 (ks3_0 h0) rfl) ?_
  refine Eq.trans (st1 dX3_begin_39 rfl rfl) ?_
  refine Eq.trans (st1 dX3_begin_40 rfl rfl) ?_
  refine Eq.trans (putIm dX3_begin_41 cp_3_40 (ks3_0 h0) rfl) ?_
  rfl
theorem q_X3_begin_44 {call : CALL} {L X : Nat} {I : Nat → Nat → Int32} {J : Nat → Nat → Int64} {u0 : Option Value} {u1 : Option Value} : runI call iX3_begin (44, [u0, u1], [], (mm L X I J)) = some (.inl none, (mm L X I J)) := by
  exact ret3 dX3_begin_44 (.inl rfl)
theorem q_X3_readFrom_0 {call : CALL} {L X : Nat} {I : Nat → Nat → Int32} {J : Nat → Nat → Int64} {a0 : Nat} {r1 : Nat} {n1 : Nat} {x2 : Int32} (h0 : oc3 a0) (k1 : ka r1 1 n1) : runI call iX3_readFrom (0, [some (.ref a0), some (.ref r1), some (.int x2), none], [], (mm L X I J)) = if x2 < (nI 0) then some (.inl none, (mm L X I J)) else if x2 ≤ ((nI n1) - (nI 27)) then gd (cpok x2 (nI 0) (nI 6) n1 6) (gd (cpok (x2 + (nI 6)) (nI 0) (nI 6) n1 6) (runI call iX3_readFrom (41, [some (.ref a0), some (.ref r1), some (.int x2), none], [], (mm L X (up1 (up1 I (a0 + 1) (va_cpy (I r1) (I (a0 + 1)) (x2).toNatClampNeg ((nI 0)).toNatClampNeg ((nI 6)).toNatClampNeg)) (a0 + 2) (va_cpy ((up1 I (a0 + 1) (va_cpy (I r1) (I (a0 + 1)) (x2).toNatClampNeg ((nI 0)).toNatClampNeg ((nI 6)).toNatClampNeg)) r1) ((up1 I (a0 + 1) (va_cpy (I r1) (I (a0 + 1)) (x2).toNatClampNeg ((nI 0)).toNatClampNeg ((nI 6)).toNatClampNeg)) (a0 + 2)) ((x2 + (nI 6))).toNatClampNeg ((nI 0)).toNatClampNeg ((nI 6)).toNatClampNeg)) J)))) else some (.inl none, (mm L X I J)) := by
  refine Eq.trans (st1 dX3_readFrom_0 rfl rfl) ?_
  refine Eq.trans (if_lt (tgt := 13) dX3_readFrom_1 (by decide +kernel)) (ite_cong (fun _ => ?_) (fun _ => ?_))
  · exact ret3 dX3_readFrom_13 (.inl rfl)
  · refine Eq.trans (st1 dX3_readFrom_4 rfl rfl) ?_
    refine Eq.trans (st1 dX3_readFrom_5 rfl rfl) ?_
    refine Eq.trans (alen dX3_readFrom_6 (kd_ka k1) (.inl ⟨k1.1, by decide⟩)) ?_
    refine Eq.trans (xbipush dX3_readFrom_7 cb_27) ?_
    refine Eq.trans (st1 dX3_readFrom_9 rfl rfl) ?_
    refine Eq.trans (ic_le (tgt := 14) dX3_readFrom_10 (by decide +kernel)) (ite_cong (fun _ => ?_) (fun _ => ?_))
    · refine Eq.trans (st1 dX3_readFrom_14 rfl rfl) ?_
      refine Eq.trans (st1 dX3_readFrom_15 rfl rfl) ?_
      refine Eq.trans (st1 dX3_readFrom_16 rfl rfl) ?_
      refine Eq.trans (getRm dX3_readFrom_17 cp_3_9 (ks3_0 h0) rfl (rs3_0 h0)) ?_
      refine Eq.trans (xiconst dX3_readFrom_20 ci_0) ?_
      refine Eq.trans (xbipush dX3_readFrom_21 cb_6) ?_
      refine Eq.trans (icpym dX3_readFrom_23 cp_3_43 k1 (ks3_1 h0) (Nat.le_of_ble_eq_true rfl)) (gd_congr fun _ => ?_)
      refine Eq.trans (st1 dX3_readFrom_26 rfl rfl) ?_
      refine Eq.trans (st1 dX3_readFrom_27 rfl rfl) ?_
      refine Eq.trans (xbipush dX3_readFrom_28 cb_6) ?_
      refine Eq.trans (st1 dX3_readFrom_30 rfl rfl) ?_
      refine Eq.trans (st1 dX3_readFrom_31 rfl rfl) ?_
      refine Eq.trans (getRm dX3_readFrom_32 cp_3_15 (ks3_0 h0) rfl (rs3_1 h0)) ?_
      refine Eq.trans (xiconst dX3_readFrom_35 ci_0) ?_
      refine Eq.trans (xbipush dX3_readFrom_36 cb_6) ?_
      refine Eq.trans (icpym dX3_readFrom_38 cp_3_43 k1 (ks3_2 h0) (Nat.le_of_ble_eq_true rfl)) (gd_congr fun _ => ?_)
      rfl
    · exact ret3 dX3_readFrom_13 (.inl rfl)
theorem q_X3_readFrom_41 {call : CALL} {L X : Nat} {I : Nat → Nat → Int32} {J : Nat → Nat → Int64} {a0 : Nat} {r1 : Nat} {n1 : Nat} {x2 : Int32} {u3 : Option Value} (h0 : oc3 a0) (k1 : ka r1 1 n1) : runI call iX3_readFrom (41, [some (.ref a0), some (.ref r1), some (.int x2), u3], [], (mm L X I J)) = gd (cpok (x2 + (nI 12)) (nI 0) (nI 6) n1 6) (gd (cpok (x2 + (nI 18)) (nI 0) (nI 5) n1 5) (runI call iX3_readFrom (70, [some (.ref a0), some (.ref r1), some (.int x2), u3], [], (mm L X (up1 (up1 I (a0 + 3) (va_cpy (I r1) (I (a0 + 3)) ((x2 + (nI 12))).toNatClampNeg ((nI 0)).toNatClampNeg ((nI 6)).toNatClampNeg)) (a0 + 4) (va_cpy ((up1 I (a0 + 3) (va_cpy (I r1) (I (a0 + 3)) ((x2 + (nI 12))).toNatClampNeg ((nI 0)).toNatClampNeg ((nI 6)).toNatClampNeg)) r1) ((up1 I (a0 + 3) (va_cpy (I r1) (I (a0 + 3)) ((x2 + (nI 12))).toNatClampNeg ((nI 0)).toNatClampNeg ((nI 6)).toNatClampNeg)) (a0 + 4)) ((x2 + (nI 18))).toNatClampNeg ((nI 0)).toNatClampNeg ((nI 5)).toNatClampNeg)) J)))) := by
  refine Eq.trans (st1 dX3_readFrom_41 rfl rfl) ?_
  refine Eq.trans (st1 dX3_readFrom_42 rfl rfl) ?_
  refine Eq.trans (xbipush dX3_readFrom_43 cb_12) ?_
  refine Eq.trans (st1 dX3_readFrom_45 rfl rfl) ?_
  refine Eq.trans (st1 dX3_readFrom_46 rfl rfl) ?_
  refine Eq.trans (getRm dX3_readFrom_47 cp_3_18 (ks3_0 h0) rfl (rs3_2 h0)) ?_
  refine Eq.trans (xiconst dX3_readFrom_50 ci_0) ?_
  refine Eq.trans (xbipush dX3_readFrom_51 cb_6) ?_
  refine Eq.trans (icpym dX3_readFrom_53 cp_3_43 k1 (ks3_3 h0) (Nat.le_of_ble_eq_true rfl)) (gd_congr fun _ => ?_)
  refine Eq.trans (st1 dX3_readFrom_56 rfl rfl) ?_
  refine Eq.trans (st1 dX3_readFrom_57 rfl rfl) ?_
  refine Eq.trans (xbipush dX3_readFrom_58 cb_18) ?_
  refine Eq.trans (st1 dX3_readFrom_60 rfl rfl) ?_
  refine Eq.trans (st1 dX3_readFrom_61 rfl rfl) ?_
  refine Eq.trans (getRm dX3_readFrom_62 cp_3_21 (ks3_0 h0) rfl (rs3_3 h0)) ?_
  refine Eq.trans (xiconst dX3_readFrom_65 ci_0) ?_
  refine Eq.trans (xiconst dX3_readFrom_66 ci_5) ?_
  refine Eq.trans (icpym dX3_readFrom_67 cp_3_43 k1 (ks3_4 h0) (Nat.le_of_ble_eq_true rfl)) (gd_congr fun _ => ?_)
  rfl
theorem q_X3_readFrom_70 {call : CALL} {L X : Nat} {I : Nat → Nat → Int32} {J : Nat → Nat → Int64} {a0 : Nat} {r1 : Nat} {n1 : Nat} {x2 : Int32} {u3 : Option Value} (h0 : oc3 a0) (k1 : ka r1 1 n1) : runI call iX3_readFrom (70, [some (.ref a0), some (.ref r1), some (.int x2), u3], [], (mm L X I J)) = gd (inb ((x2 + (nI 18)) + (nI 5)) n1) (gd (inb (((x2 + (nI 18)) + (nI 5)) + (nI 1)) n1) (gd (inb (((x2 + (nI 18)) + (nI 5)) + (nI 2)) n1) (gd (inb (((x2 + (nI 18)) + (nI 5)) + (nI 3)) n1) (runI call iX3_readFrom (111, [some (.ref a0), some (.ref r1), some (.int x2), some (.int ((x2 + (nI 18)) + (nI 5)))], [], (mm L X (up2 (up2 (up2 (up2 I a0 4 (I r1 (((x2 + (nI 18)) + (nI 5))).toNatClampNeg)) a0 5 ((up2 I a0 4 (I r1 (((x2 + (nI 18)) + (nI 5))).toNatClampNeg)) r1 ((((x2 + (nI 18)) + (nI 5)) + (nI 1))).toNatClampNeg)) a0 6 ((up2 (up2 I a0 4 (I r1 (((x2 + (nI 18)) + (nI 5))).toNatClampNeg)) a0 5 ((up2 I a0 4 (I r1 (((x2 + (nI 18)) + (nI 5))).toNatClampNeg)) r1 ((((x2 + (nI 18)) + (nI 5)) + (nI 1))).toNatClampNeg)) r1 ((((x2 + (nI 18)) + (nI 5)) + (nI 2))).toNatClampNeg)) a0 7 ((up2 (up2 (up2 I a0 4 (I r1 (((x2 + (nI 18)) + (nI 5))).toNatClampNeg)) a0 5 ((up2 I a0 4 (I r1 (((x2 + (nI 18)) + (nI 5))).toNatClampNeg)) r1 ((((x2 + (nI 18)) + (nI 5)) + (nI 1))).toNatClampNeg)) a0 6 ((up2 (up2 I a0 4 (I r1 (((x2 + (nI 18)) + (nI 5))).toNatClampNeg)) a0 5 ((up2 I a0 4 (I r1 (((x2 + (nI 18)) + (nI 5))).toNatClampNeg)) r1 ((((x2 + (nI 18)) + (nI 5)) + (nI 1))).toNatClampNeg)) r1 ((((x2 + (nI 18)) + (nI 5)) + (nI 2))).toNatClampNeg)) r1 ((((x2 + (nI 18)) + (nI 5)) + (nI 3))).toNatClampNeg)) J)))))) := by
  refine Eq.trans (st1 dX3_readFrom_70 rfl rfl) ?_
  refine Eq.trans (xbipush dX3_readFrom_71 cb_18) ?_
  refine Eq.trans (st1 dX3_readFrom_73 rfl rfl) ?_
  refine Eq.trans (xiconst dX3_readFrom_74 ci_5) ?_
  refine Eq.trans (st1 dX3_readFrom_75 rfl rfl) ?_
  refine Eq.trans (st1 dX3_readFrom_76 rfl rfl) ?_
  refine Eq.trans (st1 dX3_readFrom_77 rfl rfl) ?_
  refine Eq.trans (st1 dX3_readFrom_78 rfl rfl) ?_
  refine Eq.trans (st1 dX3_readFrom_79 rfl rfl) ?_
  refine Eq.trans (al1m dX3_readFrom_80 k1) (gd_congr fun g1 => ?_)
  refine Eq.trans (putIm dX3_readFrom_81 cp_3_30 (ks3_0 h0) rfl) ?_
  refine Eq.trans (st1 dX3_readFrom_84 rfl rfl) ?_
  refine Eq.trans (st1 dX3_readFrom_85 rfl rfl) ?_
  refine Eq.trans (st1 dX3_readFrom_86 rfl rfl) ?_
  refine Eq.trans (xiconst dX3_readFrom_87 ci_1) ?_
  refine Eq.trans (st1 dX3_readFrom_88 rfl rfl) ?_
  refine Eq.trans (al1m dX3_readFrom_89 k1) (gd_congr fun g2 => ?_)
  refine Eq.trans (putIm dX3_readFrom_90 cp_3_34 (ks3_0 h0) rfl) ?_
  refine Eq.trans (st1 dX3_readFrom_93 rfl rfl) ?_
  refine Eq.trans (st1 dX3_readFrom_94 rfl rfl) ?_
  refine Eq.trans (st1 dX3_readFrom_95 rfl rfl) ?_
  refine Eq.trans (xiconst dX3_readFrom_96 ci_2) ?_
  refine Eq.trans (st1 dX3_readFrom_97 rfl rfl) ?_
  refine Eq.trans (al1m dX3_readFrom_98 k1) (gd_congr fun g3 => ?_)
  refine Eq.trans (putIm dX3_readFrom_99 cp_3_37 (ks3_0 h0) rfl) ?_
  refine Eq.trans (st1 dX3_readFrom_102 rfl rfl) ?_
  refine Eq.trans (st1 dX3_readFrom_103 rfl rfl) ?_
  refine Eq.trans (st1 dX3_readFrom_104 rfl rfl) ?_
  refine Eq.trans (xiconst dX3_readFrom_105 ci_3) ?_
  refine Eq.trans (st1 dX3_readFrom_106 rfl rfl) ?_
  refine Eq.trans (al1m dX3_readFrom_107 k1) (gd_congr fun g4 => ?_)
  refine Eq.trans (putIm dX3_readFrom_108 cp_3_40 (ks3_0 h0) rfl) ?_
  rfl
theorem q_X3_readFrom_111 {call : CALL} {L X : Nat} {I : Nat → Nat → Int32} {J : Nat → Nat → Int64} {u0 : Option Value} {u1 : Option Value} {u2 : Option Value} {u3 : Option Value} : runI call iX3_readFrom (111, [u0, u1, u2, u3], [], (mm L X I J)) = some (.inl none, (mm L X I J)) := by
  exact ret3 dX3_readFrom_111 (.inl rfl)
theorem q_X3_writeTo_0 {call : CALL} {L X : Nat} {I : Nat → Nat → Int32} {J : Nat → Nat → Int64} {a0 : Nat} {r1 : Nat} {n1 : Nat} {x2 : Int32} (h0 : oc3 a0) (k1 : ka r1 1 n1) : runI call iX3_writeTo (0, [some (.ref a0), some (.ref r1), some (.int x2), none], [], (mm L X I J)) = if x2 < (nI 0) then some (.inl none, (mm L X I J)) else if x2 ≤ ((nI n1) - (nI 27)) then gd (cpok (nI 0) x2 (nI 6) 6 n1) (gd (cpok (nI 0) (x2 + (nI 6)) (nI 6) 6 n1) (runI call iX3_writeTo (41, [some (.ref a0), some (.ref r1), some (.int x2), none], [], (mm L X (up1 (up1 I r1 (va_cpy (I (a0 + 1)) (I r1) ((nI 0)).toNatClampNeg (x2).toNatClampNeg ((nI 6)).toNatClampNeg)) r1 (va_cpy ((up1 I r1 (va_cpy (I (a0 + 1)) (I r1) ((nI 0)).toNatClampNeg (x2).toNatClampNeg ((nI 6)).toNatClampNeg)) (a0 + 2)) ((up1 I r1 (va_cpy (I (a0 + 1)) (I r1) ((nI 0)).toNatClampNeg (x2).toNatClampNeg ((nI 6)).toNatClampNeg)) r1) ((nI 0)).toNatClampNeg ((x2 + (nI 6))).toNatClampNeg ((nI 6)).toNatClampNeg)) J)))) else some (.inl none, (mm L X I J)) := by
  refine Eq.trans (st1 dX3_writeTo_0 rfl rfl) ?_
  refine Eq.trans (if_lt (tgt := 13) dX3_writeTo_1 (by decide +kernel)) (ite_cong (fun _ => ?_) (fun _ => ?_))
  · exact ret3 dX3_writeTo_13 (.inl rfl)
  · refine Eq.trans (st1 dX3_writeTo_4 rfl rfl) ?_
    refine Eq.trans (st1 dX3_writeTo_5 rfl rfl) ?_
    refine Eq.trans (alen dX3_writeTo_6 (kd_ka k1) (.inl ⟨k1.1, by decide⟩)) ?_
    refine Eq.trans (xbipush dX3_writeTo_7 cb_27) ?_
    refine Eq.trans (st1 dX3_writeTo_9 rfl rfl) ?_
    refine Eq.trans (ic_le (tgt := 14) dX3_writeTo_10 (by decide +kernel)) (ite_cong (fun _ => ?_) (fun _ => ?_))
    · refine Eq.trans (st1 dX3_writeTo_14 rfl rfl) ?_
      refine Eq.trans (getRm dX3_writeTo_15 cp_3_9 (ks3_0 h0) rfl (rs3_0 h0)) ?_
      refine Eq.trans (xiconst dX3_writeTo_18 ci_0) ?_
      refine Eq.trans (st1 dX3_writeTo_19 rfl rfl) ?_
      refine Eq.trans (st1 dX3_writeTo_20 rfl rfl) ?_
      refine Eq.trans (xbipush dX3_writeTo_21 cb_6) ?_
      refine Eq.trans (icpym dX3_writeTo_23 cp_3_43 (ks3_1 h0) k1 (Nat.le_of_ble_eq_true rfl)) (gd_congr fun _ => ?_)
      refine Eq.trans (st1 dX3_writeTo_26 rfl rfl) ?_
      refine Eq.trans (getRm dX3_writeTo_27 cp_3_15 (ks3_0 h0) rfl (rs3_1 h0)) ?_
      refine Eq.trans (xiconst dX3_writeTo_30 ci_0) ?_
      refine Eq.trans (st1 dX3_writeTo_31 rfl rfl) ?_
      refine Eq.trans (st1 dX3_writeTo_32 rfl rfl) ?_
      refine Eq.trans (xbipush dX3_writeTo_33 cb_6) ?_
      refine Eq.trans (st1 dX3_writeTo_35 rfl rfl) ?_
      refine Eq.trans (xbipush dX3_writeTo_36 cb_6) ?_
      refine Eq.trans (icpym dX3_writeTo_38 cp_3_43 (ks3_2 h0) k1 (Nat.le_of_ble_eq_true rfl)) (gd_congr fun _ => ?_)
      rfl
    · exact ret3 dX3_writeTo_13 (.inl rfl)
theorem q_X3_writeTo_41 {call : CALL} {L X : Nat} {I : Nat → Nat → Int32} {J : Nat → Nat → Int64} {a0 : Nat} {r1 : Nat} {n1 : Nat} {x2 : Int32} {u3 : Option Value} (h0 : oc3 a0) (k1 : ka r1 1 n1) : runI call iX3_writeTo (41, [some (.ref a0), some (.ref r1), some (.int x2), u3], [], (mm L X I J)) = gd (cpok (nI 0) (x2 + (nI 12)) (nI 6) 6 n1) (gd (cpok (nI 0) (x2 + (nI 18)) (nI 5) 5 n1) (runI call iX3_writeTo (70, [some (.ref a0), some (.ref r1), some (.int x2), u3], [], (mm L X (up1 (up1 I r1 (va_cpy (I (a0 + 3)) (I r1) ((nI 0)).toNatClampNeg ((x2 + (nI 12))).toNatClampNeg ((nI 6)).toNatClampNeg)) r1 (va_cpy ((up1 I r1 (va_cpy (I (a0 + 3)) (I r1) ((nI 0)).toNatClampNeg ((x2 + (nI 12))).toNatClampNeg ((nI 6)).toNatClampNeg)) (a0 + 4)) ((up1 I r1 (va_cpy (I (a0 + 3)) (I r1) ((nI 0)).toNatClampNeg ((x2 + (nI 12))).toNatClampNeg ((nI 6)).toNatClampNeg)) r1) ((nI 0)).toNatClampNeg ((x2 + (nI 18))).toNatClampNeg ((nI 5)).toNatClampNeg)) J)))) := by
  refine Eq.trans (st1 dX3_writeTo_41 rfl rfl) ?_
  refine Eq.trans (getRm dX3_writeTo_42 cp_3_18 (ks3_0 h0) rfl (rs3_2 h0)) ?_
  refine Eq.trans (xiconst dX3_writeTo_45 ci_0) ?_
  refine Eq.trans (st1 dX3_writeTo_46 rfl rfl) ?_
  refine Eq.trans (st1 dX3_writeTo_47 rfl rfl) ?_
  refine Eq.trans (xbipush dX3_writeTo_48 cb_12) ?_
  refine Eq.trans (st1 dX3_writeTo_50 rfl rfl) ?_
  refine Eq.trans (xbipush dX3_writeTo_51 cb_6) ?_
  refine Eq.trans (icpym dX3_writeTo_53 cp_3_43 (ks3_3 h0) k1 (Nat.le_of_ble_eq_true rfl)) (gd_congr fun _ => ?_)
  refine Eq.trans (st1 dX3_writeTo_56 rfl rfl) ?_
  refine Eq.trans (getRm dX3_writeTo_57 cp_3_21 (ks3_0 h0) rfl (rs3_3 h0)) ?_
  refine Eq.trans (xiconst dX3_writeTo_60 ci_0) ?_
  refine Eq.trans (st1 dX3_writeTo_61 rfl rfl) ?_
  refine Eq.trans (st1 dX3_writeTo_62 rfl rfl) ?_
  refine Eq.trans (xbipush dX3_writeTo_63 cb_18) ?_
  refine Eq.trans (st1 dX3_writeTo_65 rfl rfl) ?_
  refine Eq.trans (xiconst dX3_writeTo_66 ci_5) ?_
  refine Eq.trans (icpym dX3_writeTo_67 cp_3_43 (ks3_4 h0) k1 (Nat.le_of_ble_eq_true rfl)) (gd_congr fun _ => ?_)
  rfl
theorem q_X3_writeTo_70 {call : CALL} {L X : Nat} {I : Nat → Nat → Int32} {J : Nat → Nat → Int64} {a0 : Nat} {r1 : Nat} {n1 : Nat} {x2 : Int32} {u3 : Option Value} (h0 : oc3 a0) (k1 : ka r1 1 n1) : runI call iX3_writeTo (70, [some (.ref a0), some (.ref r1), some (.int x2), u3], [], (mm L X I J)) = gd (inb ((x2 + (nI 18)) + (nI 5)) n1) (gd (inb (((x2 + (nI 18)) + (nI 5)) + (nI 1)) n1) (gd (inb (((x2 + (nI 18)) + (nI 5)) + (nI 2)) n1) (gd (inb (((x2 + (nI 18)) + (nI 5)) + (nI 3)) n1) (runI call iX3_writeTo (111, [some (.ref a0), some (.ref r1), some (.int x2), some (.int ((x2 + (nI 18)) + (nI 5)))], [], (mm L X (up2 (up2 (up2 (up2 I r1 (((x2 + (nI 18)) + (nI 5))).toNatClampNeg (I a0 4)) r1 ((((x2 + (nI 18)) + (nI 5)) + (nI 1))).toNatClampNeg ((up2 I r1 (((x2 + (nI 18)) + (nI 5))).toNatClampNeg (I a0 4)) a0 5)) r1 ((((x2 + (nI 18)) + (nI 5)) + (nI 2))).toNatClampNeg ((up2 (up2 I r1 (((x2 + (nI 18)) + (nI 5))).toNatClampNeg (I a0 4)) r1 ((((x2 + (nI 18)) + (nI 5)) + (nI 1))).toNatClampNeg ((up2 I r1 (((x2 + (nI 18)) + (nI 5))).toNatClampNeg (I a0 4)) a0 5)) a0 6)) r1 ((((x2 + (nI 18)) + (nI 5)) + (nI 3))).toNatClampNeg ((up2 (up2 (up2 I r1 (((x2 + (nI 18)) + (nI 5))).toNatClampNeg (I a0 4)) r1 ((((x2 + (nI 18)) + (nI 5)) + (nI 1))).toNatClampNeg ((up2 I r1 (((x2 + (nI 18)) + (nI 5))).toNatClampNeg (I a0 4)) a0 5)) r1 ((((x2 + (nI 18)) + (nI 5)) + (nI 2))).toNatClampNeg ((up2 (up2 I r1 (((x2 + (nI 18)) + (nI 5))).toNatClampNeg (I a0 4)) r1 ((((x2 + (nI 18)) + (nI 5)) + (nI 1))).toNatClampNeg ((up2 I r1 (((x2 + (nI 18)) + (nI 5))).toNatClampNeg (I a0 4)) a0 5)) a0 6)) a0 7)) J)))))) := by
  refine Eq.trans (st1 dX3_writeTo_70 rfl rfl) ?_
  refine Eq.trans (xbipush dX3_writeTo_71 cb_18) ?_
  refine Eq.trans (st1 dX3_writeTo_73 rfl rfl) ?_
  refine Eq.trans (xiconst dX3_writeTo_74 ci_5) ?_
  refine Eq.trans (st1 dX3_writeTo_75 rfl rfl) ?_
  refine Eq.trans (st1 dX3_writeTo_76 rfl rfl) ?_
  refine Eq.trans (st1 dX3_writeTo_77 rfl rfl) ?_
  refine Eq.trans (st1 dX3_writeTo_78 rfl rfl) ?_
  refine Eq.trans (st1 dX3_writeTo_79 rfl rfl) ?_
  refine Eq.trans (getIm dX3_writeTo_80 cp_3_30 (ks3_0 h0) (.inl rfl)) ?_
  refine Eq.trans (as1m dX3_writeTo_83 k1) (gd_congr fun g1 => ?_)
  refine Eq.trans (st1 dX3_writeTo_84 rfl rfl) ?_
  refine Eq.trans (st1 dX3_writeTo_85 rfl rfl) ?_
  refine Eq.trans (xiconst dX3_writeTo_86 ci_1) ?_
  refine Eq.trans (st1 dX3_writeTo_87 rfl rfl) ?_
  refine Eq.trans (st1 dX3_writeTo_88 rfl rfl) ?_
  refine Eq.trans (getIm dX3_writeTo_89 cp_3_34 (ks3_0 h0) (.inl rfl)) ?_
  refine Eq.trans (as1m dX3_writeTo_92 k1) (gd_congr fun g2 => ?_)
  refine Eq.trans (st1 dX3_writeTo_93 rfl rfl) ?_
  refine Eq.trans (st1 dX3_writeTo_94 rfl rfl) ?_
  refine Eq.trans (xiconst dX3_writeTo_95 ci_2) ?_
  refine Eq.trans (st1 dX3_writeTo_96 rfl rfl) ?_
  refine Eq.trans (st1 dX3_writeTo_97 rfl rfl) ?_
  refine Eq.trans (getIm dX3_writeTo_98 cp_3_37 (ks3_0 h0) (.inl rfl)) ?_
  refine Eq.trans (as1m dX3_writeTo_101 k1) (gd_congr fun g3 => ?_)
  refine Eq.trans (st1 dX3_writeTo_102 rfl rfl) ?_
  refine Eq.trans (st1 dX3_writeTo_103 rfl rfl) ?_
  refine Eq.trans (xiconst dX3_writeTo_104 ci_3) ?_
  refine Eq.trans (st1 dX3_writeTo_105 rfl rfl) ?_
  refine Eq.trans (st1 dX3_writeTo_106 rfl rfl) ?_
  refine Eq.trans (getIm dX3_writeTo_107 cp_3_40 (ks3_0 h0) (.inl rfl)) ?_
  refine Eq.trans (as1m dX3_writeTo_110 k1) (gd_congr fun g4 => ?_)
  rfl
theorem q_X3_writeTo_111 {call : CALL} {L X : Nat} {I : Nat → Nat → Int32} {J : Nat → Nat → Int64} {u0 : Option Value} {u1 : Option Value} {u2 : Option Value} {u3 : Option Value} : runI call iX3_writeTo (111, [u0, u1, u2, u3], [], (mm L X I J)) = some (.inl none, (mm L X I J)) := by
  exact ret3 dX3_writeTo_111 (.inl rfl)
theorem q_X3_turnRound_0 {call : CALL} {L X : Nat} {I : Nat → Nat → Int32} {J : Nat → Nat → Int64} {a0 : Nat} {x1 : Int32} (h0 : oc3 a0) : runI call iX3_turnRound (0, [some (.ref a0), some (.int x1)], [], (mm L X I J)) = bnd (call nX3_placeOf [.ref a0, .int x1] (mm L X I J)) (fun v m' => runI call iX3_turnRound (5, [some (.ref a0), some (.int x1)], v.toList ++ [], m')) := by
  refine Eq.trans (st1 dX3_turnRound_0 rfl rfl) ?_
  refine Eq.trans (st1 dX3_turnRound_1 rfl rfl) ?_
  exact iv0 dX3_turnRound_2 rfl cp_3_62 rfl rfl (kd_ka (ks3_0 h0)) (ks3_0 h0).1 (Nat.le_of_ble_eq_true rfl)
theorem q_X3_turnRound_5 {call : CALL} {L X : Nat} {I : Nat → Nat → Int32} {J : Nat → Nat → Int64} {a0 : Nat} {x1 : Int32} {s0 : Int32} (h0 : oc3 a0) : runI call iX3_turnRound (5, [some (.ref a0), some (.int x1)], [.int s0], (mm L X I J)) = if s0 = (-1 : Int32) then some (.inl (some (.int (nI 1))), (mm L X (up2 I a0 4 ((I a0 4) ^^^ ((nI 1) <<< (x1 &&& 31)))) J)) else some (.inl (some (.int (nI 0))), (mm L X I J)) := by
  refine Eq.trans (xiconst dX3_turnRound_5 ci_m1) ?_
  refine Eq.trans (ic_eq (tgt := 11) dX3_turnRound_6 (by decide +kernel)) (ite_cong (fun _ => ?_) (fun _ => ?_))
  · refine Eq.trans (st1 dX3_turnRound_11 rfl rfl) ?_
    refine Eq.trans (st1 dX3_turnRound_12 rfl rfl) ?_
    refine Eq.trans (getIm dX3_turnRound_13 cp_3_30 (ks3_0 h0) (.inl rfl)) ?_
    refine Eq.trans (xiconst dX3_turnRound_16 ci_1) ?_
    refine Eq.trans (st1 dX3_turnRound_17 rfl rfl) ?_
    refine Eq.trans (st1 dX3_turnRound_18 rfl rfl) ?_
    refine Eq.trans (st1 dX3_turnRound_19 rfl rfl) ?_
    refine Eq.trans (putIm dX3_turnRound_20 cp_3_30 (ks3_0 h0) rfl) ?_
    refine Eq.trans (xiconst dX3_turnRound_23 ci_1) ?_
    exact ret1 dX3_turnRound_24 rfl (.inr rfl)
  · refine Eq.trans (xiconst dX3_turnRound_9 ci_0) ?_
    exact ret1 dX3_turnRound_10 rfl (.inl rfl)
theorem q_X3_placeOf_0 {call : CALL} {L X : Nat} {I : Nat → Nat → Int32} {J : Nat → Nat → Int64} {a0 : Nat} {x1 : Int32} (h0 : oc3 a0) : runI call iX3_placeOf (0, [some (.ref a0), some (.int x1), none], [], (mm L X I J)) = runI call iX3_placeOf (2, [some (.ref a0), some (.int x1), some (.int (nI 0))], [], (mm L X I J)) := by
  refine Eq.trans (xiconst dX3_placeOf_0 ci_0) ?_
  refine Eq.trans (st1 dX3_placeOf_1 rfl rfl) ?_
  rfl
theorem q_X3_placeOf_2 {call : CALL} {L X : Nat} {I : Nat → Nat → Int32} {J : Nat → Nat → Int64} {a0 : Nat} {x1 : Int32} {x2 : Int32} (h0 : oc3 a0) : runI call iX3_placeOf (2, [some (.ref a0), some (.int x1), some (.int x2)], [], (mm L X I J)) = if (I a0 5) ≤ x2 then some (.inl (some (.int (-1 : Int32))), (mm L X I J)) else if (nI 6) ≤ x2 then some (.inl (some (.int (-1 : Int32))), (mm L X I J)) else gd (inb x2 6) (if (I (a0 + 1) (x2).toNatClampNeg) = x1 then some (.inl (some (.int x2)), (mm L X I J)) else runI call iX3_placeOf (2, [some (.ref a0), some (.int x1), some (.int (x2 + (nI 1)))], [], (mm L X I J))) := by
  refine Eq.trans (st1 dX3_placeOf_2 rfl rfl) ?_
  refine Eq.trans (st1 dX3_placeOf_3 rfl rfl) ?_
  refine Eq.trans (getIm dX3_placeOf_4 cp_3_34 (ks3_0 h0) (.inl rfl)) ?_
  refine Eq.trans (ic_ge (tgt := 34) dX3_placeOf_7 (by decide +kernel)) (ite_cong (fun _ => ?_) (fun _ => ?_))
  · refine Eq.trans (xiconst dX3_placeOf_34 ci_m1) ?_
    exact ret0 dX3_placeOf_35 rfl
  · refine Eq.trans (st1 dX3_placeOf_10 rfl rfl) ?_
    refine Eq.trans (xbipush dX3_placeOf_11 cb_6) ?_
    refine Eq.trans (ic_ge (tgt := 34) dX3_placeOf_13 (by decide +kernel)) (ite_cong (fun _ => ?_) (fun _ => ?_))
    · refine Eq.trans (xiconst dX3_placeOf_34 ci_m1) ?_
      exact ret0 dX3_placeOf_35 rfl
    · refine Eq.trans (st1 dX3_placeOf_16 rfl rfl) ?_
      refine Eq.trans (getRm dX3_placeOf_17 cp_3_9 (ks3_0 h0) rfl (rs3_0 h0)) ?_
      refine Eq.trans (st1 dX3_placeOf_20 rfl rfl) ?_
      refine Eq.trans (al1m dX3_placeOf_21 (ks3_1 h0)) (gd_congr fun g1 => ?_)
      refine Eq.trans (st1 dX3_placeOf_22 rfl rfl) ?_
      refine Eq.trans (ic_ne (tgt := 28) dX3_placeOf_23 (by decide +kernel)) (ite_cong (fun _ => ?_) (fun _ => ?_))
      · refine Eq.trans (st1 dX3_placeOf_26 rfl rfl) ?_
        exact ret0 dX3_placeOf_27 rfl
      · refine Eq.trans (xinc2 dX3_placeOf_28 ci_1 rfl (Nat.le_of_ble_eq_true rfl) rfl) ?_
        refine Eq.trans (go_to (tgt := 2) dX3_placeOf_31 (by decide +kernel)) ?_
        rfl
theorem q_X3_layDown_0 {call : CALL} {L X : Nat} {I : Nat → Nat → Int32} {J : Nat → Nat → Int64} {a0 : Nat} {a1 : Nat} {x2 : Int32} (h0 : oc3 a0) (h1 : oc1 a1) : runI call iX3_layDown (0, [some (.ref a0), some (.ref a1), some (.int x2)], [], (mm L X I J)) = bnd (call nX3_wayOf [.ref a0, .int x2] (mm L X I J)) (fun v m' => runI call iX3_layDown (7, [some (.ref a0), some (.ref a1), some (.int x2)], v.toList ++ [.ref a1, .ref a0], m')) := by
  refine Eq.trans (st1 dX3_layDown_0 rfl rfl) ?_
  refine Eq.trans (st1 dX3_layDown_1 rfl rfl) ?_
  refine Eq.trans (st1 dX3_layDown_2 rfl rfl) ?_
  refine Eq.trans (st1 dX3_layDown_3 rfl rfl) ?_
  exact iv0 dX3_layDown_4 rfl cp_3_66 rfl rfl (kd_ka (ks3_0 h0)) (ks3_0 h0).1 (Nat.le_of_ble_eq_true rfl)
theorem q_X3_layDown_7 {call : CALL} {L X : Nat} {I : Nat → Nat → Int32} {J : Nat → Nat → Int64} {a0 : Nat} {u1 : Option Value} {x2 : Int32} {a1 : Nat} {s2 : Int32} (h0 : oc3 a0) (h1 : oc1 a1) : runI call iX3_layDown (7, [some (.ref a0), u1, some (.int x2)], [.int s2, .ref a1, .ref a0], (mm L X I J)) = bnd (call nX3_canLay [.ref a0, .ref a1, .int s2] (mm L X I J)) (fun v m' => runI call iX3_layDown (10, [some (.ref a0), u1, some (.int x2)], v.toList ++ [], m')) := by
  exact iv0 dX3_layDown_7 rfl cp_3_73 rfl rfl (kd_ka (ks3_0 h0)) (ks3_0 h0).1 (Nat.le_of_ble_eq_true rfl)
theorem q_X3_layDown_10 {call : CALL} {L X : Nat} {I : Nat → Nat → Int32} {J : Nat → Nat → Int64} {a0 : Nat} {u1 : Option Value} {x2 : Int32} {s0 : Int32} (h0 : oc3 a0) : runI call iX3_layDown (10, [some (.ref a0), u1, some (.int x2)], [.int s0], (mm L X I J)) = if s0 = (nI 0) then some (.inl (some (.int (nI 0))), (mm L X I J)) else bndN (call nX11_put [.ref (a0 + 1), .int (I a0 5), .int x2] (mm L X I J)) (fun v m' => runI call iX3_layDown (27, [some (.ref a0), u1, some (.int x2)], v.toList ++ [], m')) := by
  refine Eq.trans (if_ne (tgt := 15) dX3_layDown_10 (by decide +kernel)) (ite_cong (fun _ => ?_) (fun _ => ?_))
  · refine Eq.trans (xiconst dX3_layDown_13 ci_0) ?_
    exact ret1 dX3_layDown_14 rfl (.inl rfl)
  · refine Eq.trans (st1 dX3_layDown_15 rfl rfl) ?_
    refine Eq.trans (getRm dX3_layDown_16 cp_3_9 (ks3_0 h0) rfl (rs3_0 h0)) ?_
    refine Eq.trans (st1 dX3_layDown_19 rfl rfl) ?_
    refine Eq.trans (getIm dX3_layDown_20 cp_3_34 (ks3_0 h0) (.inl rfl)) ?_
    refine Eq.trans (st1 dX3_layDown_23 rfl rfl) ?_
    exact is3 dX3_layDown_24 cp_3_77 (Nat.le_of_ble_eq_true rfl) rfl rfl (Nat.le_of_ble_eq_true rfl)
theorem q_X3_layDown_27 {call : CALL} {L X : Nat} {I : Nat → Nat → Int32} {J : Nat → Nat → Int64} {a0 : Nat} {u1 : Option Value} {u2 : Option Value} (h0 : oc3 a0) : runI call iX3_layDown (27, [some (.ref a0), u1, u2], [], (mm L X I J)) = some (.inl (some (.int (nI 1))), (mm L X (up2 I a0 5 ((I a0 5) + (nI 1))) J)) := by
  refine Eq.trans (st1 dX3_layDown_27 rfl rfl) ?_
  refine Eq.trans (st1 dX3_layDown_28 rfl rfl) ?_
  refine Eq.trans (getIm dX3_layDown_29 cp_3_34 (ks3_0 h0) (.inl rfl)) ?_
  refine Eq.trans (xiconst dX3_layDown_32 ci_1) ?_
  refine Eq.trans (st1 dX3_layDown_33 rfl rfl) ?_
  refine Eq.trans (putIm dX3_layDown_34 cp_3_34 (ks3_0 h0) rfl) ?_
  refine Eq.trans (xiconst dX3_layDown_37 ci_1) ?_
  exact ret1 dX3_layDown_38 rfl (.inr rfl)
theorem q_X3_wayOf_0 {call : CALL} {L X : Nat} {I : Nat → Nat → Int32} {J : Nat → Nat → Int64} {a0 : Nat} {x1 : Int32} (h0 : oc3 a0) : runI call iX3_wayOf (0, [some (.ref a0), some (.int x1)], [], (mm L X I J)) = bndN (call nX11_bit [.int (I a0 4), .int x1] (mm L X I J)) (fun v m' => runI call iX3_wayOf (11, [some (.ref a0), some (.int x1)], v.toList ++ [.int ((nI 2) * x1)], m')) := by
  refine Eq.trans (xiconst dX3_wayOf_0 ci_2) ?_
  refine Eq.trans (st1 dX3_wayOf_1 rfl rfl) ?_
  refine Eq.trans (st1 dX3_wayOf_2 rfl rfl) ?_
  refine Eq.trans (st1 dX3_wayOf_3 rfl rfl) ?_
  refine Eq.trans (getIm dX3_wayOf_4 cp_3_30 (ks3_0 h0) (.inl rfl)) ?_
  refine Eq.trans (st1 dX3_wayOf_7 rfl rfl) ?_
  exact is3 dX3_wayOf_8 cp_3_49 (Nat.le_of_ble_eq_true rfl) rfl rfl (Nat.le_of_ble_eq_true rfl)
theorem q_X3_wayOf_11 {call : CALL} {L X : Nat} {I : Nat → Nat → Int32} {J : Nat → Nat → Int64} {u0 : Option Value} {u1 : Option Value} {s0 : Int32} {s1 : Int32} : runI call iX3_wayOf (11, [u0, u1], [.int s1, .int s0], (mm L X I J)) = some (.inl (some (.int (s0 + s1))), (mm L X I J)) := by
  refine Eq.trans (st1 dX3_wayOf_11 rfl rfl) ?_
  exact ret0 dX3_wayOf_12 rfl
theorem q_X3_canLay_0 {call : CALL} {L X : Nat} {I : Nat → Nat → Int32} {J : Nat → Nat → Int64} {a0 : Nat} {a1 : Nat} {x2 : Int32} (h0 : oc3 a0) (h1 : oc1 a1) : runI call iX3_canLay (0, [some (.ref a0), some (.ref a1), some (.int x2)], [], (mm L X I J)) = bnd (call nX3_placeOf [.ref a0, .int (x2 >>> ((nI 1) &&& 31))] (mm L X I J)) (fun v m' => runI call iX3_canLay (7, [some (.ref a0), some (.ref a1), some (.int x2)], v.toList ++ [], m')) := by
  refine Eq.trans (st1 dX3_canLay_0 rfl rfl) ?_
  refine Eq.trans (st1 dX3_canLay_1 rfl rfl) ?_
  refine Eq.trans (xiconst dX3_canLay_2 ci_1) ?_
  refine Eq.trans (st1 dX3_canLay_3 rfl rfl) ?_
  exact iv0 dX3_canLay_4 rfl cp_3_62 rfl rfl (kd_ka (ks3_0 h0)) (ks3_0 h0).1 (Nat.le_of_ble_eq_true rfl)
theorem q_X3_canLay_7 {call : CALL} {L X : Nat} {I : Nat → Nat → Int32} {J : Nat → Nat → Int64} {a0 : Nat} {a1 : Nat} {x2 : Int32} {s0 : Int32} (h0 : oc3 a0) (h1 : oc1 a1) : runI call iX3_canLay (7, [some (.ref a0), some (.ref a1), some (.int x2)], [.int s0], (mm L X I J)) = if s0 = (-1 : Int32) then if (I a0 5) < (nI 6) then if (I a0 5) = (nI 0) then some (.inl (some (.int (nI 1))), (mm L X I J)) else bndN (call nX11_pick [.ref (a0 + 1), .int ((I a0 5) - (nI 1))] (mm L X I J)) (fun v m' => runI call iX3_canLay (44, [some (.ref a0), some (.ref a1), some (.int x2)], v.toList ++ [.ref a0, .ref a1], m')) else some (.inl (some (.int (nI 0))), (mm L X I J)) else some (.inl (some (.int (nI 0))), (mm L X I J)) := by
  refine Eq.trans (xiconst dX3_canLay_7 ci_m1) ?_
  refine Eq.trans (ic_ne (tgt := 20) dX3_canLay_8 (by decide +kernel)) (ite_cong (fun _ => ?_) (fun _ => ?_))
  · refine Eq.trans (st1 dX3_canLay_11 rfl rfl) ?_
    refine Eq.trans (getIm dX3_canLay_12 cp_3_34 (ks3_0 h0) (.inl rfl)) ?_
    refine Eq.trans (xbipush dX3_canLay_15 cb_6) ?_
    refine Eq.trans (ic_lt (tgt := 22) dX3_canLay_17 (by decide +kernel)) (ite_cong (fun _ => ?_) (fun _ => ?_))
    · refine Eq.trans (st1 dX3_canLay_22 rfl rfl) ?_
      refine Eq.trans (getIm dX3_canLay_23 cp_3_34 (ks3_0 h0) (.inl rfl)) ?_
      refine Eq.trans (if_eq (tgt := 54) dX3_canLay_26 (by decide +kernel)) (ite_cong (fun _ => ?_) (fun _ => ?_))
      · refine Eq.trans (xiconst dX3_canLay_54 ci_1) ?_
        refine Eq.trans (go_to (tgt := 59) dX3_canLay_55 (by decide +kernel)) ?_
        exact ret1 dX3_canLay_59 rfl (.inr rfl)
      · refine Eq.trans (st1 dX3_canLay_29 rfl rfl) ?_
        refine Eq.trans (st1 dX3_canLay_30 rfl rfl) ?_
        refine Eq.trans (st1 dX3_canLay_31 rfl rfl) ?_
        refine Eq.trans (getRm dX3_canLay_32 cp_3_9 (ks3_0 h0) rfl (rs3_0 h0)) ?_
        refine Eq.trans (st1 dX3_canLay_35 rfl rfl) ?_
        refine Eq.trans (getIm dX3_canLay_36 cp_3_34 (ks3_0 h0) (.inl rfl)) ?_
        refine Eq.trans (xiconst dX3_canLay_39 ci_1) ?_
        refine Eq.trans (st1 dX3_canLay_40 rfl rfl) ?_
        exact is3 dX3_canLay_41 cp_3_58 (Nat.le_of_ble_eq_true rfl) rfl rfl (Nat.le_of_ble_eq_true rfl)
    · refine Eq.trans (xiconst dX3_canLay_20 ci_0) ?_
      exact ret1 dX3_canLay_21 rfl (.inl rfl)
  · refine Eq.trans (xiconst dX3_canLay_20 ci_0) ?_
    exact ret1 dX3_canLay_21 rfl (.inl rfl)
theorem q_X3_canLay_44 {call : CALL} {L X : Nat} {I : Nat → Nat → Int32} {J : Nat → Nat → Int64} {u0 : Option Value} {u1 : Option Value} {x2 : Int32} {a1 : Nat} {a0 : Nat} {s2 : Int32} (h1 : oc1 a1) (h0 : oc3 a0) : runI call iX3_canLay (44, [u0, u1, some (.int x2)], [.int s2, .ref a0, .ref a1], (mm L X I J)) = bnd (call nX3_wayOf [.ref a0, .int s2] (mm L X I J)) (fun v m' => runI call iX3_canLay (47, [u0, u1, some (.int x2)], v.toList ++ [.ref a1], m')) := by
  exact iv0 dX3_canLay_44 rfl cp_3_66 rfl rfl (kd_ka (ks3_0 h0)) (ks3_0 h0).1 (Nat.le_of_ble_eq_true rfl)
theorem q_X3_canLay_47 {call : CALL} {L X : Nat} {I : Nat → Nat → Int32} {J : Nat → Nat → Int64} {u0 : Option Value} {u1 : Option Value} {x2 : Int32} {a1 : Nat} {s1 : Int32} (h1 : oc1 a1) : runI call iX3_canLay (47, [u0, u1, some (.int x2)], [.int s1, .ref a1], (mm L X I J)) = bnd (call nX1_follows [.ref a1, .int s1, .int x2] (mm L X I J)) (fun v m' => runI call iX3_canLay (51, [u0, u1, some (.int x2)], v.toList ++ [], m')) := by
  refine Eq.trans (st1 dX3_canLay_47 rfl rfl) ?_
  exact iv0 dX3_canLay_48 rfl cp_3_69 rfl rfl (kd_ka (ks1_0 h1)) (ks1_0 h1).1 (Nat.le_of_ble_eq_true rfl)
theorem q_X3_canLay_51 {call : CALL} {L X : Nat} {I : Nat → Nat → Int32} {J : Nat → Nat → Int64} {u0 : Option Value} {u1 : Option Value} {u2 : Option Value} {s0 : Int32} : runI call iX3_canLay (51, [u0, u1, u2], [.int s0], (mm L X I J)) = if s0 = (nI 0) then some (.inl (some (.int (nI 0))), (mm L X I J)) else some (.inl (some (.int (nI 1))), (mm L X I J)) := by
  refine Eq.trans (if_eq (tgt := 58) dX3_canLay_51 (by decide +kernel)) (ite_cong (fun _ => ?_) (fun _ => ?_))
  · refine Eq.trans (xiconst dX3_canLay_58 ci_0) ?_
    exact ret1 dX3_canLay_59 rfl (.inl rfl)
  · refine Eq.trans (xiconst dX3_canLay_54 ci_1) ?_
    refine Eq.trans (go_to (tgt := 59) dX3_canLay_55 (by decide +kernel)) ?_
    exact ret1 dX3_canLay_59 rfl (.inr rfl)
theorem q_X3_liftLast_0 {call : CALL} {L X : Nat} {I : Nat → Nat → Int32} {J : Nat → Nat → Int64} {a0 : Nat} (h0 : oc3 a0) : runI call iX3_liftLast (0, [some (.ref a0)], [], (mm L X I J)) = if (I a0 5) = (nI 0) then some (.inl (some (.int (nI 0))), (mm L X I J)) else some (.inl (some (.int (nI 1))), (mm L X (up2 I a0 5 ((I a0 5) - (nI 1))) J)) := by
  refine Eq.trans (st1 dX3_liftLast_0 rfl rfl) ?_
  refine Eq.trans (getIm dX3_liftLast_1 cp_3_34 (ks3_0 h0) (.inl rfl)) ?_
  refine Eq.trans (if_ne (tgt := 9) dX3_liftLast_4 (by decide +kernel)) (ite_cong (fun _ => ?_) (fun _ => ?_))
  · refine Eq.trans (xiconst dX3_liftLast_7 ci_0) ?_
    exact ret1 dX3_liftLast_8 rfl (.inl rfl)
  · refine Eq.trans (st1 dX3_liftLast_9 rfl rfl) ?_
    refine Eq.trans (st1 dX3_liftLast_10 rfl rfl) ?_
    refine Eq.trans (getIm dX3_liftLast_11 cp_3_34 (ks3_0 h0) (.inl rfl)) ?_
    refine Eq.trans (xiconst dX3_liftLast_14 ci_1) ?_
    refine Eq.trans (st1 dX3_liftLast_15 rfl rfl) ?_
    refine Eq.trans (putIm dX3_liftLast_16 cp_3_34 (ks3_0 h0) rfl) ?_
    refine Eq.trans (xiconst dX3_liftLast_19 ci_1) ?_
    exact ret1 dX3_liftLast_20 rfl (.inr rfl)
theorem q_X3_bendTo_0 {call : CALL} {L X : Nat} {I : Nat → Nat → Int32} {J : Nat → Nat → Int64} {a0 : Nat} {x1 : Int32} {x2 : Int32} (h0 : oc3 a0) : runI call iX3_bendTo (0, [some (.ref a0), some (.int x1), some (.int x2)], [], (mm L X I J)) = bndN (call nX11_pick [.ref (a0 + 2), .int x1] (mm L X I J)) (fun v m' => runI call iX3_bendTo (8, [some (.ref a0), some (.int x1), some (.int x2)], v.toList ++ [], m')) := by
  refine Eq.trans (st1 dX3_bendTo_0 rfl rfl) ?_
  refine Eq.trans (getRm dX3_bendTo_1 cp_3_15 (ks3_0 h0) rfl (rs3_1 h0)) ?_
  refine Eq.trans (st1 dX3_bendTo_4 rfl rfl) ?_
  exact is3 dX3_bendTo_5 cp_3_58 (Nat.le_of_ble_eq_true rfl) rfl rfl (Nat.le_of_ble_eq_true rfl)
theorem q_X3_bendTo_8 {call : CALL} {L X : Nat} {I : Nat → Nat → Int32} {J : Nat → Nat → Int64} {a0 : Nat} {x1 : Int32} {x2 : Int32} {s0 : Int32} (h0 : oc3 a0) : runI call iX3_bendTo (8, [some (.ref a0), some (.int x1), some (.int x2)], [.int s0], (mm L X I J)) = if s0 = x2 then some (.inl (some (.int (nI 0))), (mm L X I J)) else bndN (call nX11_put [.ref (a0 + 2), .int x1, .int x2] (mm L X I J)) (fun v m' => runI call iX3_bendTo (23, [some (.ref a0), some (.int x1), some (.int x2)], v.toList ++ [], m')) := by
  refine Eq.trans (st1 dX3_bendTo_8 rfl rfl) ?_
  refine Eq.trans (ic_ne (tgt := 14) dX3_bendTo_9 (by decide +kernel)) (ite_cong (fun _ => ?_) (fun _ => ?_))
  · refine Eq.trans (xiconst dX3_bendTo_12 ci_0) ?_
    exact ret1 dX3_bendTo_13 rfl (.inl rfl)
  · refine Eq.trans (st1 dX3_bendTo_14 rfl rfl) ?_
    refine Eq.trans (getRm dX3_bendTo_15 cp_3_15 (ks3_0 h0) rfl (rs3_1 h0)) ?_
    refine Eq.trans (st1 dX3_bendTo_18 rfl rfl) ?_
    refine Eq.trans (st1 dX3_bendTo_19 rfl rfl) ?_
    exact is3 dX3_bendTo_20 cp_3_77 (Nat.le_of_ble_eq_true rfl) rfl rfl (Nat.le_of_ble_eq_true rfl)
theorem q_X3_bendTo_23 {call : CALL} {L X : Nat} {I : Nat → Nat → Int32} {J : Nat → Nat → Int64} {u0 : Option Value} {u1 : Option Value} {u2 : Option Value} : runI call iX3_bendTo (23, [u0, u1, u2], [], (mm L X I J)) = some (.inl (some (.int (nI 1))), (mm L X I J)) := by
  refine Eq.trans (xiconst dX3_bendTo_23 ci_1) ?_
  exact ret1 dX3_bendTo_24 rfl (.inr rfl)
theorem q_X3_burstOnce_0 {call : CALL} {L X : Nat} {I : Nat → Nat → Int32} {J : Nat → Nat → Int64} {a0 : Nat} {x1 : Int32} (h0 : oc3 a0) : runI call iX3_burstOnce (0, [some (.ref a0), some (.int x1)], [], (mm L X I J)) = bndN (call nX11_pick [.ref (a0 + 3), .int x1] (mm L X I J)) (fun v m' => runI call iX3_burstOnce (8, [some (.ref a0), some (.int x1)], v.toList ++ [], m')) := by
  refine Eq.trans (st1 dX3_burstOnce_0 rfl rfl) ?_
  refine Eq.trans (getRm dX3_burstOnce_1 cp_3_18 (ks3_0 h0) rfl (rs3_2 h0)) ?_
  refine Eq.trans (st1 dX3_burstOnce_4 rfl rfl) ?_
  exact is3 dX3_burstOnce_5 cp_3_58 (Nat.le_of_ble_eq_true rfl) rfl rfl (Nat.le_of_ble_eq_true rfl)
theorem q_X3_burstOnce_8 {call : CALL} {L X : Nat} {I : Nat → Nat → Int32} {J : Nat → Nat → Int64} {a0 : Nat} {x1 : Int32} {s0 : Int32} (h0 : oc3 a0) : runI call iX3_burstOnce (8, [some (.ref a0), some (.int x1)], [.int s0], (mm L X I J)) = if s0 < (nI 9) then bndN (call nX11_pick [.ref (a0 + 3), .int x1] (mm L X I J)) (fun v m' => runI call iX3_burstOnce (28, [some (.ref a0), some (.int x1)], v.toList ++ [.int x1, .ref (a0 + 3)], m')) else some (.inl (some (.int (nI 0))), (mm L X I J)) := by
  refine Eq.trans (xbipush dX3_burstOnce_8 cb_9) ?_
  refine Eq.trans (ic_lt (tgt := 15) dX3_burstOnce_10 (by decide +kernel)) (ite_cong (fun _ => ?_) (fun _ => ?_))
  · refine Eq.trans (st1 dX3_burstOnce_15 rfl rfl) ?_
    refine Eq.trans (getRm dX3_burstOnce_16 cp_3_18 (ks3_0 h0) rfl (rs3_2 h0)) ?_
    refine Eq.trans (st1 dX3_burstOnce_19 rfl rfl) ?_
    refine Eq.trans (st1 dX3_burstOnce_20 rfl rfl) ?_
    refine Eq.trans (getRm dX3_burstOnce_21 cp_3_18 (ks3_0 h0) rfl (rs3_2 h0)) ?_
    refine Eq.trans (st1 dX3_burstOnce_24 rfl rfl) ?_
    exact is3 dX3_burstOnce_25 cp_3_58 (Nat.le_of_ble_eq_true rfl) rfl rfl (Nat.le_of_ble_eq_true rfl)
  · refine Eq.trans (xiconst dX3_burstOnce_13 ci_0) ?_
    exact ret1 dX3_burstOnce_14 rfl (.inl rfl)
theorem q_X3_burstOnce_28 {call : CALL} {L X : Nat} {I : Nat → Nat → Int32} {J : Nat → Nat → Int64} {u0 : Option Value} {u1 : Option Value} {a0 : Nat} {s1 : Int32} {s2 : Int32} (h0 : oc3 a0) : runI call iX3_burstOnce (28, [u0, u1], [.int s2, .int s1, .ref (a0 + 3)], (mm L X I J)) = bndN (call nX11_put [.ref (a0 + 3), .int s1, .int (s2 + (nI 1))] (mm L X I J)) (fun v m' => runI call iX3_burstOnce (33, [u0, u1], v.toList ++ [], m')) := by
  refine Eq.trans (xiconst dX3_burstOnce_28 ci_1) ?_
  refine Eq.trans (st1 dX3_burstOnce_29 rfl rfl) ?_
  exact is3 dX3_burstOnce_30 cp_3_77 (Nat.le_of_ble_eq_true rfl) rfl rfl (Nat.le_of_ble_eq_true rfl)
theorem q_X3_burstOnce_33 {call : CALL} {L X : Nat} {I : Nat → Nat → Int32} {J : Nat → Nat → Int64} {u0 : Option Value} {u1 : Option Value} : runI call iX3_burstOnce (33, [u0, u1], [], (mm L X I J)) = some (.inl (some (.int (nI 1))), (mm L X I J)) := by
  refine Eq.trans (xiconst dX3_burstOnce_33 ci_1) ?_
  exact ret1 dX3_burstOnce_34 rfl (.inr rfl)
theorem q_X3_patchOnce_0 {call : CALL} {L X : Nat} {I : Nat → Nat → Int32} {J : Nat → Nat → Int64} {a0 : Nat} {x1 : Int32} (h0 : oc3 a0) : runI call iX3_patchOnce (0, [some (.ref a0), some (.int x1)], [], (mm L X I J)) = bndN (call nX11_pick [.ref (a0 + 3), .int x1] (mm L X I J)) (fun v m' => runI call iX3_patchOnce (8, [some (.ref a0), some (.int x1)], v.toList ++ [], m')) := by
  refine Eq.trans (st1 dX3_patchOnce_0 rfl rfl) ?_
  refine Eq.trans (getRm dX3_patchOnce_1 cp_3_18 (ks3_0 h0) rfl (rs3_2 h0)) ?_
  refine Eq.trans (st1 dX3_patchOnce_4 rfl rfl) ?_
  exact is3 dX3_patchOnce_5 cp_3_58 (Nat.le_of_ble_eq_true rfl) rfl rfl (Nat.le_of_ble_eq_true rfl)
theorem q_X3_patchOnce_8 {call : CALL} {L X : Nat} {I : Nat → Nat → Int32} {J : Nat → Nat → Int64} {a0 : Nat} {x1 : Int32} {s0 : Int32} (h0 : oc3 a0) : runI call iX3_patchOnce (8, [some (.ref a0), some (.int x1)], [.int s0], (mm L X I J)) = if (nI 0) < s0 then bndN (call nX11_pick [.ref (a0 + 3), .int x1] (mm L X I J)) (fun v m' => runI call iX3_patchOnce (26, [some (.ref a0), some (.int x1)], v.toList ++ [.int x1, .ref (a0 + 3)], m')) else some (.inl (some (.int (nI 0))), (mm L X I J)) := by
  refine Eq.trans (if_gt (tgt := 13) dX3_patchOnce_8 (by decide +kernel)) (ite_cong (fun _ => ?_) (fun _ => ?_))
  · refine Eq.trans (st1 dX3_patchOnce_13 rfl rfl) ?_
    refine Eq.trans (getRm dX3_patchOnce_14 cp_3_18 (ks3_0 h0) rfl (rs3_2 h0)) ?_
    refine Eq.trans (st1 dX3_patchOnce_17 rfl rfl) ?_
    refine Eq.trans (st1 dX3_patchOnce_18 rfl rfl) ?_
    refine Eq.trans (getRm dX3_patchOnce_19 cp_3_18 (ks3_0 h0) rfl (rs3_2 h0)) ?_
    refine Eq.trans (st1 dX3_patchOnce_22 rfl rfl) ?_
    exact is3 dX3_patchOnce_23 cp_3_58 (Nat.le_of_ble_eq_true rfl) rfl rfl (Nat.le_of_ble_eq_true rfl)
  · refine Eq.trans (xiconst dX3_patchOnce_11 ci_0) ?_
    exact ret1 dX3_patchOnce_12 rfl (.inl rfl)
theorem q_X3_patchOnce_26 {call : CALL} {L X : Nat} {I : Nat → Nat → Int32} {J : Nat → Nat → Int64} {u0 : Option Value} {u1 : Option Value} {a0 : Nat} {s1 : Int32} {s2 : Int32} (h0 : oc3 a0) : runI call iX3_patchOnce (26, [u0, u1], [.int s2, .int s1, .ref (a0 + 3)], (mm L X I J)) = bndN (call nX11_put [.ref (a0 + 3), .int s1, .int (s2 - (nI 1))] (mm L X I J)) (fun v m' => runI call iX3_patchOnce (31, [u0, u1], v.toList ++ [], m')) := by
  refine Eq.trans (xiconst dX3_patchOnce_26 ci_1) ?_
  refine Eq.trans (st1 dX3_patchOnce_27 rfl rfl) ?_
  exact is3 dX3_patchOnce_28 cp_3_77 (Nat.le_of_ble_eq_true rfl) rfl rfl (Nat.le_of_ble_eq_true rfl)
theorem q_X3_patchOnce_31 {call : CALL} {L X : Nat} {I : Nat → Nat → Int32} {J : Nat → Nat → Int64} {u0 : Option Value} {u1 : Option Value} : runI call iX3_patchOnce (31, [u0, u1], [], (mm L X I J)) = some (.inl (some (.int (nI 1))), (mm L X I J)) := by
  refine Eq.trans (xiconst dX3_patchOnce_31 ci_1) ?_
  exact ret1 dX3_patchOnce_32 rfl (.inr rfl)
theorem q_X3_hopeFor_0 {call : CALL} {L X : Nat} {I : Nat → Nat → Int32} {J : Nat → Nat → Int64} {a0 : Nat} {x1 : Int32} (h0 : oc3 a0) : runI call iX3_hopeFor (0, [some (.ref a0), some (.int x1)], [], (mm L X I J)) = if (I a0 7) = x1 then some (.inl (some (.int (nI 0))), (mm L X I J)) else some (.inl (some (.int (nI 1))), (mm L X (up2 I a0 7 x1) J)) := by
  refine Eq.trans (st1 dX3_hopeFor_0 rfl rfl) ?_
  refine Eq.trans (getIm dX3_hopeFor_1 cp_3_40 (ks3_0 h0) (.inl rfl)) ?_
  refine Eq.trans (st1 dX3_hopeFor_4 rfl rfl) ?_
  refine Eq.trans (ic_ne (tgt := 10) dX3_hopeFor_5 (by decide +kernel)) (ite_cong (fun _ => ?_) (fun _ => ?_))
  · refine Eq.trans (xiconst dX3_hopeFor_8 ci_0) ?_
    exact ret1 dX3_hopeFor_9 rfl (.inl rfl)
  · refine Eq.trans (st1 dX3_hopeFor_10 rfl rfl) ?_
    refine Eq.trans (st1 dX3_hopeFor_11 rfl rfl) ?_
    refine Eq.trans (putIm dX3_hopeFor_12 cp_3_40 (ks3_0 h0) rfl) ?_
    refine Eq.trans (xiconst dX3_hopeFor_15 ci_1) ?_
    exact ret1 dX3_hopeFor_16 rfl (.inr rfl)
theorem q_X3_longNow_0 {call : CALL} {L X : Nat} {I : Nat → Nat → Int32} {J : Nat → Nat → Int64} {a0 : Nat} {a1 : Nat} (h0 : oc3 a0) (h1 : oc1 a1) : runI call iX3_longNow (0, [some (.ref a0), some (.ref a1), none, none], [], (mm L X I J)) = runI call iX3_longNow (4, [some (.ref a0), some (.ref a1), some (.int (nI 0)), some (.int (nI 0))], [], (mm L X I J)) := by
  refine Eq.trans (xiconst dX3_longNow_0 ci_0) ?_
  refine Eq.trans (st1 dX3_longNow_1 rfl rfl) ?_
  refine Eq.trans (xiconst dX3_longNow_2 ci_0) ?_
  refine Eq.trans (st1 dX3_longNow_3 rfl rfl) ?_
  rfl
theorem q_X3_longNow_4 {call : CALL} {L X : Nat} {I : Nat → Nat → Int32} {J : Nat → Nat → Int64} {a0 : Nat} {a1 : Nat} {x2 : Int32} {x3 : Int32} (h0 : oc3 a0) (h1 : oc1 a1) : runI call iX3_longNow (4, [some (.ref a0), some (.ref a1), some (.int x2), some (.int x3)], [], (mm L X I J)) = if (I a0 5) ≤ x3 then some (.inl (some (.int x2)), (mm L X I J)) else if (nI 6) ≤ x3 then some (.inl (some (.int x2)), (mm L X I J)) else gd (inb x3 6) (bndN (call nX11_pick [.ref (a1 + 1), .int (I (a0 + 1) (x3).toNatClampNeg)] (mm L X I J)) (fun v m' => runI call iX3_longNow (32, [some (.ref a0), some (.ref a1), some (.int x2), some (.int x3)], v.toList ++ [.int x2], m'))) := by
  refine Eq.trans (st1 dX3_longNow_4 rfl rfl) ?_
  refine Eq.trans (st1 dX3_longNow_5 rfl rfl) ?_
  refine Eq.trans (getIm dX3_longNow_6 cp_3_34 (ks3_0 h0) (.inl rfl)) ?_
  refine Eq.trans (ic_ge (tgt := 40) dX3_longNow_9 (by decide +kernel)) (ite_cong (fun _ => ?_) (fun _ => ?_))
  · refine Eq.trans (st1 dX3_longNow_40 rfl rfl) ?_
    exact ret0 dX3_longNow_41 rfl
  · refine Eq.trans (st1 dX3_longNow_12 rfl rfl) ?_
    refine Eq.trans (xbipush dX3_longNow_13 cb_6) ?_
    refine Eq.trans (ic_ge (tgt := 40) dX3_longNow_15 (by decide +kernel)) (ite_cong (fun _ => ?_) (fun _ => ?_))
    · refine Eq.trans (st1 dX3_longNow_40 rfl rfl) ?_
      exact ret0 dX3_longNow_41 rfl
    · refine Eq.trans (st1 dX3_longNow_18 rfl rfl) ?_
      refine Eq.trans (st1 dX3_longNow_19 rfl rfl) ?_
      refine Eq.trans (getRm dX3_longNow_20 cp_3_53 (ks1_0 h1) rfl (rs1_4 h1)) ?_
      refine Eq.trans (st1 dX3_longNow_23 rfl rfl) ?_
      refine Eq.trans (getRm dX3_longNow_24 cp_3_9 (ks3_0 h0) rfl (rs3_0 h0)) ?_
      refine Eq.trans (st1 dX3_longNow_27 rfl rfl) ?_
      refine Eq.trans (al1m dX3_longNow_28 (ks3_1 h0)) (gd_congr fun g1 => ?_)
      exact is3 dX3_longNow_29 cp_3_58 (Nat.le_of_ble_eq_true rfl) rfl rfl (Nat.le_of_ble_eq_true rfl)
theorem q_X3_longNow_32 {call : CALL} {L X : Nat} {I : Nat → Nat → Int32} {J : Nat → Nat → Int64} {a0 : Nat} {a1 : Nat} {u2 : Option Value} {x3 : Int32} {s0 : Int32} {s1 : Int32} (h0 : oc3 a0) (h1 : oc1 a1) : runI call iX3_longNow (32, [some (.ref a0), some (.ref a1), u2, some (.int x3)], [.int s1, .int s0], (mm L X I J)) = runI call iX3_longNow (4, [some (.ref a0), some (.ref a1), some (.int (s0 + s1)), some (.int (x3 + (nI 1)))], [], (mm L X I J)) := by
  refine Eq.trans (st1 dX3_longNow_32 rfl rfl) ?_
  refine Eq.trans (st1 dX3_longNow_33 rfl rfl) ?_
  refine Eq.trans (xinc2 dX3_longNow_34 ci_1 rfl (Nat.le_of_ble_eq_true rfl) rfl) ?_
  refine Eq.trans (go_to (tgt := 4) dX3_longNow_37 (by decide +kernel)) ?_
  rfl
theorem q_X3_passHour_0 {call : CALL} {L X : Nat} {I : Nat → Nat → Int32} {J : Nat → Nat → Int64} {a0 : Nat} {x1 : Int32} (h0 : oc3 a0) : runI call iX3_passHour (0, [some (.ref a0), some (.int x1), none, none], [], (mm L X I J)) = runI call iX3_passHour (4, [some (.ref a0), some (.int x1), some (.int (nI 0)), some (.int (nI 0))], [], (mm L X I J)) := by
  refine Eq.trans (xiconst dX3_passHour_0 ci_0) ?_
  refine Eq.trans (st1 dX3_passHour_1 rfl rfl) ?_
  refine Eq.trans (xiconst dX3_passHour_2 ci_0) ?_
  refine Eq.trans (st1 dX3_passHour_3 rfl rfl) ?_
  rfl
theorem q_X3_passHour_4 {call : CALL} {L X : Nat} {I : Nat → Nat → Int32} {J : Nat → Nat → Int64} {a0 : Nat} {x1 : Int32} {x2 : Int32} {x3 : Int32} (h0 : oc3 a0) : runI call iX3_passHour (4, [some (.ref a0), some (.int x1), some (.int x2), some (.int x3)], [], (mm L X I J)) = if (nI 5) ≤ x3 then some (.inl (some (.int x2)), (mm L X (up2 I a0 6 ((I a0 6) + (nI 1))) J)) else bndN (call nX11_bit [.int x1, .int x3] (mm L X I J)) (fun v m' => runI call iX3_passHour (14, [some (.ref a0), some (.int x1), some (.int x2), some (.int x3)], v.toList ++ [], m')) := by
  refine Eq.trans (st1 dX3_passHour_4 rfl rfl) ?_
  refine Eq.trans (xiconst dX3_passHour_5 ci_5) ?_
  refine Eq.trans (ic_ge (tgt := 88) dX3_passHour_6 (by decide +kernel)) (ite_cong (fun _ => ?_) (fun _ => ?_))
  · refine Eq.trans (st1 dX3_passHour_88 rfl rfl) ?_
    refine Eq.trans (st1 dX3_passHour_89 rfl rfl) ?_
    refine Eq.trans (getIm dX3_passHour_90 cp_3_37 (ks3_0 h0) (.inl rfl)) ?_
    refine Eq.trans (xiconst dX3_passHour_93 ci_1) ?_
    refine Eq.trans (st1 dX3_passHour_94 rfl rfl) ?_
    refine Eq.trans (putIm dX3_passHour_95 cp_3_37 (ks3_0 h0) rfl) ?_
    refine Eq.trans (st1 dX3_passHour_98 rfl rfl) ?_
    exact ret0 dX3_passHour_99 rfl
  · refine Eq.trans (st1 dX3_passHour_9 rfl rfl) ?_
    refine Eq.trans (st1 dX3_passHour_10 rfl rfl) ?_
    exact is3 dX3_passHour_11 cp_3_49 (Nat.le_of_ble_eq_true rfl) rfl rfl (Nat.le_of_ble_eq_true rfl)
theorem q_X3_passHour_14 {call : CALL} {L X : Nat} {I : Nat → Nat → Int32} {J : Nat → Nat → Int64} {a0 : Nat} {x1 : Int32} {x2 : Int32} {x3 : Int32} {s0 : Int32} (h0 : oc3 a0) : runI call iX3_passHour (14, [some (.ref a0), some (.int x1), some (.int x2), some (.int x3)], [.int s0], (mm L X I J)) = if s0 = (nI 1) then gd (inb x3 5) (if (I (a0 + 4) (x3).toNatClampNeg) = (-1 : Int32) then runI call iX3_passHour (34, [some (.ref a0), some (.int x1), some (.int x2), some (.int x3)], [.int (nI 1), .int x2], (mm L X I J)) else runI call iX3_passHour (34, [some (.ref a0), some (.int x1), some (.int x2), some (.int x3)], [.int (nI 0), .int x2], (mm L X I J))) else gd (inb x3 5) (if (I (a0 + 4) (x3).toNatClampNeg) = (-1 : Int32) then runI call iX3_passHour (82, [some (.ref a0), some (.int x1), some (.int x2), some (.int x3)], [], (mm L X I J)) else if ((I a0 6) - (I (a0 + 4) (x3).toNatClampNeg)) < (nI 9) then runI call iX3_passHour (82, [some (.ref a0), some (.int x1), some (.int x2), some (.int x3)], [], (mm L X I J)) else runI call iX3_passHour (82, [some (.ref a0), some (.int x1), some (.int x2), some (.int x3)], [], (mm L X (up2 I (a0 + 4) (x3).toNatClampNeg (-1 : Int32)) J))) := by
  refine Eq.trans (xiconst dX3_passHour_14 ci_1) ?_
  refine Eq.trans (ic_ne (tgt := 49) dX3_passHour_15 (by decide +kernel)) (ite_cong (fun _ => ?_) (fun _ => ?_))
  · refine Eq.trans (st1 dX3_passHour_18 rfl rfl) ?_
    refine Eq.trans (st1 dX3_passHour_19 rfl rfl) ?_
    refine Eq.trans (getRm dX3_passHour_20 cp_3_21 (ks3_0 h0) rfl (rs3_3 h0)) ?_
    refine Eq.trans (st1 dX3_passHour_23 rfl rfl) ?_
    refine Eq.trans (al1m dX3_passHour_24 (ks3_4 h0)) (gd_congr fun g2 => ?_)
    refine Eq.trans (xiconst dX3_passHour_25 ci_m1) ?_
    refine Eq.trans (ic_ne (tgt := 33) dX3_passHour_26 (by decide +kernel)) (ite_cong (fun _ => ?_) (fun _ => ?_))
    · refine Eq.trans (xiconst dX3_passHour_29 ci_1) ?_
      refine Eq.trans (go_to (tgt := 34) dX3_passHour_30 (by decide +kernel)) ?_
      rfl
    · refine Eq.trans (xiconst dX3_passHour_33 ci_0) ?_
      rfl
  · refine Eq.trans (st1 dX3_passHour_49 rfl rfl) ?_
    refine Eq.trans (getRm dX3_passHour_50 cp_3_21 (ks3_0 h0) rfl (rs3_3 h0)) ?_
    refine Eq.trans (st1 dX3_passHour_53 rfl rfl) ?_
    refine Eq.trans (al1m dX3_passHour_54 (ks3_4 h0)) (gd_congr fun g1 => ?_)
    refine Eq.trans (xiconst dX3_passHour_55 ci_m1) ?_
    refine Eq.trans (ic_eq (tgt := 82) dX3_passHour_56 (by decide +kernel)) (ite_cong (fun _ => ?_) (fun _ => ?_))
    · rfl
    · refine Eq.trans (st1 dX3_passHour_59 rfl rfl) ?_
      refine Eq.trans (getIm dX3_passHour_60 cp_3_37 (ks3_0 h0) (.inl rfl)) ?_
      refine Eq.trans (st1 dX3_passHour_63 rfl rfl) ?_
      refine Eq.trans (getRm dX3_passHour_64 cp_3_21 (ks3_0 h0) rfl (rs3_3 h0)) ?_
      refine Eq.trans (st1 dX3_passHour_67 rfl rfl) ?_
      refine Eq.trans (al1m dX3_passHour_68 (ks3_4 h0)) (Eq.trans (gd_t g1) ?_)
      refine Eq.trans (st1 dX3_passHour_69 rfl rfl) ?_
      refine Eq.trans (xbipush dX3_passHour_70 cb_9) ?_
      refine Eq.trans (ic_lt (tgt := 82) dX3_passHour_72 (by decide +kernel)) (ite_cong (fun _ => ?_) (fun _ => ?_))
      · rfl
      · refine Eq.trans (st1 dX3_passHour_75 rfl rfl) ?_
        refine Eq.trans (getRm dX3_passHour_76 cp_3_21 (ks3_0 h0) rfl (rs3_3 h0)) ?_
        refine Eq.trans (st1 dX3_passHour_79 rfl rfl) ?_
        refine Eq.trans (xiconst dX3_passHour_80 ci_m1) ?_
        refine Eq.trans (as1m dX3_passHour_81 (ks3_4 h0)) (Eq.trans (gd_t g1) ?_)
        rfl
theorem q_X3_passHour_82 {call : CALL} {L X : Nat} {I : Nat → Nat → Int32} {J : Nat → Nat → Int64} {a0 : Nat} {x1 : Int32} {x2 : Int32} {x3 : Int32} (h0 : oc3 a0) : runI call iX3_passHour (82, [some (.ref a0), some (.int x1), some (.int x2), some (.int x3)], [], (mm L X I J)) = runI call iX3_passHour (4, [some (.ref a0), some (.int x1), some (.int x2), some (.int (x3 + (nI 1)))], [], (mm L X I J)) := by
  refine Eq.trans (xinc2 dX3_passHour_82 ci_1 rfl (Nat.le_of_ble_eq_true rfl) rfl) ?_
  refine Eq.trans (go_to (tgt := 4) dX3_passHour_85 (by decide +kernel)) ?_
  rfl
theorem q_X3_passHour_34 {call : CALL} {L X : Nat} {I : Nat → Nat → Int32} {J : Nat → Nat → Int64} {a0 : Nat} {x1 : Int32} {u2 : Option Value} {x3 : Int32} {s0 : Int32} {s1 : Int32} (h0 : oc3 a0) : runI call iX3_passHour (34, [some (.ref a0), some (.int x1), u2, some (.int x3)], [.int s1, .int s0], (mm L X I J)) = gd (inb x3 5) (runI call iX3_passHour (82, [some (.ref a0), some (.int x1), some (.int (s0 + s1)), some (.int x3)], [], (mm L X (up2 I (a0 + 4) (x3).toNatClampNeg (I a0 6)) J))) := by
  refine Eq.trans (st1 dX3_passHour_34 rfl rfl) ?_
  refine Eq.trans (st1 dX3_passHour_35 rfl rfl) ?_
  refine Eq.trans (st1 dX3_passHour_36 rfl rfl) ?_
  refine Eq.trans (getRm dX3_passHour_37 cp_3_21 (ks3_0 h0) rfl (rs3_3 h0)) ?_
  refine Eq.trans (st1 dX3_passHour_40 rfl rfl) ?_
  refine Eq.trans (st1 dX3_passHour_41 rfl rfl) ?_
  refine Eq.trans (getIm dX3_passHour_42 cp_3_37 (ks3_0 h0) (.inl rfl)) ?_
  refine Eq.trans (as1m dX3_passHour_45 (ks3_4 h0)) (gd_congr fun g1 => ?_)
  refine Eq.trans (go_to (tgt := 82) dX3_passHour_46 (by decide +kernel)) ?_
  rfl
theorem q_X3_rowBits_0 {call : CALL} {L X : Nat} {I : Nat → Nat → Int32} {J : Nat → Nat → Int64} {a0 : Nat} (h0 : oc3 a0) : runI call iX3_rowBits (0, [some (.ref a0), none, none], [], (mm L X I J)) = runI call iX3_rowBits (4, [some (.ref a0), some (.int (nI 0)), some (.int (nI 0))], [], (mm L X I J)) := by
  refine Eq.trans (xiconst dX3_rowBits_0 ci_0) ?_
  refine Eq.trans (st1 dX3_rowBits_1 rfl rfl) ?_
  refine Eq.trans (xiconst dX3_rowBits_2 ci_0) ?_
  refine Eq.trans (st1 dX3_rowBits_3 rfl rfl) ?_
  rfl
theorem q_X3_rowBits_4 {call : CALL} {L X : Nat} {I : Nat → Nat → Int32} {J : Nat → Nat → Int64} {a0 : Nat} {x1 : Int32} {x2 : Int32} (h0 : oc3 a0) : runI call iX3_rowBits (4, [some (.ref a0), some (.int x1), some (.int x2)], [], (mm L X I J)) = if (I a0 5) ≤ x2 then some (.inl (some (.int x1)), (mm L X I J)) else if (nI 6) ≤ x2 then some (.inl (some (.int x1)), (mm L X I J)) else gd (inb x2 6) (runI call iX3_rowBits (4, [some (.ref a0), some (.int (x1 ||| ((nI 1) <<< ((I (a0 + 1) (x2).toNatClampNeg) &&& 31)))), some (.int (x2 + (nI 1)))], [], (mm L X I J))) := by
  refine Eq.trans (st1 dX3_rowBits_4 rfl rfl) ?_
  refine Eq.trans (st1 dX3_rowBits_5 rfl rfl) ?_
  refine Eq.trans (getIm dX3_rowBits_6 cp_3_34 (ks3_0 h0) (.inl rfl)) ?_
  refine Eq.trans (ic_ge (tgt := 35) dX3_rowBits_9 (by decide +kernel)) (ite_cong (fun _ => ?_) (fun _ => ?_))
  · refine Eq.trans (st1 dX3_rowBits_35 rfl rfl) ?_
    exact ret0 dX3_rowBits_36 rfl
  · refine Eq.trans (st1 dX3_rowBits_12 rfl rfl) ?_
    refine Eq.trans (xbipush dX3_rowBits_13 cb_6) ?_
    refine Eq.trans (ic_ge (tgt := 35) dX3_rowBits_15 (by decide +kernel)) (ite_cong (fun _ => ?_) (fun _ => ?_))
    · refine Eq.trans (st1 dX3_rowBits_35 rfl rfl) ?_
      exact ret0 dX3_rowBits_36 rfl
    · refine Eq.trans (st1 dX3_rowBits_18 rfl rfl) ?_
      refine Eq.trans (xiconst dX3_rowBits_19 ci_1) ?_
      refine Eq.trans (st1 dX3_rowBits_20 rfl rfl) ?_
      refine Eq.trans (getRm dX3_rowBits_21 cp_3_9 (ks3_0 h0) rfl (rs3_0 h0)) ?_
      refine Eq.trans (st1 dX3_rowBits_24 rfl rfl) ?_
      refine Eq.trans (al1m dX3_rowBits_25 (ks3_1 h0)) (gd_congr fun g1 => ?_)
      refine Eq.trans (st1 dX3_rowBits_26 rfl rfl) ?_
      refine Eq.trans (st1 dX3_rowBits_27 rfl rfl) ?_
      refine Eq.trans (st1 dX3_rowBits_28 rfl rfl) ?_
      refine Eq.trans (xinc2 dX3_rowBits_29 ci_1 rfl (Nat.le_of_ble_eq_true rfl) rfl) ?_
      refine Eq.trans (go_to (tgt := 4) dX3_rowBits_32 (by decide +kernel)) ?_
      rfl
theorem q_X3_outBits_0 {call : CALL} {L X : Nat} {I : Nat → Nat → Int32} {J : Nat → Nat → Int64} {a0 : Nat} (h0 : oc3 a0) : runI call iX3_outBits (0, [some (.ref a0), none, none], [], (mm L X I J)) = runI call iX3_outBits (4, [some (.ref a0), some (.int (nI 0)), some (.int (nI 0))], [], (mm L X I J)) := by
  refine Eq.trans (xiconst dX3_outBits_0 ci_0) ?_
  refine Eq.trans (st1 dX3_outBits_1 rfl rfl) ?_
  refine Eq.trans (xiconst dX3_outBits_2 ci_0) ?_
  refine Eq.trans (st1 dX3_outBits_3 rfl rfl) ?_
  rfl
theorem q_X3_outBits_4 {call : CALL} {L X : Nat} {I : Nat → Nat → Int32} {J : Nat → Nat → Int64} {a0 : Nat} {x1 : Int32} {x2 : Int32} (h0 : oc3 a0) : runI call iX3_outBits (4, [some (.ref a0), some (.int x1), some (.int x2)], [], (mm L X I J)) = if (nI 5) ≤ x2 then some (.inl (some (.int x1)), (mm L X I J)) else gd (inb x2 5) (if (I (a0 + 4) (x2).toNatClampNeg) = (-1 : Int32) then runI call iX3_outBits (25, [some (.ref a0), some (.int x1), some (.int x2)], [], (mm L X I J)) else runI call iX3_outBits (25, [some (.ref a0), some (.int (x1 ||| ((nI 1) <<< (x2 &&& 31)))), some (.int x2)], [], (mm L X I J))) := by
  refine Eq.trans (st1 dX3_outBits_4 rfl rfl) ?_
  refine Eq.trans (xiconst dX3_outBits_5 ci_5) ?_
  refine Eq.trans (ic_ge (tgt := 31) dX3_outBits_6 (by decide +kernel)) (ite_cong (fun _ => ?_) (fun _ => ?_))
  · refine Eq.trans (st1 dX3_outBits_31 rfl rfl) ?_
    exact ret0 dX3_outBits_32 rfl
  · refine Eq.trans (st1 dX3_outBits_9 rfl rfl) ?_
    refine Eq.trans (getRm dX3_outBits_10 cp_3_21 (ks3_0 h0) rfl (rs3_3 h0)) ?_
    refine Eq.trans (st1 dX3_outBits_13 rfl rfl) ?_
    refine Eq.trans (al1m dX3_outBits_14 (ks3_4 h0)) (gd_congr fun g1 => ?_)
    refine Eq.trans (xiconst dX3_outBits_15 ci_m1) ?_
    refine Eq.trans (ic_eq (tgt := 25) dX3_outBits_16 (by decide +kernel)) (ite_cong (fun _ => ?_) (fun _ => ?_))
    · rfl
    · refine Eq.trans (st1 dX3_outBits_19 rfl rfl) ?_
      refine Eq.trans (xiconst dX3_outBits_20 ci_1) ?_
      refine Eq.trans (st1 dX3_outBits_21 rfl rfl) ?_
      refine Eq.trans (st1 dX3_outBits_22 rfl rfl) ?_
      refine Eq.trans (st1 dX3_outBits_23 rfl rfl) ?_
      refine Eq.trans (st1 dX3_outBits_24 rfl rfl) ?_
      rfl
theorem q_X3_outBits_25 {call : CALL} {L X : Nat} {I : Nat → Nat → Int32} {J : Nat → Nat → Int64} {a0 : Nat} {x1 : Int32} {x2 : Int32} (h0 : oc3 a0) : runI call iX3_outBits (25, [some (.ref a0), some (.int x1), some (.int x2)], [], (mm L X I J)) = runI call iX3_outBits (4, [some (.ref a0), some (.int x1), some (.int (x2 + (nI 1)))], [], (mm L X I J)) := by
  refine Eq.trans (xinc2 dX3_outBits_25 ci_1 rfl (Nat.le_of_ble_eq_true rfl) rfl) ?_
  refine Eq.trans (go_to (tgt := 4) dX3_outBits_28 (by decide +kernel)) ?_
  rfl
theorem q_X3_become_0 {call : CALL} {L X : Nat} {I : Nat → Nat → Int32} {J : Nat → Nat → Int64} {a0 : Nat} {a1 : Nat} (h0 : oc3 a0) (h1 : oc3 a1) : runI call iX3_become (0, [some (.ref a0), some (.ref a1)], [], (mm L X I J)) = gd (cpok (nI 0) (nI 0) (nI 6) 6 6) (gd (cpok (nI 0) (nI 0) (nI 6) 6 6) (runI call iX3_become (30, [some (.ref a0), some (.ref a1)], [], (mm L X (up1 (up1 I (a0 + 1) (va_cpy (I (a1 + 1)) (I (a0 + 1)) ((nI 0)).toNatClampNeg ((nI 0)).toNatClampNeg ((nI 6)).toNatClampNeg)) (a0 + 2) (va_cpy ((up1 I (a0 + 1) (va_cpy (I (a1 + 1)) (I (a0 + 1)) ((nI 0)).toNatClampNeg ((nI 0)).toNatClampNeg ((nI 6)).toNatClampNeg)) (a1 + 2)) ((up1 I (a0 + 1) (va_cpy (I (a1 + 1)) (I (a0 + 1)) ((nI 0)).toNatClampNeg ((nI 0)).toNatClampNeg ((nI 6)).toNatClampNeg)) (a0 + 2)) ((nI 0)).toNatClampNeg ((nI 0)).toNatClampNeg ((nI 6)).toNatClampNeg)) J)))) := by
  refine Eq.trans (st1 dX3_become_0 rfl rfl) ?_
  refine Eq.trans (getRm dX3_become_1 cp_3_9 (ks3_0 h1) rfl (rs3_0 h1)) ?_
  refine Eq.trans (xiconst dX3_become_4 ci_0) ?_
  refine Eq.trans (st1 dX3_become_5 rfl rfl) ?_
  refine Eq.trans (getRm dX3_become_6 cp_3_9 (ks3_0 h0) rfl (rs3_0 h0)) ?_
  refine Eq.trans (xiconst dX3_become_9 ci_0) ?_
  refine Eq.trans (xbipush dX3_become_10 cb_6) ?_
  refine Eq.trans (icpym dX3_become_12 cp_3_43 (ks3_1 h1) (ks3_1 h0) (Nat.le_of_ble_eq_true rfl)) (gd_congr fun _ => ?_)
  refine Eq.trans (st1 dX3_become_15 rfl rfl) ?_
  refine Eq.trans (getRm dX3_become_16 cp_3_15 (ks3_0 h1) rfl (rs3_1 h1)) ?_
  refine Eq.trans (xiconst dX3_become_19 ci_0) ?_
  refine Eq.trans (st1 dX3_become_20 rfl rfl) ?_
  refine Eq.trans (getRm dX3_become_21 cp_3_15 (ks3_0 h0) rfl (rs3_1 h0)) ?_
  refine Eq.trans (xiconst dX3_become_24 ci_0) ?_
  refine Eq.trans (xbipush dX3_become_25 cb_6) ?_
  refine Eq.trans (icpym dX3_become_27 cp_3_43 (ks3_2 h1) (ks3_2 h0) (Nat.le_of_ble_eq_true rfl)) (gd_congr fun _ => ?_)
  rfl
theorem q_X3_become_30 {call : CALL} {L X : Nat} {I : Nat → Nat → Int32} {J : Nat → Nat → Int64} {a0 : Nat} {a1 : Nat} (h0 : oc3 a0) (h1 : oc3 a1) : runI call iX3_become (30, [some (.ref a0), some (.ref a1)], [], (mm L X I J)) = gd (cpok (nI 0) (nI 0) (nI 6) 6 6) (gd (cpok (nI 0) (nI 0) (nI 5) 5 5) (runI call iX3_become (59, [some (.ref a0), some (.ref a1)], [], (mm L X (up1 (up1 I (a0 + 3) (va_cpy (I (a1 + 3)) (I (a0 + 3)) ((nI 0)).toNatClampNeg ((nI 0)).toNatClampNeg ((nI 6)).toNatClampNeg)) (a0 + 4) (va_cpy ((up1 I (a0 + 3) (va_cpy (I (a1 + 3)) (I (a0 + 3)) ((nI 0)).toNatClampNeg ((nI 0)).toNatClampNeg ((nI 6)).toNatClampNeg)) (a1 + 4)) ((up1 I (a0 + 3) (va_cpy (I (a1 + 3)) (I (a0 + 3)) ((nI 0)).toNatClampNeg ((nI 0)).toNatClampNeg ((nI 6)).toNatClampNeg)) (a0 + 4)) ((nI 0)).toNatClampNeg ((nI 0)).toNatClampNeg ((nI 5)).toNatClampNeg)) J)))) := by
  refine Eq.trans (st1 dX3_become_30 rfl rfl) ?_
  refine Eq.trans (getRm dX3_become_31 cp_3_18 (ks3_0 h1) rfl (rs3_2 h1)) ?_
  refine Eq.trans (xiconst dX3_become_34 ci_0) ?_
  refine Eq.trans (st1 dX3_become_35 rfl rfl) ?_
  refine Eq.trans (getRm dX3_become_36 cp_3_18 (ks3_0 h0) rfl (rs3_2 h0)) ?_
  refine Eq.trans (xiconst dX3_become_39 ci_0) ?_
  refine Eq.trans (xbipush dX3_become_40 cb_6) ?_
  refine Eq.trans (icpym dX3_become_42 cp_3_43 (ks3_3 h1) (ks3_3 h0) (Nat.le_of_ble_eq_true rfl)) (gd_congr fun _ => ?_)
  refine Eq.trans (st1 dX3_become_45 rfl rfl) ?_
  refine Eq.trans (getRm dX3_become_46 cp_3_21 (ks3_0 h1) rfl (rs3_3 h1)) ?_
  refine Eq.trans (xiconst dX3_become_49 ci_0) ?_
  refine Eq.trans (st1 dX3_become_50 rfl rfl) ?_
  refine Eq.trans (getRm dX3_become_51 cp_3_21 (ks3_0 h0) rfl (rs3_3 h0)) ?_
  refine Eq.trans (xiconst dX3_become_54 ci_0) ?_
  refine Eq.trans (xiconst dX3_become_55 ci_5) ?_
  refine Eq.trans (icpym dX3_become_56 cp_3_43 (ks3_4 h1) (ks3_4 h0) (Nat.le_of_ble_eq_true rfl)) (gd_congr fun _ => ?_)
  rfl
theorem q_X3_become_59 {call : CALL} {L X : Nat} {I : Nat → Nat → Int32} {J : Nat → Nat → Int64} {a0 : Nat} {a1 : Nat} (h0 : oc3 a0) (h1 : oc3 a1) : runI call iX3_become (59, [some (.ref a0), some (.ref a1)], [], (mm L X I J)) = runI call iX3_become (91, [some (.ref a0), some (.ref a1)], [], (mm L X (up2 (up2 (up2 (up2 I a0 4 (I a1 4)) a0 5 ((up2 I a0 4 (I a1 4)) a1 5)) a0 6 ((up2 (up2 I a0 4 (I a1 4)) a0 5 ((up2 I a0 4 (I a1 4)) a1 5)) a1 6)) a0 7 ((up2 (up2 (up2 I a0 4 (I a1 4)) a0 5 ((up2 I a0 4 (I a1 4)) a1 5)) a0 6 ((up2 (up2 I a0 4 (I a1 4)) a0 5 ((up2 I a0 4 (I a1 4)) a1 5)) a1 6)) a1 7)) J)) := by
  refine Eq.trans (st1 dX3_become_59 rfl rfl) ?_
  refine Eq.trans (st1 dX3_become_60 rfl rfl) ?_
  refine Eq.trans (getIm dX3_become_61 cp_3_30 (ks3_0 h1) (.inl rfl)) ?_
  refine Eq.trans (putIm dX3_become_64 cp_3_30 (ks3_0 h0) rfl) ?_
  refine Eq.trans (st1 dX3_become_67 rfl rfl) ?_
  refine Eq.trans (st1 dX3_become_68 rfl rfl) ?_
  refine Eq.trans (getIm dX3_become_69 cp_3_34 (ks3_0 h1) (.inl rfl)) ?_
  refine Eq.trans (putIm dX3_become_72 cp_3_34 (ks3_0 h0) rfl) ?_
  refine Eq.trans (st1 dX3_become_75 rfl rfl) ?_
  refine Eq.trans (st1 dX3_become_76 rfl rfl) ?_
  refine Eq.trans (getIm dX3_become_77 cp_3_37 (ks3_0 h1) (.inl rfl)) ?_
  refine Eq.trans (putIm dX3_become_80 cp_3_37 (ks3_0 h0) rfl) ?_
  refine Eq.trans (st1 dX3_become_83 rfl rfl) ?_
  refine Eq.trans (st1 dX3_become_84 rfl rfl) ?_
  refine Eq.trans (getIm dX3_become_85 cp_3_40 (ks3_0 h1) (.inl rfl)) ?_
  refine Eq.trans (putIm dX3_become_88 cp_3_40 (ks3_0 h0) rfl) ?_
  rfl
theorem q_X3_become_91 {call : CALL} {L X : Nat} {I : Nat → Nat → Int32} {J : Nat → Nat → Int64} {u0 : Option Value} {u1 : Option Value} : runI call iX3_become (91, [u0, u1], [], (mm L X I J)) = some (.inl none, (mm L X I J)) := by
  exact ret3 dX3_become_91 (.inl rfl)
theorem q_X3_allBursts_0 {call : CALL} {L X : Nat} {I : Nat → Nat → Int32} {J : Nat → Nat → Int64} {a0 : Nat} (h0 : oc3 a0) : runI call iX3_allBursts (0, [some (.ref a0), none, none], [], (mm L X I J)) = runI call iX3_allBursts (4, [some (.ref a0), some (.int (nI 0)), some (.int (nI 0))], [], (mm L X I J)) := by
  refine Eq.trans (xiconst dX3_allBursts_0 ci_0) ?_
  refine Eq.trans (st1 dX3_allBursts_1 rfl rfl) ?_
  refine Eq.trans (xiconst dX3_allBursts_2 ci_0) ?_
  refine Eq.trans (st1 dX3_allBursts_3 rfl rfl) ?_
  rfl
theorem q_X3_allBursts_4 {call : CALL} {L X : Nat} {I : Nat → Nat → Int32} {J : Nat → Nat → Int64} {a0 : Nat} {x1 : Int32} {x2 : Int32} (h0 : oc3 a0) : runI call iX3_allBursts (4, [some (.ref a0), some (.int x1), some (.int x2)], [], (mm L X I J)) = if (nI 6) ≤ x2 then some (.inl (some (.int x1)), (mm L X I J)) else gd (inb x2 6) (runI call iX3_allBursts (4, [some (.ref a0), some (.int (x1 + (I (a0 + 3) (x2).toNatClampNeg))), some (.int (x2 + (nI 1)))], [], (mm L X I J))) := by
  refine Eq.trans (st1 dX3_allBursts_4 rfl rfl) ?_
  refine Eq.trans (xbipush dX3_allBursts_5 cb_6) ?_
  refine Eq.trans (ic_ge (tgt := 25) dX3_allBursts_7 (by decide +kernel)) (ite_cong (fun _ => ?_) (fun _ => ?_))
  · refine Eq.trans (st1 dX3_allBursts_25 rfl rfl) ?_
    exact ret0 dX3_allBursts_26 rfl
  · refine Eq.trans (st1 dX3_allBursts_10 rfl rfl) ?_
    refine Eq.trans (st1 dX3_allBursts_11 rfl rfl) ?_
    refine Eq.trans (getRm dX3_allBursts_12 cp_3_18 (ks3_0 h0) rfl (rs3_2 h0)) ?_
    refine Eq.trans (st1 dX3_allBursts_15 rfl rfl) ?_
    refine Eq.trans (al1m dX3_allBursts_16 (ks3_3 h0)) (gd_congr fun g1 => ?_)
    refine Eq.trans (st1 dX3_allBursts_17 rfl rfl) ?_
    refine Eq.trans (st1 dX3_allBursts_18 rfl rfl) ?_
    refine Eq.trans (xinc2 dX3_allBursts_19 ci_1 rfl (Nat.le_of_ble_eq_true rfl) rfl) ?_
    refine Eq.trans (go_to (tgt := 4) dX3_allBursts_22 (by decide +kernel)) ?_
    rfl
theorem q_X4_pop_0 {call : CALL} {L X : Nat} {I : Nat → Nat → Int32} {J : Nat → Nat → Int64} {a1 : Nat} (h1 : oc3 a1) : runI call iX4_pop (0, [some (.ref 48), some (.ref a1)], [], (mm L X I J)) = bnd (call nX3_readFrom [.ref a1, .ref 49, .int (((up2 I 48 3 ((I 48 3) - (nI 1))) 48 3) * (nI 27))] (mm L X (up2 I 48 3 ((I 48 3) - (nI 1))) J)) (fun v m' => runI call iX4_pop (25, [some (.ref 48), some (.ref a1)], v.toList ++ [], m')) := by
  refine Eq.trans (st1 dX4_pop_0 rfl rfl) ?_
  refine Eq.trans (st1 dX4_pop_1 rfl rfl) ?_
  refine Eq.trans (getIm dX4_pop_2 cp_4_21 ka_48 (.inl rfl)) ?_
  refine Eq.trans (xiconst dX4_pop_5 ci_1) ?_
  refine Eq.trans (st1 dX4_pop_6 rfl rfl) ?_
  refine Eq.trans (putIm dX4_pop_7 cp_4_21 ka_48 rfl) ?_
  refine Eq.trans (st1 dX4_pop_10 rfl rfl) ?_
  refine Eq.trans (st1 dX4_pop_11 rfl rfl) ?_
  refine Eq.trans (getRm dX4_pop_12 cp_4_11 ka_48 rfl r_48_0) ?_
  refine Eq.trans (st1 dX4_pop_15 rfl rfl) ?_
  refine Eq.trans (getIm dX4_pop_16 cp_4_21 ka_48 (.inl rfl)) ?_
  refine Eq.trans (xbipush dX4_pop_19 cb_27) ?_
  refine Eq.trans (st1 dX4_pop_21 rfl rfl) ?_
  exact iv0 dX4_pop_22 rfl cp_4_32 rfl rfl (kd_ka (ks3_0 h1)) (ks3_0 h1).1 (Nat.le_of_ble_eq_true rfl)
theorem q_X4_pop_25 {call : CALL} {L X : Nat} {I : Nat → Nat → Int32} {J : Nat → Nat → Int64} {u0 : Option Value} {u1 : Option Value} : runI call iX4_pop (25, [u0, u1], [], (mm L X I J)) = some (.inl none, (mm L X I J)) := by
  exact ret3 dX4_pop_25 (.inl rfl)
theorem q_X4_canKeep_0 {call : CALL} {L X : Nat} {I : Nat → Nat → Int32} {J : Nat → Nat → Int64}  : runI call iX4_canKeep (0, [some (.ref 48)], [], (mm L X I J)) = if (nI 3) ≤ (I 48 4) then some (.inl (some (.int (nI 0))), (mm L X I J)) else some (.inl (some (.int (nI 1))), (mm L X I J)) := by
  refine Eq.trans (st1 dX4_canKeep_0 rfl rfl) ?_
  refine Eq.trans (getIm dX4_canKeep_1 cp_4_25 ka_48 (.inl rfl)) ?_
  refine Eq.trans (xiconst dX4_canKeep_4 ci_3) ?_
  refine Eq.trans (ic_ge (tgt := 12) dX4_canKeep_5 (by decide +kernel)) (ite_cong (fun _ => ?_) (fun _ => ?_))
  · refine Eq.trans (xiconst dX4_canKeep_12 ci_0) ?_
    exact ret1 dX4_canKeep_13 rfl (.inl rfl)
  · refine Eq.trans (xiconst dX4_canKeep_8 ci_1) ?_
    refine Eq.trans (go_to (tgt := 13) dX4_canKeep_9 (by decide +kernel)) ?_
    exact ret1 dX4_canKeep_13 rfl (.inr rfl)
theorem q_X4_keep_0 {call : CALL} {L X : Nat} {I : Nat → Nat → Int32} {J : Nat → Nat → Int64} {a1 : Nat} (h1 : oc3 a1) : runI call iX4_keep (0, [some (.ref 48), some (.ref a1)], [], (mm L X I J)) = if (I 48 4) < (nI 0) then some (.inl none, (mm L X I J)) else if (I 48 4) < (nI 3) then bnd (call nX3_writeTo [.ref a1, .ref 50, .int ((I 48 4) * (nI 459))] (mm L X I J)) (fun v m' => runI call iX4_keep (32, [some (.ref 48), some (.ref a1)], v.toList ++ [], m')) else some (.inl none, (mm L X I J)) := by
  refine Eq.trans (st1 dX4_keep_0 rfl rfl) ?_
  refine Eq.trans (getIm dX4_keep_1 cp_4_25 ka_48 (.inl rfl)) ?_
  refine Eq.trans (if_lt (tgt := 15) dX4_keep_4 (by decide +kernel)) (ite_cong (fun _ => ?_) (fun _ => ?_))
  · exact ret3 dX4_keep_15 (.inl rfl)
  · refine Eq.trans (st1 dX4_keep_7 rfl rfl) ?_
    refine Eq.trans (getIm dX4_keep_8 cp_4_25 ka_48 (.inl rfl)) ?_
    refine Eq.trans (xiconst dX4_keep_11 ci_3) ?_
    refine Eq.trans (ic_lt (tgt := 16) dX4_keep_12 (by decide +kernel)) (ite_cong (fun _ => ?_) (fun _ => ?_))
    · refine Eq.trans (st1 dX4_keep_16 rfl rfl) ?_
      refine Eq.trans (st1 dX4_keep_17 rfl rfl) ?_
      refine Eq.trans (getRm dX4_keep_18 cp_4_15 ka_48 rfl r_48_1) ?_
      refine Eq.trans (st1 dX4_keep_21 rfl rfl) ?_
      refine Eq.trans (getIm dX4_keep_22 cp_4_25 ka_48 (.inl rfl)) ?_
      refine Eq.trans (xsipush dX4_keep_25 cs_459) ?_
      refine Eq.trans (st1 dX4_keep_28 rfl rfl) ?_
      exact iv0 dX4_keep_29 rfl cp_4_28 rfl rfl (kd_ka (ks3_0 h1)) (ks3_0 h1).1 (Nat.le_of_ble_eq_true rfl)
    · exact ret3 dX4_keep_15 (.inl rfl)
theorem q_X4_keep_32 {call : CALL} {L X : Nat} {I : Nat → Nat → Int32} {J : Nat → Nat → Int64} {u1 : Option Value} : runI call iX4_keep (32, [some (.ref 48), u1], [], (mm L X I J)) = gd (cpok (nI 0) (((I 48 4) * (nI 459)) + (nI 27)) (nI 432) 432 1377) (gd (inb ((up1 I 50 (va_cpy (I 49) (I 50) ((nI 0)).toNatClampNeg ((((I 48 4) * (nI 459)) + (nI 27))).toNatClampNeg ((nI 432)).toNatClampNeg)) 48 4) 3) (runI call iX4_keep (81, [some (.ref 48), u1], [], (mm L X (up2 (up2 (up1 I 50 (va_cpy (I 49) (I 50) ((nI 0)).toNatClampNeg ((((I 48 4) * (nI 459)) + (nI 27))).toNatClampNeg ((nI 432)).toNatClampNeg)) 51 (((up1 I 50 (va_cpy (I 49) (I 50) ((nI 0)).toNatClampNeg ((((I 48 4) * (nI 459)) + (nI 27))).toNatClampNeg ((nI 432)).toNatClampNeg)) 48 4)).toNatClampNeg ((up1 I 50 (va_cpy (I 49) (I 50) ((nI 0)).toNatClampNeg ((((I 48 4) * (nI 459)) + (nI 27))).toNatClampNeg ((nI 432)).toNatClampNeg)) 48 3)) 48 4 (((up2 (up1 I 50 (va_cpy (I 49) (I 50) ((nI 0)).toNatClampNeg ((((I 48 4) * (nI 459)) + (nI 27))).toNatClampNeg ((nI 432)).toNatClampNeg)) 51 (((up1 I 50 (va_cpy (I 49) (I 50) ((nI 0)).toNatClampNeg ((((I 48 4) * (nI 459)) + (nI 27))).toNatClampNeg ((nI 432)).toNatClampNeg)) 48 4)).toNatClampNeg ((up1 I 50 (va_cpy (I 49) (I 50) ((nI 0)).toNatClampNeg ((((I 48 4) * (nI 459)) + (nI 27))).toNatClampNeg ((nI 432)).toNatClampNeg)) 48 3)) 48 4) + (nI 1))) J)))) := by
  refine Eq.trans (st1 dX4_keep_32 rfl rfl) ?_
  refine Eq.trans (getRm dX4_keep_33 cp_4_11 ka_48 rfl r_48_0) ?_
  refine Eq.trans (xiconst dX4_keep_36 ci_0) ?_
  refine Eq.trans (st1 dX4_keep_37 rfl rfl) ?_
  refine Eq.trans (getRm dX4_keep_38 cp_4_15 ka_48 rfl r_48_1) ?_
  refine Eq.trans (st1 dX4_keep_41 rfl rfl) ?_
  refine Eq.trans (getIm dX4_keep_42 cp_4_25 ka_48 (.inl rfl)) ?_
  refine Eq.trans (xsipush dX4_keep_45 cs_459) ?_
  refine Eq.trans (st1 dX4_keep_48 rfl rfl) ?_
  refine Eq.trans (xbipush dX4_keep_49 cb_27) ?_
  refine Eq.trans (st1 dX4_keep_51 rfl rfl) ?_
  refine Eq.trans (xsipush dX4_keep_52 cs_432) ?_
  refine Eq.trans (icpym dX4_keep_55 cp_4_35 ka_49 ka_50 (Nat.le_of_ble_eq_true rfl)) (gd_congr fun _ => ?_)
  refine Eq.trans (st1 dX4_keep_58 rfl rfl) ?_
  refine Eq.trans (getRm dX4_keep_59 cp_4_18 ka_48 rfl r_48_2) ?_
  refine Eq.trans (st1 dX4_keep_62 rfl rfl) ?_
  refine Eq.trans (getIm dX4_keep_63 cp_4_25 ka_48 (.inl rfl)) ?_
  refine Eq.trans (st1 dX4_keep_66 rfl rfl) ?_
  refine Eq.trans (getIm dX4_keep_67 cp_4_21 ka_48 (.inl rfl)) ?_
  refine Eq.trans (as1m dX4_keep_70 ka_51) (gd_congr fun g1 => ?_)
  refine Eq.trans (st1 dX4_keep_71 rfl rfl) ?_
  refine Eq.trans (st1 dX4_keep_72 rfl rfl) ?_
  refine Eq.trans (getIm dX4_keep_73 cp_4_25 ka_48 (.inl rfl)) ?_
  refine Eq.trans (xiconst dX4_keep_76 ci_1) ?_
  refine Eq.trans (st1 dX4_keep_77 rfl rfl) ?_
  refine Eq.trans (putIm dX4_keep_78 cp_4_25 ka_48 rfl) ?_
  rfl
theorem q_X4_keep_81 {call : CALL} {L X : Nat} {I : Nat → Nat → Int32} {J : Nat → Nat → Int64} {u0 : Option Value} {u1 : Option Value} : runI call iX4_keep (81, [u0, u1], [], (mm L X I J)) = some (.inl none, (mm L X I J)) := by
  exact ret3 dX4_keep_81 (.inl rfl)
theorem q_X4_bringBack_0 {call : CALL} {L X : Nat} {I : Nat → Nat → Int32} {J : Nat → Nat → Int64} {a1 : Nat} (h1 : oc3 a1) : runI call iX4_bringBack (0, [some (.ref 48), some (.ref a1)], [], (mm L X I J)) = if (I 48 4) < (nI 1) then some (.inl none, (mm L X I J)) else if (I 48 4) ≤ (nI 3) then bnd (call nX3_readFrom [.ref a1, .ref 50, .int (((up2 I 48 4 ((I 48 4) - (nI 1))) 48 4) * (nI 459))] (mm L X (up2 I 48 4 ((I 48 4) - (nI 1))) J)) (fun v m' => runI call iX4_bringBack (43, [some (.ref 48), some (.ref a1)], v.toList ++ [], m')) else some (.inl none, (mm L X I J)) := by
  refine Eq.trans (st1 dX4_bringBack_0 rfl rfl) ?_
  refine Eq.trans (getIm dX4_bringBack_1 cp_4_25 ka_48 (.inl rfl)) ?_
  refine Eq.trans (xiconst dX4_bringBack_4 ci_1) ?_
  refine Eq.trans (ic_lt (tgt := 16) dX4_bringBack_5 (by decide +kernel)) (ite_cong (fun _ => ?_) (fun _ => ?_))
  · exact ret3 dX4_bringBack_16 (.inl rfl)
  · refine Eq.trans (st1 dX4_bringBack_8 rfl rfl) ?_
    refine Eq.trans (getIm dX4_bringBack_9 cp_4_25 ka_48 (.inl rfl)) ?_
    refine Eq.trans (xiconst dX4_bringBack_12 ci_3) ?_
    refine Eq.trans (ic_le (tgt := 17) dX4_bringBack_13 (by decide +kernel)) (ite_cong (fun _ => ?_) (fun _ => ?_))
    · refine Eq.trans (st1 dX4_bringBack_17 rfl rfl) ?_
      refine Eq.trans (st1 dX4_bringBack_18 rfl rfl) ?_
      refine Eq.trans (getIm dX4_bringBack_19 cp_4_25 ka_48 (.inl rfl)) ?_
      refine Eq.trans (xiconst dX4_bringBack_22 ci_1) ?_
      refine Eq.trans (st1 dX4_bringBack_23 rfl rfl) ?_
      refine Eq.trans (putIm dX4_bringBack_24 cp_4_25 ka_48 rfl) ?_
      refine Eq.trans (st1 dX4_bringBack_27 rfl rfl) ?_
      refine Eq.trans (st1 dX4_bringBack_28 rfl rfl) ?_
      refine Eq.trans (getRm dX4_bringBack_29 cp_4_15 ka_48 rfl r_48_1) ?_
      refine Eq.trans (st1 dX4_bringBack_32 rfl rfl) ?_
      refine Eq.trans (getIm dX4_bringBack_33 cp_4_25 ka_48 (.inl rfl)) ?_
      refine Eq.trans (xsipush dX4_bringBack_36 cs_459) ?_
      refine Eq.trans (st1 dX4_bringBack_39 rfl rfl) ?_
      exact iv0 dX4_bringBack_40 rfl cp_4_32 rfl rfl (kd_ka (ks3_0 h1)) (ks3_0 h1).1 (Nat.le_of_ble_eq_true rfl)
    · exact ret3 dX4_bringBack_16 (.inl rfl)
theorem q_X4_bringBack_43 {call : CALL} {L X : Nat} {I : Nat → Nat → Int32} {J : Nat → Nat → Int64} {u1 : Option Value} : runI call iX4_bringBack (43, [some (.ref 48), u1], [], (mm L X I J)) = gd (cpok (((I 48 4) * (nI 459)) + (nI 27)) (nI 0) (nI 432) 1377 432) (gd (inb ((up1 I 49 (va_cpy (I 50) (I 49) ((((I 48 4) * (nI 459)) + (nI 27))).toNatClampNeg ((nI 0)).toNatClampNeg ((nI 432)).toNatClampNeg)) 48 4) 3) (some (.inl none, (mm L X (up2 (up1 I 49 (va_cpy (I 50) (I 49) ((((I 48 4) * (nI 459)) + (nI 27))).toNatClampNeg ((nI 0)).toNatClampNeg ((nI 432)).toNatClampNeg)) 48 3 ((up1 I 49 (va_cpy (I 50) (I 49) ((((I 48 4) * (nI 459)) + (nI 27))).toNatClampNeg ((nI 0)).toNatClampNeg ((nI 432)).toNatClampNeg)) 51 (((up1 I 49 (va_cpy (I 50) (I 49) ((((I 48 4) * (nI 459)) + (nI 27))).toNatClampNeg ((nI 0)).toNatClampNeg ((nI 432)).toNatClampNeg)) 48 4)).toNatClampNeg)) J)))) := by
  refine Eq.trans (st1 dX4_bringBack_43 rfl rfl) ?_
  refine Eq.trans (getRm dX4_bringBack_44 cp_4_15 ka_48 rfl r_48_1) ?_
  refine Eq.trans (st1 dX4_bringBack_47 rfl rfl) ?_
  refine Eq.trans (getIm dX4_bringBack_48 cp_4_25 ka_48 (.inl rfl)) ?_
  refine Eq.trans (xsipush dX4_bringBack_51 cs_459) ?_
  refine Eq.trans (st1 dX4_bringBack_54 rfl rfl) ?_
  refine Eq.trans (xbipush dX4_bringBack_55 cb_27) ?_
  refine Eq.trans (st1 dX4_bringBack_57 rfl rfl) ?_
  refine Eq.trans (st1 dX4_bringBack_58 rfl rfl) ?_
  refine Eq.trans (getRm dX4_bringBack_59 cp_4_11 ka_48 rfl r_48_0) ?_
  refine Eq.trans (xiconst dX4_bringBack_62 ci_0) ?_
  refine Eq.trans (xsipush dX4_bringBack_63 cs_432) ?_
  refine Eq.trans (icpym dX4_bringBack_66 cp_4_35 ka_50 ka_49 (Nat.le_of_ble_eq_true rfl)) (gd_congr fun _ => ?_)
  refine Eq.trans (st1 dX4_bringBack_69 rfl rfl) ?_
  refine Eq.trans (st1 dX4_bringBack_70 rfl rfl) ?_
  refine Eq.trans (getRm dX4_bringBack_71 cp_4_18 ka_48 rfl r_48_2) ?_
  refine Eq.trans (st1 dX4_bringBack_74 rfl rfl) ?_
  refine Eq.trans (getIm dX4_bringBack_75 cp_4_25 ka_48 (.inl rfl)) ?_
  refine Eq.trans (al1m dX4_bringBack_78 ka_51) (gd_congr fun g1 => ?_)
  refine Eq.trans (putIm dX4_bringBack_79 cp_4_21 ka_48 rfl) ?_
  exact ret3 dX4_bringBack_82 (.inl rfl)
theorem q_X4_forget_0 {call : CALL} {L X : Nat} {I : Nat → Nat → Int32} {J : Nat → Nat → Int64}  : runI call iX4_forget (0, [some (.ref 48)], [], (mm L X I J)) = some (.inl none, (mm L X (up2 (up2 I 48 3 (nI 0)) 48 4 (nI 0)) J)) := by
  refine Eq.trans (st1 dX4_forget_0 rfl rfl) ?_
  refine Eq.trans (xiconst dX4_forget_1 ci_0) ?_
  refine Eq.trans (putIm dX4_forget_2 cp_4_21 ka_48 rfl) ?_
  refine Eq.trans (st1 dX4_forget_5 rfl rfl) ?_
  refine Eq.trans (xiconst dX4_forget_6 ci_0) ?_
  refine Eq.trans (putIm dX4_forget_7 cp_4_25 ka_48 rfl) ?_
  exact ret3 dX4_forget_10 (.inl rfl)
theorem q_X4_isFull_0 {call : CALL} {L X : Nat} {I : Nat → Nat → Int32} {J : Nat → Nat → Int64}  : runI call iX4_isFull (0, [some (.ref 48)], [], (mm L X I J)) = if (I 48 3) < (nI 16) then some (.inl (some (.int (nI 0))), (mm L X I J)) else some (.inl (some (.int (nI 1))), (mm L X I J)) := by
  refine Eq.trans (st1 dX4_isFull_0 rfl rfl) ?_
  refine Eq.trans (getIm dX4_isFull_1 cp_4_21 ka_48 (.inl rfl)) ?_
  refine Eq.trans (xbipush dX4_isFull_4 cb_16) ?_
  refine Eq.trans (ic_lt (tgt := 13) dX4_isFull_6 (by decide +kernel)) (ite_cong (fun _ => ?_) (fun _ => ?_))
  · refine Eq.trans (xiconst dX4_isFull_13 ci_0) ?_
    exact ret1 dX4_isFull_14 rfl (.inl rfl)
  · refine Eq.trans (xiconst dX4_isFull_9 ci_1) ?_
    refine Eq.trans (go_to (tgt := 14) dX4_isFull_10 (by decide +kernel)) ?_
    exact ret1 dX4_isFull_14 rfl (.inr rfl)
theorem q_X4_push_0 {call : CALL} {L X : Nat} {I : Nat → Nat → Int32} {J : Nat → Nat → Int64} {a1 : Nat} (h1 : oc3 a1) : runI call iX4_push (0, [some (.ref 48), some (.ref a1)], [], (mm L X I J)) = bnd (call nX3_writeTo [.ref a1, .ref 49, .int ((I 48 3) * (nI 27))] (mm L X I J)) (fun v m' => runI call iX4_push (15, [some (.ref 48), some (.ref a1)], v.toList ++ [], m')) := by
  refine Eq.trans (st1 dX4_push_0 rfl rfl) ?_
  refine Eq.trans (st1 dX4_push_1 rfl rfl) ?_
  refine Eq.trans (getRm dX4_push_2 cp_4_11 ka_48 rfl r_48_0) ?_
  refine Eq.trans (st1 dX4_push_5 rfl rfl) ?_
  refine Eq.trans (getIm dX4_push_6 cp_4_21 ka_48 (.inl rfl)) ?_
  refine Eq.trans (xbipush dX4_push_9 cb_27) ?_
  refine Eq.trans (st1 dX4_push_11 rfl rfl) ?_
  exact iv0 dX4_push_12 rfl cp_4_28 rfl rfl (kd_ka (ks3_0 h1)) (ks3_0 h1).1 (Nat.le_of_ble_eq_true rfl)
theorem q_X4_push_15 {call : CALL} {L X : Nat} {I : Nat → Nat → Int32} {J : Nat → Nat → Int64} {u1 : Option Value} : runI call iX4_push (15, [some (.ref 48), u1], [], (mm L X I J)) = some (.inl none, (mm L X (up2 I 48 3 ((I 48 3) + (nI 1))) J)) := by
  refine Eq.trans (st1 dX4_push_15 rfl rfl) ?_
  refine Eq.trans (st1 dX4_push_16 rfl rfl) ?_
  refine Eq.trans (getIm dX4_push_17 cp_4_21 ka_48 (.inl rfl)) ?_
  refine Eq.trans (xiconst dX4_push_20 ci_1) ?_
  refine Eq.trans (st1 dX4_push_21 rfl rfl) ?_
  refine Eq.trans (putIm dX4_push_22 cp_4_21 ka_48 rfl) ?_
  exact ret3 dX4_push_25 (.inl rfl)
theorem q_X5_forgetShort_0 {call : CALL} {L X : Nat} {I : Nat → Nat → Int32} {J : Nat → Nat → Int64}  : runI call iX5_forgetShort (0, [some (.ref 56)], [], (mm L X I J)) = some (.inl none, (mm L X (up2 I 56 11 (-1 : Int32)) J)) := by
  refine Eq.trans (st1 dX5_forgetShort_0 rfl rfl) ?_
  refine Eq.trans (xiconst dX5_forgetShort_1 ci_m1) ?_
  refine Eq.trans (putIm dX5_forgetShort_2 cp_5_21 ka_56 rfl) ?_
  exact ret3 dX5_forgetShort_5 (.inl rfl)
theorem q_X5_mostPairs_0 {call : CALL} {L X : Nat} {I : Nat → Nat → Int32} {J : Nat → Nat → Int64}  : runI call iX5_mostPairs (0, [some (.ref 56), none, none, none, none, none, none], [], (mm L X I J)) = runI call iX5_mostPairs (14, [some (.ref 56), some (.int (((nI 1) <<< ((I 3 0) &&& 31)) - (nI 1))), some (.int (nI 1)), none, none, none, none], [], (mm L X I J)) := by
  refine Eq.trans (xiconst dX5_mostPairs_0 ci_1) ?_
  refine Eq.trans (st1 dX5_mostPairs_1 rfl rfl) ?_
  refine Eq.trans (getRm dX5_mostPairs_2 cp_5_38 ka_56 rfl r_56_0) ?_
  refine Eq.trans (getIm dX5_mostPairs_5 cp_5_79 ka_3 (.inl rfl)) ?_
  refine Eq.trans (st1 dX5_mostPairs_8 rfl rfl) ?_
  refine Eq.trans (xiconst dX5_mostPairs_9 ci_1) ?_
  refine Eq.trans (st1 dX5_mostPairs_10 rfl rfl) ?_
  refine Eq.trans (st1 dX5_mostPairs_11 rfl rfl) ?_
  refine Eq.trans (xiconst dX5_mostPairs_12 ci_1) ?_
  refine Eq.trans (st1 dX5_mostPairs_13 rfl rfl) ?_
  rfl
theorem q_X5_mostPairs_14 {call : CALL} {L X : Nat} {I : Nat → Nat → Int32} {J : Nat → Nat → Int64} {x1 : Int32} {x2 : Int32} {u3 : Option Value} {u4 : Option Value} {u5 : Option Value} {u6 : Option Value} : runI call iX5_mostPairs (14, [some (.ref 56), some (.int x1), some (.int x2), u3, u4, u5, u6], [], (mm L X I J)) = if x1 < x2 then runI call iX5_mostPairs (133, [some (.ref 56), some (.int x1), some (.int x2), u3, u4, u5, u6], [], (mm L X I J)) else if (nI 64) ≤ x2 then runI call iX5_mostPairs (133, [some (.ref 56), some (.int x1), some (.int x2), u3, u4, u5, u6], [], (mm L X I J)) else bndN (call nX5_leastOf [.int x2] (mm L X I J)) (fun v m' => runI call iX5_mostPairs (29, [some (.ref 56), some (.int x1), some (.int x2), u3, u4, u5, u6], v.toList ++ [], m')) := by
  refine Eq.trans (st1 dX5_mostPairs_14 rfl rfl) ?_
  refine Eq.trans (st1 dX5_mostPairs_15 rfl rfl) ?_
  refine Eq.trans (ic_gt (tgt := 133) dX5_mostPairs_16 (by decide +kernel)) (ite_cong (fun _ => ?_) (fun _ => ?_))
  · rfl
  · refine Eq.trans (st1 dX5_mostPairs_19 rfl rfl) ?_
    refine Eq.trans (xbipush dX5_mostPairs_20 cb_64) ?_
    refine Eq.trans (ic_ge (tgt := 133) dX5_mostPairs_22 (by decide +kernel)) (ite_cong (fun _ => ?_) (fun _ => ?_))
    · rfl
    · refine Eq.trans (st1 dX5_mostPairs_25 rfl rfl) ?_
      exact is2 dX5_mostPairs_26 cp_5_169 (Nat.le_of_ble_eq_true rfl) rfl rfl (Nat.le_of_ble_eq_true rfl)
theorem q_X5_mostPairs_133 {call : CALL} {L X : Nat} {I : Nat → Nat → Int32} {J : Nat → Nat → Int64} {x1 : Int32} {u2 : Option Value} {u3 : Option Value} {u4 : Option Value} {u5 : Option Value} {u6 : Option Value} : runI call iX5_mostPairs (133, [some (.ref 56), some (.int x1), u2, u3, u4, u5, u6], [], (mm L X I J)) = bndN (call nX11_pick [.ref 63, .int x1] (mm L X I J)) (fun v m' => runI call iX5_mostPairs (141, [some (.ref 56), some (.int x1), u2, u3, u4, u5, u6], v.toList ++ [], m')) := by
  refine Eq.trans (st1 dX5_mostPairs_133 rfl rfl) ?_
  refine Eq.trans (getRm dX5_mostPairs_134 cp_5_35 ka_56 rfl r_56_16) ?_
  refine Eq.trans (st1 dX5_mostPairs_137 rfl rfl) ?_
  exact is3 dX5_mostPairs_138 cp_5_75 (Nat.le_of_ble_eq_true rfl) rfl rfl (Nat.le_of_ble_eq_true rfl)
theorem q_X5_mostPairs_29 {call : CALL} {L X : Nat} {I : Nat → Nat → Int32} {J : Nat → Nat → Int64} {x1 : Int32} {x2 : Int32} {u3 : Option Value} {u4 : Option Value} {u5 : Option Value} {u6 : Option Value} {s0 : Int32} : runI call iX5_mostPairs (29, [some (.ref 56), some (.int x1), some (.int x2), u3, u4, u5, u6], [.int s0], (mm L X I J)) = bndN (call nX11_pick [.ref 63, .int (x2 &&& (((nI 1) <<< (s0 &&& 31)) ^^^ (-1 : Int32)))] (mm L X I J)) (fun v m' => runI call iX5_mostPairs (48, [some (.ref 56), some (.int x1), some (.int x2), some (.int s0), some (.int (x2 &&& (((nI 1) <<< (s0 &&& 31)) ^^^ (-1 : Int32)))), u5, u6], v.toList ++ [], m')) := by
  refine Eq.trans (st1 dX5_mostPairs_29 rfl rfl) ?_
  refine Eq.trans (st1 dX5_mostPairs_30 rfl rfl) ?_
  refine Eq.trans (xiconst dX5_mostPairs_31 ci_1) ?_
  refine Eq.trans (st1 dX5_mostPairs_32 rfl rfl) ?_
  refine Eq.trans (st1 dX5_mostPairs_33 rfl rfl) ?_
  refine Eq.trans (xiconst dX5_mostPairs_34 ci_m1) ?_
  refine Eq.trans (st1 dX5_mostPairs_35 rfl rfl) ?_
  refine Eq.trans (st1 dX5_mostPairs_36 rfl rfl) ?_
  refine Eq.trans (st1 dX5_mostPairs_37 rfl rfl) ?_
  refine Eq.trans (st1 dX5_mostPairs_39 rfl rfl) ?_
  refine Eq.trans (getRm dX5_mostPairs_40 cp_5_35 ka_56 rfl r_56_16) ?_
  refine Eq.trans (st1 dX5_mostPairs_43 rfl rfl) ?_
  exact is3 dX5_mostPairs_45 cp_5_75 (Nat.le_of_ble_eq_true rfl) rfl rfl (Nat.le_of_ble_eq_true rfl)
theorem q_X5_mostPairs_141 {call : CALL} {L X : Nat} {I : Nat → Nat → Int32} {J : Nat → Nat → Int64} {u0 : Option Value} {u1 : Option Value} {u2 : Option Value} {u3 : Option Value} {u4 : Option Value} {u5 : Option Value} {u6 : Option Value} {s0 : Int32} : runI call iX5_mostPairs (141, [u0, u1, u2, u3, u4, u5, u6], [.int s0], (mm L X I J)) = some (.inl (some (.int s0)), (mm L X I J)) := by
  exact ret0 dX5_mostPairs_141 rfl
theorem q_X5_mostPairs_48 {call : CALL} {L X : Nat} {I : Nat → Nat → Int32} {J : Nat → Nat → Int64} {x1 : Int32} {x2 : Int32} {x3 : Int32} {x4 : Int32} {u5 : Option Value} {u6 : Option Value} {s0 : Int32} : runI call iX5_mostPairs (48, [some (.ref 56), some (.int x1), some (.int x2), some (.int x3), some (.int x4), u5, u6], [.int s0], (mm L X I J)) = runI call iX5_mostPairs (55, [some (.ref 56), some (.int x1), some (.int x2), some (.int x3), some (.int x4), some (.int s0), some (.int (x3 + (nI 1)))], [], (mm L X I J)) := by
  refine Eq.trans (st1 dX5_mostPairs_48 rfl rfl) ?_
  refine Eq.trans (st1 dX5_mostPairs_50 rfl rfl) ?_
  refine Eq.trans (xiconst dX5_mostPairs_51 ci_1) ?_
  refine Eq.trans (st1 dX5_mostPairs_52 rfl rfl) ?_
  refine Eq.trans (st1 dX5_mostPairs_53 rfl rfl) ?_
  rfl
theorem q_X5_mostPairs_55 {call : CALL} {L X : Nat} {I : Nat → Nat → Int32} {J : Nat → Nat → Int64} {x1 : Int32} {x2 : Int32} {x3 : Int32} {x4 : Int32} {x5 : Int32} {x6 : Int32} : runI call iX5_mostPairs (55, [some (.ref 56), some (.int x1), some (.int x2), some (.int x3), some (.int x4), some (.int x5), some (.int x6)], [], (mm L X I J)) = if (I 3 0) ≤ x6 then gd (inb x2 64) (runI call iX5_mostPairs (14, [some (.ref 56), some (.int x1), some (.int (x2 + (nI 1))), some (.int x3), some (.int x4), some (.int x5), some (.int x6)], [], (mm L X (up2 I 63 (x2).toNatClampNeg x5) J))) else bndN (call nX11_bit [.int x4, .int x6] (mm L X I J)) (fun v m' => runI call iX5_mostPairs (74, [some (.ref 56), some (.int x1), some (.int x2), some (.int x3), some (.int x4), some (.int x5), some (.int x6)], v.toList ++ [], m')) := by
  refine Eq.trans (st1 dX5_mostPairs_55 rfl rfl) ?_
  refine Eq.trans (st1 dX5_mostPairs_57 rfl rfl) ?_
  refine Eq.trans (getRm dX5_mostPairs_58 cp_5_38 ka_56 rfl r_56_0) ?_
  refine Eq.trans (getIm dX5_mostPairs_61 cp_5_79 ka_3 (.inl rfl)) ?_
  refine Eq.trans (ic_ge (tgt := 119) dX5_mostPairs_64 (by decide +kernel)) (ite_cong (fun _ => ?_) (fun _ => ?_))
  · refine Eq.trans (st1 dX5_mostPairs_119 rfl rfl) ?_
    refine Eq.trans (getRm dX5_mostPairs_120 cp_5_35 ka_56 rfl r_56_16) ?_
    refine Eq.trans (st1 dX5_mostPairs_123 rfl rfl) ?_
    refine Eq.trans (st1 dX5_mostPairs_124 rfl rfl) ?_
    refine Eq.trans (as1m dX5_mostPairs_126 ka_63) (gd_congr fun g1 => ?_)
    refine Eq.trans (xinc2 dX5_mostPairs_127 ci_1 rfl (Nat.le_of_ble_eq_true rfl) rfl) ?_
    refine Eq.trans (go_to (tgt := 14) dX5_mostPairs_130 (by decide +kernel)) ?_
    rfl
  · refine Eq.trans (st1 dX5_mostPairs_67 rfl rfl) ?_
    refine Eq.trans (st1 dX5_mostPairs_69 rfl rfl) ?_
    exact is3 dX5_mostPairs_71 cp_5_89 (Nat.le_of_ble_eq_true rfl) rfl rfl (Nat.le_of_ble_eq_true rfl)
theorem q_X5_mostPairs_74 {call : CALL} {L X : Nat} {I : Nat → Nat → Int32} {J : Nat → Nat → Int64} {x1 : Int32} {x2 : Int32} {x3 : Int32} {x4 : Int32} {x5 : Int32} {x6 : Int32} {s0 : Int32} : runI call iX5_mostPairs (74, [some (.ref 56), some (.int x1), some (.int x2), some (.int x3), some (.int x4), some (.int x5), some (.int x6)], [.int s0], (mm L X I J)) = if s0 = (nI 1) then bnd (call nX5_areFit [.ref 56, .int x3, .int x6] (mm L X I J)) (fun v m' => runI call iX5_mostPairs (85, [some (.ref 56), some (.int x1), some (.int x2), some (.int x3), some (.int x4), some (.int x5), some (.int x6)], v.toList ++ [], m')) else runI call iX5_mostPairs (113, [some (.ref 56), some (.int x1), some (.int x2), some (.int x3), some (.int x4), some (.int x5), some (.int x6)], [], (mm L X I J)) := by
  refine Eq.trans (xiconst dX5_mostPairs_74 ci_1) ?_
  refine Eq.trans (ic_ne (tgt := 113) dX5_mostPairs_75 (by decide +kernel)) (ite_cong (fun _ => ?_) (fun _ => ?_))
  · refine Eq.trans (st1 dX5_mostPairs_78 rfl rfl) ?_
    refine Eq.trans (st1 dX5_mostPairs_79 rfl rfl) ?_
    refine Eq.trans (st1 dX5_mostPairs_80 rfl rfl) ?_
    exact iv0 dX5_mostPairs_82 rfl cp_5_173 rfl rfl (kd_ka ka_56) ka_56.1 (Nat.le_of_ble_eq_true rfl)
  · rfl
theorem q_X5_mostPairs_113 {call : CALL} {L X : Nat} {I : Nat → Nat → Int32} {J : Nat → Nat → Int64} {x1 : Int32} {x2 : Int32} {x3 : Int32} {x4 : Int32} {x5 : Int32} {x6 : Int32} : runI call iX5_mostPairs (113, [some (.ref 56), some (.int x1), some (.int x2), some (.int x3), some (.int x4), some (.int x5), some (.int x6)], [], (mm L X I J)) = runI call iX5_mostPairs (55, [some (.ref 56), some (.int x1), some (.int x2), some (.int x3), some (.int x4), some (.int x5), some (.int (x6 + (nI 1)))], [], (mm L X I J)) := by
  refine Eq.trans (xinc2 dX5_mostPairs_113 ci_1 rfl (Nat.le_of_ble_eq_true rfl) rfl) ?_
  refine Eq.trans (go_to (tgt := 55) dX5_mostPairs_116 (by decide +kernel)) ?_
  rfl
theorem q_X5_mostPairs_85 {call : CALL} {L X : Nat} {I : Nat → Nat → Int32} {J : Nat → Nat → Int64} {x1 : Int32} {x2 : Int32} {x3 : Int32} {x4 : Int32} {x5 : Int32} {x6 : Int32} {s0 : Int32} : runI call iX5_mostPairs (85, [some (.ref 56), some (.int x1), some (.int x2), some (.int x3), some (.int x4), some (.int x5), some (.int x6)], [.int s0], (mm L X I J)) = if s0 = (nI 0) then runI call iX5_mostPairs (113, [some (.ref 56), some (.int x1), some (.int x2), some (.int x3), some (.int x4), some (.int x5), some (.int x6)], [], (mm L X I J)) else bndN (call nX11_pick [.ref 63, .int (x4 &&& (((nI 1) <<< (x6 &&& 31)) ^^^ (-1 : Int32)))] (mm L X I J)) (fun v m' => runI call iX5_mostPairs (107, [some (.ref 56), some (.int x1), some (.int x2), some (.int x3), some (.int x4), some (.int x5), some (.int x6)], v.toList ++ [.int (nI 1), .int x5], m')) := by
  refine Eq.trans (if_eq (tgt := 113) dX5_mostPairs_85 (by decide +kernel)) (ite_cong (fun _ => ?_) (fun _ => ?_))
  · rfl
  · refine Eq.trans (st1 dX5_mostPairs_88 rfl rfl) ?_
    refine Eq.trans (xiconst dX5_mostPairs_90 ci_1) ?_
    refine Eq.trans (st1 dX5_mostPairs_91 rfl rfl) ?_
    refine Eq.trans (getRm dX5_mostPairs_92 cp_5_35 ka_56 rfl r_56_16) ?_
    refine Eq.trans (st1 dX5_mostPairs_95 rfl rfl) ?_
    refine Eq.trans (xiconst dX5_mostPairs_97 ci_1) ?_
    refine Eq.trans (st1 dX5_mostPairs_98 rfl rfl) ?_
    refine Eq.trans (st1 dX5_mostPairs_100 rfl rfl) ?_
    refine Eq.trans (xiconst dX5_mostPairs_101 ci_m1) ?_
    refine Eq.trans (st1 dX5_mostPairs_102 rfl rfl) ?_
    refine Eq.trans (st1 dX5_mostPairs_103 rfl rfl) ?_
    exact is3 dX5_mostPairs_104 cp_5_75 (Nat.le_of_ble_eq_true rfl) rfl rfl (Nat.le_of_ble_eq_true rfl)
theorem q_X5_mostPairs_107 {call : CALL} {L X : Nat} {I : Nat → Nat → Int32} {J : Nat → Nat → Int64} {x1 : Int32} {x2 : Int32} {x3 : Int32} {x4 : Int32} {u5 : Option Value} {x6 : Int32} {s0 : Int32} {s1 : Int32} {s2 : Int32} : runI call iX5_mostPairs (107, [some (.ref 56), some (.int x1), some (.int x2), some (.int x3), some (.int x4), u5, some (.int x6)], [.int s2, .int s1, .int s0], (mm L X I J)) = runI call iX5_mostPairs (113, [some (.ref 56), some (.int x1), some (.int x2), some (.int x3), some (.int x4), some (.int (if s0 < (s1 + s2) then (s1 + s2) else s0)), some (.int x6)], [], (mm L X I J)) := by
  refine Eq.trans (st1 dX5_mostPairs_107 rfl rfl) ?_
  refine Eq.trans (imax dX5_mostPairs_108 cp_5_107 (Nat.le_of_ble_eq_true rfl)) ?_
  refine Eq.trans (st1 dX5_mostPairs_111 rfl rfl) ?_
  rfl
theorem q_X5_leastOf_0 {call : CALL} {L X : Nat} {I : Nat → Nat → Int32} {J : Nat → Nat → Int64} {x0 : Int32} : runI call iX5_leastOf (0, [some (.int x0), none], [], (mm L X I J)) = runI call iX5_leastOf (2, [some (.int x0), some (.int (nI 0))], [], (mm L X I J)) := by
  refine Eq.trans (xiconst dX5_leastOf_0 ci_0) ?_
  refine Eq.trans (st1 dX5_leastOf_1 rfl rfl) ?_
  rfl
theorem q_X5_leastOf_2 {call : CALL} {L X : Nat} {I : Nat → Nat → Int32} {J : Nat → Nat → Int64} {x0 : Int32} {x1 : Int32} : runI call iX5_leastOf (2, [some (.int x0), some (.int x1)], [], (mm L X I J)) = if (nI 6) ≤ x1 then some (.inl (some (.int (nI 0))), (mm L X I J)) else bndN (call nX11_bit [.int x0, .int x1] (mm L X I J)) (fun v m' => runI call iX5_leastOf (13, [some (.int x0), some (.int x1)], v.toList ++ [], m')) := by
  refine Eq.trans (st1 dX5_leastOf_2 rfl rfl) ?_
  refine Eq.trans (xbipush dX5_leastOf_3 cb_6) ?_
  refine Eq.trans (ic_ge (tgt := 25) dX5_leastOf_5 (by decide +kernel)) (ite_cong (fun _ => ?_) (fun _ => ?_))
  · refine Eq.trans (xiconst dX5_leastOf_25 ci_0) ?_
    exact ret0 dX5_leastOf_26 rfl
  · refine Eq.trans (st1 dX5_leastOf_8 rfl rfl) ?_
    refine Eq.trans (st1 dX5_leastOf_9 rfl rfl) ?_
    exact is3 dX5_leastOf_10 cp_5_89 (Nat.le_of_ble_eq_true rfl) rfl rfl (Nat.le_of_ble_eq_true rfl)
theorem q_X5_leastOf_13 {call : CALL} {L X : Nat} {I : Nat → Nat → Int32} {J : Nat → Nat → Int64} {x0 : Int32} {x1 : Int32} {s0 : Int32} : runI call iX5_leastOf (13, [some (.int x0), some (.int x1)], [.int s0], (mm L X I J)) = if s0 = (nI 1) then some (.inl (some (.int x1)), (mm L X I J)) else runI call iX5_leastOf (2, [some (.int x0), some (.int (x1 + (nI 1)))], [], (mm L X I J)) := by
  refine Eq.trans (xiconst dX5_leastOf_13 ci_1) ?_
  refine Eq.trans (ic_ne (tgt := 19) dX5_leastOf_14 (by decide +kernel)) (ite_cong (fun _ => ?_) (fun _ => ?_))
  · refine Eq.trans (st1 dX5_leastOf_17 rfl rfl) ?_
    exact ret0 dX5_leastOf_18 rfl
  · refine Eq.trans (xinc2 dX5_leastOf_19 ci_1 rfl (Nat.le_of_ble_eq_true rfl) rfl) ?_
    refine Eq.trans (go_to (tgt := 2) dX5_leastOf_22 (by decide +kernel)) ?_
    rfl
theorem q_X5_areFit_0 {call : CALL} {L X : Nat} {I : Nat → Nat → Int32} {J : Nat → Nat → Int64} {x1 : Int32} {x2 : Int32} : runI call iX5_areFit (0, [some (.ref 56), some (.int x1), some (.int x2)], [], (mm L X I J)) = bnd (call nX1_follows [.ref 3, .int ((nI 2) * x1), .int ((nI 2) * x2)] (mm L X I J)) (fun v m' => runI call iX5_areFit (13, [some (.ref 56), some (.int x1), some (.int x2)], v.toList ++ [], m')) := by
  refine Eq.trans (st1 dX5_areFit_0 rfl rfl) ?_
  refine Eq.trans (getRm dX5_areFit_1 cp_5_38 ka_56 rfl r_56_0) ?_
  refine Eq.trans (xiconst dX5_areFit_4 ci_2) ?_
  refine Eq.trans (st1 dX5_areFit_5 rfl rfl) ?_
  refine Eq.trans (st1 dX5_areFit_6 rfl rfl) ?_
  refine Eq.trans (xiconst dX5_areFit_7 ci_2) ?_
  refine Eq.trans (st1 dX5_areFit_8 rfl rfl) ?_
  refine Eq.trans (st1 dX5_areFit_9 rfl rfl) ?_
  exact iv0 dX5_areFit_10 rfl cp_5_82 rfl rfl (kd_ka ka_3) ka_3.1 (Nat.le_of_ble_eq_true rfl)
theorem q_X5_areFit_13 {call : CALL} {L X : Nat} {I : Nat → Nat → Int32} {J : Nat → Nat → Int64} {x1 : Int32} {x2 : Int32} {s0 : Int32} : runI call iX5_areFit (13, [some (.ref 56), some (.int x1), some (.int x2)], [.int s0], (mm L X I J)) = if s0 = (nI 0) then bnd (call nX1_follows [.ref 3, .int ((nI 2) * x2), .int ((nI 2) * x1)] (mm L X I J)) (fun v m' => runI call iX5_areFit (29, [some (.ref 56), some (.int x1), some (.int x2)], v.toList ++ [], m')) else some (.inl (some (.int (nI 1))), (mm L X I J)) := by
  refine Eq.trans (if_ne (tgt := 32) dX5_areFit_13 (by decide +kernel)) (ite_cong (fun _ => ?_) (fun _ => ?_))
  · refine Eq.trans (st1 dX5_areFit_16 rfl rfl) ?_
    refine Eq.trans (getRm dX5_areFit_17 cp_5_38 ka_56 rfl r_56_0) ?_
    refine Eq.trans (xiconst dX5_areFit_20 ci_2) ?_
    refine Eq.trans (st1 dX5_areFit_21 rfl rfl) ?_
    refine Eq.trans (st1 dX5_areFit_22 rfl rfl) ?_
    refine Eq.trans (xiconst dX5_areFit_23 ci_2) ?_
    refine Eq.trans (st1 dX5_areFit_24 rfl rfl) ?_
    refine Eq.trans (st1 dX5_areFit_25 rfl rfl) ?_
    exact iv0 dX5_areFit_26 rfl cp_5_82 rfl rfl (kd_ka ka_3) ka_3.1 (Nat.le_of_ble_eq_true rfl)
  · refine Eq.trans (xiconst dX5_areFit_32 ci_1) ?_
    refine Eq.trans (go_to (tgt := 37) dX5_areFit_33 (by decide +kernel)) ?_
    exact ret1 dX5_areFit_37 rfl (.inr rfl)
theorem q_X5_areFit_29 {call : CALL} {L X : Nat} {I : Nat → Nat → Int32} {J : Nat → Nat → Int64} {u0 : Option Value} {u1 : Option Value} {u2 : Option Value} {s0 : Int32} : runI call iX5_areFit (29, [u0, u1, u2], [.int s0], (mm L X I J)) = if s0 = (nI 0) then some (.inl (some (.int (nI 0))), (mm L X I J)) else some (.inl (some (.int (nI 1))), (mm L X I J)) := by
  refine Eq.trans (if_eq (tgt := 36) dX5_areFit_29 (by decide +kernel)) (ite_cong (fun _ => ?_) (fun _ => ?_))
  · refine Eq.trans (xiconst dX5_areFit_36 ci_0) ?_
    exact ret1 dX5_areFit_37 rfl (.inl rfl)
  · refine Eq.trans (xiconst dX5_areFit_32 ci_1) ?_
    refine Eq.trans (go_to (tgt := 37) dX5_areFit_33 (by decide +kernel)) ?_
    exact ret1 dX5_areFit_37 rfl (.inr rfl)
theorem q_X5_forgetHouse_0 {call : CALL} {L X : Nat} {I : Nat → Nat → Int32} {J : Nat → Nat → Int64}  : runI call iX5_forgetHouse (0, [some (.ref 56)], [], (mm L X I J)) = bnd (call nX5_forgetShort [.ref 56] (mm L X (up2 (up2 I 56 4 (nI 0)) 56 8 (nI 0)) J)) (fun v m' => runI call iX5_forgetHouse (14, [some (.ref 56)], v.toList ++ [], m')) := by
  refine Eq.trans (st1 dX5_forgetHouse_0 rfl rfl) ?_
  refine Eq.trans (xiconst dX5_forgetHouse_1 ci_0) ?_
  refine Eq.trans (putBm dX5_forgetHouse_2 cp_5_46 ka_56 rfl (.inl rfl)) ?_
  refine Eq.trans (st1 dX5_forgetHouse_5 rfl rfl) ?_
  refine Eq.trans (xiconst dX5_forgetHouse_6 ci_0) ?_
  refine Eq.trans (putBm dX5_forgetHouse_7 cp_5_50 ka_56 rfl (.inl rfl)) ?_
  refine Eq.trans (st1 dX5_forgetHouse_10 rfl rfl) ?_
  exact iv0 dX5_forgetHouse_11 rfl cp_5_53 rfl rfl (kd_ka ka_56) ka_56.1 (Nat.le_of_ble_eq_true rfl)
theorem q_X5_forgetHouse_14 {call : CALL} {L X : Nat} {I : Nat → Nat → Int32} {J : Nat → Nat → Int64} {u0 : Option Value} : runI call iX5_forgetHouse (14, [u0], [], (mm L X I J)) = some (.inl none, (mm L X I J)) := by
  exact ret3 dX5_forgetHouse_14 (.inl rfl)
theorem q_X5_findChain_0 {call : CALL} {L X : Nat} {I : Nat → Nat → Int32} {J : Nat → Nat → Int64}  : runI call iX5_findChain (0, [some (.ref 56), none, none, none, none], [], (mm L X I J)) = if (I 56 4) = (nI 0) then bnd (call nX5_longestNow [.ref 56] (mm L X I J)) (fun v m' => runI call iX5_findChain (13, [some (.ref 56), none, none, none, none], v.toList ++ [.ref 56], m')) else some (.inl none, (mm L X I J)) := by
  refine Eq.trans (st1 dX5_findChain_0 rfl rfl) ?_
  refine Eq.trans (getIm dX5_findChain_1 cp_5_46 ka_56 (.inr rfl)) ?_
  refine Eq.trans (if_eq (tgt := 8) dX5_findChain_4 (by decide +kernel)) (ite_cong (fun _ => ?_) (fun _ => ?_))
  · refine Eq.trans (st1 dX5_findChain_8 rfl rfl) ?_
    refine Eq.trans (st1 dX5_findChain_9 rfl rfl) ?_
    exact iv0 dX5_findChain_10 rfl cp_5_56 rfl rfl (kd_ka ka_56) ka_56.1 (Nat.le_of_ble_eq_true rfl)
  · exact ret3 dX5_findChain_7 (.inl rfl)
theorem q_X5_findChain_13 {call : CALL} {L X : Nat} {I : Nat → Nat → Int32} {J : Nat → Nat → Int64} {u1 : Option Value} {u2 : Option Value} {u3 : Option Value} {u4 : Option Value} {s1 : Int32} : runI call iX5_findChain (13, [some (.ref 56), u1, u2, u3, u4], [.int s1, .ref 56], (mm L X I J)) = runI call iX5_findChain (33, [some (.ref 56), some (.int (nI 0)), some (.int (-1 : Int32)), some (.int ((up2 (up2 I 56 7 s1) 56 6 (nI 0)) 56 7)), some (.int (nI 0))], [], (mm L X (up2 (up2 I 56 7 s1) 56 6 (nI 0)) J)) := by
  refine Eq.trans (putIm dX5_findChain_13 cp_5_60 ka_56 rfl) ?_
  refine Eq.trans (st1 dX5_findChain_16 rfl rfl) ?_
  refine Eq.trans (xiconst dX5_findChain_17 ci_0) ?_
  refine Eq.trans (putIm dX5_findChain_18 cp_5_63 ka_56 rfl) ?_
  refine Eq.trans (xiconst dX5_findChain_21 ci_0) ?_
  refine Eq.trans (st1 dX5_findChain_22 rfl rfl) ?_
  refine Eq.trans (xiconst dX5_findChain_23 ci_m1) ?_
  refine Eq.trans (st1 dX5_findChain_24 rfl rfl) ?_
  refine Eq.trans (st1 dX5_findChain_25 rfl rfl) ?_
  refine Eq.trans (getIm dX5_findChain_26 cp_5_60 ka_56 (.inl rfl)) ?_
  refine Eq.trans (st1 dX5_findChain_29 rfl rfl) ?_
  refine Eq.trans (xiconst dX5_findChain_30 ci_0) ?_
  refine Eq.trans (st1 dX5_findChain_31 rfl rfl) ?_
  rfl
theorem q_X5_findChain_33 {call : CALL} {L X : Nat} {I : Nat → Nat → Int32} {J : Nat → Nat → Int64} {x1 : Int32} {x2 : Int32} {x3 : Int32} {x4 : Int32} : runI call iX5_findChain (33, [some (.ref 56), some (.int x1), some (.int x2), some (.int x3), some (.int x4)], [], (mm L X I J)) = if (nI 6) ≤ x4 then runI call iX5_findChain (100, [some (.ref 56), some (.int x1), some (.int x2), some (.int x3), some (.int x4)], [], (mm L X I J)) else if x3 ≤ (nI 0) then runI call iX5_findChain (100, [some (.ref 56), some (.int x1), some (.int x2), some (.int x3), some (.int x4)], [], (mm L X I J)) else bnd (call nX5_firstLeaving [.ref 56, .int x1, .int x2, .int x3] (mm L X I J)) (fun v m' => runI call iX5_findChain (51, [some (.ref 56), some (.int x1), some (.int x2), some (.int x3), some (.int x4)], v.toList ++ [], m')) := by
  refine Eq.trans (st1 dX5_findChain_33 rfl rfl) ?_
  refine Eq.trans (xbipush dX5_findChain_35 cb_6) ?_
  refine Eq.trans (ic_ge (tgt := 100) dX5_findChain_37 (by decide +kernel)) (ite_cong (fun _ => ?_) (fun _ => ?_))
  · rfl
  · refine Eq.trans (st1 dX5_findChain_40 rfl rfl) ?_
    refine Eq.trans (if_le (tgt := 100) dX5_findChain_41 (by decide +kernel)) (ite_cong (fun _ => ?_) (fun _ => ?_))
    · rfl
    · refine Eq.trans (st1 dX5_findChain_44 rfl rfl) ?_
      refine Eq.trans (st1 dX5_findChain_45 rfl rfl) ?_
      refine Eq.trans (st1 dX5_findChain_46 rfl rfl) ?_
      refine Eq.trans (st1 dX5_findChain_47 rfl rfl) ?_
      exact iv0 dX5_findChain_48 rfl cp_5_66 rfl rfl (kd_ka ka_56) ka_56.1 (Nat.le_of_ble_eq_true rfl)
theorem q_X5_findChain_100 {call : CALL} {L X : Nat} {I : Nat → Nat → Int32} {J : Nat → Nat → Int64} {u1 : Option Value} {u2 : Option Value} {u3 : Option Value} {u4 : Option Value} : runI call iX5_findChain (100, [some (.ref 56), u1, u2, u3, u4], [], (mm L X I J)) = some (.inl none, (mm L X (up2 I 56 4 (nI 1)) J)) := by
  refine Eq.trans (st1 dX5_findChain_100 rfl rfl) ?_
  refine Eq.trans (xiconst dX5_findChain_101 ci_1) ?_
  refine Eq.trans (putBm dX5_findChain_102 cp_5_46 ka_56 rfl (.inr rfl)) ?_
  exact ret3 dX5_findChain_105 (.inl rfl)
theorem q_X5_findChain_51 {call : CALL} {L X : Nat} {I : Nat → Nat → Int32} {J : Nat → Nat → Int64} {x1 : Int32} {u2 : Option Value} {x3 : Int32} {x4 : Int32} {s0 : Int32} : runI call iX5_findChain (51, [some (.ref 56), some (.int x1), u2, some (.int x3), some (.int x4)], [.int s0], (mm L X I J)) = bndN (call nX11_pick [.ref 4, .int (s0 >>> ((nI 1) &&& 31))] (mm L X I J)) (fun v m' => runI call iX5_findChain (74, [some (.ref 56), some (.int (x1 ||| ((nI 1) <<< ((s0 >>> ((nI 1) &&& 31)) &&& 31)))), some (.int s0), some (.int x3), some (.int x4)], v.toList ++ [.int x3], m')) := by
  refine Eq.trans (st1 dX5_findChain_51 rfl rfl) ?_
  refine Eq.trans (st1 dX5_findChain_52 rfl rfl) ?_
  refine Eq.trans (xiconst dX5_findChain_53 ci_1) ?_
  refine Eq.trans (st1 dX5_findChain_54 rfl rfl) ?_
  refine Eq.trans (xiconst dX5_findChain_55 ci_1) ?_
  refine Eq.trans (st1 dX5_findChain_56 rfl rfl) ?_
  refine Eq.trans (st1 dX5_findChain_57 rfl rfl) ?_
  refine Eq.trans (st1 dX5_findChain_58 rfl rfl) ?_
  refine Eq.trans (st1 dX5_findChain_59 rfl rfl) ?_
  refine Eq.trans (st1 dX5_findChain_60 rfl rfl) ?_
  refine Eq.trans (st1 dX5_findChain_61 rfl rfl) ?_
  refine Eq.trans (getRm dX5_findChain_62 cp_5_38 ka_56 rfl r_56_0) ?_
  refine Eq.trans (getRm dX5_findChain_65 cp_5_70 ka_3 rfl r_3_4) ?_
  refine Eq.trans (st1 dX5_findChain_68 rfl rfl) ?_
  refine Eq.trans (xiconst dX5_findChain_69 ci_1) ?_
  refine Eq.trans (st1 dX5_findChain_70 rfl rfl) ?_
  exact is3 dX5_findChain_71 cp_5_75 (Nat.le_of_ble_eq_true rfl) rfl rfl (Nat.le_of_ble_eq_true rfl)
theorem q_X5_findChain_74 {call : CALL} {L X : Nat} {I : Nat → Nat → Int32} {J : Nat → Nat → Int64} {x1 : Int32} {x2 : Int32} {u3 : Option Value} {x4 : Int32} {s0 : Int32} {s1 : Int32} : runI call iX5_findChain (74, [some (.ref 56), some (.int x1), some (.int x2), u3, some (.int x4)], [.int s1, .int s0], (mm L X I J)) = gd (inb x4 6) (runI call iX5_findChain (33, [some (.ref 56), some (.int x1), some (.int x2), some (.int (s0 - s1)), some (.int (x4 + (nI 1)))], [], (mm L X (up2 (up2 I 59 (x4).toNatClampNeg x2) 56 6 (((up2 I 59 (x4).toNatClampNeg x2) 56 6) + (nI 1))) J))) := by
  refine Eq.trans (st1 dX5_findChain_74 rfl rfl) ?_
  refine Eq.trans (st1 dX5_findChain_75 rfl rfl) ?_
  refine Eq.trans (st1 dX5_findChain_76 rfl rfl) ?_
  refine Eq.trans (getRm dX5_findChain_77 cp_5_18 ka_56 rfl r_56_5) ?_
  refine Eq.trans (st1 dX5_findChain_80 rfl rfl) ?_
  refine Eq.trans (st1 dX5_findChain_82 rfl rfl) ?_
  refine Eq.trans (as1m dX5_findChain_83 ka_59) (gd_congr fun g1 => ?_)
  refine Eq.trans (st1 dX5_findChain_84 rfl rfl) ?_
  refine Eq.trans (st1 dX5_findChain_85 rfl rfl) ?_
  refine Eq.trans (getIm dX5_findChain_86 cp_5_63 ka_56 (.inl rfl)) ?_
  refine Eq.trans (xiconst dX5_findChain_89 ci_1) ?_
  refine Eq.trans (st1 dX5_findChain_90 rfl rfl) ?_
  refine Eq.trans (putIm dX5_findChain_91 cp_5_63 ka_56 rfl) ?_
  refine Eq.trans (xinc2 dX5_findChain_94 ci_1 rfl (Nat.le_of_ble_eq_true rfl) rfl) ?_
  refine Eq.trans (go_to (tgt := 33) dX5_findChain_97 (by decide +kernel)) ?_
  rfl
theorem q_X5_longestNow_0 {call : CALL} {L X : Nat} {I : Nat → Nat → Int32} {J : Nat → Nat → Int64}  : runI call iX5_longestNow (0, [some (.ref 56), none, none], [], (mm L X I J)) = bnd (call nX5_fillFollowers [.ref 56] (mm L X I J)) (fun v m' => runI call iX5_longestNow (4, [some (.ref 56), none, none], v.toList ++ [], m')) := by
  refine Eq.trans (st1 dX5_longestNow_0 rfl rfl) ?_
  exact iv0 dX5_longestNow_1 rfl cp_5_86 rfl rfl (kd_ka ka_56) ka_56.1 (Nat.le_of_ble_eq_true rfl)
theorem q_X5_longestNow_4 {call : CALL} {L X : Nat} {I : Nat → Nat → Int32} {J : Nat → Nat → Int64} {u1 : Option Value} {u2 : Option Value} : runI call iX5_longestNow (4, [some (.ref 56), u1, u2], [], (mm L X I J)) = runI call iX5_longestNow (16, [some (.ref 56), some (.int (((nI 1) <<< ((I 3 0) &&& 31)) - (nI 1))), u2], [], (mm L X I J)) := by
  refine Eq.trans (xiconst dX5_longestNow_4 ci_1) ?_
  refine Eq.trans (st1 dX5_longestNow_5 rfl rfl) ?_
  refine Eq.trans (getRm dX5_longestNow_6 cp_5_38 ka_56 rfl r_56_0) ?_
  refine Eq.trans (getIm dX5_longestNow_9 cp_5_79 ka_3 (.inl rfl)) ?_
  refine Eq.trans (st1 dX5_longestNow_12 rfl rfl) ?_
  refine Eq.trans (xiconst dX5_longestNow_13 ci_1) ?_
  refine Eq.trans (st1 dX5_longestNow_14 rfl rfl) ?_
  refine Eq.trans (st1 dX5_longestNow_15 rfl rfl) ?_
  rfl
theorem q_X5_longestNow_16 {call : CALL} {L X : Nat} {I : Nat → Nat → Int32} {J : Nat → Nat → Int64} {x1 : Int32} {u2 : Option Value} : runI call iX5_longestNow (16, [some (.ref 56), some (.int x1), u2], [], (mm L X I J)) = if x1 ≤ (nI 0) then bnd (call nX5_longestBehind [.ref 56, .int (nI 0), .int (-1 : Int32)] (mm L X I J)) (fun v m' => runI call iX5_longestNow (83, [some (.ref 56), some (.int x1), u2], v.toList ++ [], m')) else runI call iX5_longestNow (22, [some (.ref 56), some (.int x1), some (.int (nI 0))], [], (mm L X I J)) := by
  refine Eq.trans (st1 dX5_longestNow_16 rfl rfl) ?_
  refine Eq.trans (if_le (tgt := 77) dX5_longestNow_17 (by decide +kernel)) (ite_cong (fun _ => ?_) (fun _ => ?_))
  · refine Eq.trans (st1 dX5_longestNow_77 rfl rfl) ?_
    refine Eq.trans (xiconst dX5_longestNow_78 ci_0) ?_
    refine Eq.trans (xiconst dX5_longestNow_79 ci_m1) ?_
    exact iv0 dX5_longestNow_80 rfl cp_5_93 rfl rfl (kd_ka ka_56) ka_56.1 (Nat.le_of_ble_eq_true rfl)
  · refine Eq.trans (xiconst dX5_longestNow_20 ci_0) ?_
    refine Eq.trans (st1 dX5_longestNow_21 rfl rfl) ?_
    rfl
theorem q_X5_longestNow_83 {call : CALL} {L X : Nat} {I : Nat → Nat → Int32} {J : Nat → Nat → Int64} {u0 : Option Value} {u1 : Option Value} {u2 : Option Value} {s0 : Int32} : runI call iX5_longestNow (83, [u0, u1, u2], [.int s0], (mm L X I J)) = some (.inl (some (.int s0)), (mm L X I J)) := by
  exact ret0 dX5_longestNow_83 rfl
theorem q_X5_longestNow_22 {call : CALL} {L X : Nat} {I : Nat → Nat → Int32} {J : Nat → Nat → Int64} {x1 : Int32} {x2 : Int32} : runI call iX5_longestNow (22, [some (.ref 56), some (.int x1), some (.int x2)], [], (mm L X I J)) = if ((nI 2) * (I 3 0)) ≤ x2 then runI call iX5_longestNow (16, [some (.ref 56), some (.int (x1 + (-1 : Int32))), some (.int x2)], [], (mm L X I J)) else bndN (call nX11_bit [.int x1, .int (x2 >>> ((nI 1) &&& 31))] (mm L X I J)) (fun v m' => runI call iX5_longestNow (42, [some (.ref 56), some (.int x1), some (.int x2)], v.toList ++ [], m')) := by
  refine Eq.trans (st1 dX5_longestNow_22 rfl rfl) ?_
  refine Eq.trans (xiconst dX5_longestNow_23 ci_2) ?_
  refine Eq.trans (st1 dX5_longestNow_24 rfl rfl) ?_
  refine Eq.trans (getRm dX5_longestNow_25 cp_5_38 ka_56 rfl r_56_0) ?_
  refine Eq.trans (getIm dX5_longestNow_28 cp_5_79 ka_3 (.inl rfl)) ?_
  refine Eq.trans (st1 dX5_longestNow_31 rfl rfl) ?_
  refine Eq.trans (ic_ge (tgt := 71) dX5_longestNow_32 (by decide +kernel)) (ite_cong (fun _ => ?_) (fun _ => ?_))
  · refine Eq.trans (xinc2 dX5_longestNow_71 ci_m1 rfl (Nat.le_of_ble_eq_true rfl) rfl) ?_
    refine Eq.trans (go_to (tgt := 16) dX5_longestNow_74 (by decide +kernel)) ?_
    rfl
  · refine Eq.trans (st1 dX5_longestNow_35 rfl rfl) ?_
    refine Eq.trans (st1 dX5_longestNow_36 rfl rfl) ?_
    refine Eq.trans (xiconst dX5_longestNow_37 ci_1) ?_
    refine Eq.trans (st1 dX5_longestNow_38 rfl rfl) ?_
    exact is3 dX5_longestNow_39 cp_5_89 (Nat.le_of_ble_eq_true rfl) rfl rfl (Nat.le_of_ble_eq_true rfl)
theorem q_X5_longestNow_42 {call : CALL} {L X : Nat} {I : Nat → Nat → Int32} {J : Nat → Nat → Int64} {x1 : Int32} {x2 : Int32} {s0 : Int32} : runI call iX5_longestNow (42, [some (.ref 56), some (.int x1), some (.int x2)], [.int s0], (mm L X I J)) = if s0 = (nI 1) then bnd (call nX5_longestBehind [.ref 56, .int x1, .int x2] (mm L X I J)) (fun v m' => runI call iX5_longestNow (62, [some (.ref 56), some (.int x1), some (.int x2)], v.toList ++ [.int ((x1 * (nI 12)) + x2), .ref 58], m')) else runI call iX5_longestNow (65, [some (.ref 56), some (.int x1), some (.int x2)], [], (mm L X I J)) := by
  refine Eq.trans (xiconst dX5_longestNow_42 ci_1) ?_
  refine Eq.trans (ic_ne (tgt := 65) dX5_longestNow_43 (by decide +kernel)) (ite_cong (fun _ => ?_) (fun _ => ?_))
  · refine Eq.trans (st1 dX5_longestNow_46 rfl rfl) ?_
    refine Eq.trans (getRm dX5_longestNow_47 cp_5_15 ka_56 rfl r_56_3) ?_
    refine Eq.trans (st1 dX5_longestNow_50 rfl rfl) ?_
    refine Eq.trans (xbipush dX5_longestNow_51 cb_12) ?_
    refine Eq.trans (st1 dX5_longestNow_53 rfl rfl) ?_
    refine Eq.trans (st1 dX5_longestNow_54 rfl rfl) ?_
    refine Eq.trans (st1 dX5_longestNow_55 rfl rfl) ?_
    refine Eq.trans (st1 dX5_longestNow_56 rfl rfl) ?_
    refine Eq.trans (st1 dX5_longestNow_57 rfl rfl) ?_
    refine Eq.trans (st1 dX5_longestNow_58 rfl rfl) ?_
    exact iv0 dX5_longestNow_59 rfl cp_5_93 rfl rfl (kd_ka ka_56) ka_56.1 (Nat.le_of_ble_eq_true rfl)
  · rfl
theorem q_X5_longestNow_65 {call : CALL} {L X : Nat} {I : Nat → Nat → Int32} {J : Nat → Nat → Int64} {x1 : Int32} {x2 : Int32} : runI call iX5_longestNow (65, [some (.ref 56), some (.int x1), some (.int x2)], [], (mm L X I J)) = runI call iX5_longestNow (22, [some (.ref 56), some (.int x1), some (.int (x2 + (nI 1)))], [], (mm L X I J)) := by
  refine Eq.trans (xinc2 dX5_longestNow_65 ci_1 rfl (Nat.le_of_ble_eq_true rfl) rfl) ?_
  refine Eq.trans (go_to (tgt := 22) dX5_longestNow_68 (by decide +kernel)) ?_
  rfl
theorem q_X5_longestNow_62 {call : CALL} {L X : Nat} {I : Nat → Nat → Int32} {J : Nat → Nat → Int64} {x1 : Int32} {x2 : Int32} {s1 : Int32} {s2 : Int32} : runI call iX5_longestNow (62, [some (.ref 56), some (.int x1), some (.int x2)], [.int s2, .int s1, .ref 58], (mm L X I J)) = bndN (call nX11_put [.ref 58, .int s1, .int s2] (mm L X I J)) (fun v m' => runI call iX5_longestNow (65, [some (.ref 56), some (.int x1), some (.int x2)], v.toList ++ [], m')) := by
  exact is3 dX5_longestNow_62 cp_5_96 (Nat.le_of_ble_eq_true rfl) rfl rfl (Nat.le_of_ble_eq_true rfl)
theorem q_X5_fillFollowers_0 {call : CALL} {L X : Nat} {I : Nat → Nat → Int32} {J : Nat → Nat → Int64}  : runI call iX5_fillFollowers (0, [some (.ref 56), none, none, none], [], (mm L X I J)) = runI call iX5_fillFollowers (2, [some (.ref 56), some (.int (nI 0)), none, none], [], (mm L X I J)) := by
  refine Eq.trans (xiconst dX5_fillFollowers_0 ci_0) ?_
  refine Eq.trans (st1 dX5_fillFollowers_1 rfl rfl) ?_
  rfl
theorem q_X5_fillFollowers_2 {call : CALL} {L X : Nat} {I : Nat → Nat → Int32} {J : Nat → Nat → Int64} {x1 : Int32} {u2 : Option Value} {u3 : Option Value} : runI call iX5_fillFollowers (2, [some (.ref 56), some (.int x1), u2, u3], [], (mm L X I J)) = if ((nI 2) * (I 3 0)) ≤ x1 then some (.inl none, (mm L X I J)) else if (nI 12) ≤ x1 then some (.inl none, (mm L X I J)) else runI call iX5_fillFollowers (25, [some (.ref 56), some (.int x1), some (.int (nI 0)), some (.int (nI 0))], [], (mm L X I J)) := by
  refine Eq.trans (st1 dX5_fillFollowers_2 rfl rfl) ?_
  refine Eq.trans (xiconst dX5_fillFollowers_3 ci_2) ?_
  refine Eq.trans (st1 dX5_fillFollowers_4 rfl rfl) ?_
  refine Eq.trans (getRm dX5_fillFollowers_5 cp_5_38 ka_56 rfl r_56_0) ?_
  refine Eq.trans (getIm dX5_fillFollowers_8 cp_5_79 ka_3 (.inl rfl)) ?_
  refine Eq.trans (st1 dX5_fillFollowers_11 rfl rfl) ?_
  refine Eq.trans (ic_ge (tgt := 75) dX5_fillFollowers_12 (by decide +kernel)) (ite_cong (fun _ => ?_) (fun _ => ?_))
  · exact ret3 dX5_fillFollowers_75 (.inl rfl)
  · refine Eq.trans (st1 dX5_fillFollowers_15 rfl rfl) ?_
    refine Eq.trans (xbipush dX5_fillFollowers_16 cb_12) ?_
    refine Eq.trans (ic_ge (tgt := 75) dX5_fillFollowers_18 (by decide +kernel)) (ite_cong (fun _ => ?_) (fun _ => ?_))
    · exact ret3 dX5_fillFollowers_75 (.inl rfl)
    · refine Eq.trans (xiconst dX5_fillFollowers_21 ci_0) ?_
      refine Eq.trans (st1 dX5_fillFollowers_22 rfl rfl) ?_
      refine Eq.trans (xiconst dX5_fillFollowers_23 ci_0) ?_
      refine Eq.trans (st1 dX5_fillFollowers_24 rfl rfl) ?_
      rfl
theorem q_X5_fillFollowers_25 {call : CALL} {L X : Nat} {I : Nat → Nat → Int32} {J : Nat → Nat → Int64} {x1 : Int32} {x2 : Int32} {x3 : Int32} : runI call iX5_fillFollowers (25, [some (.ref 56), some (.int x1), some (.int x2), some (.int x3)], [], (mm L X I J)) = if ((nI 2) * (I 3 0)) ≤ x3 then gd (inb x1 12) (runI call iX5_fillFollowers (2, [some (.ref 56), some (.int (x1 + (nI 1))), some (.int x2), some (.int x3)], [], (mm L X (up2 I 57 (x1).toNatClampNeg x2) J))) else bnd (call nX1_follows [.ref 3, .int x1, .int x3] (mm L X I J)) (fun v m' => runI call iX5_fillFollowers (47, [some (.ref 56), some (.int x1), some (.int x2), some (.int x3)], v.toList ++ [], m')) := by
  refine Eq.trans (st1 dX5_fillFollowers_25 rfl rfl) ?_
  refine Eq.trans (xiconst dX5_fillFollowers_26 ci_2) ?_
  refine Eq.trans (st1 dX5_fillFollowers_27 rfl rfl) ?_
  refine Eq.trans (getRm dX5_fillFollowers_28 cp_5_38 ka_56 rfl r_56_0) ?_
  refine Eq.trans (getIm dX5_fillFollowers_31 cp_5_79 ka_3 (.inl rfl)) ?_
  refine Eq.trans (st1 dX5_fillFollowers_34 rfl rfl) ?_
  refine Eq.trans (ic_ge (tgt := 62) dX5_fillFollowers_35 (by decide +kernel)) (ite_cong (fun _ => ?_) (fun _ => ?_))
  · refine Eq.trans (st1 dX5_fillFollowers_62 rfl rfl) ?_
    refine Eq.trans (getRm dX5_fillFollowers_63 cp_5_11 ka_56 rfl r_56_2) ?_
    refine Eq.trans (st1 dX5_fillFollowers_66 rfl rfl) ?_
    refine Eq.trans (st1 dX5_fillFollowers_67 rfl rfl) ?_
    refine Eq.trans (as1m dX5_fillFollowers_68 ka_57) (gd_congr fun g1 => ?_)
    refine Eq.trans (xinc2 dX5_fillFollowers_69 ci_1 rfl (Nat.le_of_ble_eq_true rfl) rfl) ?_
    refine Eq.trans (go_to (tgt := 2) dX5_fillFollowers_72 (by decide +kernel)) ?_
    rfl
  · refine Eq.trans (st1 dX5_fillFollowers_38 rfl rfl) ?_
    refine Eq.trans (getRm dX5_fillFollowers_39 cp_5_38 ka_56 rfl r_56_0) ?_
    refine Eq.trans (st1 dX5_fillFollowers_42 rfl rfl) ?_
    refine Eq.trans (st1 dX5_fillFollowers_43 rfl rfl) ?_
    exact iv0 dX5_fillFollowers_44 rfl cp_5_82 rfl rfl (kd_ka ka_3) ka_3.1 (Nat.le_of_ble_eq_true rfl)
theorem q_X5_fillFollowers_47 {call : CALL} {L X : Nat} {I : Nat → Nat → Int32} {J : Nat → Nat → Int64} {x1 : Int32} {x2 : Int32} {x3 : Int32} {s0 : Int32} : runI call iX5_fillFollowers (47, [some (.ref 56), some (.int x1), some (.int x2), some (.int x3)], [.int s0], (mm L X I J)) = if s0 = (nI 0) then runI call iX5_fillFollowers (56, [some (.ref 56), some (.int x1), some (.int x2), some (.int x3)], [], (mm L X I J)) else runI call iX5_fillFollowers (56, [some (.ref 56), some (.int x1), some (.int (x2 ||| ((nI 1) <<< (x3 &&& 31)))), some (.int x3)], [], (mm L X I J)) := by
  refine Eq.trans (if_eq (tgt := 56) dX5_fillFollowers_47 (by decide +kernel)) (ite_cong (fun _ => ?_) (fun _ => ?_))
  · rfl
  · refine Eq.trans (st1 dX5_fillFollowers_50 rfl rfl) ?_
    refine Eq.trans (xiconst dX5_fillFollowers_51 ci_1) ?_
    refine Eq.trans (st1 dX5_fillFollowers_52 rfl rfl) ?_
    refine Eq.trans (st1 dX5_fillFollowers_53 rfl rfl) ?_
    refine Eq.trans (st1 dX5_fillFollowers_54 rfl rfl) ?_
    refine Eq.trans (st1 dX5_fillFollowers_55 rfl rfl) ?_
    rfl
theorem q_X5_fillFollowers_56 {call : CALL} {L X : Nat} {I : Nat → Nat → Int32} {J : Nat → Nat → Int64} {x1 : Int32} {x2 : Int32} {x3 : Int32} : runI call iX5_fillFollowers (56, [some (.ref 56), some (.int x1), some (.int x2), some (.int x3)], [], (mm L X I J)) = runI call iX5_fillFollowers (25, [some (.ref 56), some (.int x1), some (.int x2), some (.int (x3 + (nI 1)))], [], (mm L X I J)) := by
  refine Eq.trans (xinc2 dX5_fillFollowers_56 ci_1 rfl (Nat.le_of_ble_eq_true rfl) rfl) ?_
  refine Eq.trans (go_to (tgt := 25) dX5_fillFollowers_59 (by decide +kernel)) ?_
  rfl
theorem q_X5_longestBehind_0 {call : CALL} {L X : Nat} {I : Nat → Nat → Int32} {J : Nat → Nat → Int64} {x1 : Int32} {x2 : Int32} : runI call iX5_longestBehind (0, [some (.ref 56), some (.int x1), some (.int x2), none, none], [], (mm L X I J)) = runI call iX5_longestBehind (5, [some (.ref 56), some (.int x1), some (.int x2), some (.int (nI 0)), some (.int (nI 0))], [], (mm L X I J)) := by
  refine Eq.trans (xiconst dX5_longestBehind_0 ci_0) ?_
  refine Eq.trans (st1 dX5_longestBehind_1 rfl rfl) ?_
  refine Eq.trans (xiconst dX5_longestBehind_2 ci_0) ?_
  refine Eq.trans (st1 dX5_longestBehind_3 rfl rfl) ?_
  rfl
theorem q_X5_longestBehind_5 {call : CALL} {L X : Nat} {I : Nat → Nat → Int32} {J : Nat → Nat → Int64} {x1 : Int32} {x2 : Int32} {x3 : Int32} {x4 : Int32} : runI call iX5_longestBehind (5, [some (.ref 56), some (.int x1), some (.int x2), some (.int x3), some (.int x4)], [], (mm L X I J)) = if ((nI 2) * (I 3 0)) ≤ x4 then some (.inl (some (.int x3)), (mm L X I J)) else bnd (call nX5_canFollow [.ref 56, .int x1, .int x2, .int x4] (mm L X I J)) (fun v m' => runI call iX5_longestBehind (27, [some (.ref 56), some (.int x1), some (.int x2), some (.int x3), some (.int x4)], v.toList ++ [], m')) := by
  refine Eq.trans (st1 dX5_longestBehind_5 rfl rfl) ?_
  refine Eq.trans (xiconst dX5_longestBehind_7 ci_2) ?_
  refine Eq.trans (st1 dX5_longestBehind_8 rfl rfl) ?_
  refine Eq.trans (getRm dX5_longestBehind_9 cp_5_38 ka_56 rfl r_56_0) ?_
  refine Eq.trans (getIm dX5_longestBehind_12 cp_5_79 ka_3 (.inl rfl)) ?_
  refine Eq.trans (st1 dX5_longestBehind_15 rfl rfl) ?_
  refine Eq.trans (ic_ge (tgt := 48) dX5_longestBehind_16 (by decide +kernel)) (ite_cong (fun _ => ?_) (fun _ => ?_))
  · refine Eq.trans (st1 dX5_longestBehind_48 rfl rfl) ?_
    exact ret0 dX5_longestBehind_49 rfl
  · refine Eq.trans (st1 dX5_longestBehind_19 rfl rfl) ?_
    refine Eq.trans (st1 dX5_longestBehind_20 rfl rfl) ?_
    refine Eq.trans (st1 dX5_longestBehind_21 rfl rfl) ?_
    refine Eq.trans (st1 dX5_longestBehind_22 rfl rfl) ?_
    exact iv0 dX5_longestBehind_24 rfl cp_5_100 rfl rfl (kd_ka ka_56) ka_56.1 (Nat.le_of_ble_eq_true rfl)
theorem q_X5_longestBehind_27 {call : CALL} {L X : Nat} {I : Nat → Nat → Int32} {J : Nat → Nat → Int64} {x1 : Int32} {x2 : Int32} {x3 : Int32} {x4 : Int32} {s0 : Int32} : runI call iX5_longestBehind (27, [some (.ref 56), some (.int x1), some (.int x2), some (.int x3), some (.int x4)], [.int s0], (mm L X I J)) = if s0 = (nI 0) then runI call iX5_longestBehind (42, [some (.ref 56), some (.int x1), some (.int x2), some (.int x3), some (.int x4)], [], (mm L X I J)) else bnd (call nX5_longWith [.ref 56, .int x1, .int x4] (mm L X I J)) (fun v m' => runI call iX5_longestBehind (38, [some (.ref 56), some (.int x1), some (.int x2), some (.int x3), some (.int x4)], v.toList ++ [.int x3], m')) := by
  refine Eq.trans (if_eq (tgt := 42) dX5_longestBehind_27 (by decide +kernel)) (ite_cong (fun _ => ?_) (fun _ => ?_))
  · rfl
  · refine Eq.trans (st1 dX5_longestBehind_30 rfl rfl) ?_
    refine Eq.trans (st1 dX5_longestBehind_31 rfl rfl) ?_
    refine Eq.trans (st1 dX5_longestBehind_32 rfl rfl) ?_
    refine Eq.trans (st1 dX5_longestBehind_33 rfl rfl) ?_
    exact iv0 dX5_longestBehind_35 rfl cp_5_104 rfl rfl (kd_ka ka_56) ka_56.1 (Nat.le_of_ble_eq_true rfl)
theorem q_X5_longestBehind_42 {call : CALL} {L X : Nat} {I : Nat → Nat → Int32} {J : Nat → Nat → Int64} {x1 : Int32} {x2 : Int32} {x3 : Int32} {x4 : Int32} : runI call iX5_longestBehind (42, [some (.ref 56), some (.int x1), some (.int x2), some (.int x3), some (.int x4)], [], (mm L X I J)) = runI call iX5_longestBehind (5, [some (.ref 56), some (.int x1), some (.int x2), some (.int x3), some (.int (x4 + (nI 1)))], [], (mm L X I J)) := by
  refine Eq.trans (xinc2 dX5_longestBehind_42 ci_1 rfl (Nat.le_of_ble_eq_true rfl) rfl) ?_
  refine Eq.trans (go_to (tgt := 5) dX5_longestBehind_45 (by decide +kernel)) ?_
  rfl
theorem q_X5_longestBehind_38 {call : CALL} {L X : Nat} {I : Nat → Nat → Int32} {J : Nat → Nat → Int64} {x1 : Int32} {x2 : Int32} {u3 : Option Value} {x4 : Int32} {s0 : Int32} {s1 : Int32} : runI call iX5_longestBehind (38, [some (.ref 56), some (.int x1), some (.int x2), u3, some (.int x4)], [.int s1, .int s0], (mm L X I J)) = runI call iX5_longestBehind (42, [some (.ref 56), some (.int x1), some (.int x2), some (.int (if s0 < s1 then s1 else s0)), some (.int x4)], [], (mm L X I J)) := by
  refine Eq.trans (imax dX5_longestBehind_38 cp_5_107 (Nat.le_of_ble_eq_true rfl)) ?_
  refine Eq.trans (st1 dX5_longestBehind_41 rfl rfl) ?_
  rfl
theorem q_X5_canFollow_0 {call : CALL} {L X : Nat} {I : Nat → Nat → Int32} {J : Nat → Nat → Int64} {x1 : Int32} {x2 : Int32} {x3 : Int32} : runI call iX5_canFollow (0, [some (.ref 56), some (.int x1), some (.int x2), some (.int x3)], [], (mm L X I J)) = bndN (call nX11_bit [.int x1, .int (x3 >>> ((nI 1) &&& 31))] (mm L X I J)) (fun v m' => runI call iX5_canFollow (7, [some (.ref 56), some (.int x1), some (.int x2), some (.int x3)], v.toList ++ [], m')) := by
  refine Eq.trans (st1 dX5_canFollow_0 rfl rfl) ?_
  refine Eq.trans (st1 dX5_canFollow_1 rfl rfl) ?_
  refine Eq.trans (xiconst dX5_canFollow_2 ci_1) ?_
  refine Eq.trans (st1 dX5_canFollow_3 rfl rfl) ?_
  exact is3 dX5_canFollow_4 cp_5_89 (Nat.le_of_ble_eq_true rfl) rfl rfl (Nat.le_of_ble_eq_true rfl)
theorem q_X5_canFollow_7 {call : CALL} {L X : Nat} {I : Nat → Nat → Int32} {J : Nat → Nat → Int64} {u1 : Option Value} {x2 : Int32} {x3 : Int32} {s0 : Int32} : runI call iX5_canFollow (7, [some (.ref 56), u1, some (.int x2), some (.int x3)], [.int s0], (mm L X I J)) = if s0 = (nI 0) then if x2 = (-1 : Int32) then some (.inl (some (.int (nI 1))), (mm L X I J)) else bndN (call nX11_pick [.ref 57, .int x2] (mm L X I J)) (fun v m' => runI call iX5_canFollow (23, [some (.ref 56), u1, some (.int x2), some (.int x3)], v.toList ++ [], m')) else some (.inl (some (.int (nI 0))), (mm L X I J)) := by
  refine Eq.trans (if_ne (tgt := 35) dX5_canFollow_7 (by decide +kernel)) (ite_cong (fun _ => ?_) (fun _ => ?_))
  · refine Eq.trans (st1 dX5_canFollow_10 rfl rfl) ?_
    refine Eq.trans (xiconst dX5_canFollow_11 ci_m1) ?_
    refine Eq.trans (ic_eq (tgt := 31) dX5_canFollow_12 (by decide +kernel)) (ite_cong (fun _ => ?_) (fun _ => ?_))
    · refine Eq.trans (xiconst dX5_canFollow_31 ci_1) ?_
      refine Eq.trans (go_to (tgt := 36) dX5_canFollow_32 (by decide +kernel)) ?_
      exact ret1 dX5_canFollow_36 rfl (.inr rfl)
    · refine Eq.trans (st1 dX5_canFollow_15 rfl rfl) ?_
      refine Eq.trans (getRm dX5_canFollow_16 cp_5_11 ka_56 rfl r_56_2) ?_
      refine Eq.trans (st1 dX5_canFollow_19 rfl rfl) ?_
      exact is3 dX5_canFollow_20 cp_5_75 (Nat.le_of_ble_eq_true rfl) rfl rfl (Nat.le_of_ble_eq_true rfl)
  · refine Eq.trans (xiconst dX5_canFollow_35 ci_0) ?_
    exact ret1 dX5_canFollow_36 rfl (.inl rfl)
theorem q_X5_canFollow_23 {call : CALL} {L X : Nat} {I : Nat → Nat → Int32} {J : Nat → Nat → Int64} {u0 : Option Value} {u1 : Option Value} {u2 : Option Value} {x3 : Int32} {s0 : Int32} : runI call iX5_canFollow (23, [u0, u1, u2, some (.int x3)], [.int s0], (mm L X I J)) = bndN (call nX11_bit [.int s0, .int x3] (mm L X I J)) (fun v m' => runI call iX5_canFollow (27, [u0, u1, u2, some (.int x3)], v.toList ++ [], m')) := by
  refine Eq.trans (st1 dX5_canFollow_23 rfl rfl) ?_
  exact is3 dX5_canFollow_24 cp_5_89 (Nat.le_of_ble_eq_true rfl) rfl rfl (Nat.le_of_ble_eq_true rfl)
theorem q_X5_canFollow_27 {call : CALL} {L X : Nat} {I : Nat → Nat → Int32} {J : Nat → Nat → Int64} {u0 : Option Value} {u1 : Option Value} {u2 : Option Value} {u3 : Option Value} {s0 : Int32} : runI call iX5_canFollow (27, [u0, u1, u2, u3], [.int s0], (mm L X I J)) = if s0 = (nI 1) then some (.inl (some (.int (nI 1))), (mm L X I J)) else some (.inl (some (.int (nI 0))), (mm L X I J)) := by
  refine Eq.trans (xiconst dX5_canFollow_27 ci_1) ?_
  refine Eq.trans (ic_ne (tgt := 35) dX5_canFollow_28 (by decide +kernel)) (ite_cong (fun _ => ?_) (fun _ => ?_))
  · refine Eq.trans (xiconst dX5_canFollow_31 ci_1) ?_
    refine Eq.trans (go_to (tgt := 36) dX5_canFollow_32 (by decide +kernel)) ?_
    exact ret1 dX5_canFollow_36 rfl (.inr rfl)
  · refine Eq.trans (xiconst dX5_canFollow_35 ci_0) ?_
    exact ret1 dX5_canFollow_36 rfl (.inl rfl)
