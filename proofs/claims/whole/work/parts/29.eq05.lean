/-! EQUATIONS OF THE METHODS (written by gen_eq.py) -/
theorem q_X12_beginsAnew_0 {call : CALL} {L X : Nat} {I : Nat → Nat → Int32} {J : Nat → Nat → Int64}  : runI call iX12_beginsAnew (0, [some (.ref 72), none], [], (mm L X I J)) = runI call iX12_beginsAnew (2, [some (.ref 72), some (.int (nI 0))], [], (mm L X I J)) := by
  refine Eq.trans (xiconst dX12_beginsAnew_0 ci_0) ?_
  refine Eq.trans (st1 dX12_beginsAnew_1 rfl rfl) ?_
  rfl
theorem q_X12_beginsAnew_2 {call : CALL} {L X : Nat} {I : Nat → Nat → Int32} {J : Nat → Nat → Int64} {x1 : Int32} : runI call iX12_beginsAnew (2, [some (.ref 72), some (.int x1)], [], (mm L X I J)) = if (nI 4) ≤ x1 then bndN (call nX12_lays [.ref 77, .ref 84, .int (I 76 0)] (mm L X I J)) (fun v m' => runI call iX12_beginsAnew (42, [some (.ref 72), some (.int x1)], v.toList ++ [], m')) else gd (inb x1 4) (runI call iX12_beginsAnew (2, [some (.ref 72), some (.int (x1 + (nI 1)))], [], (mm L X (up2 I 76 (x1).toNatClampNeg (I 75 (x1).toNatClampNeg)) J))) := by
  refine Eq.trans (st1 dX12_beginsAnew_2 rfl rfl) ?_
  refine Eq.trans (xiconst dX12_beginsAnew_3 ci_4) ?_
  refine Eq.trans (ic_ge (tgt := 25) dX12_beginsAnew_4 (by decide +kernel)) (ite_cong (fun _ => ?_) (fun _ => ?_))
  · refine Eq.trans (st1 dX12_beginsAnew_25 rfl rfl) ?_
    refine Eq.trans (getRm dX12_beginsAnew_26 cp_12_28 ka_72 rfl r_72_13) ?_
    refine Eq.trans (st1 dX12_beginsAnew_29 rfl rfl) ?_
    refine Eq.trans (getRm dX12_beginsAnew_30 cp_12_31 ka_72 rfl r_72_14) ?_
    refine Eq.trans (st1 dX12_beginsAnew_33 rfl rfl) ?_
    refine Eq.trans (getRm dX12_beginsAnew_34 cp_12_23 ka_72 rfl r_72_12) ?_
    refine Eq.trans (xiconst dX12_beginsAnew_37 ci_0) ?_
    refine Eq.trans (al1c dX12_beginsAnew_38 ka_76 (by decide +kernel) nc_0) ?_
    exact is2 dX12_beginsAnew_39 cp_12_195 (Nat.le_of_ble_eq_true rfl) rfl rfl (Nat.le_of_ble_eq_true rfl)
  · refine Eq.trans (st1 dX12_beginsAnew_7 rfl rfl) ?_
    refine Eq.trans (getRm dX12_beginsAnew_8 cp_12_23 ka_72 rfl r_72_12) ?_
    refine Eq.trans (st1 dX12_beginsAnew_11 rfl rfl) ?_
    refine Eq.trans (st1 dX12_beginsAnew_12 rfl rfl) ?_
    refine Eq.trans (getRm dX12_beginsAnew_13 cp_12_20 ka_72 rfl r_72_11) ?_
    refine Eq.trans (st1 dX12_beginsAnew_16 rfl rfl) ?_
    refine Eq.trans (al1m dX12_beginsAnew_17 ka_75) (gd_congr fun g1 => ?_)
    refine Eq.trans (as1m dX12_beginsAnew_18 ka_76) (Eq.trans (gd_t g1) ?_)
    refine Eq.trans (xinc2 dX12_beginsAnew_19 ci_1 rfl (Nat.le_of_ble_eq_true rfl) rfl) ?_
    refine Eq.trans (go_to (tgt := 2) dX12_beginsAnew_22 (by decide +kernel)) ?_
    rfl
theorem q_X12_beginsAnew_42 {call : CALL} {L X : Nat} {I : Nat → Nat → Int32} {J : Nat → Nat → Int64} {u1 : Option Value} : runI call iX12_beginsAnew (42, [some (.ref 72), u1], [], (mm L X I J)) = bndN (call nX12_lays [.ref 91, .ref 96, .int (I 76 1)] (mm L X I J)) (fun v m' => runI call iX12_beginsAnew (59, [some (.ref 72), u1], v.toList ++ [], m')) := by
  refine Eq.trans (st1 dX12_beginsAnew_42 rfl rfl) ?_
  refine Eq.trans (getRm dX12_beginsAnew_43 cp_12_34 ka_72 rfl r_72_15) ?_
  refine Eq.trans (st1 dX12_beginsAnew_46 rfl rfl) ?_
  refine Eq.trans (getRm dX12_beginsAnew_47 cp_12_37 ka_72 rfl r_72_16) ?_
  refine Eq.trans (st1 dX12_beginsAnew_50 rfl rfl) ?_
  refine Eq.trans (getRm dX12_beginsAnew_51 cp_12_23 ka_72 rfl r_72_12) ?_
  refine Eq.trans (xiconst dX12_beginsAnew_54 ci_1) ?_
  refine Eq.trans (al1c dX12_beginsAnew_55 ka_76 (by decide +kernel) nc_1) ?_
  exact is2 dX12_beginsAnew_56 cp_12_195 (Nat.le_of_ble_eq_true rfl) rfl rfl (Nat.le_of_ble_eq_true rfl)
theorem q_X12_beginsAnew_59 {call : CALL} {L X : Nat} {I : Nat → Nat → Int32} {J : Nat → Nat → Int64} {u1 : Option Value} : runI call iX12_beginsAnew (59, [some (.ref 72), u1], [], (mm L X I J)) = bndN (call nX12_lays [.ref 102, .ref 108, .int (I 76 2)] (mm L X I J)) (fun v m' => runI call iX12_beginsAnew (76, [some (.ref 72), u1], v.toList ++ [], m')) := by
  refine Eq.trans (st1 dX12_beginsAnew_59 rfl rfl) ?_
  refine Eq.trans (getRm dX12_beginsAnew_60 cp_12_40 ka_72 rfl r_72_17) ?_
  refine Eq.trans (st1 dX12_beginsAnew_63 rfl rfl) ?_
  refine Eq.trans (getRm dX12_beginsAnew_64 cp_12_43 ka_72 rfl r_72_18) ?_
  refine Eq.trans (st1 dX12_beginsAnew_67 rfl rfl) ?_
  refine Eq.trans (getRm dX12_beginsAnew_68 cp_12_23 ka_72 rfl r_72_12) ?_
  refine Eq.trans (xiconst dX12_beginsAnew_71 ci_2) ?_
  refine Eq.trans (al1c dX12_beginsAnew_72 ka_76 (by decide +kernel) nc_2) ?_
  exact is2 dX12_beginsAnew_73 cp_12_195 (Nat.le_of_ble_eq_true rfl) rfl rfl (Nat.le_of_ble_eq_true rfl)
theorem q_X12_beginsAnew_76 {call : CALL} {L X : Nat} {I : Nat → Nat → Int32} {J : Nat → Nat → Int64} {u1 : Option Value} : runI call iX12_beginsAnew (76, [some (.ref 72), u1], [], (mm L X I J)) = runI call iX12_beginsAnew (88, [some (.ref 72), some (.int (nI 0))], [], (mm L X (up2 I 72 39 (I 76 1)) J)) := by
  refine Eq.trans (st1 dX12_beginsAnew_76 rfl rfl) ?_
  refine Eq.trans (st1 dX12_beginsAnew_77 rfl rfl) ?_
  refine Eq.trans (getRm dX12_beginsAnew_78 cp_12_23 ka_72 rfl r_72_12) ?_
  refine Eq.trans (xiconst dX12_beginsAnew_81 ci_1) ?_
  refine Eq.trans (al1c dX12_beginsAnew_82 ka_76 (by decide +kernel) nc_1) ?_
  refine Eq.trans (putIm dX12_beginsAnew_83 cp_12_199 ka_72 rfl) ?_
  refine Eq.trans (xiconst dX12_beginsAnew_86 ci_0) ?_
  refine Eq.trans (st1 dX12_beginsAnew_87 rfl rfl) ?_
  rfl
theorem q_X12_beginsAnew_88 {call : CALL} {L X : Nat} {I : Nat → Nat → Int32} {J : Nat → Nat → Int64} {x1 : Int32} : runI call iX12_beginsAnew (88, [some (.ref 72), some (.int x1)], [], (mm L X I J)) = if (nI 31) ≤ x1 then runI call iX12_beginsAnew (109, [some (.ref 72), some (.int (nI 0))], [], (mm L X I J)) else gd (inb x1 31) (runI call iX12_beginsAnew (88, [some (.ref 72), some (.int (x1 + (nI 1)))], [], (mm L X (up2 I 533 (x1).toNatClampNeg (nI 0)) J))) := by
  refine Eq.trans (st1 dX12_beginsAnew_88 rfl rfl) ?_
  refine Eq.trans (xbipush dX12_beginsAnew_89 cb_31) ?_
  refine Eq.trans (ic_ge (tgt := 107) dX12_beginsAnew_91 (by decide +kernel)) (ite_cong (fun _ => ?_) (fun _ => ?_))
  · refine Eq.trans (xiconst dX12_beginsAnew_107 ci_0) ?_
    refine Eq.trans (st1 dX12_beginsAnew_108 rfl rfl) ?_
    rfl
  · refine Eq.trans (st1 dX12_beginsAnew_94 rfl rfl) ?_
    refine Eq.trans (getRm dX12_beginsAnew_95 cp_12_67 ka_72 rfl r_72_29) ?_
    refine Eq.trans (st1 dX12_beginsAnew_98 rfl rfl) ?_
    refine Eq.trans (xiconst dX12_beginsAnew_99 ci_0) ?_
    refine Eq.trans (as1m dX12_beginsAnew_100 ka_533) (gd_congr fun g1 => ?_)
    refine Eq.trans (xinc2 dX12_beginsAnew_101 ci_1 rfl (Nat.le_of_ble_eq_true rfl) rfl) ?_
    refine Eq.trans (go_to (tgt := 88) dX12_beginsAnew_104 (by decide +kernel)) ?_
    rfl
theorem q_X12_beginsAnew_109 {call : CALL} {L X : Nat} {I : Nat → Nat → Int32} {J : Nat → Nat → Int64} {x1 : Int32} : runI call iX12_beginsAnew (109, [some (.ref 72), some (.int x1)], [], (mm L X I J)) = if (nI 6) ≤ x1 then runI call iX12_beginsAnew (132, [some (.ref 72), some (.int (nI 0))], [], (mm L X I J)) else gd (inb ((nI 0) + x1) 31) (runI call iX12_beginsAnew (109, [some (.ref 72), some (.int (x1 + (nI 1)))], [], (mm L X (up2 I 533 (((nI 0) + x1)).toNatClampNeg (-1 : Int32)) J))) := by
  refine Eq.trans (st1 dX12_beginsAnew_109 rfl rfl) ?_
  refine Eq.trans (xbipush dX12_beginsAnew_110 cb_6) ?_
  refine Eq.trans (ic_ge (tgt := 130) dX12_beginsAnew_112 (by decide +kernel)) (ite_cong (fun _ => ?_) (fun _ => ?_))
  · refine Eq.trans (xiconst dX12_beginsAnew_130 ci_0) ?_
    refine Eq.trans (st1 dX12_beginsAnew_131 rfl rfl) ?_
    rfl
  · refine Eq.trans (st1 dX12_beginsAnew_115 rfl rfl) ?_
    refine Eq.trans (getRm dX12_beginsAnew_116 cp_12_67 ka_72 rfl r_72_29) ?_
    refine Eq.trans (xiconst dX12_beginsAnew_119 ci_0) ?_
    refine Eq.trans (st1 dX12_beginsAnew_120 rfl rfl) ?_
    refine Eq.trans (st1 dX12_beginsAnew_121 rfl rfl) ?_
    refine Eq.trans (xiconst dX12_beginsAnew_122 ci_m1) ?_
    refine Eq.trans (as1m dX12_beginsAnew_123 ka_533) (gd_congr fun g1 => ?_)
    refine Eq.trans (xinc2 dX12_beginsAnew_124 ci_1 rfl (Nat.le_of_ble_eq_true rfl) rfl) ?_
    refine Eq.trans (go_to (tgt := 109) dX12_beginsAnew_127 (by decide +kernel)) ?_
    rfl
theorem q_X12_beginsAnew_132 {call : CALL} {L X : Nat} {I : Nat → Nat → Int32} {J : Nat → Nat → Int64} {x1 : Int32} : runI call iX12_beginsAnew (132, [some (.ref 72), some (.int x1)], [], (mm L X I J)) = if (nI 5) ≤ x1 then runI call iX12_beginsAnew (181, [some (.ref 72), some (.int x1)], [], (mm L X (up2 (up2 (up2 (up2 I 533 29 (I 76 3)) 72 19 (nI 0)) 72 34 (nI 0)) 72 35 (nI 0)) J)) else gd (inb ((nI 24) + x1) 31) (runI call iX12_beginsAnew (132, [some (.ref 72), some (.int (x1 + (nI 1)))], [], (mm L X (up2 I 533 (((nI 24) + x1)).toNatClampNeg (-1 : Int32)) J))) := by
  refine Eq.trans (st1 dX12_beginsAnew_132 rfl rfl) ?_
  refine Eq.trans (xiconst dX12_beginsAnew_133 ci_5) ?_
  refine Eq.trans (ic_ge (tgt := 153) dX12_beginsAnew_134 (by decide +kernel)) (ite_cong (fun _ => ?_) (fun _ => ?_))
  · refine Eq.trans (st1 dX12_beginsAnew_153 rfl rfl) ?_
    refine Eq.trans (getRm dX12_beginsAnew_154 cp_12_67 ka_72 rfl r_72_29) ?_
    refine Eq.trans (xbipush dX12_beginsAnew_157 cb_29) ?_
    refine Eq.trans (st1 dX12_beginsAnew_159 rfl rfl) ?_
    refine Eq.trans (getRm dX12_beginsAnew_160 cp_12_23 ka_72 rfl r_72_12) ?_
    refine Eq.trans (xiconst dX12_beginsAnew_163 ci_3) ?_
    refine Eq.trans (al1c dX12_beginsAnew_164 ka_76 (by decide +kernel) nc_3) ?_
    refine Eq.trans (as1c dX12_beginsAnew_165 ka_533 (by decide +kernel) nc_29) ?_
    refine Eq.trans (st1 dX12_beginsAnew_166 rfl rfl) ?_
    refine Eq.trans (xiconst dX12_beginsAnew_167 ci_0) ?_
    refine Eq.trans (putIm dX12_beginsAnew_168 cp_12_202 ka_72 rfl) ?_
    refine Eq.trans (st1 dX12_beginsAnew_171 rfl rfl) ?_
    refine Eq.trans (xiconst dX12_beginsAnew_172 ci_0) ?_
    refine Eq.trans (putIm dX12_beginsAnew_173 cp_12_205 ka_72 rfl) ?_
    refine Eq.trans (st1 dX12_beginsAnew_176 rfl rfl) ?_
    refine Eq.trans (xiconst dX12_beginsAnew_177 ci_0) ?_
    refine Eq.trans (putIm dX12_beginsAnew_178 cp_12_208 ka_72 rfl) ?_
    rfl
  · refine Eq.trans (st1 dX12_beginsAnew_137 rfl rfl) ?_
    refine Eq.trans (getRm dX12_beginsAnew_138 cp_12_67 ka_72 rfl r_72_29) ?_
    refine Eq.trans (xbipush dX12_beginsAnew_141 cb_24) ?_
    refine Eq.trans (st1 dX12_beginsAnew_143 rfl rfl) ?_
    refine Eq.trans (st1 dX12_beginsAnew_144 rfl rfl) ?_
    refine Eq.trans (xiconst dX12_beginsAnew_145 ci_m1) ?_
    refine Eq.trans (as1m dX12_beginsAnew_146 ka_533) (gd_congr fun g1 => ?_)
    refine Eq.trans (xinc2 dX12_beginsAnew_147 ci_1 rfl (Nat.le_of_ble_eq_true rfl) rfl) ?_
    refine Eq.trans (go_to (tgt := 132) dX12_beginsAnew_150 (by decide +kernel)) ?_
    rfl
theorem q_X12_beginsAnew_181 {call : CALL} {L X : Nat} {I : Nat → Nat → Int32} {J : Nat → Nat → Int64} {u1 : Option Value} : runI call iX12_beginsAnew (181, [some (.ref 72), u1], [], (mm L X I J)) = some (.inl none, (mm L X (up2 (up2 I 72 36 (nI 0)) 72 37 (nI 0)) J)) := by
  refine Eq.trans (st1 dX12_beginsAnew_181 rfl rfl) ?_
  refine Eq.trans (xiconst dX12_beginsAnew_182 ci_0) ?_
  refine Eq.trans (putIm dX12_beginsAnew_183 cp_12_211 ka_72 rfl) ?_
  refine Eq.trans (st1 dX12_beginsAnew_186 rfl rfl) ?_
  refine Eq.trans (xiconst dX12_beginsAnew_187 ci_0) ?_
  refine Eq.trans (putIm dX12_beginsAnew_188 cp_12_214 ka_72 rfl) ?_
  exact ret3 dX12_beginsAnew_191 (.inl rfl)
theorem q_X12_lays_0 {call : CALL} {L X : Nat} {I : Nat → Nat → Int32} {J : Nat → Nat → Int64} {g0 : Nat} {n0 : Nat} {w0 : Nat} {g1 : Nat} {n1 : Nat} {w1 : Nat} {x2 : Int32} (k0 : gr g0 n0 w0) (k1 : gr g1 n1 w1) : runI call iX12_lays (0, [some (.ref g0), some (.ref g1), some (.int x2), none, none], [], (mm L X I J)) = runI call iX12_lays (2, [some (.ref g0), some (.ref g1), some (.int x2), some (.int (nI 0)), none], [], (mm L X I J)) := by
  refine Eq.trans (xiconst dX12_lays_0 ci_0) ?_
  refine Eq.trans (st1 dX12_lays_1 rfl rfl) ?_
  rfl
theorem q_X12_lays_2 {call : CALL} {L X : Nat} {I : Nat → Nat → Int32} {J : Nat → Nat → Int64} {g0 : Nat} {n0 : Nat} {w0 : Nat} {g1 : Nat} {n1 : Nat} {w1 : Nat} {x2 : Int32} {x3 : Int32} {u4 : Option Value} (k0 : gr g0 n0 w0) (k1 : gr g1 n1 w1) : runI call iX12_lays (2, [some (.ref g0), some (.ref g1), some (.int x2), some (.int x3), u4], [], (mm L X I J)) = if x2 ≤ x3 then some (.inl none, (mm L X I J)) else runI call iX12_lays (10, [some (.ref g0), some (.ref g1), some (.int x2), some (.int x3), some (.int (nI 0))], [], (mm L X I J)) := by
  refine Eq.trans (st1 dX12_lays_2 rfl rfl) ?_
  refine Eq.trans (st1 dX12_lays_3 rfl rfl) ?_
  refine Eq.trans (ic_ge (tgt := 43) dX12_lays_4 (by decide +kernel)) (ite_cong (fun _ => ?_) (fun _ => ?_))
  · exact ret3 dX12_lays_43 (.inl rfl)
  · refine Eq.trans (xiconst dX12_lays_7 ci_0) ?_
    refine Eq.trans (st1 dX12_lays_8 rfl rfl) ?_
    rfl
theorem q_X12_lays_10 {call : CALL} {L X : Nat} {I : Nat → Nat → Int32} {J : Nat → Nat → Int64} {g0 : Nat} {n0 : Nat} {w0 : Nat} {g1 : Nat} {n1 : Nat} {w1 : Nat} {x2 : Int32} {x3 : Int32} {x4 : Int32} (k0 : gr g0 n0 w0) (k1 : gr g1 n1 w1) : runI call iX12_lays (10, [some (.ref g0), some (.ref g1), some (.int x2), some (.int x3), some (.int x4)], [], (mm L X I J)) = gd (inb x3 n1) (if (nI w1) ≤ x4 then runI call iX12_lays (2, [some (.ref g0), some (.ref g1), some (.int x2), some (.int (x3 + (nI 1))), some (.int x4)], [], (mm L X I J)) else gd (inb x3 n0) (gd (inb x4 w0) (gd (inb x4 w1) (runI call iX12_lays (10, [some (.ref g0), some (.ref g1), some (.int x2), some (.int x3), some (.int (x4 + (nI 1)))], [], (mm L X (up2 I (g1 + 1 + (x3).toNatClampNeg) (x4).toNatClampNeg (I (g0 + 1 + (x3).toNatClampNeg) (x4).toNatClampNeg)) J)))))) := by
  refine Eq.trans (st1 dX12_lays_10 rfl rfl) ?_
  refine Eq.trans (st1 dX12_lays_12 rfl rfl) ?_
  refine Eq.trans (st1 dX12_lays_13 rfl rfl) ?_
  refine Eq.trans (al4m dX12_lays_14 k1.1 k1.2.1) (gd_congr fun g1 => ?_)
  refine Eq.trans (alen dX12_lays_15 (kd_ka (k1.2.2 _ (inb_lt g1))) (.inl ⟨(k1.2.2 _ (inb_lt g1)).1, by decide⟩)) ?_
  refine Eq.trans (ic_ge (tgt := 37) dX12_lays_16 (by decide +kernel)) (ite_cong (fun _ => ?_) (fun _ => ?_))
  · refine Eq.trans (xinc2 dX12_lays_37 ci_1 rfl (Nat.le_of_ble_eq_true rfl) rfl) ?_
    refine Eq.trans (go_to (tgt := 2) dX12_lays_40 (by decide +kernel)) ?_
    rfl
  · refine Eq.trans (st1 dX12_lays_19 rfl rfl) ?_
    refine Eq.trans (st1 dX12_lays_20 rfl rfl) ?_
    refine Eq.trans (al4m dX12_lays_21 k1.1 k1.2.1) (Eq.trans (gd_t g1) ?_)
    refine Eq.trans (st1 dX12_lays_22 rfl rfl) ?_
    refine Eq.trans (st1 dX12_lays_24 rfl rfl) ?_
    refine Eq.trans (st1 dX12_lays_25 rfl rfl) ?_
    refine Eq.trans (al4m dX12_lays_26 k0.1 k0.2.1) (gd_congr fun g2 => ?_)
    refine Eq.trans (st1 dX12_lays_27 rfl rfl) ?_
    refine Eq.trans (al1m dX12_lays_29 (k0.2.2 _ (inb_lt g2))) (gd_congr fun g3 => ?_)
    refine Eq.trans (as1m dX12_lays_30 (k1.2.2 _ (inb_lt g1))) (gd_congr fun g4 => ?_)
    refine Eq.trans (xinc2 dX12_lays_31 ci_1 rfl (Nat.le_of_ble_eq_true rfl) rfl) ?_
    refine Eq.trans (go_to (tgt := 10) dX12_lays_34 (by decide +kernel)) ?_
    rfl
theorem q_X12_thrown_0 {call : CALL} {L X : Nat} {I : Nat → Nat → Int32} {J : Nat → Nat → Int64}  : runI call iX12_thrown (0, [some (.ref 72)], [], (mm L X I J)) = some (.inl (some (.int (I 72 0))), (mm L X I J)) := by
  refine Eq.trans (st1 dX12_thrown_0 rfl rfl) ?_
  refine Eq.trans (getIm dX12_thrown_1 cp_12_103 ka_72 (.inl rfl)) ?_
  exact ret0 dX12_thrown_4 rfl
theorem q_X12_feed_0 {call : CALL} {L X : Nat} {I : Nat → Nat → Int32} {J : Nat → Nat → Int64} {x1 : Int32} {x2 : Int32} {x3 : Int32} {x4 : Int32} {x5 : Int32} : runI call iX12_feed (0, [some (.ref 72), some (.int x1), some (.int x2), some (.int x3), some (.int x4), some (.int x5), none, none], [], (mm L X I J)) = if (((up2 I 72 0 (nI 0)) 72 1) + (nI 20)) ≤ (nI 600) then runI call iX12_feed (23, [some (.ref 72), some (.int x1), some (.int x2), some (.int x3), some (.int x4), some (.int x5), some (.int (nI 0)), none], [], (mm L X (up2 I 72 0 (nI 0)) J)) else some (.inl (some (.int (-1 : Int32))), (mm L X (up2 I 72 0 (nI 0)) J)) := by
  refine Eq.trans (st1 dX12_feed_0 rfl rfl) ?_
  refine Eq.trans (xiconst dX12_feed_1 ci_0) ?_
  refine Eq.trans (putIm dX12_feed_2 cp_12_103 ka_72 rfl) ?_
  refine Eq.trans (st1 dX12_feed_5 rfl rfl) ?_
  refine Eq.trans (getIm dX12_feed_6 cp_12_106 ka_72 (.inl rfl)) ?_
  refine Eq.trans (xbipush dX12_feed_9 cb_20) ?_
  refine Eq.trans (st1 dX12_feed_11 rfl rfl) ?_
  refine Eq.trans (xsipush dX12_feed_12 cs_600) ?_
  refine Eq.trans (ic_le (tgt := 20) dX12_feed_15 (by decide +kernel)) (ite_cong (fun _ => ?_) (fun _ => ?_))
  · refine Eq.trans (xiconst dX12_feed_20 ci_0) ?_
    refine Eq.trans (st1 dX12_feed_21 rfl rfl) ?_
    rfl
  · refine Eq.trans (xiconst dX12_feed_18 ci_m1) ?_
    exact ret0 dX12_feed_19 rfl
theorem q_X12_feed_23 {call : CALL} {L X : Nat} {I : Nat → Nat → Int32} {J : Nat → Nat → Int64} {x1 : Int32} {x2 : Int32} {x3 : Int32} {x4 : Int32} {x5 : Int32} {x6 : Int32} {u7 : Option Value} : runI call iX12_feed (23, [some (.ref 72), some (.int x1), some (.int x2), some (.int x3), some (.int x4), some (.int x5), some (.int x6), u7], [], (mm L X I J)) = if (nI 20) ≤ x6 then some (.inl (some (.int (I 72 1))), (mm L X I J)) else if (nI 4) ≤ x6 then if (nI 8) ≤ x6 then if (nI 12) ≤ x6 then if (nI 16) ≤ x6 then runI call iX12_feed (76, [some (.ref 72), some (.int x1), some (.int x2), some (.int x3), some (.int x4), some (.int x5), some (.int x6), u7], [.int x5], (mm L X I J)) else runI call iX12_feed (76, [some (.ref 72), some (.int x1), some (.int x2), some (.int x3), some (.int x4), some (.int x5), some (.int x6), u7], [.int x4], (mm L X I J)) else runI call iX12_feed (76, [some (.ref 72), some (.int x1), some (.int x2), some (.int x3), some (.int x4), some (.int x5), some (.int x6), u7], [.int x3], (mm L X I J)) else runI call iX12_feed (76, [some (.ref 72), some (.int x1), some (.int x2), some (.int x3), some (.int x4), some (.int x5), some (.int x6), u7], [.int x2], (mm L X I J)) else runI call iX12_feed (76, [some (.ref 72), some (.int x1), some (.int x2), some (.int x3), some (.int x4), some (.int x5), some (.int x6), u7], [.int x1], (mm L X I J)) := by
  refine Eq.trans (st1 dX12_feed_23 rfl rfl) ?_
  refine Eq.trans (xbipush dX12_feed_25 cb_20) ?_
  refine Eq.trans (ic_ge (tgt := 120) dX12_feed_27 (by decide +kernel)) (ite_cong (fun _ => ?_) (fun _ => ?_))
  · refine Eq.trans (st1 dX12_feed_120 rfl rfl) ?_
    refine Eq.trans (getIm dX12_feed_121 cp_12_106 ka_72 (.inl rfl)) ?_
    exact ret0 dX12_feed_124 rfl
  · refine Eq.trans (st1 dX12_feed_30 rfl rfl) ?_
    refine Eq.trans (xiconst dX12_feed_32 ci_4) ?_
    refine Eq.trans (ic_ge (tgt := 40) dX12_feed_33 (by decide +kernel)) (ite_cong (fun _ => ?_) (fun _ => ?_))
    · refine Eq.trans (st1 dX12_feed_40 rfl rfl) ?_
      refine Eq.trans (xbipush dX12_feed_42 cb_8) ?_
      refine Eq.trans (ic_ge (tgt := 51) dX12_feed_44 (by decide +kernel)) (ite_cong (fun _ => ?_) (fun _ => ?_))
      · refine Eq.trans (st1 dX12_feed_51 rfl rfl) ?_
        refine Eq.trans (xbipush dX12_feed_53 cb_12) ?_
        refine Eq.trans (ic_ge (tgt := 62) dX12_feed_55 (by decide +kernel)) (ite_cong (fun _ => ?_) (fun _ => ?_))
        · refine Eq.trans (st1 dX12_feed_62 rfl rfl) ?_
          refine Eq.trans (xbipush dX12_feed_64 cb_16) ?_
          refine Eq.trans (ic_ge (tgt := 74) dX12_feed_66 (by decide +kernel)) (ite_cong (fun _ => ?_) (fun _ => ?_))
          · refine Eq.trans (st1 dX12_feed_74 rfl rfl) ?_
            rfl
          · refine Eq.trans (st1 dX12_feed_69 rfl rfl) ?_
            refine Eq.trans (go_to (tgt := 76) dX12_feed_71 (by decide +kernel)) ?_
            rfl
        · refine Eq.trans (st1 dX12_feed_58 rfl rfl) ?_
          refine Eq.trans (go_to (tgt := 76) dX12_feed_59 (by decide +kernel)) ?_
          rfl
      · refine Eq.trans (st1 dX12_feed_47 rfl rfl) ?_
        refine Eq.trans (go_to (tgt := 76) dX12_feed_48 (by decide +kernel)) ?_
        rfl
    · refine Eq.trans (st1 dX12_feed_36 rfl rfl) ?_
      refine Eq.trans (go_to (tgt := 76) dX12_feed_37 (by decide +kernel)) ?_
      rfl
theorem q_X12_feed_76 {call : CALL} {L X : Nat} {I : Nat → Nat → Int32} {J : Nat → Nat → Int64} {x1 : Int32} {x2 : Int32} {x3 : Int32} {x4 : Int32} {x5 : Int32} {x6 : Int32} {u7 : Option Value} {s0 : Int32} : runI call iX12_feed (76, [some (.ref 72), some (.int x1), some (.int x2), some (.int x3), some (.int x4), some (.int x5), some (.int x6), u7], [.int s0], (mm L X I J)) = gd (inb (I 72 1) 600) (runI call iX12_feed (23, [some (.ref 72), some (.int x1), some (.int x2), some (.int x3), some (.int x4), some (.int x5), some (.int (x6 + (nI 1))), some (.int s0)], [], (mm L X (up2 (up2 I 73 ((I 72 1)).toNatClampNeg ((s0 >>> (((nI 24) - ((nI 8) * (x6 - x6 / (nI 4) * (nI 4)))) &&& 31)) &&& (nI 255))) 72 1 (((up2 I 73 ((I 72 1)).toNatClampNeg ((s0 >>> (((nI 24) - ((nI 8) * (x6 - x6 / (nI 4) * (nI 4)))) &&& 31)) &&& (nI 255))) 72 1) + (nI 1))) J))) := by
  refine Eq.trans (st1 dX12_feed_76 rfl rfl) ?_
  refine Eq.trans (st1 dX12_feed_78 rfl rfl) ?_
  refine Eq.trans (getRm dX12_feed_79 cp_12_13 ka_72 rfl r_72_9) ?_
  refine Eq.trans (st1 dX12_feed_82 rfl rfl) ?_
  refine Eq.trans (getIm dX12_feed_83 cp_12_106 ka_72 (.inl rfl)) ?_
  refine Eq.trans (st1 dX12_feed_86 rfl rfl) ?_
  refine Eq.trans (xbipush dX12_feed_88 cb_24) ?_
  refine Eq.trans (xbipush dX12_feed_90 cb_8) ?_
  refine Eq.trans (st1 dX12_feed_92 rfl rfl) ?_
  refine Eq.trans (xiconst dX12_feed_94 ci_4) ?_
  refine Eq.trans (irm dX12_feed_95 (by decide +kernel)) ?_
  refine Eq.trans (st1 dX12_feed_96 rfl rfl) ?_
  refine Eq.trans (st1 dX12_feed_97 rfl rfl) ?_
  refine Eq.trans (st1 dX12_feed_98 rfl rfl) ?_
  refine Eq.trans (xsipush dX12_feed_99 cs_255) ?_
  refine Eq.trans (st1 dX12_feed_102 rfl rfl) ?_
  refine Eq.trans (as1m dX12_feed_103 ka_73) (gd_congr fun g1 => ?_)
  refine Eq.trans (st1 dX12_feed_104 rfl rfl) ?_
  refine Eq.trans (st1 dX12_feed_105 rfl rfl) ?_
  refine Eq.trans (getIm dX12_feed_106 cp_12_106 ka_72 (.inl rfl)) ?_
  refine Eq.trans (xiconst dX12_feed_109 ci_1) ?_
  refine Eq.trans (st1 dX12_feed_110 rfl rfl) ?_
  refine Eq.trans (putIm dX12_feed_111 cp_12_106 ka_72 rfl) ?_
  refine Eq.trans (xinc2 dX12_feed_114 ci_1 rfl (Nat.le_of_ble_eq_true rfl) rfl) ?_
  refine Eq.trans (go_to (tgt := 23) dX12_feed_117 (by decide +kernel)) ?_
  rfl
theorem q_X12_house_0 {call : CALL} {L X : Nat} {I : Nat → Nat → Int32} {J : Nat → Nat → Int64} {x1 : Int32} : runI call iX12_house (0, [some (.ref 72), some (.int x1)], [], (mm L X I J)) = bndN (call nX12_in [.int x1, .int (nI 0), .int ((up2 I 72 0 (nI 0)) 72 1)] (mm L X (up2 I 72 0 (nI 0)) J)) (fun v m' => runI call iX12_house (15, [some (.ref 72), some (.int x1)], v.toList ++ [.ref 72], m')) := by
  refine Eq.trans (st1 dX12_house_0 rfl rfl) ?_
  refine Eq.trans (xiconst dX12_house_1 ci_0) ?_
  refine Eq.trans (putIm dX12_house_2 cp_12_103 ka_72 rfl) ?_
  refine Eq.trans (st1 dX12_house_5 rfl rfl) ?_
  refine Eq.trans (st1 dX12_house_6 rfl rfl) ?_
  refine Eq.trans (xiconst dX12_house_7 ci_0) ?_
  refine Eq.trans (st1 dX12_house_8 rfl rfl) ?_
  refine Eq.trans (getIm dX12_house_9 cp_12_106 ka_72 (.inl rfl)) ?_
  exact is2 dX12_house_12 cp_12_137 (Nat.le_of_ble_eq_true rfl) rfl rfl (Nat.le_of_ble_eq_true rfl)
theorem q_X12_house_15 {call : CALL} {L X : Nat} {I : Nat → Nat → Int32} {J : Nat → Nat → Int64} {x1 : Int32} {s1 : Int32} : runI call iX12_house (15, [some (.ref 72), some (.int x1)], [.int s1, .ref 72], (mm L X I J)) = if s1 = (nI 0) then runI call iX12_house (23, [some (.ref 72), some (.int x1)], [.int (nI 1), .ref 72], (mm L X I J)) else runI call iX12_house (23, [some (.ref 72), some (.int x1)], [.int (nI 0), .ref 72], (mm L X I J)) := by
  refine Eq.trans (if_ne (tgt := 22) dX12_house_15 (by decide +kernel)) (ite_cong (fun _ => ?_) (fun _ => ?_))
  · refine Eq.trans (xiconst dX12_house_18 ci_1) ?_
    refine Eq.trans (go_to (tgt := 23) dX12_house_19 (by decide +kernel)) ?_
    rfl
  · refine Eq.trans (xiconst dX12_house_22 ci_0) ?_
    rfl
theorem q_X12_house_23 {call : CALL} {L X : Nat} {I : Nat → Nat → Int32} {J : Nat → Nat → Int64} {x1 : Int32} {s1 : Int32} : runI call iX12_house (23, [some (.ref 72), some (.int x1)], [.int s1, .ref 72], (mm L X I J)) = bnd (call nX12_bad [.ref 72, .int s1, .int (nI 1), .int (nI 1)] (mm L X I J)) (fun v m' => runI call iX12_house (28, [some (.ref 72), some (.int x1)], v.toList ++ [], m')) := by
  refine Eq.trans (xiconst dX12_house_23 ci_1) ?_
  refine Eq.trans (xiconst dX12_house_24 ci_1) ?_
  exact iv0 dX12_house_25 rfl cp_12_182 rfl rfl (kd_ka ka_72) ka_72.1 (Nat.le_of_ble_eq_true rfl)
theorem q_X12_house_28 {call : CALL} {L X : Nat} {I : Nat → Nat → Int32} {J : Nat → Nat → Int64} {x1 : Int32} {s0 : Int32} : runI call iX12_house (28, [some (.ref 72), some (.int x1)], [.int s0], (mm L X I J)) = if s0 = (nI 0) then bnd (call nX12_starts [.ref 72, .int x1] (mm L X I J)) (fun v m' => runI call iX12_house (38, [some (.ref 72), some (.int x1)], v.toList ++ [], m')) else some (.inl (some (.int (nI 0))), (mm L X I J)) := by
  refine Eq.trans (if_eq (tgt := 33) dX12_house_28 (by decide +kernel)) (ite_cong (fun _ => ?_) (fun _ => ?_))
  · refine Eq.trans (st1 dX12_house_33 rfl rfl) ?_
    refine Eq.trans (st1 dX12_house_34 rfl rfl) ?_
    exact iv0 dX12_house_35 rfl cp_12_186 rfl rfl (kd_ka ka_72) ka_72.1 (Nat.le_of_ble_eq_true rfl)
  · refine Eq.trans (xiconst dX12_house_31 ci_0) ?_
    exact ret0 dX12_house_32 rfl
theorem q_X12_house_38 {call : CALL} {L X : Nat} {I : Nat → Nat → Int32} {J : Nat → Nat → Int64} {u1 : Option Value} : runI call iX12_house (38, [some (.ref 72), u1], [], (mm L X I J)) = bnd (call nX12_tellsNothing [.ref 72] (mm L X I J)) (fun v m' => runI call iX12_house (42, [some (.ref 72), u1], v.toList ++ [], m')) := by
  refine Eq.trans (st1 dX12_house_38 rfl rfl) ?_
  exact iv0 dX12_house_39 rfl cp_12_97 rfl rfl (kd_ka ka_72) ka_72.1 (Nat.le_of_ble_eq_true rfl)
theorem q_X12_house_42 {call : CALL} {L X : Nat} {I : Nat → Nat → Int32} {J : Nat → Nat → Int64} {u1 : Option Value} : runI call iX12_house (42, [some (.ref 72), u1], [], (mm L X I J)) = if (I 72 5) = (nI 0) then if (I 72 2) ≤ (I 72 4) then runI call iX12_house (71, [some (.ref 72), u1], [], (mm L X I J)) else bnd (call nX12_clause [.ref 72] (mm L X I J)) (fun v m' => runI call iX12_house (64, [some (.ref 72), u1], v.toList ++ [], m')) else runI call iX12_house (71, [some (.ref 72), u1], [], (mm L X I J)) := by
  refine Eq.trans (st1 dX12_house_42 rfl rfl) ?_
  refine Eq.trans (getIm dX12_house_43 cp_12_119 ka_72 (.inl rfl)) ?_
  refine Eq.trans (if_ne (tgt := 71) dX12_house_46 (by decide +kernel)) (ite_cong (fun _ => ?_) (fun _ => ?_))
  · refine Eq.trans (st1 dX12_house_49 rfl rfl) ?_
    refine Eq.trans (getIm dX12_house_50 cp_12_112 ka_72 (.inl rfl)) ?_
    refine Eq.trans (st1 dX12_house_53 rfl rfl) ?_
    refine Eq.trans (getIm dX12_house_54 cp_12_109 ka_72 (.inl rfl)) ?_
    refine Eq.trans (ic_ge (tgt := 71) dX12_house_57 (by decide +kernel)) (ite_cong (fun _ => ?_) (fun _ => ?_))
    · rfl
    · refine Eq.trans (st1 dX12_house_60 rfl rfl) ?_
      exact iv0 dX12_house_61 rfl cp_12_189 rfl rfl (kd_ka ka_72) ka_72.1 (Nat.le_of_ble_eq_true rfl)
  · rfl
theorem q_X12_house_71 {call : CALL} {L X : Nat} {I : Nat → Nat → Int32} {J : Nat → Nat → Int64} {u1 : Option Value} : runI call iX12_house (71, [some (.ref 72), u1], [], (mm L X I J)) = if (I 72 5) = (nI 0) then bnd (call nX12_beginsAnew [.ref 72] (mm L X (up2 I 72 3 (-1 : Int32)) J)) (fun v m' => runI call iX12_house (92, [some (.ref 72), u1], v.toList ++ [], m')) else bnd (call nX12_ends [.ref 72] (mm L X I J)) (fun v m' => runI call iX12_house (82, [some (.ref 72), u1], v.toList ++ [], m')) := by
  refine Eq.trans (st1 dX12_house_71 rfl rfl) ?_
  refine Eq.trans (getIm dX12_house_72 cp_12_119 ka_72 (.inl rfl)) ?_
  refine Eq.trans (if_eq (tgt := 83) dX12_house_75 (by decide +kernel)) (ite_cong (fun _ => ?_) (fun _ => ?_))
  · refine Eq.trans (st1 dX12_house_83 rfl rfl) ?_
    refine Eq.trans (xiconst dX12_house_84 ci_m1) ?_
    refine Eq.trans (putIm dX12_house_85 cp_12_9 ka_72 rfl) ?_
    refine Eq.trans (st1 dX12_house_88 rfl rfl) ?_
    exact iv0 dX12_house_89 rfl cp_12_100 rfl rfl (kd_ka ka_72) ka_72.1 (Nat.le_of_ble_eq_true rfl)
  · refine Eq.trans (st1 dX12_house_78 rfl rfl) ?_
    exact iv0 dX12_house_79 rfl cp_12_192 rfl rfl (kd_ka ka_72) ka_72.1 (Nat.le_of_ble_eq_true rfl)
theorem q_X12_house_64 {call : CALL} {L X : Nat} {I : Nat → Nat → Int32} {J : Nat → Nat → Int64} {u1 : Option Value} : runI call iX12_house (64, [some (.ref 72), u1], [], (mm L X I J)) = bnd (call nX12_blanks [.ref 72] (mm L X I J)) (fun v m' => runI call iX12_house (68, [some (.ref 72), u1], v.toList ++ [], m')) := by
  refine Eq.trans (st1 dX12_house_64 rfl rfl) ?_
  exact iv0 dX12_house_65 rfl cp_12_125 rfl rfl (kd_ka ka_72) ka_72.1 (Nat.le_of_ble_eq_true rfl)
theorem q_X12_house_92 {call : CALL} {L X : Nat} {I : Nat → Nat → Int32} {J : Nat → Nat → Int64} {u1 : Option Value} : runI call iX12_house (92, [some (.ref 72), u1], [], (mm L X I J)) = some (.inl (some (.int (I 76 0))), (mm L X I J)) := by
  refine Eq.trans (st1 dX12_house_92 rfl rfl) ?_
  refine Eq.trans (getRm dX12_house_93 cp_12_23 ka_72 rfl r_72_12) ?_
  refine Eq.trans (xiconst dX12_house_96 ci_0) ?_
  refine Eq.trans (al1c dX12_house_97 ka_76 (by decide +kernel) nc_0) ?_
  exact ret0 dX12_house_98 rfl
theorem q_X12_house_82 {call : CALL} {L X : Nat} {I : Nat → Nat → Int32} {J : Nat → Nat → Int64} {u0 : Option Value} {u1 : Option Value} {s0 : Int32} : runI call iX12_house (82, [u0, u1], [.int s0], (mm L X I J)) = some (.inl (some (.int s0)), (mm L X I J)) := by
  exact ret0 dX12_house_82 rfl
theorem q_X12_house_68 {call : CALL} {L X : Nat} {I : Nat → Nat → Int32} {J : Nat → Nat → Int64} {u1 : Option Value} : runI call iX12_house (68, [some (.ref 72), u1], [], (mm L X I J)) = runI call iX12_house (42, [some (.ref 72), u1], [], (mm L X I J)) := by
  refine Eq.trans (go_to (tgt := 42) dX12_house_68 (by decide +kernel)) ?_
  rfl
theorem q_X12_in_0 {call : CALL} {L X : Nat} {I : Nat → Nat → Int32} {J : Nat → Nat → Int64} {x0 : Int32} {x1 : Int32} {x2 : Int32} : runI call iX12_in (0, [some (.int x0), some (.int x1), some (.int x2)], [], (mm L X I J)) = if x0 < x1 then some (.inl (some (.int (nI 0))), (mm L X I J)) else if x2 < x0 then some (.inl (some (.int (nI 0))), (mm L X I J)) else some (.inl (some (.int (nI 1))), (mm L X I J)) := by
  refine Eq.trans (st1 dX12_in_0 rfl rfl) ?_
  refine Eq.trans (st1 dX12_in_1 rfl rfl) ?_
  refine Eq.trans (ic_lt (tgt := 14) dX12_in_2 (by decide +kernel)) (ite_cong (fun _ => ?_) (fun _ => ?_))
  · refine Eq.trans (xiconst dX12_in_14 ci_0) ?_
    exact ret1 dX12_in_15 rfl (.inl rfl)
  · refine Eq.trans (st1 dX12_in_5 rfl rfl) ?_
    refine Eq.trans (st1 dX12_in_6 rfl rfl) ?_
    refine Eq.trans (ic_gt (tgt := 14) dX12_in_7 (by decide +kernel)) (ite_cong (fun _ => ?_) (fun _ => ?_))
    · refine Eq.trans (xiconst dX12_in_14 ci_0) ?_
      exact ret1 dX12_in_15 rfl (.inl rfl)
    · refine Eq.trans (xiconst dX12_in_10 ci_1) ?_
      refine Eq.trans (go_to (tgt := 15) dX12_in_11 (by decide +kernel)) ?_
      exact ret1 dX12_in_15 rfl (.inr rfl)
theorem q_X12_bad_0 {call : CALL} {L X : Nat} {I : Nat → Nat → Int32} {J : Nat → Nat → Int64} {x1 : Int32} {x2 : Int32} {x3 : Int32} : runI call iX12_bad (0, [some (.ref 72), some (.int x1), some (.int x2), some (.int x3)], [], (mm L X I J)) = if x1 = (nI 0) then runI call iX12_bad (26, [some (.ref 72), some (.int x1), some (.int x2), some (.int x3)], [], (mm L X I J)) else if (I 72 0) = (nI 0) then gd (inb x3 2) (runI call iX12_bad (26, [some (.ref 72), some (.int x1), some (.int x2), some (.int x3)], [], (mm L X (up2 (up2 I 72 0 x2) 74 (x3).toNatClampNeg (((up2 I 72 0 x2) 74 (x3).toNatClampNeg) + (nI 1))) J))) else runI call iX12_bad (26, [some (.ref 72), some (.int x1), some (.int x2), some (.int x3)], [], (mm L X I J)) := by
  refine Eq.trans (st1 dX12_bad_0 rfl rfl) ?_
  refine Eq.trans (if_eq (tgt := 26) dX12_bad_1 (by decide +kernel)) (ite_cong (fun _ => ?_) (fun _ => ?_))
  · rfl
  · refine Eq.trans (st1 dX12_bad_4 rfl rfl) ?_
    refine Eq.trans (getIm dX12_bad_5 cp_12_103 ka_72 (.inl rfl)) ?_
    refine Eq.trans (if_ne (tgt := 26) dX12_bad_8 (by decide +kernel)) (ite_cong (fun _ => ?_) (fun _ => ?_))
    · refine Eq.trans (st1 dX12_bad_11 rfl rfl) ?_
      refine Eq.trans (st1 dX12_bad_12 rfl rfl) ?_
      refine Eq.trans (putIm dX12_bad_13 cp_12_103 ka_72 rfl) ?_
      refine Eq.trans (st1 dX12_bad_16 rfl rfl) ?_
      refine Eq.trans (getRm dX12_bad_17 cp_12_17 ka_72 rfl r_72_10) ?_
      refine Eq.trans (st1 dX12_bad_20 rfl rfl) ?_
      refine Eq.trans (st1 dX12_bad_21 rfl rfl) ?_
      refine Eq.trans (al1m dX12_bad_22 ka_74) (gd_congr fun g1 => ?_)
      refine Eq.trans (xiconst dX12_bad_23 ci_1) ?_
      refine Eq.trans (st1 dX12_bad_24 rfl rfl) ?_
      refine Eq.trans (as1m dX12_bad_25 ka_74) (Eq.trans (gd_t g1) ?_)
      rfl
    · rfl
theorem q_X12_bad_26 {call : CALL} {L X : Nat} {I : Nat → Nat → Int32} {J : Nat → Nat → Int64} {u1 : Option Value} {u2 : Option Value} {u3 : Option Value} : runI call iX12_bad (26, [some (.ref 72), u1, u2, u3], [], (mm L X I J)) = if (I 72 0) = (nI 0) then some (.inl (some (.int (nI 0))), (mm L X I J)) else some (.inl (some (.int (nI 1))), (mm L X I J)) := by
  refine Eq.trans (st1 dX12_bad_26 rfl rfl) ?_
  refine Eq.trans (getIm dX12_bad_27 cp_12_103 ka_72 (.inl rfl)) ?_
  refine Eq.trans (if_eq (tgt := 37) dX12_bad_30 (by decide +kernel)) (ite_cong (fun _ => ?_) (fun _ => ?_))
  · refine Eq.trans (xiconst dX12_bad_37 ci_0) ?_
    exact ret1 dX12_bad_38 rfl (.inl rfl)
  · refine Eq.trans (xiconst dX12_bad_33 ci_1) ?_
    refine Eq.trans (go_to (tgt := 38) dX12_bad_34 (by decide +kernel)) ?_
    exact ret1 dX12_bad_38 rfl (.inr rfl)
theorem q_X12_starts_0 {call : CALL} {L X : Nat} {I : Nat → Nat → Int32} {J : Nat → Nat → Int64} {x1 : Int32} : runI call iX12_starts (0, [some (.ref 72), some (.int x1)], [], (mm L X I J)) = runI call iX12_starts (20, [some (.ref 72), some (.int x1)], [], (mm L X (up2 (up2 (up2 (up2 I 72 1 (nI 0)) 72 2 x1) 72 4 (nI 0)) 72 5 (nI 0)) J)) := by
  refine Eq.trans (st1 dX12_starts_0 rfl rfl) ?_
  refine Eq.trans (xiconst dX12_starts_1 ci_0) ?_
  refine Eq.trans (putIm dX12_starts_2 cp_12_106 ka_72 rfl) ?_
  refine Eq.trans (st1 dX12_starts_5 rfl rfl) ?_
  refine Eq.trans (st1 dX12_starts_6 rfl rfl) ?_
  refine Eq.trans (putIm dX12_starts_7 cp_12_109 ka_72 rfl) ?_
  refine Eq.trans (st1 dX12_starts_10 rfl rfl) ?_
  refine Eq.trans (xiconst dX12_starts_11 ci_0) ?_
  refine Eq.trans (putIm dX12_starts_12 cp_12_112 ka_72 rfl) ?_
  refine Eq.trans (st1 dX12_starts_15 rfl rfl) ?_
  refine Eq.trans (xiconst dX12_starts_16 ci_0) ?_
  refine Eq.trans (putIm dX12_starts_17 cp_12_119 ka_72 rfl) ?_
  rfl
theorem q_X12_starts_20 {call : CALL} {L X : Nat} {I : Nat → Nat → Int32} {J : Nat → Nat → Int64} {u1 : Option Value} : runI call iX12_starts (20, [some (.ref 72), u1], [], (mm L X I J)) = bnd (call nX12_blanks [.ref 72] (mm L X (up2 (up2 (up2 I 72 6 (-1 : Int32)) 72 7 (nI 0)) 72 8 (nI 0)) J)) (fun v m' => runI call iX12_starts (39, [some (.ref 72), u1], v.toList ++ [], m')) := by
  refine Eq.trans (st1 dX12_starts_20 rfl rfl) ?_
  refine Eq.trans (xiconst dX12_starts_21 ci_m1) ?_
  refine Eq.trans (putIm dX12_starts_22 cp_12_122 ka_72 rfl) ?_
  refine Eq.trans (st1 dX12_starts_25 rfl rfl) ?_
  refine Eq.trans (xiconst dX12_starts_26 ci_0) ?_
  refine Eq.trans (putIm dX12_starts_27 cp_12_159 ka_72 rfl) ?_
  refine Eq.trans (st1 dX12_starts_30 rfl rfl) ?_
  refine Eq.trans (xiconst dX12_starts_31 ci_0) ?_
  refine Eq.trans (putIm dX12_starts_32 cp_12_162 ka_72 rfl) ?_
  refine Eq.trans (st1 dX12_starts_35 rfl rfl) ?_
  exact iv0 dX12_starts_36 rfl cp_12_125 rfl rfl (kd_ka ka_72) ka_72.1 (Nat.le_of_ble_eq_true rfl)
theorem q_X12_starts_39 {call : CALL} {L X : Nat} {I : Nat → Nat → Int32} {J : Nat → Nat → Int64} {u0 : Option Value} {u1 : Option Value} : runI call iX12_starts (39, [u0, u1], [], (mm L X I J)) = some (.inl none, (mm L X I J)) := by
  exact ret3 dX12_starts_39 (.inl rfl)
theorem q_X12_blanks_0 {call : CALL} {L X : Nat} {I : Nat → Nat → Int32} {J : Nat → Nat → Int64}  : runI call iX12_blanks (0, [some (.ref 72)], [], (mm L X I J)) = bnd (call nX12_byteAt [.ref 72, .int (I 72 4)] (mm L X I J)) (fun v m' => runI call iX12_blanks (8, [some (.ref 72)], v.toList ++ [], m')) := by
  refine Eq.trans (st1 dX12_blanks_0 rfl rfl) ?_
  refine Eq.trans (st1 dX12_blanks_1 rfl rfl) ?_
  refine Eq.trans (getIm dX12_blanks_2 cp_12_112 ka_72 (.inl rfl)) ?_
  exact iv0 dX12_blanks_5 rfl cp_12_115 rfl rfl (kd_ka ka_72) ka_72.1 (Nat.le_of_ble_eq_true rfl)
theorem q_X12_blanks_8 {call : CALL} {L X : Nat} {I : Nat → Nat → Int32} {J : Nat → Nat → Int64} {s0 : Int32} : runI call iX12_blanks (8, [some (.ref 72)], [.int s0], (mm L X I J)) = if s0 = (nI 32) then bnd (call nX12_byteAt [.ref 72, .int ((up2 I 72 4 ((I 72 4) + (nI 1))) 72 4)] (mm L X (up2 I 72 4 ((I 72 4) + (nI 1))) J)) (fun v m' => runI call iX12_blanks (8, [some (.ref 72)], v.toList ++ [], m')) else some (.inl none, (mm L X I J)) := by
  refine Eq.trans (xbipush dX12_blanks_8 cb_32) ?_
  refine Eq.trans (ic_ne (tgt := 26) dX12_blanks_10 (by decide +kernel)) (ite_cong (fun _ => ?_) (fun _ => ?_))
  · refine Eq.trans (st1 dX12_blanks_13 rfl rfl) ?_
    refine Eq.trans (st1 dX12_blanks_14 rfl rfl) ?_
    refine Eq.trans (getIm dX12_blanks_15 cp_12_112 ka_72 (.inl rfl)) ?_
    refine Eq.trans (xiconst dX12_blanks_18 ci_1) ?_
    refine Eq.trans (st1 dX12_blanks_19 rfl rfl) ?_
    refine Eq.trans (putIm dX12_blanks_20 cp_12_112 ka_72 rfl) ?_
    refine Eq.trans (go_to (tgt := 0) dX12_blanks_23 (by decide +kernel)) ?_
    refine Eq.trans (st1 dX12_blanks_0 rfl rfl) ?_
    refine Eq.trans (st1 dX12_blanks_1 rfl rfl) ?_
    refine Eq.trans (getIm dX12_blanks_2 cp_12_112 ka_72 (.inl rfl)) ?_
    exact iv0 dX12_blanks_5 rfl cp_12_115 rfl rfl (kd_ka ka_72) ka_72.1 (Nat.le_of_ble_eq_true rfl)
  · exact ret3 dX12_blanks_26 (.inl rfl)
theorem q_X12_byteAt_0 {call : CALL} {L X : Nat} {I : Nat → Nat → Int32} {J : Nat → Nat → Int64} {x1 : Int32} : runI call iX12_byteAt (0, [some (.ref 72), some (.int x1)], [], (mm L X I J)) = if x1 < (I 72 2) then gd (inb x1 600) (some (.inl (some (.int (I 73 (x1).toNatClampNeg))), (mm L X I J))) else some (.inl (some (.int (-1 : Int32))), (mm L X I J)) := by
  refine Eq.trans (st1 dX12_byteAt_0 rfl rfl) ?_
  refine Eq.trans (st1 dX12_byteAt_1 rfl rfl) ?_
  refine Eq.trans (getIm dX12_byteAt_2 cp_12_109 ka_72 (.inl rfl)) ?_
  refine Eq.trans (ic_lt (tgt := 12) dX12_byteAt_5 (by decide +kernel)) (ite_cong (fun _ => ?_) (fun _ => ?_))
  · refine Eq.trans (st1 dX12_byteAt_12 rfl rfl) ?_
    refine Eq.trans (getRm dX12_byteAt_13 cp_12_13 ka_72 rfl r_72_9) ?_
    refine Eq.trans (st1 dX12_byteAt_16 rfl rfl) ?_
    refine Eq.trans (al1m dX12_byteAt_17 ka_73) (gd_congr fun g1 => ?_)
    exact ret0 dX12_byteAt_18 rfl
  · refine Eq.trans (xiconst dX12_byteAt_8 ci_m1) ?_
    refine Eq.trans (go_to (tgt := 18) dX12_byteAt_9 (by decide +kernel)) ?_
    exact ret0 dX12_byteAt_18 rfl
theorem q_X12_clause_0 {call : CALL} {L X : Nat} {I : Nat → Nat → Int32} {J : Nat → Nat → Int64}  : runI call iX12_clause (0, [some (.ref 72), none, none, none, none, none], [], (mm L X I J)) = bnd (call nX12_kindHere [.ref 72] (mm L X I J)) (fun v m' => runI call iX12_clause (4, [some (.ref 72), none, none, none, none, none], v.toList ++ [], m')) := by
  refine Eq.trans (st1 dX12_clause_0 rfl rfl) ?_
  exact iv0 dX12_clause_1 rfl cp_12_169 rfl rfl (kd_ka ka_72) ka_72.1 (Nat.le_of_ble_eq_true rfl)
theorem q_X12_clause_4 {call : CALL} {L X : Nat} {I : Nat → Nat → Int32} {J : Nat → Nat → Int64} {u1 : Option Value} {u2 : Option Value} {u3 : Option Value} {u4 : Option Value} {u5 : Option Value} {s0 : Int32} : runI call iX12_clause (4, [some (.ref 72), u1, u2, u3, u4, u5], [.int s0], (mm L X I J)) = if s0 = (-1 : Int32) then bnd (call nX12_wrong [.ref 72, .int (nI 1), .int (I 72 4)] (mm L X I J)) (fun v m' => runI call iX12_clause (19, [some (.ref 72), some (.int s0), u2, u3, u4, u5], v.toList ++ [], m')) else if (I 72 7) = (nI 60) then runI call iX12_clause (49, [some (.ref 72), some (.int s0), u2, u3, u4, u5], [], (mm L X I J)) else if (nI 3) ≤ s0 then runI call iX12_clause (58, [some (.ref 72), some (.int s0), u2, u3, u4, u5], [], (mm L X I J)) else gd (inb s0 4) (bndN (call nX12_mostOf [.int s0] (mm L X I J)) (fun v m' => runI call iX12_clause (46, [some (.ref 72), some (.int s0), u2, u3, u4, u5], v.toList ++ [.int (I 75 (s0).toNatClampNeg)], m'))) := by
  refine Eq.trans (st1 dX12_clause_4 rfl rfl) ?_
  refine Eq.trans (st1 dX12_clause_5 rfl rfl) ?_
  refine Eq.trans (xiconst dX12_clause_6 ci_m1) ?_
  refine Eq.trans (ic_ne (tgt := 22) dX12_clause_7 (by decide +kernel)) (ite_cong (fun _ => ?_) (fun _ => ?_))
  · refine Eq.trans (st1 dX12_clause_10 rfl rfl) ?_
    refine Eq.trans (xiconst dX12_clause_11 ci_1) ?_
    refine Eq.trans (st1 dX12_clause_12 rfl rfl) ?_
    refine Eq.trans (getIm dX12_clause_13 cp_12_112 ka_72 (.inl rfl)) ?_
    exact iv0 dX12_clause_16 rfl cp_12_132 rfl rfl (kd_ka ka_72) ka_72.1 (Nat.le_of_ble_eq_true rfl)
  · refine Eq.trans (st1 dX12_clause_22 rfl rfl) ?_
    refine Eq.trans (getIm dX12_clause_23 cp_12_159 ka_72 (.inl rfl)) ?_
    refine Eq.trans (xbipush dX12_clause_26 cb_60) ?_
    refine Eq.trans (ic_eq (tgt := 49) dX12_clause_28 (by decide +kernel)) (ite_cong (fun _ => ?_) (fun _ => ?_))
    · rfl
    · refine Eq.trans (st1 dX12_clause_31 rfl rfl) ?_
      refine Eq.trans (xiconst dX12_clause_32 ci_3) ?_
      refine Eq.trans (ic_ge (tgt := 58) dX12_clause_33 (by decide +kernel)) (ite_cong (fun _ => ?_) (fun _ => ?_))
      · rfl
      · refine Eq.trans (st1 dX12_clause_36 rfl rfl) ?_
        refine Eq.trans (getRm dX12_clause_37 cp_12_20 ka_72 rfl r_72_11) ?_
        refine Eq.trans (st1 dX12_clause_40 rfl rfl) ?_
        refine Eq.trans (al1m dX12_clause_41 ka_75) (gd_congr fun g1 => ?_)
        refine Eq.trans (st1 dX12_clause_42 rfl rfl) ?_
        exact is2 dX12_clause_43 cp_12_172 (Nat.le_of_ble_eq_true rfl) rfl rfl (Nat.le_of_ble_eq_true rfl)
theorem q_X12_clause_49 {call : CALL} {L X : Nat} {I : Nat → Nat → Int32} {J : Nat → Nat → Int64} {x1 : Int32} {u2 : Option Value} {u3 : Option Value} {u4 : Option Value} {u5 : Option Value} : runI call iX12_clause (49, [some (.ref 72), some (.int x1), u2, u3, u4, u5], [], (mm L X I J)) = bnd (call nX12_wrong [.ref 72, .int (nI 3), .int (I 72 4)] (mm L X I J)) (fun v m' => runI call iX12_clause (58, [some (.ref 72), some (.int x1), u2, u3, u4, u5], v.toList ++ [], m')) := by
  refine Eq.trans (st1 dX12_clause_49 rfl rfl) ?_
  refine Eq.trans (xiconst dX12_clause_50 ci_3) ?_
  refine Eq.trans (st1 dX12_clause_51 rfl rfl) ?_
  refine Eq.trans (getIm dX12_clause_52 cp_12_112 ka_72 (.inl rfl)) ?_
  exact iv0 dX12_clause_55 rfl cp_12_132 rfl rfl (kd_ka ka_72) ka_72.1 (Nat.le_of_ble_eq_true rfl)
theorem q_X12_clause_58 {call : CALL} {L X : Nat} {I : Nat → Nat → Int32} {J : Nat → Nat → Int64} {x1 : Int32} {u2 : Option Value} {u3 : Option Value} {u4 : Option Value} {u5 : Option Value} : runI call iX12_clause (58, [some (.ref 72), some (.int x1), u2, u3, u4, u5], [], (mm L X I J)) = if (I 72 5) = (nI 0) then bnd (call nX12_skipWord [.ref 72] (mm L X I J)) (fun v m' => runI call iX12_clause (70, [some (.ref 72), some (.int x1), u2, u3, u4, u5], v.toList ++ [], m')) else some (.inl none, (mm L X I J)) := by
  refine Eq.trans (st1 dX12_clause_58 rfl rfl) ?_
  refine Eq.trans (getIm dX12_clause_59 cp_12_119 ka_72 (.inl rfl)) ?_
  refine Eq.trans (if_eq (tgt := 66) dX12_clause_62 (by decide +kernel)) (ite_cong (fun _ => ?_) (fun _ => ?_))
  · refine Eq.trans (st1 dX12_clause_66 rfl rfl) ?_
    exact iv0 dX12_clause_67 rfl cp_12_156 rfl rfl (kd_ka ka_72) ka_72.1 (Nat.le_of_ble_eq_true rfl)
  · exact ret3 dX12_clause_65 (.inl rfl)
theorem q_X12_clause_46 {call : CALL} {L X : Nat} {I : Nat → Nat → Int32} {J : Nat → Nat → Int64} {x1 : Int32} {u2 : Option Value} {u3 : Option Value} {u4 : Option Value} {u5 : Option Value} {s0 : Int32} {s1 : Int32} : runI call iX12_clause (46, [some (.ref 72), some (.int x1), u2, u3, u4, u5], [.int s1, .int s0], (mm L X I J)) = if s0 = s1 then runI call iX12_clause (49, [some (.ref 72), some (.int x1), u2, u3, u4, u5], [], (mm L X I J)) else runI call iX12_clause (58, [some (.ref 72), some (.int x1), u2, u3, u4, u5], [], (mm L X I J)) := by
  refine Eq.trans (ic_ne (tgt := 58) dX12_clause_46 (by decide +kernel)) (ite_cong (fun _ => ?_) (fun _ => ?_))
  · rfl
  · rfl
theorem q_X12_clause_19 {call : CALL} {L X : Nat} {I : Nat → Nat → Int32} {J : Nat → Nat → Int64} {x1 : Int32} {u2 : Option Value} {u3 : Option Value} {u4 : Option Value} {u5 : Option Value} : runI call iX12_clause (19, [some (.ref 72), some (.int x1), u2, u3, u4, u5], [], (mm L X I J)) = runI call iX12_clause (58, [some (.ref 72), some (.int x1), u2, u3, u4, u5], [], (mm L X I J)) := by
  refine Eq.trans (go_to (tgt := 58) dX12_clause_19 (by decide +kernel)) ?_
  rfl
theorem q_X12_clause_70 {call : CALL} {L X : Nat} {I : Nat → Nat → Int32} {J : Nat → Nat → Int64} {x1 : Int32} {u2 : Option Value} {u3 : Option Value} {u4 : Option Value} {u5 : Option Value} : runI call iX12_clause (70, [some (.ref 72), some (.int x1), u2, u3, u4, u5], [], (mm L X I J)) = if (nI 3) ≤ x1 then runI call iX12_clause (95, [some (.ref 72), some (.int x1), u2, u3, u4, u5], [.int (nI 0)], (mm L X (up2 I 72 7 ((I 72 7) + (nI 1))) J)) else gd (inb x1 4) (runI call iX12_clause (95, [some (.ref 72), some (.int x1), u2, u3, u4, u5], [.int ((up2 I 72 7 ((I 72 7) + (nI 1))) 75 (x1).toNatClampNeg)], (mm L X (up2 I 72 7 ((I 72 7) + (nI 1))) J))) := by
  refine Eq.trans (st1 dX12_clause_70 rfl rfl) ?_
  refine Eq.trans (st1 dX12_clause_71 rfl rfl) ?_
  refine Eq.trans (getIm dX12_clause_72 cp_12_159 ka_72 (.inl rfl)) ?_
  refine Eq.trans (xiconst dX12_clause_75 ci_1) ?_
  refine Eq.trans (st1 dX12_clause_76 rfl rfl) ?_
  refine Eq.trans (putIm dX12_clause_77 cp_12_159 ka_72 rfl) ?_
  refine Eq.trans (st1 dX12_clause_80 rfl rfl) ?_
  refine Eq.trans (xiconst dX12_clause_81 ci_3) ?_
  refine Eq.trans (ic_ge (tgt := 94) dX12_clause_82 (by decide +kernel)) (ite_cong (fun _ => ?_) (fun _ => ?_))
  · refine Eq.trans (xiconst dX12_clause_94 ci_0) ?_
    rfl
  · refine Eq.trans (st1 dX12_clause_85 rfl rfl) ?_
    refine Eq.trans (getRm dX12_clause_86 cp_12_20 ka_72 rfl r_72_11) ?_
    refine Eq.trans (st1 dX12_clause_89 rfl rfl) ?_
    refine Eq.trans (al1m dX12_clause_90 ka_75) (gd_congr fun g1 => ?_)
    refine Eq.trans (go_to (tgt := 95) dX12_clause_91 (by decide +kernel)) ?_
    rfl
theorem q_X12_clause_95 {call : CALL} {L X : Nat} {I : Nat → Nat → Int32} {J : Nat → Nat → Int64} {x1 : Int32} {u2 : Option Value} {u3 : Option Value} {u4 : Option Value} {u5 : Option Value} {s0 : Int32} : runI call iX12_clause (95, [some (.ref 72), some (.int x1), u2, u3, u4, u5], [.int s0], (mm L X I J)) = runI call iX12_clause (97, [some (.ref 72), some (.int x1), some (.int s0), u3, u4, u5], [.int x1], (mm L X I J)) := by
  refine Eq.trans (st1 dX12_clause_95 rfl rfl) ?_
  refine Eq.trans (st1 dX12_clause_96 rfl rfl) ?_
  rfl
theorem q_X12_clause_97 {call : CALL} {L X : Nat} {I : Nat → Nat → Int32} {J : Nat → Nat → Int64} {x1 : Int32} {x2 : Int32} {u3 : Option Value} {u4 : Option Value} {u5 : Option Value} {s0 : Int32} : runI call iX12_clause (97, [some (.ref 72), some (.int x1), some (.int x2), u3, u4, u5], [.int s0], (mm L X I J)) = if s0 = (nI 0) then runI call iX12_clause (124, [some (.ref 72), some (.int x1), some (.int x2), u3, u4, u5], [], (mm L X I J)) else if s0 = (nI 1) then runI call iX12_clause (181, [some (.ref 72), some (.int x1), some (.int x2), u3, u4, u5], [], (mm L X I J)) else if s0 = (nI 2) then runI call iX12_clause (244, [some (.ref 72), some (.int x1), some (.int x2), u3, u4, u5], [], (mm L X I J)) else runI call iX12_clause (278, [some (.ref 72), some (.int x1), some (.int x2), u3, u4, u5], [], (mm L X I J)) := by
  refine ite_cong2 (fun e0 => sw_t dX12_clause_97 (by rw [e0]; decide +kernel)) (fun e0 => ?_)
  refine ite_cong2 (fun e1 => sw_t dX12_clause_97 (by rw [e1]; decide +kernel)) (fun e1 => ?_)
  refine ite_cong2 (fun e2 => sw_t dX12_clause_97 (by rw [e2]; decide +kernel)) (fun e2 => ?_)
  exact sw_t dX12_clause_97 (swT_dflt (vs := [(0 : Int), (1 : Int), (2 : Int)]) (by decide +kernel) (fun v hv => by simp only [List.mem_cons, List.not_mem_nil, or_false] at hv; rcases hv with rfl | rfl | rfl <;> first | exact ne_toInt (by decide +kernel) e0 | exact ne_toInt (by decide +kernel) e1 | exact ne_toInt (by decide +kernel) e2))
theorem q_X12_clause_124 {call : CALL} {L X : Nat} {I : Nat → Nat → Int32} {J : Nat → Nat → Int64} {x1 : Int32} {x2 : Int32} {u3 : Option Value} {u4 : Option Value} {u5 : Option Value} : runI call iX12_clause (124, [some (.ref 72), some (.int x1), some (.int x2), u3, u4, u5], [], (mm L X I J)) = gd (inb x2 6) (bnd (call nX12_number [.ref 72, .int (nI 1), .int (nI 30)] (mm L X I J)) (fun v m' => runI call iX12_clause (138, [some (.ref 72), some (.int x1), some (.int x2), u3, u4, u5], v.toList ++ [.int (nI 0), .ref (78 + (x2).toNatClampNeg)], m'))) := by
  refine Eq.trans (st1 dX12_clause_124 rfl rfl) ?_
  refine Eq.trans (getRm dX12_clause_125 cp_12_28 ka_72 rfl r_72_13) ?_
  refine Eq.trans (st1 dX12_clause_128 rfl rfl) ?_
  refine Eq.trans (al4m dX12_clause_129 ka_77 rr_77) (gd_congr fun g1 => ?_)
  refine Eq.trans (xiconst dX12_clause_130 ci_0) ?_
  refine Eq.trans (st1 dX12_clause_131 rfl rfl) ?_
  refine Eq.trans (xiconst dX12_clause_132 ci_1) ?_
  refine Eq.trans (xbipush dX12_clause_133 cb_30) ?_
  exact iv0 dX12_clause_135 rfl cp_12_165 rfl rfl (kd_ka ka_72) ka_72.1 (Nat.le_of_ble_eq_true rfl)
theorem q_X12_clause_181 {call : CALL} {L X : Nat} {I : Nat → Nat → Int32} {J : Nat → Nat → Int64} {x1 : Int32} {x2 : Int32} {u3 : Option Value} {u4 : Option Value} {u5 : Option Value} : runI call iX12_clause (181, [some (.ref 72), some (.int x1), some (.int x2), u3, u4, u5], [], (mm L X I J)) = bnd (call nX12_readThread [.ref 72] (mm L X I J)) (fun v m' => runI call iX12_clause (185, [some (.ref 72), some (.int x1), some (.int x2), u3, u4, u5], v.toList ++ [], m')) := by
  refine Eq.trans (st1 dX12_clause_181 rfl rfl) ?_
  exact iv0 dX12_clause_182 rfl cp_12_175 rfl rfl (kd_ka ka_72) ka_72.1 (Nat.le_of_ble_eq_true rfl)
theorem q_X12_clause_244 {call : CALL} {L X : Nat} {I : Nat → Nat → Int32} {J : Nat → Nat → Int64} {x1 : Int32} {x2 : Int32} {u3 : Option Value} {u4 : Option Value} {u5 : Option Value} : runI call iX12_clause (244, [some (.ref 72), some (.int x1), some (.int x2), u3, u4, u5], [], (mm L X I J)) = gd (inb x2 5) (bnd (call nX12_number [.ref 72, .int (nI 0), .int (nI 200)] (mm L X I J)) (fun v m' => runI call iX12_clause (259, [some (.ref 72), some (.int x1), some (.int x2), u3, u4, u5], v.toList ++ [.int (nI 0), .ref (103 + (x2).toNatClampNeg)], m'))) := by
  refine Eq.trans (st1 dX12_clause_244 rfl rfl) ?_
  refine Eq.trans (getRm dX12_clause_245 cp_12_40 ka_72 rfl r_72_17) ?_
  refine Eq.trans (st1 dX12_clause_248 rfl rfl) ?_
  refine Eq.trans (al4m dX12_clause_249 ka_102 rr_102) (gd_congr fun g1 => ?_)
  refine Eq.trans (xiconst dX12_clause_250 ci_0) ?_
  refine Eq.trans (st1 dX12_clause_251 rfl rfl) ?_
  refine Eq.trans (xiconst dX12_clause_252 ci_0) ?_
  refine Eq.trans (xsipush dX12_clause_253 cs_200) ?_
  exact iv0 dX12_clause_256 rfl cp_12_165 rfl rfl (kd_ka ka_72) ka_72.1 (Nat.le_of_ble_eq_true rfl)
theorem q_X12_clause_278 {call : CALL} {L X : Nat} {I : Nat → Nat → Int32} {J : Nat → Nat → Int64} {x1 : Int32} {u2 : Option Value} {u3 : Option Value} {u4 : Option Value} {u5 : Option Value} : runI call iX12_clause (278, [some (.ref 72), some (.int x1), u2, u3, u4, u5], [], (mm L X I J)) = bnd (call nX12_number [.ref 72, .int (nI 0), .int (nI 99)] (mm L X I J)) (fun v m' => runI call iX12_clause (285, [some (.ref 72), some (.int x1), u2, u3, u4, u5], v.toList ++ [], m')) := by
  refine Eq.trans (st1 dX12_clause_278 rfl rfl) ?_
  refine Eq.trans (xiconst dX12_clause_279 ci_0) ?_
  refine Eq.trans (xbipush dX12_clause_280 cb_99) ?_
  exact iv0 dX12_clause_282 rfl cp_12_165 rfl rfl (kd_ka ka_72) ka_72.1 (Nat.le_of_ble_eq_true rfl)
theorem q_X12_clause_138 {call : CALL} {L X : Nat} {I : Nat → Nat → Int32} {J : Nat → Nat → Int64} {x1 : Int32} {x2 : Int32} {u3 : Option Value} {u4 : Option Value} {u5 : Option Value} {q0 : Nat} {s1 : Int32} {s2 : Int32} (kq0 : ka q0 1 4) : runI call iX12_clause (138, [some (.ref 72), some (.int x1), some (.int x2), u3, u4, u5], [.int s2, .int s1, .ref q0], (mm L X I J)) = gd (inb s1 4) (gd (inb x2 6) (bnd (call nX12_readThread [.ref 72] (mm L X (up2 I q0 (s1).toNatClampNeg s2) J)) (fun v m' => runI call iX12_clause (150, [some (.ref 72), some (.int x1), some (.int x2), u3, u4, u5], v.toList ++ [.int (nI 1), .ref (78 + (x2).toNatClampNeg)], m')))) := by
  refine Eq.trans (as1m dX12_clause_138 kq0) (gd_congr fun g1 => ?_)
  refine Eq.trans (st1 dX12_clause_139 rfl rfl) ?_
  refine Eq.trans (getRm dX12_clause_140 cp_12_28 ka_72 rfl r_72_13) ?_
  refine Eq.trans (st1 dX12_clause_143 rfl rfl) ?_
  refine Eq.trans (al4m dX12_clause_144 ka_77 rr_77) (gd_congr fun g2 => ?_)
  refine Eq.trans (xiconst dX12_clause_145 ci_1) ?_
  refine Eq.trans (st1 dX12_clause_146 rfl rfl) ?_
  exact iv0 dX12_clause_147 rfl cp_12_175 rfl rfl (kd_ka ka_72) ka_72.1 (Nat.le_of_ble_eq_true rfl)
theorem q_X12_clause_185 {call : CALL} {L X : Nat} {I : Nat → Nat → Int32} {J : Nat → Nat → Int64} {x1 : Int32} {x2 : Int32} {u3 : Option Value} {u4 : Option Value} {u5 : Option Value} {s0 : Int32} : runI call iX12_clause (185, [some (.ref 72), some (.int x1), some (.int x2), u3, u4, u5], [.int s0], (mm L X I J)) = bnd (call nX12_blanks [.ref 72] (mm L X I J)) (fun v m' => runI call iX12_clause (190, [some (.ref 72), some (.int x1), some (.int x2), some (.int s0), u4, u5], v.toList ++ [], m')) := by
  refine Eq.trans (st1 dX12_clause_185 rfl rfl) ?_
  refine Eq.trans (st1 dX12_clause_186 rfl rfl) ?_
  exact iv0 dX12_clause_187 rfl cp_12_125 rfl rfl (kd_ka ka_72) ka_72.1 (Nat.le_of_ble_eq_true rfl)
theorem q_X12_clause_259 {call : CALL} {L X : Nat} {I : Nat → Nat → Int32} {J : Nat → Nat → Int64} {x1 : Int32} {x2 : Int32} {u3 : Option Value} {u4 : Option Value} {u5 : Option Value} {q0 : Nat} {s1 : Int32} {s2 : Int32} (kq0 : ka q0 1 2) : runI call iX12_clause (259, [some (.ref 72), some (.int x1), some (.int x2), u3, u4, u5], [.int s2, .int s1, .ref q0], (mm L X I J)) = gd (inb s1 2) (gd (inb x2 5) (bnd (call nX12_number [.ref 72, .int (nI 1), .int (nI 99)] (mm L X (up2 I q0 (s1).toNatClampNeg s2) J)) (fun v m' => runI call iX12_clause (274, [some (.ref 72), some (.int x1), some (.int x2), u3, u4, u5], v.toList ++ [.int (nI 1), .ref (103 + (x2).toNatClampNeg)], m')))) := by
  refine Eq.trans (as1m dX12_clause_259 kq0) (gd_congr fun g1 => ?_)
  refine Eq.trans (st1 dX12_clause_260 rfl rfl) ?_
  refine Eq.trans (getRm dX12_clause_261 cp_12_40 ka_72 rfl r_72_17) ?_
  refine Eq.trans (st1 dX12_clause_264 rfl rfl) ?_
  refine Eq.trans (al4m dX12_clause_265 ka_102 rr_102) (gd_congr fun g2 => ?_)
  refine Eq.trans (xiconst dX12_clause_266 ci_1) ?_
  refine Eq.trans (st1 dX12_clause_267 rfl rfl) ?_
  refine Eq.trans (xiconst dX12_clause_268 ci_1) ?_
  refine Eq.trans (xbipush dX12_clause_269 cb_99) ?_
  exact iv0 dX12_clause_271 rfl cp_12_165 rfl rfl (kd_ka ka_72) ka_72.1 (Nat.le_of_ble_eq_true rfl)
theorem q_X12_clause_285 {call : CALL} {L X : Nat} {I : Nat → Nat → Int32} {J : Nat → Nat → Int64} {x1 : Int32} {u2 : Option Value} {u3 : Option Value} {u4 : Option Value} {u5 : Option Value} {s0 : Int32} (hu2 : okv u2 = true) : runI call iX12_clause (285, [some (.ref 72), some (.int x1), u2, u3, u4, u5], [.int s0], (mm L X I J)) = if (I 72 5) = (nI 0) then runI call iX12_clause (303, [some (.ref 72), some (.int x1), u2, some (.int s0), u4, u5], [], (mm L X (up2 I 75 3 s0) J)) else runI call iX12_clause (303, [some (.ref 72), some (.int x1), u2, some (.int s0), u4, u5], [], (mm L X I J)) := by
  refine Eq.trans (xst1 (k := 3) dX12_clause_285 hu2 rfl) ?_
  refine Eq.trans (st1 dX12_clause_286 rfl rfl) ?_
  refine Eq.trans (getIm dX12_clause_287 cp_12_119 ka_72 (.inl rfl)) ?_
  refine Eq.trans (if_ne (tgt := 303) dX12_clause_290 (by decide +kernel)) (ite_cong (fun _ => ?_) (fun _ => ?_))
  · refine Eq.trans (st1 dX12_clause_293 rfl rfl) ?_
    refine Eq.trans (getRm dX12_clause_294 cp_12_20 ka_72 rfl r_72_11) ?_
    refine Eq.trans (xiconst dX12_clause_297 ci_3) ?_
    refine Eq.trans (st1 dX12_clause_298 rfl rfl) ?_
    refine Eq.trans (as1c dX12_clause_299 ka_75 (by decide +kernel) nc_3) ?_
    refine Eq.trans (go_to (tgt := 303) dX12_clause_300 (by decide +kernel)) ?_
    rfl
  · rfl
theorem q_X12_clause_150 {call : CALL} {L X : Nat} {I : Nat → Nat → Int32} {J : Nat → Nat → Int64} {x1 : Int32} {x2 : Int32} {u3 : Option Value} {u4 : Option Value} {u5 : Option Value} {q0 : Nat} {s1 : Int32} {s2 : Int32} (kq0 : ka q0 1 4) : runI call iX12_clause (150, [some (.ref 72), some (.int x1), some (.int x2), u3, u4, u5], [.int s2, .int s1, .ref q0], (mm L X I J)) = gd (inb s1 4) (gd (inb x2 6) (bnd (call nX12_readThread [.ref 72] (mm L X (up2 I q0 (s1).toNatClampNeg s2) J)) (fun v m' => runI call iX12_clause (162, [some (.ref 72), some (.int x1), some (.int x2), u3, u4, u5], v.toList ++ [.int (nI 2), .ref (78 + (x2).toNatClampNeg)], m')))) := by
  refine Eq.trans (as1m dX12_clause_150 kq0) (gd_congr fun g1 => ?_)
  refine Eq.trans (st1 dX12_clause_151 rfl rfl) ?_
  refine Eq.trans (getRm dX12_clause_152 cp_12_28 ka_72 rfl r_72_13) ?_
  refine Eq.trans (st1 dX12_clause_155 rfl rfl) ?_
  refine Eq.trans (al4m dX12_clause_156 ka_77 rr_77) (gd_congr fun g2 => ?_)
  refine Eq.trans (xiconst dX12_clause_157 ci_2) ?_
  refine Eq.trans (st1 dX12_clause_158 rfl rfl) ?_
  exact iv0 dX12_clause_159 rfl cp_12_175 rfl rfl (kd_ka ka_72) ka_72.1 (Nat.le_of_ble_eq_true rfl)
theorem q_X12_clause_190 {call : CALL} {L X : Nat} {I : Nat → Nat → Int32} {J : Nat → Nat → Int64} {x1 : Int32} {x2 : Int32} {x3 : Int32} {u4 : Option Value} {u5 : Option Value} : runI call iX12_clause (190, [some (.ref 72), some (.int x1), some (.int x2), some (.int x3), u4, u5], [], (mm L X I J)) = bnd (call nX12_readThread [.ref 72] (mm L X I J)) (fun v m' => runI call iX12_clause (200, [some (.ref 72), some (.int x1), some (.int x2), some (.int x3), some (.int (I 72 4)), u5], v.toList ++ [], m')) := by
  refine Eq.trans (st1 dX12_clause_190 rfl rfl) ?_
  refine Eq.trans (getIm dX12_clause_191 cp_12_112 ka_72 (.inl rfl)) ?_
  refine Eq.trans (st1 dX12_clause_194 rfl rfl) ?_
  refine Eq.trans (st1 dX12_clause_196 rfl rfl) ?_
  exact iv0 dX12_clause_197 rfl cp_12_175 rfl rfl (kd_ka ka_72) ka_72.1 (Nat.le_of_ble_eq_true rfl)
theorem q_X12_clause_274 {call : CALL} {L X : Nat} {I : Nat → Nat → Int32} {J : Nat → Nat → Int64} {x1 : Int32} {u2 : Option Value} {u3 : Option Value} {u4 : Option Value} {u5 : Option Value} {q0 : Nat} {s1 : Int32} {s2 : Int32} (kq0 : ka q0 1 2) : runI call iX12_clause (274, [some (.ref 72), some (.int x1), u2, u3, u4, u5], [.int s2, .int s1, .ref q0], (mm L X I J)) = gd (inb s1 2) (runI call iX12_clause (303, [some (.ref 72), some (.int x1), u2, u3, u4, u5], [], (mm L X (up2 I q0 (s1).toNatClampNeg s2) J))) := by
  refine Eq.trans (as1m dX12_clause_274 kq0) (gd_congr fun g1 => ?_)
  refine Eq.trans (go_to (tgt := 303) dX12_clause_275 (by decide +kernel)) ?_
  rfl
theorem q_X12_clause_303 {call : CALL} {L X : Nat} {I : Nat → Nat → Int32} {J : Nat → Nat → Int64} {x1 : Int32} {u2 : Option Value} {u3 : Option Value} {u4 : Option Value} {u5 : Option Value} : runI call iX12_clause (303, [some (.ref 72), some (.int x1), u2, u3, u4, u5], [], (mm L X I J)) = bnd (call nX12_sign [.ref 72, .int (nI 59)] (mm L X I J)) (fun v m' => runI call iX12_clause (309, [some (.ref 72), some (.int x1), u2, u3, u4, u5], v.toList ++ [], m')) := by
  refine Eq.trans (st1 dX12_clause_303 rfl rfl) ?_
  refine Eq.trans (xbipush dX12_clause_304 cb_59) ?_
  exact iv0 dX12_clause_306 rfl cp_12_178 rfl rfl (kd_ka ka_72) ka_72.1 (Nat.le_of_ble_eq_true rfl)
theorem q_X12_clause_162 {call : CALL} {L X : Nat} {I : Nat → Nat → Int32} {J : Nat → Nat → Int64} {x1 : Int32} {x2 : Int32} {u3 : Option Value} {u4 : Option Value} {u5 : Option Value} {q0 : Nat} {s1 : Int32} {s2 : Int32} (kq0 : ka q0 1 4) : runI call iX12_clause (162, [some (.ref 72), some (.int x1), some (.int x2), u3, u4, u5], [.int s2, .int s1, .ref q0], (mm L X I J)) = gd (inb s1 4) (gd (inb x2 6) (bnd (call nX12_number [.ref 72, .int (nI 0), .int (nI 9)] (mm L X (up2 I q0 (s1).toNatClampNeg s2) J)) (fun v m' => runI call iX12_clause (177, [some (.ref 72), some (.int x1), some (.int x2), u3, u4, u5], v.toList ++ [.int (nI 3), .ref (78 + (x2).toNatClampNeg)], m')))) := by
  refine Eq.trans (as1m dX12_clause_162 kq0) (gd_congr fun g1 => ?_)
  refine Eq.trans (st1 dX12_clause_163 rfl rfl) ?_
  refine Eq.trans (getRm dX12_clause_164 cp_12_28 ka_72 rfl r_72_13) ?_
  refine Eq.trans (st1 dX12_clause_167 rfl rfl) ?_
  refine Eq.trans (al4m dX12_clause_168 ka_77 rr_77) (gd_congr fun g2 => ?_)
  refine Eq.trans (xiconst dX12_clause_169 ci_3) ?_
  refine Eq.trans (st1 dX12_clause_170 rfl rfl) ?_
  refine Eq.trans (xiconst dX12_clause_171 ci_0) ?_
  refine Eq.trans (xbipush dX12_clause_172 cb_9) ?_
  exact iv0 dX12_clause_174 rfl cp_12_165 rfl rfl (kd_ka ka_72) ka_72.1 (Nat.le_of_ble_eq_true rfl)
theorem q_X12_clause_200 {call : CALL} {L X : Nat} {I : Nat → Nat → Int32} {J : Nat → Nat → Int64} {x1 : Int32} {x2 : Int32} {x3 : Int32} {x4 : Int32} {u5 : Option Value} {s0 : Int32} : runI call iX12_clause (200, [some (.ref 72), some (.int x1), some (.int x2), some (.int x3), some (.int x4), u5], [.int s0], (mm L X I J)) = if (I 72 5) = (nI 0) then if x3 = s0 then bnd (call nX12_wrong [.ref 72, .int (nI 2), .int x4] (mm L X I J)) (fun v m' => runI call iX12_clause (222, [some (.ref 72), some (.int x1), some (.int x2), some (.int x3), some (.int x4), some (.int s0)], v.toList ++ [], m')) else runI call iX12_clause (222, [some (.ref 72), some (.int x1), some (.int x2), some (.int x3), some (.int x4), some (.int s0)], [], (mm L X I J)) else runI call iX12_clause (222, [some (.ref 72), some (.int x1), some (.int x2), some (.int x3), some (.int x4), some (.int s0)], [], (mm L X I J)) := by
  refine Eq.trans (st1 dX12_clause_200 rfl rfl) ?_
  refine Eq.trans (st1 dX12_clause_202 rfl rfl) ?_
  refine Eq.trans (getIm dX12_clause_203 cp_12_119 ka_72 (.inl rfl)) ?_
  refine Eq.trans (if_ne (tgt := 222) dX12_clause_206 (by decide +kernel)) (ite_cong (fun _ => ?_) (fun _ => ?_))
  · refine Eq.trans (st1 dX12_clause_209 rfl rfl) ?_
    refine Eq.trans (st1 dX12_clause_210 rfl rfl) ?_
    refine Eq.trans (ic_ne (tgt := 222) dX12_clause_212 (by decide +kernel)) (ite_cong (fun _ => ?_) (fun _ => ?_))
    · refine Eq.trans (st1 dX12_clause_215 rfl rfl) ?_
      refine Eq.trans (xiconst dX12_clause_216 ci_2) ?_
      refine Eq.trans (st1 dX12_clause_217 rfl rfl) ?_
      exact iv0 dX12_clause_219 rfl cp_12_132 rfl rfl (kd_ka ka_72) ka_72.1 (Nat.le_of_ble_eq_true rfl)
    · rfl
  · rfl
theorem q_X12_clause_309 {call : CALL} {L X : Nat} {I : Nat → Nat → Int32} {J : Nat → Nat → Int64} {x1 : Int32} {u2 : Option Value} {u3 : Option Value} {u4 : Option Value} {u5 : Option Value} : runI call iX12_clause (309, [some (.ref 72), some (.int x1), u2, u3, u4, u5], [], (mm L X I J)) = if (nI 3) ≤ x1 then some (.inl none, (mm L X I J)) else gd (inb x1 4) (if (I 72 5) = (nI 0) then runI call iX12_clause (333, [some (.ref 72), some (.int x1), u2, u3, u4, u5], [.int (nI 1), .int (I 75 (x1).toNatClampNeg), .int x1, .ref 75], (mm L X I J)) else runI call iX12_clause (333, [some (.ref 72), some (.int x1), u2, u3, u4, u5], [.int (nI 0), .int (I 75 (x1).toNatClampNeg), .int x1, .ref 75], (mm L X I J))) := by
  refine Eq.trans (st1 dX12_clause_309 rfl rfl) ?_
  refine Eq.trans (xiconst dX12_clause_310 ci_3) ?_
  refine Eq.trans (ic_ge (tgt := 335) dX12_clause_311 (by decide +kernel)) (ite_cong (fun _ => ?_) (fun _ => ?_))
  · exact ret3 dX12_clause_335 (.inl rfl)
  · refine Eq.trans (st1 dX12_clause_314 rfl rfl) ?_
    refine Eq.trans (getRm dX12_clause_315 cp_12_20 ka_72 rfl r_72_11) ?_
    refine Eq.trans (st1 dX12_clause_318 rfl rfl) ?_
    refine Eq.trans (st1 dX12_clause_319 rfl rfl) ?_
    refine Eq.trans (al1m dX12_clause_320 ka_75) (gd_congr fun g1 => ?_)
    refine Eq.trans (st1 dX12_clause_321 rfl rfl) ?_
    refine Eq.trans (getIm dX12_clause_322 cp_12_119 ka_72 (.inl rfl)) ?_
    refine Eq.trans (if_ne (tgt := 332) dX12_clause_325 (by decide +kernel)) (ite_cong (fun _ => ?_) (fun _ => ?_))
    · refine Eq.trans (xiconst dX12_clause_328 ci_1) ?_
      refine Eq.trans (go_to (tgt := 333) dX12_clause_329 (by decide +kernel)) ?_
      rfl
    · refine Eq.trans (xiconst dX12_clause_332 ci_0) ?_
      rfl
theorem q_X12_clause_177 {call : CALL} {L X : Nat} {I : Nat → Nat → Int32} {J : Nat → Nat → Int64} {x1 : Int32} {u2 : Option Value} {u3 : Option Value} {u4 : Option Value} {u5 : Option Value} {q0 : Nat} {s1 : Int32} {s2 : Int32} (kq0 : ka q0 1 4) : runI call iX12_clause (177, [some (.ref 72), some (.int x1), u2, u3, u4, u5], [.int s2, .int s1, .ref q0], (mm L X I J)) = gd (inb s1 4) (runI call iX12_clause (303, [some (.ref 72), some (.int x1), u2, u3, u4, u5], [], (mm L X (up2 I q0 (s1).toNatClampNeg s2) J))) := by
  refine Eq.trans (as1m dX12_clause_177 kq0) (gd_congr fun g1 => ?_)
  refine Eq.trans (go_to (tgt := 303) dX12_clause_178 (by decide +kernel)) ?_
  rfl
theorem q_X12_clause_222 {call : CALL} {L X : Nat} {I : Nat → Nat → Int32} {J : Nat → Nat → Int64} {x1 : Int32} {x2 : Int32} {x3 : Int32} {u4 : Option Value} {x5 : Int32} : runI call iX12_clause (222, [some (.ref 72), some (.int x1), some (.int x2), some (.int x3), u4, some (.int x5)], [], (mm L X I J)) = gd (inb x2 4) (runI call iX12_clause (303, [some (.ref 72), some (.int x1), some (.int x2), some (.int x3), u4, some (.int x5)], [], (mm L X (up2 (up2 I (92 + (x2).toNatClampNeg) 0 x3) (92 + (x2).toNatClampNeg) 1 x5) J))) := by
  refine Eq.trans (st1 dX12_clause_222 rfl rfl) ?_
  refine Eq.trans (getRm dX12_clause_223 cp_12_34 ka_72 rfl r_72_15) ?_
  refine Eq.trans (st1 dX12_clause_226 rfl rfl) ?_
  refine Eq.trans (al4m dX12_clause_227 ka_91 rr_91) (gd_congr fun g1 => ?_)
  refine Eq.trans (xiconst dX12_clause_228 ci_0) ?_
  refine Eq.trans (st1 dX12_clause_229 rfl rfl) ?_
  refine Eq.trans (as1c dX12_clause_230 (kr_91 (inb_lt g1)) (by decide +kernel) nc_0) ?_
  refine Eq.trans (st1 dX12_clause_231 rfl rfl) ?_
  refine Eq.trans (getRm dX12_clause_232 cp_12_34 ka_72 rfl r_72_15) ?_
  refine Eq.trans (st1 dX12_clause_235 rfl rfl) ?_
  refine Eq.trans (al4m dX12_clause_236 ka_91 rr_91) (Eq.trans (gd_t g1) ?_)
  refine Eq.trans (xiconst dX12_clause_237 ci_1) ?_
  refine Eq.trans (st1 dX12_clause_238 rfl rfl) ?_
  refine Eq.trans (as1c dX12_clause_240 (kr_91 (inb_lt g1)) (by decide +kernel) nc_1) ?_
  refine Eq.trans (go_to (tgt := 303) dX12_clause_241 (by decide +kernel)) ?_
  rfl
theorem q_X12_clause_333 {call : CALL} {L X : Nat} {I : Nat → Nat → Int32} {J : Nat → Nat → Int64} {u0 : Option Value} {u1 : Option Value} {u2 : Option Value} {u3 : Option Value} {u4 : Option Value} {u5 : Option Value} {s1 : Int32} {s2 : Int32} {s3 : Int32} : runI call iX12_clause (333, [u0, u1, u2, u3, u4, u5], [.int s3, .int s2, .int s1, .ref 75], (mm L X I J)) = gd (inb s1 4) (some (.inl none, (mm L X (up2 I 75 (s1).toNatClampNeg (s2 + s3)) J))) := by
  refine Eq.trans (st1 dX12_clause_333 rfl rfl) ?_
  refine Eq.trans (as1m dX12_clause_334 ka_75) (gd_congr fun g1 => ?_)
  exact ret3 dX12_clause_335 (.inl rfl)
theorem q_X12_kindHere_0 {call : CALL} {L X : Nat} {I : Nat → Nat → Int32} {J : Nat → Nat → Int64}  : runI call iX12_kindHere (0, [some (.ref 72)], [], (mm L X I J)) = bnd (call nX12_isWord [.ref 72, .int (nI 16), .int (nI 9), .int (nI 5), .int (nI 3), .int (nI 5), .int (nI 0)] (mm L X I J)) (fun v m' => runI call iX12_kindHere (12, [some (.ref 72)], v.toList ++ [], m')) := by
  refine Eq.trans (st1 dX12_kindHere_0 rfl rfl) ?_
  refine Eq.trans (xbipush dX12_kindHere_1 cb_16) ?_
  refine Eq.trans (xbipush dX12_kindHere_3 cb_9) ?_
  refine Eq.trans (xiconst dX12_kindHere_5 ci_5) ?_
  refine Eq.trans (xiconst dX12_kindHere_6 ci_3) ?_
  refine Eq.trans (xiconst dX12_kindHere_7 ci_5) ?_
  refine Eq.trans (xiconst dX12_kindHere_8 ci_0) ?_
  exact iv0 dX12_kindHere_9 rfl cp_12_152 rfl rfl (kd_ka ka_72) ka_72.1 (Nat.le_of_ble_eq_true rfl)
theorem q_X12_kindHere_12 {call : CALL} {L X : Nat} {I : Nat → Nat → Int32} {J : Nat → Nat → Int64} {s0 : Int32} : runI call iX12_kindHere (12, [some (.ref 72)], [.int s0], (mm L X I J)) = if s0 = (nI 0) then bnd (call nX12_isWord [.ref 72, .int (nI 3), .int (nI 15), .int (nI 12), .int (nI 12), .int (nI 1), .int (nI 18)] (mm L X I J)) (fun v m' => runI call iX12_kindHere (31, [some (.ref 72)], v.toList ++ [], m')) else some (.inl (some (.int (nI 0))), (mm L X I J)) := by
  refine Eq.trans (if_eq (tgt := 17) dX12_kindHere_12 (by decide +kernel)) (ite_cong (fun _ => ?_) (fun _ => ?_))
  · refine Eq.trans (st1 dX12_kindHere_17 rfl rfl) ?_
    refine Eq.trans (xiconst dX12_kindHere_18 ci_3) ?_
    refine Eq.trans (xbipush dX12_kindHere_19 cb_15) ?_
    refine Eq.trans (xbipush dX12_kindHere_21 cb_12) ?_
    refine Eq.trans (xbipush dX12_kindHere_23 cb_12) ?_
    refine Eq.trans (xiconst dX12_kindHere_25 ci_1) ?_
    refine Eq.trans (xbipush dX12_kindHere_26 cb_18) ?_
    exact iv0 dX12_kindHere_28 rfl cp_12_152 rfl rfl (kd_ka ka_72) ka_72.1 (Nat.le_of_ble_eq_true rfl)
  · refine Eq.trans (xiconst dX12_kindHere_15 ci_0) ?_
    exact ret0 dX12_kindHere_16 rfl
theorem q_X12_kindHere_31 {call : CALL} {L X : Nat} {I : Nat → Nat → Int32} {J : Nat → Nat → Int64} {s0 : Int32} : runI call iX12_kindHere (31, [some (.ref 72)], [.int s0], (mm L X I J)) = if s0 = (nI 0) then bnd (call nX12_isWord [.ref 72, .int (nI 6), .int (nI 9), .int (nI 18), .int (nI 5), .int (nI 0), .int (nI 0)] (mm L X I J)) (fun v m' => runI call iX12_kindHere (49, [some (.ref 72)], v.toList ++ [], m')) else some (.inl (some (.int (nI 1))), (mm L X I J)) := by
  refine Eq.trans (if_eq (tgt := 36) dX12_kindHere_31 (by decide +kernel)) (ite_cong (fun _ => ?_) (fun _ => ?_))
  · refine Eq.trans (st1 dX12_kindHere_36 rfl rfl) ?_
    refine Eq.trans (xbipush dX12_kindHere_37 cb_6) ?_
    refine Eq.trans (xbipush dX12_kindHere_39 cb_9) ?_
    refine Eq.trans (xbipush dX12_kindHere_41 cb_18) ?_
    refine Eq.trans (xiconst dX12_kindHere_43 ci_5) ?_
    refine Eq.trans (xiconst dX12_kindHere_44 ci_0) ?_
    refine Eq.trans (xiconst dX12_kindHere_45 ci_0) ?_
    exact iv0 dX12_kindHere_46 rfl cp_12_152 rfl rfl (kd_ka ka_72) ka_72.1 (Nat.le_of_ble_eq_true rfl)
  · refine Eq.trans (xiconst dX12_kindHere_34 ci_1) ?_
    exact ret0 dX12_kindHere_35 rfl
theorem q_X12_kindHere_49 {call : CALL} {L X : Nat} {I : Nat → Nat → Int32} {J : Nat → Nat → Int64} {s0 : Int32} : runI call iX12_kindHere (49, [some (.ref 72)], [.int s0], (mm L X I J)) = if s0 = (nI 0) then bnd (call nX12_isWord [.ref 72, .int (nI 8), .int (nI 15), .int (nI 16), .int (nI 5), .int (nI 0), .int (nI 0)] (mm L X I J)) (fun v m' => runI call iX12_kindHere (67, [some (.ref 72)], v.toList ++ [], m')) else some (.inl (some (.int (nI 2))), (mm L X I J)) := by
  refine Eq.trans (if_eq (tgt := 54) dX12_kindHere_49 (by decide +kernel)) (ite_cong (fun _ => ?_) (fun _ => ?_))
  · refine Eq.trans (st1 dX12_kindHere_54 rfl rfl) ?_
    refine Eq.trans (xbipush dX12_kindHere_55 cb_8) ?_
    refine Eq.trans (xbipush dX12_kindHere_57 cb_15) ?_
    refine Eq.trans (xbipush dX12_kindHere_59 cb_16) ?_
    refine Eq.trans (xiconst dX12_kindHere_61 ci_5) ?_
    refine Eq.trans (xiconst dX12_kindHere_62 ci_0) ?_
    refine Eq.trans (xiconst dX12_kindHere_63 ci_0) ?_
    exact iv0 dX12_kindHere_64 rfl cp_12_152 rfl rfl (kd_ka ka_72) ka_72.1 (Nat.le_of_ble_eq_true rfl)
  · refine Eq.trans (xiconst dX12_kindHere_52 ci_2) ?_
    exact ret0 dX12_kindHere_53 rfl
theorem q_X12_kindHere_67 {call : CALL} {L X : Nat} {I : Nat → Nat → Int32} {J : Nat → Nat → Int64} {u0 : Option Value} {s0 : Int32} : runI call iX12_kindHere (67, [u0], [.int s0], (mm L X I J)) = if s0 = (nI 0) then some (.inl (some (.int (-1 : Int32))), (mm L X I J)) else some (.inl (some (.int (nI 3))), (mm L X I J)) := by
  refine Eq.trans (if_eq (tgt := 74) dX12_kindHere_67 (by decide +kernel)) (ite_cong (fun _ => ?_) (fun _ => ?_))
  · refine Eq.trans (xiconst dX12_kindHere_74 ci_m1) ?_
    exact ret0 dX12_kindHere_75 rfl
  · refine Eq.trans (xiconst dX12_kindHere_70 ci_3) ?_
    refine Eq.trans (go_to (tgt := 75) dX12_kindHere_71 (by decide +kernel)) ?_
    exact ret0 dX12_kindHere_75 rfl
theorem q_X12_isWord_0 {call : CALL} {L X : Nat} {I : Nat → Nat → Int32} {J : Nat → Nat → Int64} {x1 : Int32} {x2 : Int32} {x3 : Int32} {x4 : Int32} {x5 : Int32} {x6 : Int32} : runI call iX12_isWord (0, [some (.ref 72), some (.int x1), some (.int x2), some (.int x3), some (.int x4), some (.int x5), some (.int x6)], [], (mm L X I J)) = if (I 72 5) = (nI 0) then bnd (call nX12_wordHere [.ref 72] (mm L X I J)) (fun v m' => runI call iX12_isWord (11, [some (.ref 72), some (.int x1), some (.int x2), some (.int x3), some (.int x4), some (.int x5), some (.int x6)], v.toList ++ [], m')) else some (.inl (some (.int (nI 0))), (mm L X I J)) := by
  refine Eq.trans (st1 dX12_isWord_0 rfl rfl) ?_
  refine Eq.trans (getIm dX12_isWord_1 cp_12_119 ka_72 (.inl rfl)) ?_
  refine Eq.trans (if_ne (tgt := 30) dX12_isWord_4 (by decide +kernel)) (ite_cong (fun _ => ?_) (fun _ => ?_))
  · refine Eq.trans (st1 dX12_isWord_7 rfl rfl) ?_
    exact iv0 dX12_isWord_8 rfl cp_12_144 rfl rfl (kd_ka ka_72) ka_72.1 (Nat.le_of_ble_eq_true rfl)
  · refine Eq.trans (xiconst dX12_isWord_30 ci_0) ?_
    exact ret1 dX12_isWord_31 rfl (.inl rfl)
theorem q_X12_isWord_11 {call : CALL} {L X : Nat} {I : Nat → Nat → Int32} {J : Nat → Nat → Int64} {u0 : Option Value} {x1 : Int32} {x2 : Int32} {x3 : Int32} {x4 : Int32} {x5 : Int32} {x6 : Int32} {s0 : Int32} : runI call iX12_isWord (11, [u0, some (.int x1), some (.int x2), some (.int x3), some (.int x4), some (.int x5), some (.int x6)], [.int s0], (mm L X I J)) = bndN (call nX12_six [.int x1, .int x2, .int x3, .int x4, .int x5, .int x6] (mm L X I J)) (fun v m' => runI call iX12_isWord (23, [u0, some (.int x1), some (.int x2), some (.int x3), some (.int x4), some (.int x5), some (.int x6)], v.toList ++ [.int s0], m')) := by
  refine Eq.trans (st1 dX12_isWord_11 rfl rfl) ?_
  refine Eq.trans (st1 dX12_isWord_12 rfl rfl) ?_
  refine Eq.trans (st1 dX12_isWord_13 rfl rfl) ?_
  refine Eq.trans (st1 dX12_isWord_14 rfl rfl) ?_
  refine Eq.trans (st1 dX12_isWord_16 rfl rfl) ?_
  refine Eq.trans (st1 dX12_isWord_18 rfl rfl) ?_
  exact is2 dX12_isWord_20 cp_12_148 (Nat.le_of_ble_eq_true rfl) rfl rfl (Nat.le_of_ble_eq_true rfl)
theorem q_X12_isWord_23 {call : CALL} {L X : Nat} {I : Nat → Nat → Int32} {J : Nat → Nat → Int64} {u0 : Option Value} {u1 : Option Value} {u2 : Option Value} {u3 : Option Value} {u4 : Option Value} {u5 : Option Value} {u6 : Option Value} {s0 : Int32} {s1 : Int32} : runI call iX12_isWord (23, [u0, u1, u2, u3, u4, u5, u6], [.int s1, .int s0], (mm L X I J)) = if s0 = s1 then some (.inl (some (.int (nI 1))), (mm L X I J)) else some (.inl (some (.int (nI 0))), (mm L X I J)) := by
  refine Eq.trans (ic_ne (tgt := 30) dX12_isWord_23 (by decide +kernel)) (ite_cong (fun _ => ?_) (fun _ => ?_))
  · refine Eq.trans (xiconst dX12_isWord_26 ci_1) ?_
    refine Eq.trans (go_to (tgt := 31) dX12_isWord_27 (by decide +kernel)) ?_
    exact ret1 dX12_isWord_31 rfl (.inr rfl)
  · refine Eq.trans (xiconst dX12_isWord_30 ci_0) ?_
    exact ret1 dX12_isWord_31 rfl (.inl rfl)
theorem q_X12_wordHere_0 {call : CALL} {L X : Nat} {I : Nat → Nat → Int32} {J : Nat → Nat → Int64}  : runI call iX12_wordHere (0, [some (.ref 72), none, none], [], (mm L X I J)) = bnd (call nX12_blanks [.ref 72] (mm L X I J)) (fun v m' => runI call iX12_wordHere (4, [some (.ref 72), none, none], v.toList ++ [], m')) := by
  refine Eq.trans (st1 dX12_wordHere_0 rfl rfl) ?_
  exact iv0 dX12_wordHere_1 rfl cp_12_125 rfl rfl (kd_ka ka_72) ka_72.1 (Nat.le_of_ble_eq_true rfl)
theorem q_X12_wordHere_4 {call : CALL} {L X : Nat} {I : Nat → Nat → Int32} {J : Nat → Nat → Int64} {u1 : Option Value} {u2 : Option Value} : runI call iX12_wordHere (4, [some (.ref 72), u1, u2], [], (mm L X I J)) = runI call iX12_wordHere (8, [some (.ref 72), some (.int (nI 0)), some (.int (nI 0))], [], (mm L X I J)) := by
  refine Eq.trans (xiconst dX12_wordHere_4 ci_0) ?_
  refine Eq.trans (st1 dX12_wordHere_5 rfl rfl) ?_
  refine Eq.trans (xiconst dX12_wordHere_6 ci_0) ?_
  refine Eq.trans (st1 dX12_wordHere_7 rfl rfl) ?_
  rfl
theorem q_X12_wordHere_8 {call : CALL} {L X : Nat} {I : Nat → Nat → Int32} {J : Nat → Nat → Int64} {x1 : Int32} {x2 : Int32} : runI call iX12_wordHere (8, [some (.ref 72), some (.int x1), some (.int x2)], [], (mm L X I J)) = bnd (call nX12_byteAt [.ref 72, .int ((I 72 4) + x2)] (mm L X I J)) (fun v m' => runI call iX12_wordHere (18, [some (.ref 72), some (.int x1), some (.int x2)], v.toList ++ [], m')) := by
  refine Eq.trans (st1 dX12_wordHere_8 rfl rfl) ?_
  refine Eq.trans (st1 dX12_wordHere_9 rfl rfl) ?_
  refine Eq.trans (getIm dX12_wordHere_10 cp_12_112 ka_72 (.inl rfl)) ?_
  refine Eq.trans (st1 dX12_wordHere_13 rfl rfl) ?_
  refine Eq.trans (st1 dX12_wordHere_14 rfl rfl) ?_
  exact iv0 dX12_wordHere_15 rfl cp_12_115 rfl rfl (kd_ka ka_72) ka_72.1 (Nat.le_of_ble_eq_true rfl)
theorem q_X12_wordHere_18 {call : CALL} {L X : Nat} {I : Nat → Nat → Int32} {J : Nat → Nat → Int64} {x1 : Int32} {x2 : Int32} {s0 : Int32} : runI call iX12_wordHere (18, [some (.ref 72), some (.int x1), some (.int x2)], [.int s0], (mm L X I J)) = bndN (call nX12_isSmall [.int s0] (mm L X I J)) (fun v m' => runI call iX12_wordHere (21, [some (.ref 72), some (.int x1), some (.int x2)], v.toList ++ [], m')) := by
  exact is2 dX12_wordHere_18 cp_12_141 (Nat.le_of_ble_eq_true rfl) rfl rfl (Nat.le_of_ble_eq_true rfl)
theorem q_X12_wordHere_21 {call : CALL} {L X : Nat} {I : Nat → Nat → Int32} {J : Nat → Nat → Int64} {x1 : Int32} {x2 : Int32} {s0 : Int32} : runI call iX12_wordHere (21, [some (.ref 72), some (.int x1), some (.int x2)], [.int s0], (mm L X I J)) = if s0 = (nI 0) then if x2 ≤ (nI 6) then some (.inl (some (.int x1)), (mm L X I J)) else some (.inl (some (.int (-1 : Int32))), (mm L X I J)) else if (nI 6) ≤ x2 then runI call iX12_wordHere (54, [some (.ref 72), some (.int x1), some (.int x2)], [.int x1], (mm L X I J)) else bnd (call nX12_byteAt [.ref 72, .int ((I 72 4) + x2)] (mm L X I J)) (fun v m' => runI call iX12_wordHere (44, [some (.ref 72), some (.int x1), some (.int x2)], v.toList ++ [.int ((nI 27) * x1)], m')) := by
  refine Eq.trans (if_eq (tgt := 61) dX12_wordHere_21 (by decide +kernel)) (ite_cong (fun _ => ?_) (fun _ => ?_))
  · refine Eq.trans (st1 dX12_wordHere_61 rfl rfl) ?_
    refine Eq.trans (xbipush dX12_wordHere_62 cb_6) ?_
    refine Eq.trans (ic_le (tgt := 71) dX12_wordHere_64 (by decide +kernel)) (ite_cong (fun _ => ?_) (fun _ => ?_))
    · refine Eq.trans (st1 dX12_wordHere_71 rfl rfl) ?_
      exact ret0 dX12_wordHere_72 rfl
    · refine Eq.trans (xiconst dX12_wordHere_67 ci_m1) ?_
      refine Eq.trans (go_to (tgt := 72) dX12_wordHere_68 (by decide +kernel)) ?_
      exact ret0 dX12_wordHere_72 rfl
  · refine Eq.trans (st1 dX12_wordHere_24 rfl rfl) ?_
    refine Eq.trans (xbipush dX12_wordHere_25 cb_6) ?_
    refine Eq.trans (ic_ge (tgt := 53) dX12_wordHere_27 (by decide +kernel)) (ite_cong (fun _ => ?_) (fun _ => ?_))
    · refine Eq.trans (st1 dX12_wordHere_53 rfl rfl) ?_
      rfl
    · refine Eq.trans (xbipush dX12_wordHere_30 cb_27) ?_
      refine Eq.trans (st1 dX12_wordHere_32 rfl rfl) ?_
      refine Eq.trans (st1 dX12_wordHere_33 rfl rfl) ?_
      refine Eq.trans (st1 dX12_wordHere_34 rfl rfl) ?_
      refine Eq.trans (st1 dX12_wordHere_35 rfl rfl) ?_
      refine Eq.trans (getIm dX12_wordHere_36 cp_12_112 ka_72 (.inl rfl)) ?_
      refine Eq.trans (st1 dX12_wordHere_39 rfl rfl) ?_
      refine Eq.trans (st1 dX12_wordHere_40 rfl rfl) ?_
      exact iv0 dX12_wordHere_41 rfl cp_12_115 rfl rfl (kd_ka ka_72) ka_72.1 (Nat.le_of_ble_eq_true rfl)
theorem q_X12_wordHere_54 {call : CALL} {L X : Nat} {I : Nat → Nat → Int32} {J : Nat → Nat → Int64} {u1 : Option Value} {x2 : Int32} {s0 : Int32} : runI call iX12_wordHere (54, [some (.ref 72), u1, some (.int x2)], [.int s0], (mm L X I J)) = runI call iX12_wordHere (8, [some (.ref 72), some (.int s0), some (.int (x2 + (nI 1)))], [], (mm L X I J)) := by
  refine Eq.trans (st1 dX12_wordHere_54 rfl rfl) ?_
  refine Eq.trans (xinc2 dX12_wordHere_55 ci_1 rfl (Nat.le_of_ble_eq_true rfl) rfl) ?_
  refine Eq.trans (go_to (tgt := 8) dX12_wordHere_58 (by decide +kernel)) ?_
  rfl
theorem q_X12_wordHere_44 {call : CALL} {L X : Nat} {I : Nat → Nat → Int32} {J : Nat → Nat → Int64} {u1 : Option Value} {x2 : Int32} {s0 : Int32} {s1 : Int32} : runI call iX12_wordHere (44, [some (.ref 72), u1, some (.int x2)], [.int s1, .int s0], (mm L X I J)) = runI call iX12_wordHere (54, [some (.ref 72), u1, some (.int x2)], [.int (((s0 + s1) - (nI 97)) + (nI 1))], (mm L X I J)) := by
  refine Eq.trans (st1 dX12_wordHere_44 rfl rfl) ?_
  refine Eq.trans (xbipush dX12_wordHere_45 cb_97) ?_
  refine Eq.trans (st1 dX12_wordHere_47 rfl rfl) ?_
  refine Eq.trans (xiconst dX12_wordHere_48 ci_1) ?_
  refine Eq.trans (st1 dX12_wordHere_49 rfl rfl) ?_
  refine Eq.trans (go_to (tgt := 54) dX12_wordHere_50 (by decide +kernel)) ?_
  rfl
theorem q_X12_isSmall_0 {call : CALL} {L X : Nat} {I : Nat → Nat → Int32} {J : Nat → Nat → Int64} {x0 : Int32} : runI call iX12_isSmall (0, [some (.int x0)], [], (mm L X I J)) = if x0 < (nI 97) then some (.inl (some (.int (nI 0))), (mm L X I J)) else if (nI 122) < x0 then some (.inl (some (.int (nI 0))), (mm L X I J)) else some (.inl (some (.int (nI 1))), (mm L X I J)) := by
  refine Eq.trans (st1 dX12_isSmall_0 rfl rfl) ?_
  refine Eq.trans (xbipush dX12_isSmall_1 cb_97) ?_
  refine Eq.trans (ic_lt (tgt := 16) dX12_isSmall_3 (by decide +kernel)) (ite_cong (fun _ => ?_) (fun _ => ?_))
  · refine Eq.trans (xiconst dX12_isSmall_16 ci_0) ?_
    exact ret1 dX12_isSmall_17 rfl (.inl rfl)
  · refine Eq.trans (st1 dX12_isSmall_6 rfl rfl) ?_
    refine Eq.trans (xbipush dX12_isSmall_7 cb_122) ?_
    refine Eq.trans (ic_gt (tgt := 16) dX12_isSmall_9 (by decide +kernel)) (ite_cong (fun _ => ?_) (fun _ => ?_))
    · refine Eq.trans (xiconst dX12_isSmall_16 ci_0) ?_
      exact ret1 dX12_isSmall_17 rfl (.inl rfl)
    · refine Eq.trans (xiconst dX12_isSmall_12 ci_1) ?_
      refine Eq.trans (go_to (tgt := 17) dX12_isSmall_13 (by decide +kernel)) ?_
      exact ret1 dX12_isSmall_17 rfl (.inr rfl)
theorem q_X12_six_0 {call : CALL} {L X : Nat} {I : Nat → Nat → Int32} {J : Nat → Nat → Int64} {x0 : Int32} {x1 : Int32} {x2 : Int32} {x3 : Int32} {x4 : Int32} {x5 : Int32} : runI call iX12_six (0, [some (.int x0), some (.int x1), some (.int x2), some (.int x3), some (.int x4), some (.int x5), none], [], (mm L X I J)) = if x3 = (nI 0) then runI call iX12_six (29, [some (.int x0), some (.int x1), some (.int x2), some (.int x3), some (.int x4), some (.int x5), some (.int (((nI 27) * (((nI 27) * x0) + x1)) + x2))], [.int (((nI 27) * (((nI 27) * x0) + x1)) + x2)], (mm L X I J)) else runI call iX12_six (29, [some (.int x0), some (.int x1), some (.int x2), some (.int x3), some (.int x4), some (.int x5), some (.int (((nI 27) * (((nI 27) * x0) + x1)) + x2))], [.int (((nI 27) * (((nI 27) * (((nI 27) * x0) + x1)) + x2)) + x3)], (mm L X I J)) := by
  refine Eq.trans (xbipush dX12_six_0 cb_27) ?_
  refine Eq.trans (xbipush dX12_six_2 cb_27) ?_
  refine Eq.trans (st1 dX12_six_4 rfl rfl) ?_
  refine Eq.trans (st1 dX12_six_5 rfl rfl) ?_
  refine Eq.trans (st1 dX12_six_6 rfl rfl) ?_
  refine Eq.trans (st1 dX12_six_7 rfl rfl) ?_
  refine Eq.trans (st1 dX12_six_8 rfl rfl) ?_
  refine Eq.trans (st1 dX12_six_9 rfl rfl) ?_
  refine Eq.trans (st1 dX12_six_10 rfl rfl) ?_
  refine Eq.trans (st1 dX12_six_11 rfl rfl) ?_
  refine Eq.trans (st1 dX12_six_13 rfl rfl) ?_
  refine Eq.trans (if_ne (tgt := 22) dX12_six_14 (by decide +kernel)) (ite_cong (fun _ => ?_) (fun _ => ?_))
  · refine Eq.trans (st1 dX12_six_17 rfl rfl) ?_
    refine Eq.trans (go_to (tgt := 29) dX12_six_19 (by decide +kernel)) ?_
    rfl
  · refine Eq.trans (xbipush dX12_six_22 cb_27) ?_
    refine Eq.trans (st1 dX12_six_24 rfl rfl) ?_
    refine Eq.trans (st1 dX12_six_26 rfl rfl) ?_
    refine Eq.trans (st1 dX12_six_27 rfl rfl) ?_
    refine Eq.trans (st1 dX12_six_28 rfl rfl) ?_
    rfl
theorem q_X12_six_29 {call : CALL} {L X : Nat} {I : Nat → Nat → Int32} {J : Nat → Nat → Int64} {u0 : Option Value} {u1 : Option Value} {u2 : Option Value} {u3 : Option Value} {x4 : Int32} {x5 : Int32} {u6 : Option Value} {s0 : Int32} : runI call iX12_six (29, [u0, u1, u2, u3, some (.int x4), some (.int x5), u6], [.int s0], (mm L X I J)) = if x4 = (nI 0) then runI call iX12_six (49, [u0, u1, u2, u3, some (.int x4), some (.int x5), some (.int s0)], [.int s0], (mm L X I J)) else runI call iX12_six (49, [u0, u1, u2, u3, some (.int x4), some (.int x5), some (.int s0)], [.int (((nI 27) * s0) + x4)], (mm L X I J)) := by
  refine Eq.trans (st1 dX12_six_29 rfl rfl) ?_
  refine Eq.trans (st1 dX12_six_31 rfl rfl) ?_
  refine Eq.trans (if_ne (tgt := 41) dX12_six_33 (by decide +kernel)) (ite_cong (fun _ => ?_) (fun _ => ?_))
  · refine Eq.trans (st1 dX12_six_36 rfl rfl) ?_
    refine Eq.trans (go_to (tgt := 49) dX12_six_38 (by decide +kernel)) ?_
    rfl
  · refine Eq.trans (xbipush dX12_six_41 cb_27) ?_
    refine Eq.trans (st1 dX12_six_43 rfl rfl) ?_
    refine Eq.trans (st1 dX12_six_45 rfl rfl) ?_
    refine Eq.trans (st1 dX12_six_46 rfl rfl) ?_
    refine Eq.trans (st1 dX12_six_48 rfl rfl) ?_
    rfl
theorem q_X12_six_49 {call : CALL} {L X : Nat} {I : Nat → Nat → Int32} {J : Nat → Nat → Int64} {u0 : Option Value} {u1 : Option Value} {u2 : Option Value} {u3 : Option Value} {u4 : Option Value} {x5 : Int32} {u6 : Option Value} {s0 : Int32} : runI call iX12_six (49, [u0, u1, u2, u3, u4, some (.int x5), u6], [.int s0], (mm L X I J)) = if x5 = (nI 0) then some (.inl (some (.int s0)), (mm L X I J)) else some (.inl (some (.int (((nI 27) * s0) + x5))), (mm L X I J)) := by
  refine Eq.trans (st1 dX12_six_49 rfl rfl) ?_
  refine Eq.trans (st1 dX12_six_51 rfl rfl) ?_
  refine Eq.trans (if_ne (tgt := 61) dX12_six_53 (by decide +kernel)) (ite_cong (fun _ => ?_) (fun _ => ?_))
  · refine Eq.trans (st1 dX12_six_56 rfl rfl) ?_
    refine Eq.trans (go_to (tgt := 69) dX12_six_58 (by decide +kernel)) ?_
    exact ret0 dX12_six_69 rfl
  · refine Eq.trans (xbipush dX12_six_61 cb_27) ?_
    refine Eq.trans (st1 dX12_six_63 rfl rfl) ?_
    refine Eq.trans (st1 dX12_six_65 rfl rfl) ?_
    refine Eq.trans (st1 dX12_six_66 rfl rfl) ?_
    refine Eq.trans (st1 dX12_six_68 rfl rfl) ?_
    exact ret0 dX12_six_69 rfl
theorem q_X12_wrong_0 {call : CALL} {L X : Nat} {I : Nat → Nat → Int32} {J : Nat → Nat → Int64} {x1 : Int32} {x2 : Int32} : runI call iX12_wrong (0, [some (.ref 72), some (.int x1), some (.int x2)], [], (mm L X I J)) = if (I 72 5) = (nI 0) then some (.inl none, (mm L X (up2 (up2 I 72 5 x1) 72 6 x2) J)) else some (.inl none, (mm L X I J)) := by
  refine Eq.trans (st1 dX12_wrong_0 rfl rfl) ?_
  refine Eq.trans (getIm dX12_wrong_1 cp_12_119 ka_72 (.inl rfl)) ?_
  refine Eq.trans (if_ne (tgt := 17) dX12_wrong_4 (by decide +kernel)) (ite_cong (fun _ => ?_) (fun _ => ?_))
  · refine Eq.trans (st1 dX12_wrong_7 rfl rfl) ?_
    refine Eq.trans (st1 dX12_wrong_8 rfl rfl) ?_
    refine Eq.trans (putIm dX12_wrong_9 cp_12_119 ka_72 rfl) ?_
    refine Eq.trans (st1 dX12_wrong_12 rfl rfl) ?_
    refine Eq.trans (st1 dX12_wrong_13 rfl rfl) ?_
    refine Eq.trans (putIm dX12_wrong_14 cp_12_122 ka_72 rfl) ?_
    exact ret3 dX12_wrong_17 (.inl rfl)
  · exact ret3 dX12_wrong_17 (.inl rfl)
theorem q_X12_mostOf_0 {call : CALL} {L X : Nat} {I : Nat → Nat → Int32} {J : Nat → Nat → Int64} {x0 : Int32} : runI call iX12_mostOf (0, [some (.int x0)], [], (mm L X I J)) = if x0 = (nI 0) then some (.inl (some (.int (nI 6))), (mm L X I J)) else if x0 = (nI 1) then some (.inl (some (.int (nI 4))), (mm L X I J)) else some (.inl (some (.int (nI 5))), (mm L X I J)) := by
  refine Eq.trans (st1 dX12_mostOf_0 rfl rfl) ?_
  refine Eq.trans (if_ne (tgt := 9) dX12_mostOf_1 (by decide +kernel)) (ite_cong (fun _ => ?_) (fun _ => ?_))
  · refine Eq.trans (xbipush dX12_mostOf_4 cb_6) ?_
    refine Eq.trans (go_to (tgt := 19) dX12_mostOf_6 (by decide +kernel)) ?_
    exact ret0 dX12_mostOf_19 rfl
  · refine Eq.trans (st1 dX12_mostOf_9 rfl rfl) ?_
    refine Eq.trans (xiconst dX12_mostOf_10 ci_1) ?_
    refine Eq.trans (ic_ne (tgt := 18) dX12_mostOf_11 (by decide +kernel)) (ite_cong (fun _ => ?_) (fun _ => ?_))
    · refine Eq.trans (xiconst dX12_mostOf_14 ci_4) ?_
      refine Eq.trans (go_to (tgt := 19) dX12_mostOf_15 (by decide +kernel)) ?_
      exact ret0 dX12_mostOf_19 rfl
    · refine Eq.trans (xiconst dX12_mostOf_18 ci_5) ?_
      exact ret0 dX12_mostOf_19 rfl
theorem q_X12_skipWord_0 {call : CALL} {L X : Nat} {I : Nat → Nat → Int32} {J : Nat → Nat → Int64}  : runI call iX12_skipWord (0, [some (.ref 72)], [], (mm L X I J)) = bnd (call nX12_byteAt [.ref 72, .int (I 72 4)] (mm L X I J)) (fun v m' => runI call iX12_skipWord (8, [some (.ref 72)], v.toList ++ [], m')) := by
  refine Eq.trans (st1 dX12_skipWord_0 rfl rfl) ?_
  refine Eq.trans (st1 dX12_skipWord_1 rfl rfl) ?_
  refine Eq.trans (getIm dX12_skipWord_2 cp_12_112 ka_72 (.inl rfl)) ?_
  exact iv0 dX12_skipWord_5 rfl cp_12_115 rfl rfl (kd_ka ka_72) ka_72.1 (Nat.le_of_ble_eq_true rfl)
theorem q_X12_skipWord_8 {call : CALL} {L X : Nat} {I : Nat → Nat → Int32} {J : Nat → Nat → Int64} {s0 : Int32} : runI call iX12_skipWord (8, [some (.ref 72)], [.int s0], (mm L X I J)) = bndN (call nX12_isSmall [.int s0] (mm L X I J)) (fun v m' => runI call iX12_skipWord (11, [some (.ref 72)], v.toList ++ [], m')) := by
  exact is2 dX12_skipWord_8 cp_12_141 (Nat.le_of_ble_eq_true rfl) rfl rfl (Nat.le_of_ble_eq_true rfl)
theorem q_X12_skipWord_11 {call : CALL} {L X : Nat} {I : Nat → Nat → Int32} {J : Nat → Nat → Int64} {s0 : Int32} : runI call iX12_skipWord (11, [some (.ref 72)], [.int s0], (mm L X I J)) = if s0 = (nI 0) then some (.inl none, (mm L X I J)) else bnd (call nX12_byteAt [.ref 72, .int ((up2 I 72 4 ((I 72 4) + (nI 1))) 72 4)] (mm L X (up2 I 72 4 ((I 72 4) + (nI 1))) J)) (fun v m' => runI call iX12_skipWord (8, [some (.ref 72)], v.toList ++ [], m')) := by
  refine Eq.trans (if_eq (tgt := 27) dX12_skipWord_11 (by decide +kernel)) (ite_cong (fun _ => ?_) (fun _ => ?_))
  · exact ret3 dX12_skipWord_27 (.inl rfl)
  · refine Eq.trans (st1 dX12_skipWord_14 rfl rfl) ?_
    refine Eq.trans (st1 dX12_skipWord_15 rfl rfl) ?_
    refine Eq.trans (getIm dX12_skipWord_16 cp_12_112 ka_72 (.inl rfl)) ?_
    refine Eq.trans (xiconst dX12_skipWord_19 ci_1) ?_
    refine Eq.trans (st1 dX12_skipWord_20 rfl rfl) ?_
    refine Eq.trans (putIm dX12_skipWord_21 cp_12_112 ka_72 rfl) ?_
    refine Eq.trans (go_to (tgt := 0) dX12_skipWord_24 (by decide +kernel)) ?_
    refine Eq.trans (st1 dX12_skipWord_0 rfl rfl) ?_
    refine Eq.trans (st1 dX12_skipWord_1 rfl rfl) ?_
    refine Eq.trans (getIm dX12_skipWord_2 cp_12_112 ka_72 (.inl rfl)) ?_
    exact iv0 dX12_skipWord_5 rfl cp_12_115 rfl rfl (kd_ka ka_72) ka_72.1 (Nat.le_of_ble_eq_true rfl)
theorem q_X12_number_0 {call : CALL} {L X : Nat} {I : Nat → Nat → Int32} {J : Nat → Nat → Int64} {x1 : Int32} {x2 : Int32} : runI call iX12_number (0, [some (.ref 72), some (.int x1), some (.int x2), none, none], [], (mm L X I J)) = if (I 72 5) = (nI 0) then bnd (call nX12_blanks [.ref 72] (mm L X I J)) (fun v m' => runI call iX12_number (13, [some (.ref 72), some (.int x1), some (.int x2), none, none], v.toList ++ [], m')) else some (.inl (some (.int (nI 0))), (mm L X I J)) := by
  refine Eq.trans (st1 dX12_number_0 rfl rfl) ?_
  refine Eq.trans (getIm dX12_number_1 cp_12_119 ka_72 (.inl rfl)) ?_
  refine Eq.trans (if_eq (tgt := 9) dX12_number_4 (by decide +kernel)) (ite_cong (fun _ => ?_) (fun _ => ?_))
  · refine Eq.trans (st1 dX12_number_9 rfl rfl) ?_
    exact iv0 dX12_number_10 rfl cp_12_125 rfl rfl (kd_ka ka_72) ka_72.1 (Nat.le_of_ble_eq_true rfl)
  · refine Eq.trans (xiconst dX12_number_7 ci_0) ?_
    exact ret0 dX12_number_8 rfl
theorem q_X12_number_13 {call : CALL} {L X : Nat} {I : Nat → Nat → Int32} {J : Nat → Nat → Int64} {x1 : Int32} {x2 : Int32} {u3 : Option Value} {u4 : Option Value} : runI call iX12_number (13, [some (.ref 72), some (.int x1), some (.int x2), u3, u4], [], (mm L X I J)) = bnd (call nX12_byteAt [.ref 72, .int (I 72 4)] (mm L X I J)) (fun v m' => runI call iX12_number (29, [some (.ref 72), some (.int x1), some (.int x2), some (.int (I 72 4)), some (.int (nI 0))], v.toList ++ [], m')) := by
  refine Eq.trans (st1 dX12_number_13 rfl rfl) ?_
  refine Eq.trans (getIm dX12_number_14 cp_12_112 ka_72 (.inl rfl)) ?_
  refine Eq.trans (st1 dX12_number_17 rfl rfl) ?_
  refine Eq.trans (xiconst dX12_number_18 ci_0) ?_
  refine Eq.trans (st1 dX12_number_19 rfl rfl) ?_
  refine Eq.trans (st1 dX12_number_21 rfl rfl) ?_
  refine Eq.trans (st1 dX12_number_22 rfl rfl) ?_
  refine Eq.trans (getIm dX12_number_23 cp_12_112 ka_72 (.inl rfl)) ?_
  exact iv0 dX12_number_26 rfl cp_12_115 rfl rfl (kd_ka ka_72) ka_72.1 (Nat.le_of_ble_eq_true rfl)
theorem q_X12_number_29 {call : CALL} {L X : Nat} {I : Nat → Nat → Int32} {J : Nat → Nat → Int64} {x1 : Int32} {x2 : Int32} {x3 : Int32} {x4 : Int32} {s0 : Int32} : runI call iX12_number (29, [some (.ref 72), some (.int x1), some (.int x2), some (.int x3), some (.int x4)], [.int s0], (mm L X I J)) = bndN (call nX12_isDigit [.int s0] (mm L X I J)) (fun v m' => runI call iX12_number (32, [some (.ref 72), some (.int x1), some (.int x2), some (.int x3), some (.int x4)], v.toList ++ [], m')) := by
  exact is2 dX12_number_29 cp_12_128 (Nat.le_of_ble_eq_true rfl) rfl rfl (Nat.le_of_ble_eq_true rfl)
theorem q_X12_number_32 {call : CALL} {L X : Nat} {I : Nat → Nat → Int32} {J : Nat → Nat → Int64} {x1 : Int32} {x2 : Int32} {x3 : Int32} {x4 : Int32} {s0 : Int32} : runI call iX12_number (32, [some (.ref 72), some (.int x1), some (.int x2), some (.int x3), some (.int x4)], [.int s0], (mm L X I J)) = if s0 = (nI 0) then bnd (call nX12_wrong [.ref 72, .int (nI 1), .int (I 72 4)] (mm L X I J)) (fun v m' => runI call iX12_number (44, [some (.ref 72), some (.int x1), some (.int x2), some (.int x3), some (.int x4)], v.toList ++ [], m')) else runI call iX12_number (44, [some (.ref 72), some (.int x1), some (.int x2), some (.int x3), some (.int x4)], [], (mm L X I J)) := by
  refine Eq.trans (if_ne (tgt := 44) dX12_number_32 (by decide +kernel)) (ite_cong (fun _ => ?_) (fun _ => ?_))
  · refine Eq.trans (st1 dX12_number_35 rfl rfl) ?_
    refine Eq.trans (xiconst dX12_number_36 ci_1) ?_
    refine Eq.trans (st1 dX12_number_37 rfl rfl) ?_
    refine Eq.trans (getIm dX12_number_38 cp_12_112 ka_72 (.inl rfl)) ?_
    exact iv0 dX12_number_41 rfl cp_12_132 rfl rfl (kd_ka ka_72) ka_72.1 (Nat.le_of_ble_eq_true rfl)
  · rfl
theorem q_X12_number_44 {call : CALL} {L X : Nat} {I : Nat → Nat → Int32} {J : Nat → Nat → Int64} {x1 : Int32} {x2 : Int32} {x3 : Int32} {x4 : Int32} : runI call iX12_number (44, [some (.ref 72), some (.int x1), some (.int x2), some (.int x3), some (.int x4)], [], (mm L X I J)) = bnd (call nX12_byteAt [.ref 72, .int (I 72 4)] (mm L X I J)) (fun v m' => runI call iX12_number (52, [some (.ref 72), some (.int x1), some (.int x2), some (.int x3), some (.int x4)], v.toList ++ [], m')) := by
  refine Eq.trans (st1 dX12_number_44 rfl rfl) ?_
  refine Eq.trans (st1 dX12_number_45 rfl rfl) ?_
  refine Eq.trans (getIm dX12_number_46 cp_12_112 ka_72 (.inl rfl)) ?_
  exact iv0 dX12_number_49 rfl cp_12_115 rfl rfl (kd_ka ka_72) ka_72.1 (Nat.le_of_ble_eq_true rfl)
theorem q_X12_number_52 {call : CALL} {L X : Nat} {I : Nat → Nat → Int32} {J : Nat → Nat → Int64} {x1 : Int32} {x2 : Int32} {x3 : Int32} {x4 : Int32} {s0 : Int32} : runI call iX12_number (52, [some (.ref 72), some (.int x1), some (.int x2), some (.int x3), some (.int x4)], [.int s0], (mm L X I J)) = bndN (call nX12_isDigit [.int s0] (mm L X I J)) (fun v m' => runI call iX12_number (55, [some (.ref 72), some (.int x1), some (.int x2), some (.int x3), some (.int x4)], v.toList ++ [], m')) := by
  exact is2 dX12_number_52 cp_12_128 (Nat.le_of_ble_eq_true rfl) rfl rfl (Nat.le_of_ble_eq_true rfl)
theorem q_X12_number_55 {call : CALL} {L X : Nat} {I : Nat → Nat → Int32} {J : Nat → Nat → Int64} {x1 : Int32} {x2 : Int32} {x3 : Int32} {x4 : Int32} {s0 : Int32} : runI call iX12_number (55, [some (.ref 72), some (.int x1), some (.int x2), some (.int x3), some (.int x4)], [.int s0], (mm L X I J)) = if s0 = (nI 0) then bndN (call nX12_in [.int x4, .int x1, .int x2] (mm L X I J)) (fun v m' => runI call iX12_number (113, [some (.ref 72), some (.int x1), some (.int x2), some (.int x3), some (.int x4)], v.toList ++ [], m')) else bnd (call nX12_byteAt [.ref 72, .int (I 72 4)] (mm L X I J)) (fun v m' => runI call iX12_number (71, [some (.ref 72), some (.int x1), some (.int x2), some (.int x3), some (.int x4)], v.toList ++ [.int ((nI 10) * x4)], m')) := by
  refine Eq.trans (if_eq (tgt := 106) dX12_number_55 (by decide +kernel)) (ite_cong (fun _ => ?_) (fun _ => ?_))
  · refine Eq.trans (st1 dX12_number_106 rfl rfl) ?_
    refine Eq.trans (st1 dX12_number_108 rfl rfl) ?_
    refine Eq.trans (st1 dX12_number_109 rfl rfl) ?_
    exact is2 dX12_number_110 cp_12_137 (Nat.le_of_ble_eq_true rfl) rfl rfl (Nat.le_of_ble_eq_true rfl)
  · refine Eq.trans (xbipush dX12_number_58 cb_10) ?_
    refine Eq.trans (st1 dX12_number_60 rfl rfl) ?_
    refine Eq.trans (st1 dX12_number_62 rfl rfl) ?_
    refine Eq.trans (st1 dX12_number_63 rfl rfl) ?_
    refine Eq.trans (st1 dX12_number_64 rfl rfl) ?_
    refine Eq.trans (getIm dX12_number_65 cp_12_112 ka_72 (.inl rfl)) ?_
    exact iv0 dX12_number_68 rfl cp_12_115 rfl rfl (kd_ka ka_72) ka_72.1 (Nat.le_of_ble_eq_true rfl)
theorem q_X12_number_113 {call : CALL} {L X : Nat} {I : Nat → Nat → Int32} {J : Nat → Nat → Int64} {u1 : Option Value} {u2 : Option Value} {x3 : Int32} {x4 : Int32} {s0 : Int32} : runI call iX12_number (113, [some (.ref 72), u1, u2, some (.int x3), some (.int x4)], [.int s0], (mm L X I J)) = if s0 = (nI 0) then bnd (call nX12_wrong [.ref 72, .int (nI 2), .int x3] (mm L X I J)) (fun v m' => runI call iX12_number (122, [some (.ref 72), u1, u2, some (.int x3), some (.int x4)], v.toList ++ [], m')) else runI call iX12_number (122, [some (.ref 72), u1, u2, some (.int x3), some (.int x4)], [], (mm L X I J)) := by
  refine Eq.trans (if_ne (tgt := 122) dX12_number_113 (by decide +kernel)) (ite_cong (fun _ => ?_) (fun _ => ?_))
  · refine Eq.trans (st1 dX12_number_116 rfl rfl) ?_
    refine Eq.trans (xiconst dX12_number_117 ci_2) ?_
    refine Eq.trans (st1 dX12_number_118 rfl rfl) ?_
    exact iv0 dX12_number_119 rfl cp_12_132 rfl rfl (kd_ka ka_72) ka_72.1 (Nat.le_of_ble_eq_true rfl)
  · rfl
theorem q_X12_number_71 {call : CALL} {L X : Nat} {I : Nat → Nat → Int32} {J : Nat → Nat → Int64} {x1 : Int32} {x2 : Int32} {x3 : Int32} {u4 : Option Value} {s0 : Int32} {s1 : Int32} : runI call iX12_number (71, [some (.ref 72), some (.int x1), some (.int x2), some (.int x3), u4], [.int s1, .int s0], (mm L X I J)) = if ((s0 + s1) - (nI 48)) ≤ (nI 100000) then runI call iX12_number (91, [some (.ref 72), some (.int x1), some (.int x2), some (.int x3), some (.int ((s0 + s1) - (nI 48)))], [.int ((s0 + s1) - (nI 48))], (mm L X I J)) else runI call iX12_number (91, [some (.ref 72), some (.int x1), some (.int x2), some (.int x3), some (.int ((s0 + s1) - (nI 48)))], [.int (nI 100000)], (mm L X I J)) := by
  refine Eq.trans (st1 dX12_number_71 rfl rfl) ?_
  refine Eq.trans (xbipush dX12_number_72 cb_48) ?_
  refine Eq.trans (st1 dX12_number_74 rfl rfl) ?_
  refine Eq.trans (st1 dX12_number_75 rfl rfl) ?_
  refine Eq.trans (st1 dX12_number_77 rfl rfl) ?_
  refine Eq.trans (xldc1 dX12_number_79 cp_12_136 cn_100000) ?_
  refine Eq.trans (ic_le (tgt := 89) dX12_number_81 (by decide +kernel)) (ite_cong (fun _ => ?_) (fun _ => ?_))
  · refine Eq.trans (st1 dX12_number_89 rfl rfl) ?_
    rfl
  · refine Eq.trans (xldc1 dX12_number_84 cp_12_136 cn_100000) ?_
    refine Eq.trans (go_to (tgt := 91) dX12_number_86 (by decide +kernel)) ?_
    rfl
theorem q_X12_number_122 {call : CALL} {L X : Nat} {I : Nat → Nat → Int32} {J : Nat → Nat → Int64} {u1 : Option Value} {u2 : Option Value} {u3 : Option Value} {x4 : Int32} : runI call iX12_number (122, [some (.ref 72), u1, u2, u3, some (.int x4)], [], (mm L X I J)) = if (I 72 5) = (nI 0) then some (.inl (some (.int x4)), (mm L X I J)) else some (.inl (some (.int (nI 0))), (mm L X I J)) := by
  refine Eq.trans (st1 dX12_number_122 rfl rfl) ?_
  refine Eq.trans (getIm dX12_number_123 cp_12_119 ka_72 (.inl rfl)) ?_
  refine Eq.trans (if_ne (tgt := 134) dX12_number_126 (by decide +kernel)) (ite_cong (fun _ => ?_) (fun _ => ?_))
  · refine Eq.trans (st1 dX12_number_129 rfl rfl) ?_
    refine Eq.trans (go_to (tgt := 135) dX12_number_131 (by decide +kernel)) ?_
    exact ret0 dX12_number_135 rfl
  · refine Eq.trans (xiconst dX12_number_134 ci_0) ?_
    exact ret0 dX12_number_135 rfl
theorem q_X12_number_91 {call : CALL} {L X : Nat} {I : Nat → Nat → Int32} {J : Nat → Nat → Int64} {x1 : Int32} {x2 : Int32} {x3 : Int32} {u4 : Option Value} {s0 : Int32} : runI call iX12_number (91, [some (.ref 72), some (.int x1), some (.int x2), some (.int x3), u4], [.int s0], (mm L X I J)) = runI call iX12_number (44, [some (.ref 72), some (.int x1), some (.int x2), some (.int x3), some (.int s0)], [], (mm L X (up2 I 72 4 ((I 72 4) + (nI 1))) J)) := by
  refine Eq.trans (st1 dX12_number_91 rfl rfl) ?_
  refine Eq.trans (st1 dX12_number_93 rfl rfl) ?_
  refine Eq.trans (st1 dX12_number_94 rfl rfl) ?_
  refine Eq.trans (getIm dX12_number_95 cp_12_112 ka_72 (.inl rfl)) ?_
  refine Eq.trans (xiconst dX12_number_98 ci_1) ?_
  refine Eq.trans (st1 dX12_number_99 rfl rfl) ?_
  refine Eq.trans (putIm dX12_number_100 cp_12_112 ka_72 rfl) ?_
  refine Eq.trans (go_to (tgt := 44) dX12_number_103 (by decide +kernel)) ?_
  rfl
theorem q_X12_isDigit_0 {call : CALL} {L X : Nat} {I : Nat → Nat → Int32} {J : Nat → Nat → Int64} {x0 : Int32} : runI call iX12_isDigit (0, [some (.int x0)], [], (mm L X I J)) = if x0 < (nI 48) then some (.inl (some (.int (nI 0))), (mm L X I J)) else if (nI 57) < x0 then some (.inl (some (.int (nI 0))), (mm L X I J)) else some (.inl (some (.int (nI 1))), (mm L X I J)) := by
  refine Eq.trans (st1 dX12_isDigit_0 rfl rfl) ?_
  refine Eq.trans (xbipush dX12_isDigit_1 cb_48) ?_
  refine Eq.trans (ic_lt (tgt := 16) dX12_isDigit_3 (by decide +kernel)) (ite_cong (fun _ => ?_) (fun _ => ?_))
  · refine Eq.trans (xiconst dX12_isDigit_16 ci_0) ?_
    exact ret1 dX12_isDigit_17 rfl (.inl rfl)
  · refine Eq.trans (st1 dX12_isDigit_6 rfl rfl) ?_
    refine Eq.trans (xbipush dX12_isDigit_7 cb_57) ?_
    refine Eq.trans (ic_gt (tgt := 16) dX12_isDigit_9 (by decide +kernel)) (ite_cong (fun _ => ?_) (fun _ => ?_))
    · refine Eq.trans (xiconst dX12_isDigit_16 ci_0) ?_
      exact ret1 dX12_isDigit_17 rfl (.inl rfl)
    · refine Eq.trans (xiconst dX12_isDigit_12 ci_1) ?_
      refine Eq.trans (go_to (tgt := 17) dX12_isDigit_13 (by decide +kernel)) ?_
      exact ret1 dX12_isDigit_17 rfl (.inr rfl)
theorem q_X12_readThread_0 {call : CALL} {L X : Nat} {I : Nat → Nat → Int32} {J : Nat → Nat → Int64}  : runI call iX12_readThread (0, [some (.ref 72)], [], (mm L X I J)) = bnd (call nX12_number [.ref 72, .int (nI 0), .int (nI 9)] (mm L X I J)) (fun v m' => runI call iX12_readThread (7, [some (.ref 72)], v.toList ++ [], m')) := by
  refine Eq.trans (st1 dX12_readThread_0 rfl rfl) ?_
  refine Eq.trans (xiconst dX12_readThread_1 ci_0) ?_
  refine Eq.trans (xbipush dX12_readThread_2 cb_9) ?_
  exact iv0 dX12_readThread_4 rfl cp_12_165 rfl rfl (kd_ka ka_72) ka_72.1 (Nat.le_of_ble_eq_true rfl)
theorem q_X12_readThread_7 {call : CALL} {L X : Nat} {I : Nat → Nat → Int32} {J : Nat → Nat → Int64} {u0 : Option Value} {s0 : Int32} : runI call iX12_readThread (7, [u0], [.int s0], (mm L X I J)) = some (.inl (some (.int s0)), (mm L X I J)) := by
  exact ret0 dX12_readThread_7 rfl
theorem q_X12_sign_0 {call : CALL} {L X : Nat} {I : Nat → Nat → Int32} {J : Nat → Nat → Int64} {x1 : Int32} : runI call iX12_sign (0, [some (.ref 72), some (.int x1)], [], (mm L X I J)) = if (I 72 5) = (nI 0) then bnd (call nX12_blanks [.ref 72] (mm L X I J)) (fun v m' => runI call iX12_sign (12, [some (.ref 72), some (.int x1)], v.toList ++ [], m')) else some (.inl none, (mm L X I J)) := by
  refine Eq.trans (st1 dX12_sign_0 rfl rfl) ?_
  refine Eq.trans (getIm dX12_sign_1 cp_12_119 ka_72 (.inl rfl)) ?_
  refine Eq.trans (if_eq (tgt := 8) dX12_sign_4 (by decide +kernel)) (ite_cong (fun _ => ?_) (fun _ => ?_))
  · refine Eq.trans (st1 dX12_sign_8 rfl rfl) ?_
    exact iv0 dX12_sign_9 rfl cp_12_125 rfl rfl (kd_ka ka_72) ka_72.1 (Nat.le_of_ble_eq_true rfl)
  · exact ret3 dX12_sign_7 (.inl rfl)
theorem q_X12_sign_12 {call : CALL} {L X : Nat} {I : Nat → Nat → Int32} {J : Nat → Nat → Int64} {x1 : Int32} : runI call iX12_sign (12, [some (.ref 72), some (.int x1)], [], (mm L X I J)) = bnd (call nX12_byteAt [.ref 72, .int (I 72 4)] (mm L X I J)) (fun v m' => runI call iX12_sign (20, [some (.ref 72), some (.int x1)], v.toList ++ [], m')) := by
  refine Eq.trans (st1 dX12_sign_12 rfl rfl) ?_
  refine Eq.trans (st1 dX12_sign_13 rfl rfl) ?_
  refine Eq.trans (getIm dX12_sign_14 cp_12_112 ka_72 (.inl rfl)) ?_
  exact iv0 dX12_sign_17 rfl cp_12_115 rfl rfl (kd_ka ka_72) ka_72.1 (Nat.le_of_ble_eq_true rfl)
theorem q_X12_sign_20 {call : CALL} {L X : Nat} {I : Nat → Nat → Int32} {J : Nat → Nat → Int64} {x1 : Int32} {s0 : Int32} : runI call iX12_sign (20, [some (.ref 72), some (.int x1)], [.int s0], (mm L X I J)) = if s0 = x1 then some (.inl none, (mm L X (up2 I 72 4 ((I 72 4) + (nI 1))) J)) else bnd (call nX12_wrong [.ref 72, .int (nI 1), .int (I 72 4)] (mm L X I J)) (fun v m' => runI call iX12_sign (46, [some (.ref 72), some (.int x1)], v.toList ++ [], m')) := by
  refine Eq.trans (st1 dX12_sign_20 rfl rfl) ?_
  refine Eq.trans (ic_ne (tgt := 37) dX12_sign_21 (by decide +kernel)) (ite_cong (fun _ => ?_) (fun _ => ?_))
  · refine Eq.trans (st1 dX12_sign_24 rfl rfl) ?_
    refine Eq.trans (st1 dX12_sign_25 rfl rfl) ?_
    refine Eq.trans (getIm dX12_sign_26 cp_12_112 ka_72 (.inl rfl)) ?_
    refine Eq.trans (xiconst dX12_sign_29 ci_1) ?_
    refine Eq.trans (st1 dX12_sign_30 rfl rfl) ?_
    refine Eq.trans (putIm dX12_sign_31 cp_12_112 ka_72 rfl) ?_
    refine Eq.trans (go_to (tgt := 46) dX12_sign_34 (by decide +kernel)) ?_
    exact ret3 dX12_sign_46 (.inl rfl)
  · refine Eq.trans (st1 dX12_sign_37 rfl rfl) ?_
    refine Eq.trans (xiconst dX12_sign_38 ci_1) ?_
    refine Eq.trans (st1 dX12_sign_39 rfl rfl) ?_
    refine Eq.trans (getIm dX12_sign_40 cp_12_112 ka_72 (.inl rfl)) ?_
    exact iv0 dX12_sign_43 rfl cp_12_132 rfl rfl (kd_ka ka_72) ka_72.1 (Nat.le_of_ble_eq_true rfl)
theorem q_X12_sign_46 {call : CALL} {L X : Nat} {I : Nat → Nat → Int32} {J : Nat → Nat → Int64} {u0 : Option Value} {u1 : Option Value} : runI call iX12_sign (46, [u0, u1], [], (mm L X I J)) = some (.inl none, (mm L X I J)) := by
  exact ret3 dX12_sign_46 (.inl rfl)
theorem q_X12_ends_0 {call : CALL} {L X : Nat} {I : Nat → Nat → Int32} {J : Nat → Nat → Int64}  : runI call iX12_ends (0, [some (.ref 72)], [], (mm L X I J)) = some (.inl (some (.int (((up2 I 72 3 (I 72 6)) 72 5) - (nI 10)))), (mm L X (up2 I 72 3 (I 72 6)) J)) := by
  refine Eq.trans (st1 dX12_ends_0 rfl rfl) ?_
  refine Eq.trans (st1 dX12_ends_1 rfl rfl) ?_
  refine Eq.trans (getIm dX12_ends_2 cp_12_122 ka_72 (.inl rfl)) ?_
  refine Eq.trans (putIm dX12_ends_5 cp_12_9 ka_72 rfl) ?_
  refine Eq.trans (st1 dX12_ends_8 rfl rfl) ?_
  refine Eq.trans (getIm dX12_ends_9 cp_12_119 ka_72 (.inl rfl)) ?_
  refine Eq.trans (xbipush dX12_ends_12 cb_10) ?_
  refine Eq.trans (st1 dX12_ends_14 rfl rfl) ?_
  exact ret0 dX12_ends_15 rfl
theorem q_X12_law_0 {call : CALL} {L X : Nat} {I : Nat → Nat → Int32} {J : Nat → Nat → Int64} {x1 : Int32} : runI call iX12_law (0, [some (.ref 72), some (.int x1)], [], (mm L X I J)) = bndN (call nX12_in [.int x1, .int (nI 0), .int ((up2 I 72 0 (nI 0)) 72 1)] (mm L X (up2 I 72 0 (nI 0)) J)) (fun v m' => runI call iX12_law (15, [some (.ref 72), some (.int x1)], v.toList ++ [.ref 72], m')) := by
  refine Eq.trans (st1 dX12_law_0 rfl rfl) ?_
  refine Eq.trans (xiconst dX12_law_1 ci_0) ?_
  refine Eq.trans (putIm dX12_law_2 cp_12_103 ka_72 rfl) ?_
  refine Eq.trans (st1 dX12_law_5 rfl rfl) ?_
  refine Eq.trans (st1 dX12_law_6 rfl rfl) ?_
  refine Eq.trans (xiconst dX12_law_7 ci_0) ?_
  refine Eq.trans (st1 dX12_law_8 rfl rfl) ?_
  refine Eq.trans (getIm dX12_law_9 cp_12_106 ka_72 (.inl rfl)) ?_
  exact is2 dX12_law_12 cp_12_137 (Nat.le_of_ble_eq_true rfl) rfl rfl (Nat.le_of_ble_eq_true rfl)
theorem q_X12_law_15 {call : CALL} {L X : Nat} {I : Nat → Nat → Int32} {J : Nat → Nat → Int64} {x1 : Int32} {s1 : Int32} : runI call iX12_law (15, [some (.ref 72), some (.int x1)], [.int s1, .ref 72], (mm L X I J)) = if s1 = (nI 0) then runI call iX12_law (25, [some (.ref 72), some (.int x1)], [.ref 72], (mm L X I J)) else if x1 ≤ (nI 150) then runI call iX12_law (30, [some (.ref 72), some (.int x1)], [.int (nI 0), .ref 72], (mm L X I J)) else runI call iX12_law (25, [some (.ref 72), some (.int x1)], [.ref 72], (mm L X I J)) := by
  refine Eq.trans (if_eq (tgt := 25) dX12_law_15 (by decide +kernel)) (ite_cong (fun _ => ?_) (fun _ => ?_))
  · rfl
  · refine Eq.trans (st1 dX12_law_18 rfl rfl) ?_
    refine Eq.trans (xsipush dX12_law_19 cs_150) ?_
    refine Eq.trans (ic_le (tgt := 29) dX12_law_22 (by decide +kernel)) (ite_cong (fun _ => ?_) (fun _ => ?_))
    · refine Eq.trans (xiconst dX12_law_29 ci_0) ?_
      rfl
    · rfl
theorem q_X12_law_25 {call : CALL} {L X : Nat} {I : Nat → Nat → Int32} {J : Nat → Nat → Int64} {x1 : Int32} : runI call iX12_law (25, [some (.ref 72), some (.int x1)], [.ref 72], (mm L X I J)) = runI call iX12_law (30, [some (.ref 72), some (.int x1)], [.int (nI 1), .ref 72], (mm L X I J)) := by
  refine Eq.trans (xiconst dX12_law_25 ci_1) ?_
  refine Eq.trans (go_to (tgt := 30) dX12_law_26 (by decide +kernel)) ?_
  rfl
theorem q_X12_law_30 {call : CALL} {L X : Nat} {I : Nat → Nat → Int32} {J : Nat → Nat → Int64} {x1 : Int32} {s1 : Int32} : runI call iX12_law (30, [some (.ref 72), some (.int x1)], [.int s1, .ref 72], (mm L X I J)) = bnd (call nX12_bad [.ref 72, .int s1, .int (nI 1), .int (nI 1)] (mm L X I J)) (fun v m' => runI call iX12_law (35, [some (.ref 72), some (.int x1)], v.toList ++ [], m')) := by
  refine Eq.trans (xiconst dX12_law_30 ci_1) ?_
  refine Eq.trans (xiconst dX12_law_31 ci_1) ?_
  exact iv0 dX12_law_32 rfl cp_12_182 rfl rfl (kd_ka ka_72) ka_72.1 (Nat.le_of_ble_eq_true rfl)
theorem q_X12_law_35 {call : CALL} {L X : Nat} {I : Nat → Nat → Int32} {J : Nat → Nat → Int64} {x1 : Int32} {s0 : Int32} : runI call iX12_law (35, [some (.ref 72), some (.int x1)], [.int s0], (mm L X I J)) = if s0 = (nI 0) then bnd (call nX12_starts [.ref 72, .int x1] (mm L X I J)) (fun v m' => runI call iX12_law (45, [some (.ref 72), some (.int x1)], v.toList ++ [], m')) else some (.inl (some (.int (nI 0))), (mm L X I J)) := by
  refine Eq.trans (if_eq (tgt := 40) dX12_law_35 (by decide +kernel)) (ite_cong (fun _ => ?_) (fun _ => ?_))
  · refine Eq.trans (st1 dX12_law_40 rfl rfl) ?_
    refine Eq.trans (st1 dX12_law_41 rfl rfl) ?_
    exact iv0 dX12_law_42 rfl cp_12_186 rfl rfl (kd_ka ka_72) ka_72.1 (Nat.le_of_ble_eq_true rfl)
  · refine Eq.trans (xiconst dX12_law_38 ci_0) ?_
    exact ret0 dX12_law_39 rfl
theorem q_X12_law_45 {call : CALL} {L X : Nat} {I : Nat → Nat → Int32} {J : Nat → Nat → Int64} {u1 : Option Value} : runI call iX12_law (45, [some (.ref 72), u1], [], (mm L X I J)) = bnd (call nX12_sum [.ref 72] (mm L X (up2 I 72 20 (nI 0)) J)) (fun v m' => runI call iX12_law (54, [some (.ref 72), u1], v.toList ++ [], m')) := by
  refine Eq.trans (st1 dX12_law_45 rfl rfl) ?_
  refine Eq.trans (xiconst dX12_law_46 ci_0) ?_
  refine Eq.trans (putIm dX12_law_47 cp_12_217 ka_72 rfl) ?_
  refine Eq.trans (st1 dX12_law_50 rfl rfl) ?_
  exact iv0 dX12_law_51 rfl cp_12_239 rfl rfl (kd_ka ka_72) ka_72.1 (Nat.le_of_ble_eq_true rfl)
theorem q_X12_law_54 {call : CALL} {L X : Nat} {I : Nat → Nat → Int32} {J : Nat → Nat → Int64} {u1 : Option Value} : runI call iX12_law (54, [some (.ref 72), u1], [], (mm L X I J)) = bnd (call nX12_blanks [.ref 72] (mm L X I J)) (fun v m' => runI call iX12_law (58, [some (.ref 72), u1], v.toList ++ [], m')) := by
  refine Eq.trans (st1 dX12_law_54 rfl rfl) ?_
  exact iv0 dX12_law_55 rfl cp_12_125 rfl rfl (kd_ka ka_72) ka_72.1 (Nat.le_of_ble_eq_true rfl)
theorem q_X12_law_58 {call : CALL} {L X : Nat} {I : Nat → Nat → Int32} {J : Nat → Nat → Int64} {u1 : Option Value} : runI call iX12_law (58, [some (.ref 72), u1], [], (mm L X I J)) = if (I 72 5) = (nI 0) then if (I 72 2) ≤ (I 72 4) then runI call iX12_law (85, [some (.ref 72), u1], [], (mm L X I J)) else bnd (call nX12_wrong [.ref 72, .int (nI 1), .int (I 72 4)] (mm L X I J)) (fun v m' => runI call iX12_law (85, [some (.ref 72), u1], v.toList ++ [], m')) else runI call iX12_law (85, [some (.ref 72), u1], [], (mm L X I J)) := by
  refine Eq.trans (st1 dX12_law_58 rfl rfl) ?_
  refine Eq.trans (getIm dX12_law_59 cp_12_119 ka_72 (.inl rfl)) ?_
  refine Eq.trans (if_ne (tgt := 85) dX12_law_62 (by decide +kernel)) (ite_cong (fun _ => ?_) (fun _ => ?_))
  · refine Eq.trans (st1 dX12_law_65 rfl rfl) ?_
    refine Eq.trans (getIm dX12_law_66 cp_12_112 ka_72 (.inl rfl)) ?_
    refine Eq.trans (st1 dX12_law_69 rfl rfl) ?_
    refine Eq.trans (getIm dX12_law_70 cp_12_109 ka_72 (.inl rfl)) ?_
    refine Eq.trans (ic_ge (tgt := 85) dX12_law_73 (by decide +kernel)) (ite_cong (fun _ => ?_) (fun _ => ?_))
    · rfl
    · refine Eq.trans (st1 dX12_law_76 rfl rfl) ?_
      refine Eq.trans (xiconst dX12_law_77 ci_1) ?_
      refine Eq.trans (st1 dX12_law_78 rfl rfl) ?_
      refine Eq.trans (getIm dX12_law_79 cp_12_112 ka_72 (.inl rfl)) ?_
      exact iv0 dX12_law_82 rfl cp_12_132 rfl rfl (kd_ka ka_72) ka_72.1 (Nat.le_of_ble_eq_true rfl)
  · rfl
theorem q_X12_law_85 {call : CALL} {L X : Nat} {I : Nat → Nat → Int32} {J : Nat → Nat → Int64} {u1 : Option Value} : runI call iX12_law (85, [some (.ref 72), u1], [], (mm L X I J)) = if (I 72 5) = (nI 0) then bndN (call nX12_lays [.ref 275, .ref 114, .int ((up2 (up2 I 72 3 (-1 : Int32)) 72 19 ((up2 I 72 3 (-1 : Int32)) 72 20)) 72 19)] (mm L X (up2 (up2 I 72 3 (-1 : Int32)) 72 19 ((up2 I 72 3 (-1 : Int32)) 72 20)) J)) (fun v m' => runI call iX12_law (125, [some (.ref 72), u1], v.toList ++ [], m')) else bnd (call nX12_ends [.ref 72] (mm L X I J)) (fun v m' => runI call iX12_law (96, [some (.ref 72), u1], v.toList ++ [], m')) := by
  refine Eq.trans (st1 dX12_law_85 rfl rfl) ?_
  refine Eq.trans (getIm dX12_law_86 cp_12_119 ka_72 (.inl rfl)) ?_
  refine Eq.trans (if_eq (tgt := 97) dX12_law_89 (by decide +kernel)) (ite_cong (fun _ => ?_) (fun _ => ?_))
  · refine Eq.trans (st1 dX12_law_97 rfl rfl) ?_
    refine Eq.trans (xiconst dX12_law_98 ci_m1) ?_
    refine Eq.trans (putIm dX12_law_99 cp_12_9 ka_72 rfl) ?_
    refine Eq.trans (st1 dX12_law_102 rfl rfl) ?_
    refine Eq.trans (st1 dX12_law_103 rfl rfl) ?_
    refine Eq.trans (getIm dX12_law_104 cp_12_217 ka_72 (.inl rfl)) ?_
    refine Eq.trans (putIm dX12_law_107 cp_12_202 ka_72 rfl) ?_
    refine Eq.trans (st1 dX12_law_110 rfl rfl) ?_
    refine Eq.trans (getRm dX12_law_111 cp_12_49 ka_72 rfl r_72_22) ?_
    refine Eq.trans (st1 dX12_law_114 rfl rfl) ?_
    refine Eq.trans (getRm dX12_law_115 cp_12_46 ka_72 rfl r_72_21) ?_
    refine Eq.trans (st1 dX12_law_118 rfl rfl) ?_
    refine Eq.trans (getIm dX12_law_119 cp_12_202 ka_72 (.inl rfl)) ?_
    exact is2 dX12_law_122 cp_12_195 (Nat.le_of_ble_eq_true rfl) rfl rfl (Nat.le_of_ble_eq_true rfl)
  · refine Eq.trans (st1 dX12_law_92 rfl rfl) ?_
    exact iv0 dX12_law_93 rfl cp_12_192 rfl rfl (kd_ka ka_72) ka_72.1 (Nat.le_of_ble_eq_true rfl)
theorem q_X12_law_125 {call : CALL} {L X : Nat} {I : Nat → Nat → Int32} {J : Nat → Nat → Int64} {u0 : Option Value} {u1 : Option Value} : runI call iX12_law (125, [u0, u1], [], (mm L X I J)) = some (.inl (some (.int (nI 1))), (mm L X I J)) := by
  refine Eq.trans (xiconst dX12_law_125 ci_1) ?_
  exact ret0 dX12_law_126 rfl
theorem q_X12_law_96 {call : CALL} {L X : Nat} {I : Nat → Nat → Int32} {J : Nat → Nat → Int64} {u0 : Option Value} {u1 : Option Value} {s0 : Int32} : runI call iX12_law (96, [u0, u1], [.int s0], (mm L X I J)) = some (.inl (some (.int s0)), (mm L X I J)) := by
  exact ret0 dX12_law_96 rfl
theorem q_X12_sum_0 {call : CALL} {L X : Nat} {I : Nat → Nat → Int32} {J : Nat → Nat → Int64}  : runI call iX12_sum (0, [some (.ref 72), none], [], (mm L X I J)) = bnd (call nX12_product [.ref 72] (mm L X I J)) (fun v m' => runI call iX12_sum (4, [some (.ref 72), none], v.toList ++ [], m')) := by
  refine Eq.trans (st1 dX12_sum_0 rfl rfl) ?_
  exact iv0 dX12_sum_1 rfl cp_12_220 rfl rfl (kd_ka ka_72) ka_72.1 (Nat.le_of_ble_eq_true rfl)
theorem q_X12_sum_4 {call : CALL} {L X : Nat} {I : Nat → Nat → Int32} {J : Nat → Nat → Int64} {u1 : Option Value} : runI call iX12_sum (4, [some (.ref 72), u1], [], (mm L X I J)) = if (I 72 5) = (nI 0) then bnd (call nX12_takesSign [.ref 72, .int (nI 43)] (mm L X I J)) (fun v m' => runI call iX12_sum (17, [some (.ref 72), u1], v.toList ++ [], m')) else some (.inl none, (mm L X I J)) := by
  refine Eq.trans (st1 dX12_sum_4 rfl rfl) ?_
  refine Eq.trans (getIm dX12_sum_5 cp_12_119 ka_72 (.inl rfl)) ?_
  refine Eq.trans (if_ne (tgt := 58) dX12_sum_8 (by decide +kernel)) (ite_cong (fun _ => ?_) (fun _ => ?_))
  · refine Eq.trans (st1 dX12_sum_11 rfl rfl) ?_
    refine Eq.trans (xbipush dX12_sum_12 cb_43) ?_
    exact iv0 dX12_sum_14 rfl cp_12_223 rfl rfl (kd_ka ka_72) ka_72.1 (Nat.le_of_ble_eq_true rfl)
  · exact ret3 dX12_sum_58 (.inl rfl)
theorem q_X12_sum_17 {call : CALL} {L X : Nat} {I : Nat → Nat → Int32} {J : Nat → Nat → Int64} {u1 : Option Value} {s0 : Int32} : runI call iX12_sum (17, [some (.ref 72), u1], [.int s0], (mm L X I J)) = if s0 = (nI 0) then bnd (call nX12_takesSign [.ref 72, .int (nI 45)] (mm L X I J)) (fun v m' => runI call iX12_sum (30, [some (.ref 72), u1], v.toList ++ [], m')) else runI call iX12_sum (38, [some (.ref 72), u1], [.int (nI 2)], (mm L X I J)) := by
  refine Eq.trans (if_eq (tgt := 24) dX12_sum_17 (by decide +kernel)) (ite_cong (fun _ => ?_) (fun _ => ?_))
  · refine Eq.trans (st1 dX12_sum_24 rfl rfl) ?_
    refine Eq.trans (xbipush dX12_sum_25 cb_45) ?_
    exact iv0 dX12_sum_27 rfl cp_12_223 rfl rfl (kd_ka ka_72) ka_72.1 (Nat.le_of_ble_eq_true rfl)
  · refine Eq.trans (xiconst dX12_sum_20 ci_2) ?_
    refine Eq.trans (go_to (tgt := 38) dX12_sum_21 (by decide +kernel)) ?_
    rfl
theorem q_X12_sum_30 {call : CALL} {L X : Nat} {I : Nat → Nat → Int32} {J : Nat → Nat → Int64} {u1 : Option Value} {s0 : Int32} : runI call iX12_sum (30, [some (.ref 72), u1], [.int s0], (mm L X I J)) = if s0 = (nI 0) then runI call iX12_sum (38, [some (.ref 72), u1], [.int (-1 : Int32)], (mm L X I J)) else runI call iX12_sum (38, [some (.ref 72), u1], [.int (nI 3)], (mm L X I J)) := by
  refine Eq.trans (if_eq (tgt := 37) dX12_sum_30 (by decide +kernel)) (ite_cong (fun _ => ?_) (fun _ => ?_))
  · refine Eq.trans (xiconst dX12_sum_37 ci_m1) ?_
    rfl
  · refine Eq.trans (xiconst dX12_sum_33 ci_3) ?_
    refine Eq.trans (go_to (tgt := 38) dX12_sum_34 (by decide +kernel)) ?_
    rfl
theorem q_X12_sum_38 {call : CALL} {L X : Nat} {I : Nat → Nat → Int32} {J : Nat → Nat → Int64} {u1 : Option Value} {s0 : Int32} : runI call iX12_sum (38, [some (.ref 72), u1], [.int s0], (mm L X I J)) = if s0 = (-1 : Int32) then some (.inl none, (mm L X I J)) else bnd (call nX12_product [.ref 72] (mm L X I J)) (fun v m' => runI call iX12_sum (49, [some (.ref 72), some (.int s0)], v.toList ++ [], m')) := by
  refine Eq.trans (st1 dX12_sum_38 rfl rfl) ?_
  refine Eq.trans (st1 dX12_sum_39 rfl rfl) ?_
  refine Eq.trans (xiconst dX12_sum_40 ci_m1) ?_
  refine Eq.trans (ic_ne (tgt := 45) dX12_sum_41 (by decide +kernel)) (ite_cong (fun _ => ?_) (fun _ => ?_))
  · exact ret3 dX12_sum_44 (.inl rfl)
  · refine Eq.trans (st1 dX12_sum_45 rfl rfl) ?_
    exact iv0 dX12_sum_46 rfl cp_12_220 rfl rfl (kd_ka ka_72) ka_72.1 (Nat.le_of_ble_eq_true rfl)
theorem q_X12_sum_49 {call : CALL} {L X : Nat} {I : Nat → Nat → Int32} {J : Nat → Nat → Int64} {x1 : Int32} : runI call iX12_sum (49, [some (.ref 72), some (.int x1)], [], (mm L X I J)) = bnd (call nX12_notes [.ref 72, .int x1, .int (nI 0)] (mm L X I J)) (fun v m' => runI call iX12_sum (55, [some (.ref 72), some (.int x1)], v.toList ++ [], m')) := by
  refine Eq.trans (st1 dX12_sum_49 rfl rfl) ?_
  refine Eq.trans (st1 dX12_sum_50 rfl rfl) ?_
  refine Eq.trans (xiconst dX12_sum_51 ci_0) ?_
  exact iv0 dX12_sum_52 rfl cp_12_226 rfl rfl (kd_ka ka_72) ka_72.1 (Nat.le_of_ble_eq_true rfl)
theorem q_X12_sum_55 {call : CALL} {L X : Nat} {I : Nat → Nat → Int32} {J : Nat → Nat → Int64} {u1 : Option Value} : runI call iX12_sum (55, [some (.ref 72), u1], [], (mm L X I J)) = runI call iX12_sum (4, [some (.ref 72), u1], [], (mm L X I J)) := by
  refine Eq.trans (go_to (tgt := 4) dX12_sum_55 (by decide +kernel)) ?_
  rfl
theorem q_X12_product_0 {call : CALL} {L X : Nat} {I : Nat → Nat → Int32} {J : Nat → Nat → Int64}  : runI call iX12_product (0, [some (.ref 72), none], [], (mm L X I J)) = bnd (call nX12_one [.ref 72] (mm L X I J)) (fun v m' => runI call iX12_product (4, [some (.ref 72), none], v.toList ++ [], m')) := by
  refine Eq.trans (st1 dX12_product_0 rfl rfl) ?_
  exact iv0 dX12_product_1 rfl cp_12_229 rfl rfl (kd_ka ka_72) ka_72.1 (Nat.le_of_ble_eq_true rfl)
theorem q_X12_product_4 {call : CALL} {L X : Nat} {I : Nat → Nat → Int32} {J : Nat → Nat → Int64} {u1 : Option Value} : runI call iX12_product (4, [some (.ref 72), u1], [], (mm L X I J)) = if (I 72 5) = (nI 0) then bnd (call nX12_takesSign [.ref 72, .int (nI 42)] (mm L X I J)) (fun v m' => runI call iX12_product (17, [some (.ref 72), u1], v.toList ++ [], m')) else some (.inl none, (mm L X I J)) := by
  refine Eq.trans (st1 dX12_product_4 rfl rfl) ?_
  refine Eq.trans (getIm dX12_product_5 cp_12_119 ka_72 (.inl rfl)) ?_
  refine Eq.trans (if_ne (tgt := 72) dX12_product_8 (by decide +kernel)) (ite_cong (fun _ => ?_) (fun _ => ?_))
  · refine Eq.trans (st1 dX12_product_11 rfl rfl) ?_
    refine Eq.trans (xbipush dX12_product_12 cb_42) ?_
    exact iv0 dX12_product_14 rfl cp_12_223 rfl rfl (kd_ka ka_72) ka_72.1 (Nat.le_of_ble_eq_true rfl)
  · exact ret3 dX12_product_72 (.inl rfl)
theorem q_X12_product_17 {call : CALL} {L X : Nat} {I : Nat → Nat → Int32} {J : Nat → Nat → Int64} {u1 : Option Value} {s0 : Int32} : runI call iX12_product (17, [some (.ref 72), u1], [.int s0], (mm L X I J)) = if s0 = (nI 0) then bnd (call nX12_takesSign [.ref 72, .int (nI 47)] (mm L X I J)) (fun v m' => runI call iX12_product (30, [some (.ref 72), u1], v.toList ++ [], m')) else runI call iX12_product (52, [some (.ref 72), u1], [.int (nI 4)], (mm L X I J)) := by
  refine Eq.trans (if_eq (tgt := 24) dX12_product_17 (by decide +kernel)) (ite_cong (fun _ => ?_) (fun _ => ?_))
  · refine Eq.trans (st1 dX12_product_24 rfl rfl) ?_
    refine Eq.trans (xbipush dX12_product_25 cb_47) ?_
    exact iv0 dX12_product_27 rfl cp_12_223 rfl rfl (kd_ka ka_72) ka_72.1 (Nat.le_of_ble_eq_true rfl)
  · refine Eq.trans (xiconst dX12_product_20 ci_4) ?_
    refine Eq.trans (go_to (tgt := 52) dX12_product_21 (by decide +kernel)) ?_
    rfl
theorem q_X12_product_30 {call : CALL} {L X : Nat} {I : Nat → Nat → Int32} {J : Nat → Nat → Int64} {u1 : Option Value} {s0 : Int32} : runI call iX12_product (30, [some (.ref 72), u1], [.int s0], (mm L X I J)) = if s0 = (nI 0) then bnd (call nX12_takesSign [.ref 72, .int (nI 37)] (mm L X I J)) (fun v m' => runI call iX12_product (43, [some (.ref 72), u1], v.toList ++ [], m')) else runI call iX12_product (52, [some (.ref 72), u1], [.int (nI 5)], (mm L X I J)) := by
  refine Eq.trans (if_eq (tgt := 37) dX12_product_30 (by decide +kernel)) (ite_cong (fun _ => ?_) (fun _ => ?_))
  · refine Eq.trans (st1 dX12_product_37 rfl rfl) ?_
    refine Eq.trans (xbipush dX12_product_38 cb_37) ?_
    exact iv0 dX12_product_40 rfl cp_12_223 rfl rfl (kd_ka ka_72) ka_72.1 (Nat.le_of_ble_eq_true rfl)
  · refine Eq.trans (xiconst dX12_product_33 ci_5) ?_
    refine Eq.trans (go_to (tgt := 52) dX12_product_34 (by decide +kernel)) ?_
    rfl
theorem q_X12_product_52 {call : CALL} {L X : Nat} {I : Nat → Nat → Int32} {J : Nat → Nat → Int64} {u1 : Option Value} {s0 : Int32} : runI call iX12_product (52, [some (.ref 72), u1], [.int s0], (mm L X I J)) = if s0 = (-1 : Int32) then some (.inl none, (mm L X I J)) else bnd (call nX12_one [.ref 72] (mm L X I J)) (fun v m' => runI call iX12_product (63, [some (.ref 72), some (.int s0)], v.toList ++ [], m')) := by
  refine Eq.trans (st1 dX12_product_52 rfl rfl) ?_
  refine Eq.trans (st1 dX12_product_53 rfl rfl) ?_
  refine Eq.trans (xiconst dX12_product_54 ci_m1) ?_
  refine Eq.trans (ic_ne (tgt := 59) dX12_product_55 (by decide +kernel)) (ite_cong (fun _ => ?_) (fun _ => ?_))
  · exact ret3 dX12_product_58 (.inl rfl)
  · refine Eq.trans (st1 dX12_product_59 rfl rfl) ?_
    exact iv0 dX12_product_60 rfl cp_12_229 rfl rfl (kd_ka ka_72) ka_72.1 (Nat.le_of_ble_eq_true rfl)
theorem q_X12_product_43 {call : CALL} {L X : Nat} {I : Nat → Nat → Int32} {J : Nat → Nat → Int64} {u1 : Option Value} {s0 : Int32} : runI call iX12_product (43, [some (.ref 72), u1], [.int s0], (mm L X I J)) = if s0 = (nI 0) then runI call iX12_product (52, [some (.ref 72), u1], [.int (-1 : Int32)], (mm L X I J)) else runI call iX12_product (52, [some (.ref 72), u1], [.int (nI 6)], (mm L X I J)) := by
  refine Eq.trans (if_eq (tgt := 51) dX12_product_43 (by decide +kernel)) (ite_cong (fun _ => ?_) (fun _ => ?_))
  · refine Eq.trans (xiconst dX12_product_51 ci_m1) ?_
    rfl
  · refine Eq.trans (xbipush dX12_product_46 cb_6) ?_
    refine Eq.trans (go_to (tgt := 52) dX12_product_48 (by decide +kernel)) ?_
    rfl
theorem q_X12_product_63 {call : CALL} {L X : Nat} {I : Nat → Nat → Int32} {J : Nat → Nat → Int64} {x1 : Int32} : runI call iX12_product (63, [some (.ref 72), some (.int x1)], [], (mm L X I J)) = bnd (call nX12_notes [.ref 72, .int x1, .int (nI 0)] (mm L X I J)) (fun v m' => runI call iX12_product (69, [some (.ref 72), some (.int x1)], v.toList ++ [], m')) := by
  refine Eq.trans (st1 dX12_product_63 rfl rfl) ?_
  refine Eq.trans (st1 dX12_product_64 rfl rfl) ?_
  refine Eq.trans (xiconst dX12_product_65 ci_0) ?_
  exact iv0 dX12_product_66 rfl cp_12_226 rfl rfl (kd_ka ka_72) ka_72.1 (Nat.le_of_ble_eq_true rfl)
theorem q_X12_product_69 {call : CALL} {L X : Nat} {I : Nat → Nat → Int32} {J : Nat → Nat → Int64} {u1 : Option Value} : runI call iX12_product (69, [some (.ref 72), u1], [], (mm L X I J)) = runI call iX12_product (4, [some (.ref 72), u1], [], (mm L X I J)) := by
  refine Eq.trans (go_to (tgt := 4) dX12_product_69 (by decide +kernel)) ?_
  rfl
theorem q_X12_one_0 {call : CALL} {L X : Nat} {I : Nat → Nat → Int32} {J : Nat → Nat → Int64}  : runI call iX12_one (0, [some (.ref 72), none, none], [], (mm L X I J)) = if (I 72 5) = (nI 0) then bnd (call nX12_blanks [.ref 72] (mm L X I J)) (fun v m' => runI call iX12_one (12, [some (.ref 72), none, none], v.toList ++ [], m')) else some (.inl none, (mm L X I J)) := by
  refine Eq.trans (st1 dX12_one_0 rfl rfl) ?_
  refine Eq.trans (getIm dX12_one_1 cp_12_119 ka_72 (.inl rfl)) ?_
  refine Eq.trans (if_eq (tgt := 8) dX12_one_4 (by decide +kernel)) (ite_cong (fun _ => ?_) (fun _ => ?_))
  · refine Eq.trans (st1 dX12_one_8 rfl rfl) ?_
    exact iv0 dX12_one_9 rfl cp_12_125 rfl rfl (kd_ka ka_72) ka_72.1 (Nat.le_of_ble_eq_true rfl)
  · exact ret3 dX12_one_7 (.inl rfl)
theorem q_X12_one_12 {call : CALL} {L X : Nat} {I : Nat → Nat → Int32} {J : Nat → Nat → Int64} {u1 : Option Value} {u2 : Option Value} : runI call iX12_one (12, [some (.ref 72), u1, u2], [], (mm L X I J)) = bnd (call nX12_isWord [.ref 72, .int (nI 12), .int (nI 5), .int (nI 1), .int (nI 19), .int (nI 20), .int (nI 0)] (mm L X I J)) (fun v m' => runI call iX12_one (25, [some (.ref 72), u1, u2], v.toList ++ [], m')) := by
  refine Eq.trans (st1 dX12_one_12 rfl rfl) ?_
  refine Eq.trans (xbipush dX12_one_13 cb_12) ?_
  refine Eq.trans (xiconst dX12_one_15 ci_5) ?_
  refine Eq.trans (xiconst dX12_one_16 ci_1) ?_
  refine Eq.trans (xbipush dX12_one_17 cb_19) ?_
  refine Eq.trans (xbipush dX12_one_19 cb_20) ?_
  refine Eq.trans (xiconst dX12_one_21 ci_0) ?_
  exact iv0 dX12_one_22 rfl cp_12_152 rfl rfl (kd_ka ka_72) ka_72.1 (Nat.le_of_ble_eq_true rfl)
theorem q_X12_one_25 {call : CALL} {L X : Nat} {I : Nat → Nat → Int32} {J : Nat → Nat → Int64} {u1 : Option Value} {u2 : Option Value} {s0 : Int32} : runI call iX12_one (25, [some (.ref 72), u1, u2], [.int s0], (mm L X I J)) = if s0 = (nI 0) then bnd (call nX12_isWord [.ref 72, .int (nI 13), .int (nI 15), .int (nI 19), .int (nI 20), .int (nI 0), .int (nI 0)] (mm L X I J)) (fun v m' => runI call iX12_one (47, [some (.ref 72), u1, u2], v.toList ++ [], m')) else runI call iX12_one (56, [some (.ref 72), u1, u2], [.int (nI 7)], (mm L X I J)) := by
  refine Eq.trans (if_eq (tgt := 33) dX12_one_25 (by decide +kernel)) (ite_cong (fun _ => ?_) (fun _ => ?_))
  · refine Eq.trans (st1 dX12_one_33 rfl rfl) ?_
    refine Eq.trans (xbipush dX12_one_34 cb_13) ?_
    refine Eq.trans (xbipush dX12_one_36 cb_15) ?_
    refine Eq.trans (xbipush dX12_one_38 cb_19) ?_
    refine Eq.trans (xbipush dX12_one_40 cb_20) ?_
    refine Eq.trans (xiconst dX12_one_42 ci_0) ?_
    refine Eq.trans (xiconst dX12_one_43 ci_0) ?_
    exact iv0 dX12_one_44 rfl cp_12_152 rfl rfl (kd_ka ka_72) ka_72.1 (Nat.le_of_ble_eq_true rfl)
  · refine Eq.trans (xbipush dX12_one_28 cb_7) ?_
    refine Eq.trans (go_to (tgt := 56) dX12_one_30 (by decide +kernel)) ?_
    rfl
theorem q_X12_one_47 {call : CALL} {L X : Nat} {I : Nat → Nat → Int32} {J : Nat → Nat → Int64} {u1 : Option Value} {u2 : Option Value} {s0 : Int32} : runI call iX12_one (47, [some (.ref 72), u1, u2], [.int s0], (mm L X I J)) = if s0 = (nI 0) then runI call iX12_one (56, [some (.ref 72), u1, u2], [.int (-1 : Int32)], (mm L X I J)) else runI call iX12_one (56, [some (.ref 72), u1, u2], [.int (nI 8)], (mm L X I J)) := by
  refine Eq.trans (if_eq (tgt := 55) dX12_one_47 (by decide +kernel)) (ite_cong (fun _ => ?_) (fun _ => ?_))
  · refine Eq.trans (xiconst dX12_one_55 ci_m1) ?_
    rfl
  · refine Eq.trans (xbipush dX12_one_50 cb_8) ?_
    refine Eq.trans (go_to (tgt := 56) dX12_one_52 (by decide +kernel)) ?_
    rfl
theorem q_X12_one_56 {call : CALL} {L X : Nat} {I : Nat → Nat → Int32} {J : Nat → Nat → Int64} {u1 : Option Value} {u2 : Option Value} {s0 : Int32} : runI call iX12_one (56, [some (.ref 72), u1, u2], [.int s0], (mm L X I J)) = if s0 = (-1 : Int32) then bnd (call nX12_byteAt [.ref 72, .int (I 72 4)] (mm L X I J)) (fun v m' => runI call iX12_one (125, [some (.ref 72), some (.int s0), u2], v.toList ++ [], m')) else bnd (call nX12_opensOne [.ref 72] (mm L X I J)) (fun v m' => runI call iX12_one (66, [some (.ref 72), some (.int s0), u2], v.toList ++ [], m')) := by
  refine Eq.trans (st1 dX12_one_56 rfl rfl) ?_
  refine Eq.trans (st1 dX12_one_57 rfl rfl) ?_
  refine Eq.trans (xiconst dX12_one_58 ci_m1) ?_
  refine Eq.trans (ic_eq (tgt := 117) dX12_one_59 (by decide +kernel)) (ite_cong (fun _ => ?_) (fun _ => ?_))
  · refine Eq.trans (st1 dX12_one_117 rfl rfl) ?_
    refine Eq.trans (st1 dX12_one_118 rfl rfl) ?_
    refine Eq.trans (getIm dX12_one_119 cp_12_112 ka_72 (.inl rfl)) ?_
    exact iv0 dX12_one_122 rfl cp_12_115 rfl rfl (kd_ka ka_72) ka_72.1 (Nat.le_of_ble_eq_true rfl)
  · refine Eq.trans (st1 dX12_one_62 rfl rfl) ?_
    exact iv0 dX12_one_63 rfl cp_12_235 rfl rfl (kd_ka ka_72) ka_72.1 (Nat.le_of_ble_eq_true rfl)
theorem q_X12_one_125 {call : CALL} {L X : Nat} {I : Nat → Nat → Int32} {J : Nat → Nat → Int64} {u1 : Option Value} {u2 : Option Value} {s0 : Int32} : runI call iX12_one (125, [some (.ref 72), u1, u2], [.int s0], (mm L X I J)) = if s0 = (nI 40) then bnd (call nX12_opensOne [.ref 72] (mm L X I J)) (fun v m' => runI call iX12_one (134, [some (.ref 72), u1, u2], v.toList ++ [], m')) else bnd (call nX12_knownHere [.ref 72] (mm L X I J)) (fun v m' => runI call iX12_one (173, [some (.ref 72), u1, u2], v.toList ++ [], m')) := by
  refine Eq.trans (xbipush dX12_one_125 cb_40) ?_
  refine Eq.trans (ic_ne (tgt := 169) dX12_one_127 (by decide +kernel)) (ite_cong (fun _ => ?_) (fun _ => ?_))
  · refine Eq.trans (st1 dX12_one_130 rfl rfl) ?_
    exact iv0 dX12_one_131 rfl cp_12_235 rfl rfl (kd_ka ka_72) ka_72.1 (Nat.le_of_ble_eq_true rfl)
  · refine Eq.trans (st1 dX12_one_169 rfl rfl) ?_
    exact iv0 dX12_one_170 rfl cp_12_242 rfl rfl (kd_ka ka_72) ka_72.1 (Nat.le_of_ble_eq_true rfl)
theorem q_X12_one_66 {call : CALL} {L X : Nat} {I : Nat → Nat → Int32} {J : Nat → Nat → Int64} {x1 : Int32} {u2 : Option Value} {s0 : Int32} : runI call iX12_one (66, [some (.ref 72), some (.int x1), u2], [.int s0], (mm L X I J)) = if s0 = (nI 0) then some (.inl none, (mm L X I J)) else bnd (call nX12_skipWord [.ref 72] (mm L X I J)) (fun v m' => runI call iX12_one (74, [some (.ref 72), some (.int x1), u2], v.toList ++ [], m')) := by
  refine Eq.trans (if_ne (tgt := 70) dX12_one_66 (by decide +kernel)) (ite_cong (fun _ => ?_) (fun _ => ?_))
  · exact ret3 dX12_one_69 (.inl rfl)
  · refine Eq.trans (st1 dX12_one_70 rfl rfl) ?_
    exact iv0 dX12_one_71 rfl cp_12_156 rfl rfl (kd_ka ka_72) ka_72.1 (Nat.le_of_ble_eq_true rfl)
theorem q_X12_one_173 {call : CALL} {L X : Nat} {I : Nat → Nat → Int32} {J : Nat → Nat → Int64} {u1 : Option Value} {u2 : Option Value} {s0 : Int32} (hu1 : okv u1 = true) : runI call iX12_one (173, [some (.ref 72), u1, u2], [.int s0], (mm L X I J)) = if s0 = (-1 : Int32) then bnd (call nX12_number [.ref 72, .int (nI 0), .int (nI 999)] (mm L X I J)) (fun v m' => runI call iX12_one (198, [some (.ref 72), u1, some (.int s0)], v.toList ++ [.int (nI 0), .ref 72], m')) else bnd (call nX12_notes [.ref 72, .int (nI 1), .int s0] (mm L X I J)) (fun v m' => runI call iX12_one (185, [some (.ref 72), u1, some (.int s0)], v.toList ++ [], m')) := by
  refine Eq.trans (xst1 (k := 2) dX12_one_173 hu1 rfl) ?_
  refine Eq.trans (st1 dX12_one_174 rfl rfl) ?_
  refine Eq.trans (xiconst dX12_one_175 ci_m1) ?_
  refine Eq.trans (ic_eq (tgt := 188) dX12_one_176 (by decide +kernel)) (ite_cong (fun _ => ?_) (fun _ => ?_))
  · refine Eq.trans (st1 dX12_one_188 rfl rfl) ?_
    refine Eq.trans (xiconst dX12_one_189 ci_0) ?_
    refine Eq.trans (st1 dX12_one_190 rfl rfl) ?_
    refine Eq.trans (xiconst dX12_one_191 ci_0) ?_
    refine Eq.trans (xsipush dX12_one_192 cs_999) ?_
    exact iv0 dX12_one_195 rfl cp_12_165 rfl rfl (kd_ka ka_72) ka_72.1 (Nat.le_of_ble_eq_true rfl)
  · refine Eq.trans (st1 dX12_one_179 rfl rfl) ?_
    refine Eq.trans (xiconst dX12_one_180 ci_1) ?_
    refine Eq.trans (st1 dX12_one_181 rfl rfl) ?_
    exact iv0 dX12_one_182 rfl cp_12_226 rfl rfl (kd_ka ka_72) ka_72.1 (Nat.le_of_ble_eq_true rfl)
theorem q_X12_one_134 {call : CALL} {L X : Nat} {I : Nat → Nat → Int32} {J : Nat → Nat → Int64} {u1 : Option Value} {u2 : Option Value} {s0 : Int32} : runI call iX12_one (134, [some (.ref 72), u1, u2], [.int s0], (mm L X I J)) = if s0 = (nI 0) then some (.inl none, (mm L X I J)) else bnd (call nX12_sum [.ref 72] (mm L X (up2 I 72 4 ((I 72 4) + (nI 1))) J)) (fun v m' => runI call iX12_one (152, [some (.ref 72), u1, u2], v.toList ++ [], m')) := by
  refine Eq.trans (if_ne (tgt := 138) dX12_one_134 (by decide +kernel)) (ite_cong (fun _ => ?_) (fun _ => ?_))
  · exact ret3 dX12_one_137 (.inl rfl)
  · refine Eq.trans (st1 dX12_one_138 rfl rfl) ?_
    refine Eq.trans (st1 dX12_one_139 rfl rfl) ?_
    refine Eq.trans (getIm dX12_one_140 cp_12_112 ka_72 (.inl rfl)) ?_
    refine Eq.trans (xiconst dX12_one_143 ci_1) ?_
    refine Eq.trans (st1 dX12_one_144 rfl rfl) ?_
    refine Eq.trans (putIm dX12_one_145 cp_12_112 ka_72 rfl) ?_
    refine Eq.trans (st1 dX12_one_148 rfl rfl) ?_
    exact iv0 dX12_one_149 rfl cp_12_239 rfl rfl (kd_ka ka_72) ka_72.1 (Nat.le_of_ble_eq_true rfl)
theorem q_X12_one_74 {call : CALL} {L X : Nat} {I : Nat → Nat → Int32} {J : Nat → Nat → Int64} {x1 : Int32} {u2 : Option Value} : runI call iX12_one (74, [some (.ref 72), some (.int x1), u2], [], (mm L X I J)) = bnd (call nX12_sign [.ref 72, .int (nI 91)] (mm L X I J)) (fun v m' => runI call iX12_one (80, [some (.ref 72), some (.int x1), u2], v.toList ++ [], m')) := by
  refine Eq.trans (st1 dX12_one_74 rfl rfl) ?_
  refine Eq.trans (xbipush dX12_one_75 cb_91) ?_
  exact iv0 dX12_one_77 rfl cp_12_178 rfl rfl (kd_ka ka_72) ka_72.1 (Nat.le_of_ble_eq_true rfl)
theorem q_X12_one_198 {call : CALL} {L X : Nat} {I : Nat → Nat → Int32} {J : Nat → Nat → Int64} {u0 : Option Value} {u1 : Option Value} {u2 : Option Value} {s1 : Int32} {s2 : Int32} : runI call iX12_one (198, [u0, u1, u2], [.int s2, .int s1, .ref 72], (mm L X I J)) = bnd (call nX12_notes [.ref 72, .int s1, .int s2] (mm L X I J)) (fun v m' => runI call iX12_one (201, [u0, u1, u2], v.toList ++ [], m')) := by
  exact iv0 dX12_one_198 rfl cp_12_226 rfl rfl (kd_ka ka_72) ka_72.1 (Nat.le_of_ble_eq_true rfl)
theorem q_X12_one_185 {call : CALL} {L X : Nat} {I : Nat → Nat → Int32} {J : Nat → Nat → Int64} {u0 : Option Value} {u1 : Option Value} {u2 : Option Value} : runI call iX12_one (185, [u0, u1, u2], [], (mm L X I J)) = some (.inl none, (mm L X I J)) := by
  refine Eq.trans (go_to (tgt := 201) dX12_one_185 (by decide +kernel)) ?_
  exact ret3 dX12_one_201 (.inl rfl)
theorem q_X12_one_152 {call : CALL} {L X : Nat} {I : Nat → Nat → Int32} {J : Nat → Nat → Int64} {u1 : Option Value} {u2 : Option Value} : runI call iX12_one (152, [some (.ref 72), u1, u2], [], (mm L X I J)) = bnd (call nX12_sign [.ref 72, .int (nI 41)] (mm L X I J)) (fun v m' => runI call iX12_one (158, [some (.ref 72), u1, u2], v.toList ++ [], m')) := by
  refine Eq.trans (st1 dX12_one_152 rfl rfl) ?_
  refine Eq.trans (xbipush dX12_one_153 cb_41) ?_
  exact iv0 dX12_one_155 rfl cp_12_178 rfl rfl (kd_ka ka_72) ka_72.1 (Nat.le_of_ble_eq_true rfl)
theorem q_X12_one_80 {call : CALL} {L X : Nat} {I : Nat → Nat → Int32} {J : Nat → Nat → Int64} {x1 : Int32} {u2 : Option Value} : runI call iX12_one (80, [some (.ref 72), some (.int x1), u2], [], (mm L X I J)) = bnd (call nX12_sum [.ref 72] (mm L X I J)) (fun v m' => runI call iX12_one (84, [some (.ref 72), some (.int x1), u2], v.toList ++ [], m')) := by
  refine Eq.trans (st1 dX12_one_80 rfl rfl) ?_
  exact iv0 dX12_one_81 rfl cp_12_239 rfl rfl (kd_ka ka_72) ka_72.1 (Nat.le_of_ble_eq_true rfl)
theorem q_X12_one_201 {call : CALL} {L X : Nat} {I : Nat → Nat → Int32} {J : Nat → Nat → Int64} {u0 : Option Value} {u1 : Option Value} {u2 : Option Value} : runI call iX12_one (201, [u0, u1, u2], [], (mm L X I J)) = some (.inl none, (mm L X I J)) := by
  exact ret3 dX12_one_201 (.inl rfl)
theorem q_X12_one_158 {call : CALL} {L X : Nat} {I : Nat → Nat → Int32} {J : Nat → Nat → Int64} {u1 : Option Value} {u2 : Option Value} : runI call iX12_one (158, [some (.ref 72), u1, u2], [], (mm L X I J)) = some (.inl none, (mm L X (up2 I 72 8 ((I 72 8) - (nI 1))) J)) := by
  refine Eq.trans (st1 dX12_one_158 rfl rfl) ?_
  refine Eq.trans (st1 dX12_one_159 rfl rfl) ?_
  refine Eq.trans (getIm dX12_one_160 cp_12_162 ka_72 (.inl rfl)) ?_
  refine Eq.trans (xiconst dX12_one_163 ci_1) ?_
  refine Eq.trans (st1 dX12_one_164 rfl rfl) ?_
  refine Eq.trans (putIm dX12_one_165 cp_12_162 ka_72 rfl) ?_
  exact ret3 dX12_one_168 (.inl rfl)
theorem q_X12_one_84 {call : CALL} {L X : Nat} {I : Nat → Nat → Int32} {J : Nat → Nat → Int64} {x1 : Int32} {u2 : Option Value} : runI call iX12_one (84, [some (.ref 72), some (.int x1), u2], [], (mm L X I J)) = bnd (call nX12_sign [.ref 72, .int (nI 44)] (mm L X I J)) (fun v m' => runI call iX12_one (90, [some (.ref 72), some (.int x1), u2], v.toList ++ [], m')) := by
  refine Eq.trans (st1 dX12_one_84 rfl rfl) ?_
  refine Eq.trans (xbipush dX12_one_85 cb_44) ?_
  exact iv0 dX12_one_87 rfl cp_12_178 rfl rfl (kd_ka ka_72) ka_72.1 (Nat.le_of_ble_eq_true rfl)
theorem q_X12_one_90 {call : CALL} {L X : Nat} {I : Nat → Nat → Int32} {J : Nat → Nat → Int64} {x1 : Int32} {u2 : Option Value} : runI call iX12_one (90, [some (.ref 72), some (.int x1), u2], [], (mm L X I J)) = bnd (call nX12_sum [.ref 72] (mm L X I J)) (fun v m' => runI call iX12_one (94, [some (.ref 72), some (.int x1), u2], v.toList ++ [], m')) := by
  refine Eq.trans (st1 dX12_one_90 rfl rfl) ?_
  exact iv0 dX12_one_91 rfl cp_12_239 rfl rfl (kd_ka ka_72) ka_72.1 (Nat.le_of_ble_eq_true rfl)
theorem q_X12_one_94 {call : CALL} {L X : Nat} {I : Nat → Nat → Int32} {J : Nat → Nat → Int64} {x1 : Int32} {u2 : Option Value} : runI call iX12_one (94, [some (.ref 72), some (.int x1), u2], [], (mm L X I J)) = bnd (call nX12_sign [.ref 72, .int (nI 93)] (mm L X I J)) (fun v m' => runI call iX12_one (100, [some (.ref 72), some (.int x1), u2], v.toList ++ [], m')) := by
  refine Eq.trans (st1 dX12_one_94 rfl rfl) ?_
  refine Eq.trans (xbipush dX12_one_95 cb_93) ?_
  exact iv0 dX12_one_97 rfl cp_12_178 rfl rfl (kd_ka ka_72) ka_72.1 (Nat.le_of_ble_eq_true rfl)
theorem q_X12_one_100 {call : CALL} {L X : Nat} {I : Nat → Nat → Int32} {J : Nat → Nat → Int64} {x1 : Int32} {u2 : Option Value} : runI call iX12_one (100, [some (.ref 72), some (.int x1), u2], [], (mm L X I J)) = bnd (call nX12_notes [.ref 72, .int x1, .int (nI 0)] (mm L X I J)) (fun v m' => runI call iX12_one (106, [some (.ref 72), some (.int x1), u2], v.toList ++ [], m')) := by
  refine Eq.trans (st1 dX12_one_100 rfl rfl) ?_
  refine Eq.trans (st1 dX12_one_101 rfl rfl) ?_
  refine Eq.trans (xiconst dX12_one_102 ci_0) ?_
  exact iv0 dX12_one_103 rfl cp_12_226 rfl rfl (kd_ka ka_72) ka_72.1 (Nat.le_of_ble_eq_true rfl)
theorem q_X12_one_106 {call : CALL} {L X : Nat} {I : Nat → Nat → Int32} {J : Nat → Nat → Int64} {u1 : Option Value} {u2 : Option Value} : runI call iX12_one (106, [some (.ref 72), u1, u2], [], (mm L X I J)) = some (.inl none, (mm L X (up2 I 72 8 ((I 72 8) - (nI 1))) J)) := by
  refine Eq.trans (st1 dX12_one_106 rfl rfl) ?_
  refine Eq.trans (st1 dX12_one_107 rfl rfl) ?_
  refine Eq.trans (getIm dX12_one_108 cp_12_162 ka_72 (.inl rfl)) ?_
  refine Eq.trans (xiconst dX12_one_111 ci_1) ?_
  refine Eq.trans (st1 dX12_one_112 rfl rfl) ?_
  refine Eq.trans (putIm dX12_one_113 cp_12_162 ka_72 rfl) ?_
  exact ret3 dX12_one_116 (.inl rfl)
theorem q_X12_opensOne_0 {call : CALL} {L X : Nat} {I : Nat → Nat → Int32} {J : Nat → Nat → Int64}  : runI call iX12_opensOne (0, [some (.ref 72)], [], (mm L X I J)) = if (I 72 5) = (nI 0) then if (I 72 8) = (nI 6) then bnd (call nX12_wrong [.ref 72, .int (nI 3), .int (I 72 4)] (mm L X I J)) (fun v m' => runI call iX12_opensOne (25, [some (.ref 72)], v.toList ++ [], m')) else runI call iX12_opensOne (28, [some (.ref 72)], [], (mm L X I J)) else runI call iX12_opensOne (28, [some (.ref 72)], [], (mm L X I J)) := by
  refine Eq.trans (st1 dX12_opensOne_0 rfl rfl) ?_
  refine Eq.trans (getIm dX12_opensOne_1 cp_12_119 ka_72 (.inl rfl)) ?_
  refine Eq.trans (if_ne (tgt := 28) dX12_opensOne_4 (by decide +kernel)) (ite_cong (fun _ => ?_) (fun _ => ?_))
  · refine Eq.trans (st1 dX12_opensOne_7 rfl rfl) ?_
    refine Eq.trans (getIm dX12_opensOne_8 cp_12_162 ka_72 (.inl rfl)) ?_
    refine Eq.trans (xbipush dX12_opensOne_11 cb_6) ?_
    refine Eq.trans (ic_ne (tgt := 28) dX12_opensOne_13 (by decide +kernel)) (ite_cong (fun _ => ?_) (fun _ => ?_))
    · refine Eq.trans (st1 dX12_opensOne_16 rfl rfl) ?_
      refine Eq.trans (xiconst dX12_opensOne_17 ci_3) ?_
      refine Eq.trans (st1 dX12_opensOne_18 rfl rfl) ?_
      refine Eq.trans (getIm dX12_opensOne_19 cp_12_112 ka_72 (.inl rfl)) ?_
      exact iv0 dX12_opensOne_22 rfl cp_12_132 rfl rfl (kd_ka ka_72) ka_72.1 (Nat.le_of_ble_eq_true rfl)
    · rfl
  · rfl
theorem q_X12_opensOne_28 {call : CALL} {L X : Nat} {I : Nat → Nat → Int32} {J : Nat → Nat → Int64}  : runI call iX12_opensOne (28, [some (.ref 72)], [], (mm L X I J)) = if (I 72 5) = (nI 0) then runI call iX12_opensOne (45, [some (.ref 72)], [], (mm L X (up2 I 72 8 ((I 72 8) + (nI 1))) J)) else runI call iX12_opensOne (45, [some (.ref 72)], [], (mm L X I J)) := by
  refine Eq.trans (st1 dX12_opensOne_28 rfl rfl) ?_
  refine Eq.trans (getIm dX12_opensOne_29 cp_12_119 ka_72 (.inl rfl)) ?_
  refine Eq.trans (if_ne (tgt := 45) dX12_opensOne_32 (by decide +kernel)) (ite_cong (fun _ => ?_) (fun _ => ?_))
  · refine Eq.trans (st1 dX12_opensOne_35 rfl rfl) ?_
    refine Eq.trans (st1 dX12_opensOne_36 rfl rfl) ?_
    refine Eq.trans (getIm dX12_opensOne_37 cp_12_162 ka_72 (.inl rfl)) ?_
    refine Eq.trans (xiconst dX12_opensOne_40 ci_1) ?_
    refine Eq.trans (st1 dX12_opensOne_41 rfl rfl) ?_
    refine Eq.trans (putIm dX12_opensOne_42 cp_12_162 ka_72 rfl) ?_
    rfl
  · rfl
theorem q_X12_opensOne_25 {call : CALL} {L X : Nat} {I : Nat → Nat → Int32} {J : Nat → Nat → Int64}  : runI call iX12_opensOne (25, [some (.ref 72)], [], (mm L X I J)) = runI call iX12_opensOne (45, [some (.ref 72)], [], (mm L X I J)) := by
  refine Eq.trans (go_to (tgt := 45) dX12_opensOne_25 (by decide +kernel)) ?_
  rfl
theorem q_X12_opensOne_45 {call : CALL} {L X : Nat} {I : Nat → Nat → Int32} {J : Nat → Nat → Int64}  : runI call iX12_opensOne (45, [some (.ref 72)], [], (mm L X I J)) = if (I 72 5) = (nI 0) then some (.inl (some (.int (nI 1))), (mm L X I J)) else some (.inl (some (.int (nI 0))), (mm L X I J)) := by
  refine Eq.trans (st1 dX12_opensOne_45 rfl rfl) ?_
  refine Eq.trans (getIm dX12_opensOne_46 cp_12_119 ka_72 (.inl rfl)) ?_
  refine Eq.trans (if_ne (tgt := 56) dX12_opensOne_49 (by decide +kernel)) (ite_cong (fun _ => ?_) (fun _ => ?_))
  · refine Eq.trans (xiconst dX12_opensOne_52 ci_1) ?_
    refine Eq.trans (go_to (tgt := 57) dX12_opensOne_53 (by decide +kernel)) ?_
    exact ret1 dX12_opensOne_57 rfl (.inr rfl)
  · refine Eq.trans (xiconst dX12_opensOne_56 ci_0) ?_
    exact ret1 dX12_opensOne_57 rfl (.inl rfl)
theorem q_X12_notes_0 {call : CALL} {L X : Nat} {I : Nat → Nat → Int32} {J : Nat → Nat → Int64} {x1 : Int32} {x2 : Int32} : runI call iX12_notes (0, [some (.ref 72), some (.int x1), some (.int x2)], [], (mm L X I J)) = if (I 72 5) = (nI 0) then gd (inb (I 72 20) 160) (gd (inb ((up2 I (276 + ((I 72 20)).toNatClampNeg) 0 x1) 72 20) 160) (some (.inl none, (mm L X (up2 (up2 (up2 I (276 + ((I 72 20)).toNatClampNeg) 0 x1) (276 + (((up2 I (276 + ((I 72 20)).toNatClampNeg) 0 x1) 72 20)).toNatClampNeg) 1 x2) 72 20 (((up2 (up2 I (276 + ((I 72 20)).toNatClampNeg) 0 x1) (276 + (((up2 I (276 + ((I 72 20)).toNatClampNeg) 0 x1) 72 20)).toNatClampNeg) 1 x2) 72 20) + (nI 1))) J)))) else some (.inl none, (mm L X I J)) := by
  refine Eq.trans (st1 dX12_notes_0 rfl rfl) ?_
  refine Eq.trans (getIm dX12_notes_1 cp_12_119 ka_72 (.inl rfl)) ?_
  refine Eq.trans (if_eq (tgt := 8) dX12_notes_4 (by decide +kernel)) (ite_cong (fun _ => ?_) (fun _ => ?_))
  · refine Eq.trans (st1 dX12_notes_8 rfl rfl) ?_
    refine Eq.trans (getRm dX12_notes_9 cp_12_49 ka_72 rfl r_72_22) ?_
    refine Eq.trans (st1 dX12_notes_12 rfl rfl) ?_
    refine Eq.trans (getIm dX12_notes_13 cp_12_217 ka_72 (.inl rfl)) ?_
    refine Eq.trans (al4m dX12_notes_16 ka_275 rr_275) (gd_congr fun g1 => ?_)
    refine Eq.trans (xiconst dX12_notes_17 ci_0) ?_
    refine Eq.trans (st1 dX12_notes_18 rfl rfl) ?_
    refine Eq.trans (as1c dX12_notes_19 (kr_275 (inb_lt g1)) (by decide +kernel) nc_0) ?_
    refine Eq.trans (st1 dX12_notes_20 rfl rfl) ?_
    refine Eq.trans (getRm dX12_notes_21 cp_12_49 ka_72 rfl r_72_22) ?_
    refine Eq.trans (st1 dX12_notes_24 rfl rfl) ?_
    refine Eq.trans (getIm dX12_notes_25 cp_12_217 ka_72 (.inl rfl)) ?_
    refine Eq.trans (al4m dX12_notes_28 ka_275 rr_275) (gd_congr fun g2 => ?_)
    refine Eq.trans (xiconst dX12_notes_29 ci_1) ?_
    refine Eq.trans (st1 dX12_notes_30 rfl rfl) ?_
    refine Eq.trans (as1c dX12_notes_31 (kr_275 (inb_lt g2)) (by decide +kernel) nc_1) ?_
    refine Eq.trans (st1 dX12_notes_32 rfl rfl) ?_
    refine Eq.trans (st1 dX12_notes_33 rfl rfl) ?_
    refine Eq.trans (getIm dX12_notes_34 cp_12_217 ka_72 (.inl rfl)) ?_
    refine Eq.trans (xiconst dX12_notes_37 ci_1) ?_
    refine Eq.trans (st1 dX12_notes_38 rfl rfl) ?_
    refine Eq.trans (putIm dX12_notes_39 cp_12_217 ka_72 rfl) ?_
    exact ret3 dX12_notes_42 (.inl rfl)
  · exact ret3 dX12_notes_7 (.inl rfl)
theorem q_X12_knownHere_0 {call : CALL} {L X : Nat} {I : Nat → Nat → Int32} {J : Nat → Nat → Int64}  : runI call iX12_knownHere (0, [some (.ref 72)], [], (mm L X I J)) = bnd (call nX12_takes [.ref 72, .int (nI 6), .int (nI 12), .int (nI 15), .int (nI 23), .int (nI 0), .int (nI 0)] (mm L X I J)) (fun v m' => runI call iX12_knownHere (14, [some (.ref 72)], v.toList ++ [], m')) := by
  refine Eq.trans (st1 dX12_knownHere_0 rfl rfl) ?_
  refine Eq.trans (xbipush dX12_knownHere_1 cb_6) ?_
  refine Eq.trans (xbipush dX12_knownHere_3 cb_12) ?_
  refine Eq.trans (xbipush dX12_knownHere_5 cb_15) ?_
  refine Eq.trans (xbipush dX12_knownHere_7 cb_23) ?_
  refine Eq.trans (xiconst dX12_knownHere_9 ci_0) ?_
  refine Eq.trans (xiconst dX12_knownHere_10 ci_0) ?_
  exact iv0 dX12_knownHere_11 rfl cp_12_232 rfl rfl (kd_ka ka_72) ka_72.1 (Nat.le_of_ble_eq_true rfl)
theorem q_X12_knownHere_14 {call : CALL} {L X : Nat} {I : Nat → Nat → Int32} {J : Nat → Nat → Int64} {s0 : Int32} : runI call iX12_knownHere (14, [some (.ref 72)], [.int s0], (mm L X I J)) = if s0 = (nI 0) then bnd (call nX12_takes [.ref 72, .int (nI 12), .int (nI 15), .int (nI 19), .int (nI 19), .int (nI 0), .int (nI 0)] (mm L X I J)) (fun v m' => runI call iX12_knownHere (33, [some (.ref 72)], v.toList ++ [], m')) else some (.inl (some (.int (nI 0))), (mm L X I J)) := by
  refine Eq.trans (if_eq (tgt := 19) dX12_knownHere_14 (by decide +kernel)) (ite_cong (fun _ => ?_) (fun _ => ?_))
  · refine Eq.trans (st1 dX12_knownHere_19 rfl rfl) ?_
    refine Eq.trans (xbipush dX12_knownHere_20 cb_12) ?_
    refine Eq.trans (xbipush dX12_knownHere_22 cb_15) ?_
    refine Eq.trans (xbipush dX12_knownHere_24 cb_19) ?_
    refine Eq.trans (xbipush dX12_knownHere_26 cb_19) ?_
    refine Eq.trans (xiconst dX12_knownHere_28 ci_0) ?_
    refine Eq.trans (xiconst dX12_knownHere_29 ci_0) ?_
    exact iv0 dX12_knownHere_30 rfl cp_12_232 rfl rfl (kd_ka ka_72) ka_72.1 (Nat.le_of_ble_eq_true rfl)
  · refine Eq.trans (xiconst dX12_knownHere_17 ci_0) ?_
    exact ret0 dX12_knownHere_18 rfl
theorem q_X12_knownHere_33 {call : CALL} {L X : Nat} {I : Nat → Nat → Int32} {J : Nat → Nat → Int64} {s0 : Int32} : runI call iX12_knownHere (33, [some (.ref 72)], [.int s0], (mm L X I J)) = if s0 = (nI 0) then bnd (call nX12_takes [.ref 72, .int (nI 12), .int (nI 5), .int (nI 14), .int (nI 7), .int (nI 20), .int (nI 8)] (mm L X I J)) (fun v m' => runI call iX12_knownHere (53, [some (.ref 72)], v.toList ++ [], m')) else some (.inl (some (.int (nI 1))), (mm L X I J)) := by
  refine Eq.trans (if_eq (tgt := 38) dX12_knownHere_33 (by decide +kernel)) (ite_cong (fun _ => ?_) (fun _ => ?_))
  · refine Eq.trans (st1 dX12_knownHere_38 rfl rfl) ?_
    refine Eq.trans (xbipush dX12_knownHere_39 cb_12) ?_
    refine Eq.trans (xiconst dX12_knownHere_41 ci_5) ?_
    refine Eq.trans (xbipush dX12_knownHere_42 cb_14) ?_
    refine Eq.trans (xbipush dX12_knownHere_44 cb_7) ?_
    refine Eq.trans (xbipush dX12_knownHere_46 cb_20) ?_
    refine Eq.trans (xbipush dX12_knownHere_48 cb_8) ?_
    exact iv0 dX12_knownHere_50 rfl cp_12_232 rfl rfl (kd_ka ka_72) ka_72.1 (Nat.le_of_ble_eq_true rfl)
  · refine Eq.trans (xiconst dX12_knownHere_36 ci_1) ?_
    exact ret0 dX12_knownHere_37 rfl
theorem q_X12_knownHere_53 {call : CALL} {L X : Nat} {I : Nat → Nat → Int32} {J : Nat → Nat → Int64} {s0 : Int32} : runI call iX12_knownHere (53, [some (.ref 72)], [.int s0], (mm L X I J)) = if s0 = (nI 0) then bnd (call nX12_takes [.ref 72, .int (nI 2), .int (nI 5), .int (nI 14), .int (nI 4), .int (nI 19), .int (nI 0)] (mm L X I J)) (fun v m' => runI call iX12_knownHere (70, [some (.ref 72)], v.toList ++ [], m')) else some (.inl (some (.int (nI 2))), (mm L X I J)) := by
  refine Eq.trans (if_eq (tgt := 58) dX12_knownHere_53 (by decide +kernel)) (ite_cong (fun _ => ?_) (fun _ => ?_))
  · refine Eq.trans (st1 dX12_knownHere_58 rfl rfl) ?_
    refine Eq.trans (xiconst dX12_knownHere_59 ci_2) ?_
    refine Eq.trans (xiconst dX12_knownHere_60 ci_5) ?_
    refine Eq.trans (xbipush dX12_knownHere_61 cb_14) ?_
    refine Eq.trans (xiconst dX12_knownHere_63 ci_4) ?_
    refine Eq.trans (xbipush dX12_knownHere_64 cb_19) ?_
    refine Eq.trans (xiconst dX12_knownHere_66 ci_0) ?_
    exact iv0 dX12_knownHere_67 rfl cp_12_232 rfl rfl (kd_ka ka_72) ka_72.1 (Nat.le_of_ble_eq_true rfl)
  · refine Eq.trans (xiconst dX12_knownHere_56 ci_2) ?_
    exact ret0 dX12_knownHere_57 rfl
theorem q_X12_knownHere_70 {call : CALL} {L X : Nat} {I : Nat → Nat → Int32} {J : Nat → Nat → Int64} {s0 : Int32} : runI call iX12_knownHere (70, [some (.ref 72)], [.int s0], (mm L X I J)) = if s0 = (nI 0) then bnd (call nX12_takes [.ref 72, .int (nI 2), .int (nI 21), .int (nI 18), .int (nI 19), .int (nI 20), .int (nI 0)] (mm L X I J)) (fun v m' => runI call iX12_knownHere (89, [some (.ref 72)], v.toList ++ [], m')) else some (.inl (some (.int (nI 3))), (mm L X I J)) := by
  refine Eq.trans (if_eq (tgt := 75) dX12_knownHere_70 (by decide +kernel)) (ite_cong (fun _ => ?_) (fun _ => ?_))
  · refine Eq.trans (st1 dX12_knownHere_75 rfl rfl) ?_
    refine Eq.trans (xiconst dX12_knownHere_76 ci_2) ?_
    refine Eq.trans (xbipush dX12_knownHere_77 cb_21) ?_
    refine Eq.trans (xbipush dX12_knownHere_79 cb_18) ?_
    refine Eq.trans (xbipush dX12_knownHere_81 cb_19) ?_
    refine Eq.trans (xbipush dX12_knownHere_83 cb_20) ?_
    refine Eq.trans (xiconst dX12_knownHere_85 ci_0) ?_
    exact iv0 dX12_knownHere_86 rfl cp_12_232 rfl rfl (kd_ka ka_72) ka_72.1 (Nat.le_of_ble_eq_true rfl)
  · refine Eq.trans (xiconst dX12_knownHere_73 ci_3) ?_
    exact ret0 dX12_knownHere_74 rfl
theorem q_X12_knownHere_89 {call : CALL} {L X : Nat} {I : Nat → Nat → Int32} {J : Nat → Nat → Int64} {s0 : Int32} : runI call iX12_knownHere (89, [some (.ref 72)], [.int s0], (mm L X I J)) = if s0 = (nI 0) then bnd (call nX12_takes [.ref 72, .int (nI 16), .int (nI 12), .int (nI 1), .int (nI 3), .int (nI 5), .int (nI 0)] (mm L X I J)) (fun v m' => runI call iX12_knownHere (106, [some (.ref 72)], v.toList ++ [], m')) else some (.inl (some (.int (nI 4))), (mm L X I J)) := by
  refine Eq.trans (if_eq (tgt := 94) dX12_knownHere_89 (by decide +kernel)) (ite_cong (fun _ => ?_) (fun _ => ?_))
  · refine Eq.trans (st1 dX12_knownHere_94 rfl rfl) ?_
    refine Eq.trans (xbipush dX12_knownHere_95 cb_16) ?_
    refine Eq.trans (xbipush dX12_knownHere_97 cb_12) ?_
    refine Eq.trans (xiconst dX12_knownHere_99 ci_1) ?_
    refine Eq.trans (xiconst dX12_knownHere_100 ci_3) ?_
    refine Eq.trans (xiconst dX12_knownHere_101 ci_5) ?_
    refine Eq.trans (xiconst dX12_knownHere_102 ci_0) ?_
    exact iv0 dX12_knownHere_103 rfl cp_12_232 rfl rfl (kd_ka ka_72) ka_72.1 (Nat.le_of_ble_eq_true rfl)
  · refine Eq.trans (xiconst dX12_knownHere_92 ci_4) ?_
    exact ret0 dX12_knownHere_93 rfl
theorem q_X12_knownHere_106 {call : CALL} {L X : Nat} {I : Nat → Nat → Int32} {J : Nat → Nat → Int64} {s0 : Int32} : runI call iX12_knownHere (106, [some (.ref 72)], [.int s0], (mm L X I J)) = if s0 = (nI 0) then bnd (call nX12_takes [.ref 72, .int (nI 20), .int (nI 21), .int (nI 18), .int (nI 14), .int (nI 5), .int (nI 4)] (mm L X I J)) (fun v m' => runI call iX12_knownHere (125, [some (.ref 72)], v.toList ++ [], m')) else some (.inl (some (.int (nI 5))), (mm L X I J)) := by
  refine Eq.trans (if_eq (tgt := 111) dX12_knownHere_106 (by decide +kernel)) (ite_cong (fun _ => ?_) (fun _ => ?_))
  · refine Eq.trans (st1 dX12_knownHere_111 rfl rfl) ?_
    refine Eq.trans (xbipush dX12_knownHere_112 cb_20) ?_
    refine Eq.trans (xbipush dX12_knownHere_114 cb_21) ?_
    refine Eq.trans (xbipush dX12_knownHere_116 cb_18) ?_
    refine Eq.trans (xbipush dX12_knownHere_118 cb_14) ?_
    refine Eq.trans (xiconst dX12_knownHere_120 ci_5) ?_
    refine Eq.trans (xiconst dX12_knownHere_121 ci_4) ?_
    exact iv0 dX12_knownHere_122 rfl cp_12_232 rfl rfl (kd_ka ka_72) ka_72.1 (Nat.le_of_ble_eq_true rfl)
  · refine Eq.trans (xiconst dX12_knownHere_109 ci_5) ?_
    exact ret0 dX12_knownHere_110 rfl
theorem q_X12_knownHere_125 {call : CALL} {L X : Nat} {I : Nat → Nat → Int32} {J : Nat → Nat → Int64} {s0 : Int32} : runI call iX12_knownHere (125, [some (.ref 72)], [.int s0], (mm L X I J)) = if s0 = (nI 0) then bnd (call nX12_takes [.ref 72, .int (nI 8), .int (nI 15), .int (nI 16), .int (nI 5), .int (nI 0), .int (nI 0)] (mm L X I J)) (fun v m' => runI call iX12_knownHere (144, [some (.ref 72)], v.toList ++ [], m')) else some (.inl (some (.int (nI 6))), (mm L X I J)) := by
  refine Eq.trans (if_eq (tgt := 131) dX12_knownHere_125 (by decide +kernel)) (ite_cong (fun _ => ?_) (fun _ => ?_))
  · refine Eq.trans (st1 dX12_knownHere_131 rfl rfl) ?_
    refine Eq.trans (xbipush dX12_knownHere_132 cb_8) ?_
    refine Eq.trans (xbipush dX12_knownHere_134 cb_15) ?_
    refine Eq.trans (xbipush dX12_knownHere_136 cb_16) ?_
    refine Eq.trans (xiconst dX12_knownHere_138 ci_5) ?_
    refine Eq.trans (xiconst dX12_knownHere_139 ci_0) ?_
    refine Eq.trans (xiconst dX12_knownHere_140 ci_0) ?_
    exact iv0 dX12_knownHere_141 rfl cp_12_232 rfl rfl (kd_ka ka_72) ka_72.1 (Nat.le_of_ble_eq_true rfl)
  · refine Eq.trans (xbipush dX12_knownHere_128 cb_6) ?_
    exact ret0 dX12_knownHere_130 rfl
theorem q_X12_knownHere_144 {call : CALL} {L X : Nat} {I : Nat → Nat → Int32} {J : Nat → Nat → Int64} {s0 : Int32} : runI call iX12_knownHere (144, [some (.ref 72)], [.int s0], (mm L X I J)) = if s0 = (nI 0) then bnd (call nX12_takes [.ref 72, .int (nI 16), .int (nI 9), .int (nI 5), .int (nI 3), .int (nI 5), .int (nI 0)] (mm L X I J)) (fun v m' => runI call iX12_knownHere (162, [some (.ref 72)], v.toList ++ [], m')) else some (.inl (some (.int (nI 7))), (mm L X I J)) := by
  refine Eq.trans (if_eq (tgt := 150) dX12_knownHere_144 (by decide +kernel)) (ite_cong (fun _ => ?_) (fun _ => ?_))
  · refine Eq.trans (st1 dX12_knownHere_150 rfl rfl) ?_
    refine Eq.trans (xbipush dX12_knownHere_151 cb_16) ?_
    refine Eq.trans (xbipush dX12_knownHere_153 cb_9) ?_
    refine Eq.trans (xiconst dX12_knownHere_155 ci_5) ?_
    refine Eq.trans (xiconst dX12_knownHere_156 ci_3) ?_
    refine Eq.trans (xiconst dX12_knownHere_157 ci_5) ?_
    refine Eq.trans (xiconst dX12_knownHere_158 ci_0) ?_
    exact iv0 dX12_knownHere_159 rfl cp_12_232 rfl rfl (kd_ka ka_72) ka_72.1 (Nat.le_of_ble_eq_true rfl)
  · refine Eq.trans (xbipush dX12_knownHere_147 cb_7) ?_
    exact ret0 dX12_knownHere_149 rfl
theorem q_X12_knownHere_162 {call : CALL} {L X : Nat} {I : Nat → Nat → Int32} {J : Nat → Nat → Int64} {u0 : Option Value} {s0 : Int32} : runI call iX12_knownHere (162, [u0], [.int s0], (mm L X I J)) = if s0 = (nI 0) then some (.inl (some (.int (-1 : Int32))), (mm L X I J)) else some (.inl (some (.int (nI 8))), (mm L X I J)) := by
  refine Eq.trans (if_eq (tgt := 170) dX12_knownHere_162 (by decide +kernel)) (ite_cong (fun _ => ?_) (fun _ => ?_))
  · refine Eq.trans (xiconst dX12_knownHere_170 ci_m1) ?_
    exact ret0 dX12_knownHere_171 rfl
  · refine Eq.trans (xbipush dX12_knownHere_165 cb_8) ?_
    refine Eq.trans (go_to (tgt := 171) dX12_knownHere_167 (by decide +kernel)) ?_
    exact ret0 dX12_knownHere_171 rfl
