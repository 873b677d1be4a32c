/-! EQUATIONS OF THE METHODS (written by gen_eq.py) -/
theorem q_X11_expectPiece_0 {call : CALL} {L X : Nat} {I : Nat → Nat → Int32} {J : Nat → Nat → Int64} {x1 : Int32} : runI call iX11_expectPiece (0, [some (.ref 0), some (.int x1)], [], (mm L X I J)) = bndN (call nX11_within [.int x1, .int (nI 0), .int ((I 3 0) - (nI 1))] (mm L X I J)) (fun v m' => runI call iX11_expectPiece (15, [some (.ref 0), some (.int x1)], v.toList ++ [.ref 0], m')) := by
  refine Eq.trans (st1 dX11_expectPiece_0 rfl rfl) ?_
  refine Eq.trans (st1 dX11_expectPiece_1 rfl rfl) ?_
  refine Eq.trans (xiconst dX11_expectPiece_2 ci_0) ?_
  refine Eq.trans (st1 dX11_expectPiece_3 rfl rfl) ?_
  refine Eq.trans (getRm dX11_expectPiece_4 cp_11_19 ka_0 rfl r_0_1) ?_
  refine Eq.trans (getIm dX11_expectPiece_7 cp_11_149 ka_3 (.inl rfl)) ?_
  refine Eq.trans (xiconst dX11_expectPiece_10 ci_1) ?_
  refine Eq.trans (st1 dX11_expectPiece_11 rfl rfl) ?_
  exact is2 dX11_expectPiece_12 cp_11_189 (Nat.le_of_ble_eq_true rfl) rfl rfl (Nat.le_of_ble_eq_true rfl)
theorem q_X11_expectPiece_15 {call : CALL} {L X : Nat} {I : Nat → Nat → Int32} {J : Nat → Nat → Int64} {u0 : Option Value} {u1 : Option Value} {s1 : Int32} : runI call iX11_expectPiece (15, [u0, u1], [.int s1, .ref 0], (mm L X I J)) = bnd (call nX11_expectThere [.ref 0, .int s1] (mm L X I J)) (fun v m' => runI call iX11_expectPiece (18, [u0, u1], v.toList ++ [], m')) := by
  exact iv0 dX11_expectPiece_15 rfl cp_11_265 rfl rfl (kd_ka ka_0) ka_0.1 (Nat.le_of_ble_eq_true rfl)
theorem q_X11_expectPiece_18 {call : CALL} {L X : Nat} {I : Nat → Nat → Int32} {J : Nat → Nat → Int64} {u0 : Option Value} {u1 : Option Value} : runI call iX11_expectPiece (18, [u0, u1], [], (mm L X I J)) = some (.inl none, (mm L X I J)) := by
  exact ret3 dX11_expectPiece_18 (.inl rfl)
theorem q_X11_expectThere_0 {call : CALL} {L X : Nat} {I : Nat → Nat → Int32} {J : Nat → Nat → Int64} {x1 : Int32} : runI call iX11_expectThere (0, [some (.ref 0), some (.int x1)], [], (mm L X I J)) = if x1 = (nI 0) then some (.inr 0, mm L (X + 1) (up2 I 0 14 ((I 0 14) + (nI 1))) J) else some (.inl none, (mm L X I J)) := by
  refine Eq.trans (st1 dX11_expectThere_0 rfl rfl) ?_
  refine Eq.trans (if_ne (tgt := 25) dX11_expectThere_1 (by decide +kernel)) (ite_cong (fun _ => ?_) (fun _ => ?_))
  · refine Eq.trans (st1 dX11_expectThere_4 rfl rfl) ?_
    refine Eq.trans (st1 dX11_expectThere_5 rfl rfl) ?_
    refine Eq.trans (getIm dX11_expectThere_6 cp_11_434 ka_0 (.inl rfl)) ?_
    refine Eq.trans (xiconst dX11_expectThere_9 ci_1) ?_
    refine Eq.trans (st1 dX11_expectThere_10 rfl rfl) ?_
    refine Eq.trans (putIm dX11_expectThere_11 cp_11_434 ka_0 rfl) ?_
    exact ithr dX11_expectThere_14 cp_11_448 rfl dX11_expectThere_17 dX11_expectThere_18 dX11_expectThere_21 dX11_expectThere_24 rfl
  · exact ret3 dX11_expectThere_25 (.inl rfl)
theorem q_X11_collar_0 {call : CALL} {L X : Nat} {I : Nat → Nat → Int32} {J : Nat → Nat → Int64} {x1 : Int32} {x2 : Int32} : runI call iX11_collar (0, [some (.ref 0), some (.int x1), some (.int x2)], [], (mm L X I J)) = bndN (call nX11_within [.int x1, .int (nI 0), .int ((I 3 1) - (nI 1))] (mm L X I J)) (fun v m' => runI call iX11_collar (15, [some (.ref 0), some (.int x1), some (.int x2)], v.toList ++ [.ref 0], m')) := by
  refine Eq.trans (st1 dX11_collar_0 rfl rfl) ?_
  refine Eq.trans (st1 dX11_collar_1 rfl rfl) ?_
  refine Eq.trans (xiconst dX11_collar_2 ci_0) ?_
  refine Eq.trans (st1 dX11_collar_3 rfl rfl) ?_
  refine Eq.trans (getRm dX11_collar_4 cp_11_19 ka_0 rfl r_0_1) ?_
  refine Eq.trans (getIm dX11_collar_7 cp_11_197 ka_3 (.inl rfl)) ?_
  refine Eq.trans (xiconst dX11_collar_10 ci_1) ?_
  refine Eq.trans (st1 dX11_collar_11 rfl rfl) ?_
  exact is2 dX11_collar_12 cp_11_189 (Nat.le_of_ble_eq_true rfl) rfl rfl (Nat.le_of_ble_eq_true rfl)
theorem q_X11_collar_15 {call : CALL} {L X : Nat} {I : Nat → Nat → Int32} {J : Nat → Nat → Int64} {x1 : Int32} {x2 : Int32} {s1 : Int32} : runI call iX11_collar (15, [some (.ref 0), some (.int x1), some (.int x2)], [.int s1, .ref 0], (mm L X I J)) = bnd (call nX11_expectThere [.ref 0, .int s1] (mm L X I J)) (fun v m' => runI call iX11_collar (18, [some (.ref 0), some (.int x1), some (.int x2)], v.toList ++ [], m')) := by
  exact iv0 dX11_collar_15 rfl cp_11_265 rfl rfl (kd_ka ka_0) ka_0.1 (Nat.le_of_ble_eq_true rfl)
theorem q_X11_collar_18 {call : CALL} {L X : Nat} {I : Nat → Nat → Int32} {J : Nat → Nat → Int64} {x1 : Int32} {x2 : Int32} : runI call iX11_collar (18, [some (.ref 0), some (.int x1), some (.int x2)], [], (mm L X I J)) = bndN (call nX11_within [.int x2, .int (nI 0), .int (nI 1)] (mm L X I J)) (fun v m' => runI call iX11_collar (25, [some (.ref 0), some (.int x1), some (.int x2)], v.toList ++ [.ref 0], m')) := by
  refine Eq.trans (st1 dX11_collar_18 rfl rfl) ?_
  refine Eq.trans (st1 dX11_collar_19 rfl rfl) ?_
  refine Eq.trans (xiconst dX11_collar_20 ci_0) ?_
  refine Eq.trans (xiconst dX11_collar_21 ci_1) ?_
  exact is2 dX11_collar_22 cp_11_189 (Nat.le_of_ble_eq_true rfl) rfl rfl (Nat.le_of_ble_eq_true rfl)
theorem q_X11_collar_25 {call : CALL} {L X : Nat} {I : Nat → Nat → Int32} {J : Nat → Nat → Int64} {x1 : Int32} {x2 : Int32} {s1 : Int32} : runI call iX11_collar (25, [some (.ref 0), some (.int x1), some (.int x2)], [.int s1, .ref 0], (mm L X I J)) = bnd (call nX11_expect [.ref 0, .int s1] (mm L X I J)) (fun v m' => runI call iX11_collar (28, [some (.ref 0), some (.int x1), some (.int x2)], v.toList ++ [], m')) := by
  exact iv0 dX11_collar_25 rfl cp_11_193 rfl rfl (kd_ka ka_0) ka_0.1 (Nat.le_of_ble_eq_true rfl)
theorem q_X11_collar_28 {call : CALL} {L X : Nat} {I : Nat → Nat → Int32} {J : Nat → Nat → Int64} {x1 : Int32} {x2 : Int32} : runI call iX11_collar (28, [some (.ref 0), some (.int x1), some (.int x2)], [], (mm L X I J)) = if x2 = (nI 0) then bndN (call nX11_pick [.ref 8, .int x1] (mm L X I J)) (fun v m' => runI call iX11_collar (43, [some (.ref 0), some (.int x1), some (.int x2)], v.toList ++ [], m')) else bndN (call nX11_pick [.ref 9, .int x1] (mm L X I J)) (fun v m' => runI call iX11_collar (57, [some (.ref 0), some (.int x1), some (.int x2)], v.toList ++ [], m')) := by
  refine Eq.trans (st1 dX11_collar_28 rfl rfl) ?_
  refine Eq.trans (if_ne (tgt := 46) dX11_collar_29 (by decide +kernel)) (ite_cong (fun _ => ?_) (fun _ => ?_))
  · refine Eq.trans (st1 dX11_collar_32 rfl rfl) ?_
    refine Eq.trans (getRm dX11_collar_33 cp_11_19 ka_0 rfl r_0_1) ?_
    refine Eq.trans (getRm dX11_collar_36 cp_11_268 ka_3 rfl r_3_8) ?_
    refine Eq.trans (st1 dX11_collar_39 rfl rfl) ?_
    exact is2 dX11_collar_40 cp_11_232 (Nat.le_of_ble_eq_true rfl) rfl rfl (Nat.le_of_ble_eq_true rfl)
  · refine Eq.trans (st1 dX11_collar_46 rfl rfl) ?_
    refine Eq.trans (getRm dX11_collar_47 cp_11_19 ka_0 rfl r_0_1) ?_
    refine Eq.trans (getRm dX11_collar_50 cp_11_271 ka_3 rfl r_3_9) ?_
    refine Eq.trans (st1 dX11_collar_53 rfl rfl) ?_
    exact is2 dX11_collar_54 cp_11_232 (Nat.le_of_ble_eq_true rfl) rfl rfl (Nat.le_of_ble_eq_true rfl)
theorem q_X11_collar_57 {call : CALL} {L X : Nat} {I : Nat → Nat → Int32} {J : Nat → Nat → Int64} {u0 : Option Value} {u1 : Option Value} {u2 : Option Value} {s0 : Int32} : runI call iX11_collar (57, [u0, u1, u2], [.int s0], (mm L X I J)) = some (.inl (some (.int s0)), (mm L X I J)) := by
  exact ret0 dX11_collar_57 rfl
theorem q_X11_collar_43 {call : CALL} {L X : Nat} {I : Nat → Nat → Int32} {J : Nat → Nat → Int64} {u0 : Option Value} {u1 : Option Value} {u2 : Option Value} {s0 : Int32} : runI call iX11_collar (43, [u0, u1, u2], [.int s0], (mm L X I J)) = some (.inl (some (.int s0)), (mm L X I J)) := by
  refine Eq.trans (go_to (tgt := 57) dX11_collar_43 (by decide +kernel)) ?_
  exact ret0 dX11_collar_57 rfl
theorem q_X11_fire_0 {call : CALL} {L X : Nat} {I : Nat → Nat → Int32} {J : Nat → Nat → Int64} {x1 : Int32} {x2 : Int32} : runI call iX11_fire (0, [some (.ref 0), some (.int x1), some (.int x2)], [], (mm L X I J)) = bnd (call nX11_expectFire [.ref 0, .int x1] (mm L X I J)) (fun v m' => runI call iX11_fire (5, [some (.ref 0), some (.int x1), some (.int x2)], v.toList ++ [], m')) := by
  refine Eq.trans (st1 dX11_fire_0 rfl rfl) ?_
  refine Eq.trans (st1 dX11_fire_1 rfl rfl) ?_
  exact iv0 dX11_fire_2 rfl cp_11_274 rfl rfl (kd_ka ka_0) ka_0.1 (Nat.le_of_ble_eq_true rfl)
theorem q_X11_fire_5 {call : CALL} {L X : Nat} {I : Nat → Nat → Int32} {J : Nat → Nat → Int64} {x1 : Int32} {x2 : Int32} : runI call iX11_fire (5, [some (.ref 0), some (.int x1), some (.int x2)], [], (mm L X I J)) = bndN (call nX11_within [.int x2, .int (nI 0), .int (nI 3)] (mm L X I J)) (fun v m' => runI call iX11_fire (12, [some (.ref 0), some (.int x1), some (.int x2)], v.toList ++ [.ref 0], m')) := by
  refine Eq.trans (st1 dX11_fire_5 rfl rfl) ?_
  refine Eq.trans (st1 dX11_fire_6 rfl rfl) ?_
  refine Eq.trans (xiconst dX11_fire_7 ci_0) ?_
  refine Eq.trans (xiconst dX11_fire_8 ci_3) ?_
  exact is2 dX11_fire_9 cp_11_189 (Nat.le_of_ble_eq_true rfl) rfl rfl (Nat.le_of_ble_eq_true rfl)
theorem q_X11_fire_12 {call : CALL} {L X : Nat} {I : Nat → Nat → Int32} {J : Nat → Nat → Int64} {x1 : Int32} {x2 : Int32} {s1 : Int32} : runI call iX11_fire (12, [some (.ref 0), some (.int x1), some (.int x2)], [.int s1, .ref 0], (mm L X I J)) = bnd (call nX11_expect [.ref 0, .int s1] (mm L X I J)) (fun v m' => runI call iX11_fire (15, [some (.ref 0), some (.int x1), some (.int x2)], v.toList ++ [], m')) := by
  exact iv0 dX11_fire_12 rfl cp_11_193 rfl rfl (kd_ka ka_0) ka_0.1 (Nat.le_of_ble_eq_true rfl)
theorem q_X11_fire_15 {call : CALL} {L X : Nat} {I : Nat → Nat → Int32} {J : Nat → Nat → Int64} {x1 : Int32} {x2 : Int32} : runI call iX11_fire (15, [some (.ref 0), some (.int x1), some (.int x2)], [], (mm L X I J)) = runI call iX11_fire (16, [some (.ref 0), some (.int x1), some (.int x2)], [.int x2], (mm L X I J)) := by
  refine Eq.trans (st1 dX11_fire_15 rfl rfl) ?_
  rfl
theorem q_X11_fire_16 {call : CALL} {L X : Nat} {I : Nat → Nat → Int32} {J : Nat → Nat → Int64} {x1 : Int32} {u2 : Option Value} {s0 : Int32} : runI call iX11_fire (16, [some (.ref 0), some (.int x1), u2], [.int s0], (mm L X I J)) = if s0 = (nI 0) then runI call iX11_fire (44, [some (.ref 0), some (.int x1), u2], [], (mm L X I J)) else if s0 = (nI 1) then runI call iX11_fire (56, [some (.ref 0), some (.int x1), u2], [], (mm L X I J)) else if s0 = (nI 2) then runI call iX11_fire (68, [some (.ref 0), some (.int x1), u2], [], (mm L X I J)) else runI call iX11_fire (84, [some (.ref 0), some (.int x1), u2], [], (mm L X I J)) := by
  refine ite_cong2 (fun e0 => sw_t dX11_fire_16 (by rw [e0]; decide +kernel)) (fun e0 => ?_)
  refine ite_cong2 (fun e1 => sw_t dX11_fire_16 (by rw [e1]; decide +kernel)) (fun e1 => ?_)
  refine ite_cong2 (fun e2 => sw_t dX11_fire_16 (by rw [e2]; decide +kernel)) (fun e2 => ?_)
  exact sw_t dX11_fire_16 (swT_dflt (vs := [(0 : Int), (1 : Int), (2 : Int)]) (by decide +kernel) (fun v hv => by simp only [List.mem_cons, List.not_mem_nil, or_false] at hv; rcases hv with rfl | rfl | rfl <;> first | exact ne_toInt (by decide +kernel) e0 | exact ne_toInt (by decide +kernel) e1 | exact ne_toInt (by decide +kernel) e2))
theorem q_X11_fire_44 {call : CALL} {L X : Nat} {I : Nat → Nat → Int32} {J : Nat → Nat → Int64} {x1 : Int32} {u2 : Option Value} : runI call iX11_fire (44, [some (.ref 0), some (.int x1), u2], [], (mm L X I J)) = bndN (call nX11_pick [.ref 10, .int x1] (mm L X I J)) (fun v m' => runI call iX11_fire (55, [some (.ref 0), some (.int x1), u2], v.toList ++ [], m')) := by
  refine Eq.trans (st1 dX11_fire_44 rfl rfl) ?_
  refine Eq.trans (getRm dX11_fire_45 cp_11_19 ka_0 rfl r_0_1) ?_
  refine Eq.trans (getRm dX11_fire_48 cp_11_277 ka_3 rfl r_3_10) ?_
  refine Eq.trans (st1 dX11_fire_51 rfl rfl) ?_
  exact is2 dX11_fire_52 cp_11_232 (Nat.le_of_ble_eq_true rfl) rfl rfl (Nat.le_of_ble_eq_true rfl)
theorem q_X11_fire_56 {call : CALL} {L X : Nat} {I : Nat → Nat → Int32} {J : Nat → Nat → Int64} {x1 : Int32} {u2 : Option Value} : runI call iX11_fire (56, [some (.ref 0), some (.int x1), u2], [], (mm L X I J)) = bndN (call nX11_pick [.ref 11, .int x1] (mm L X I J)) (fun v m' => runI call iX11_fire (67, [some (.ref 0), some (.int x1), u2], v.toList ++ [], m')) := by
  refine Eq.trans (st1 dX11_fire_56 rfl rfl) ?_
  refine Eq.trans (getRm dX11_fire_57 cp_11_19 ka_0 rfl r_0_1) ?_
  refine Eq.trans (getRm dX11_fire_60 cp_11_280 ka_3 rfl r_3_11) ?_
  refine Eq.trans (st1 dX11_fire_63 rfl rfl) ?_
  exact is2 dX11_fire_64 cp_11_232 (Nat.le_of_ble_eq_true rfl) rfl rfl (Nat.le_of_ble_eq_true rfl)
theorem q_X11_fire_68 {call : CALL} {L X : Nat} {I : Nat → Nat → Int32} {J : Nat → Nat → Int64} {x1 : Int32} {u2 : Option Value} : runI call iX11_fire (68, [some (.ref 0), some (.int x1), u2], [], (mm L X I J)) = bnd (call nX8_reachedBits [.ref 52, .ref 43] (mm L X I J)) (fun v m' => runI call iX11_fire (79, [some (.ref 0), some (.int x1), u2], v.toList ++ [], m')) := by
  refine Eq.trans (st1 dX11_fire_68 rfl rfl) ?_
  refine Eq.trans (getRm dX11_fire_69 cp_11_72 ka_0 rfl r_0_10) ?_
  refine Eq.trans (st1 dX11_fire_72 rfl rfl) ?_
  refine Eq.trans (getRm dX11_fire_73 cp_11_56 ka_0 rfl r_0_8) ?_
  exact iv0 dX11_fire_76 rfl cp_11_283 rfl rfl (kd_ka ka_52) ka_52.1 (Nat.le_of_ble_eq_true rfl)
theorem q_X11_fire_84 {call : CALL} {L X : Nat} {I : Nat → Nat → Int32} {J : Nat → Nat → Int64} {x1 : Int32} {u2 : Option Value} : runI call iX11_fire (84, [some (.ref 0), some (.int x1), u2], [], (mm L X I J)) = bndN (call nX11_pick [.ref 47, .int x1] (mm L X I J)) (fun v m' => runI call iX11_fire (95, [some (.ref 0), some (.int x1), u2], v.toList ++ [], m')) := by
  refine Eq.trans (st1 dX11_fire_84 rfl rfl) ?_
  refine Eq.trans (getRm dX11_fire_85 cp_11_56 ka_0 rfl r_0_8) ?_
  refine Eq.trans (getRm dX11_fire_88 cp_11_287 ka_43 rfl r_43_3) ?_
  refine Eq.trans (st1 dX11_fire_91 rfl rfl) ?_
  exact is2 dX11_fire_92 cp_11_232 (Nat.le_of_ble_eq_true rfl) rfl rfl (Nat.le_of_ble_eq_true rfl)
theorem q_X11_fire_55 {call : CALL} {L X : Nat} {I : Nat → Nat → Int32} {J : Nat → Nat → Int64} {u0 : Option Value} {u1 : Option Value} {u2 : Option Value} {s0 : Int32} : runI call iX11_fire (55, [u0, u1, u2], [.int s0], (mm L X I J)) = some (.inl (some (.int s0)), (mm L X I J)) := by
  exact ret0 dX11_fire_55 rfl
theorem q_X11_fire_67 {call : CALL} {L X : Nat} {I : Nat → Nat → Int32} {J : Nat → Nat → Int64} {u0 : Option Value} {u1 : Option Value} {u2 : Option Value} {s0 : Int32} : runI call iX11_fire (67, [u0, u1, u2], [.int s0], (mm L X I J)) = some (.inl (some (.int s0)), (mm L X I J)) := by
  exact ret0 dX11_fire_67 rfl
theorem q_X11_fire_79 {call : CALL} {L X : Nat} {I : Nat → Nat → Int32} {J : Nat → Nat → Int64} {u0 : Option Value} {x1 : Int32} {u2 : Option Value} {s0 : Int32} : runI call iX11_fire (79, [u0, some (.int x1), u2], [.int s0], (mm L X I J)) = bndN (call nX11_bit [.int s0, .int x1] (mm L X I J)) (fun v m' => runI call iX11_fire (83, [u0, some (.int x1), u2], v.toList ++ [], m')) := by
  refine Eq.trans (st1 dX11_fire_79 rfl rfl) ?_
  exact is2 dX11_fire_80 cp_11_258 (Nat.le_of_ble_eq_true rfl) rfl rfl (Nat.le_of_ble_eq_true rfl)
theorem q_X11_fire_95 {call : CALL} {L X : Nat} {I : Nat → Nat → Int32} {J : Nat → Nat → Int64} {u0 : Option Value} {u1 : Option Value} {u2 : Option Value} {s0 : Int32} : runI call iX11_fire (95, [u0, u1, u2], [.int s0], (mm L X I J)) = some (.inl (some (.int s0)), (mm L X I J)) := by
  exact ret0 dX11_fire_95 rfl
theorem q_X11_fire_83 {call : CALL} {L X : Nat} {I : Nat → Nat → Int32} {J : Nat → Nat → Int64} {u0 : Option Value} {u1 : Option Value} {u2 : Option Value} {s0 : Int32} : runI call iX11_fire (83, [u0, u1, u2], [.int s0], (mm L X I J)) = some (.inl (some (.int s0)), (mm L X I J)) := by
  exact ret0 dX11_fire_83 rfl
theorem q_X11_expectFire_0 {call : CALL} {L X : Nat} {I : Nat → Nat → Int32} {J : Nat → Nat → Int64} {x1 : Int32} : runI call iX11_expectFire (0, [some (.ref 0), some (.int x1)], [], (mm L X I J)) = bndN (call nX11_within [.int x1, .int (nI 0), .int ((I 3 2) - (nI 1))] (mm L X I J)) (fun v m' => runI call iX11_expectFire (15, [some (.ref 0), some (.int x1)], v.toList ++ [.ref 0], m')) := by
  refine Eq.trans (st1 dX11_expectFire_0 rfl rfl) ?_
  refine Eq.trans (st1 dX11_expectFire_1 rfl rfl) ?_
  refine Eq.trans (xiconst dX11_expectFire_2 ci_0) ?_
  refine Eq.trans (st1 dX11_expectFire_3 rfl rfl) ?_
  refine Eq.trans (getRm dX11_expectFire_4 cp_11_19 ka_0 rfl r_0_1) ?_
  refine Eq.trans (getIm dX11_expectFire_7 cp_11_200 ka_3 (.inl rfl)) ?_
  refine Eq.trans (xiconst dX11_expectFire_10 ci_1) ?_
  refine Eq.trans (st1 dX11_expectFire_11 rfl rfl) ?_
  exact is2 dX11_expectFire_12 cp_11_189 (Nat.le_of_ble_eq_true rfl) rfl rfl (Nat.le_of_ble_eq_true rfl)
theorem q_X11_expectFire_15 {call : CALL} {L X : Nat} {I : Nat → Nat → Int32} {J : Nat → Nat → Int64} {u0 : Option Value} {u1 : Option Value} {s1 : Int32} : runI call iX11_expectFire (15, [u0, u1], [.int s1, .ref 0], (mm L X I J)) = bnd (call nX11_expectThere [.ref 0, .int s1] (mm L X I J)) (fun v m' => runI call iX11_expectFire (18, [u0, u1], v.toList ++ [], m')) := by
  exact iv0 dX11_expectFire_15 rfl cp_11_265 rfl rfl (kd_ka ka_0) ka_0.1 (Nat.le_of_ble_eq_true rfl)
theorem q_X11_expectFire_18 {call : CALL} {L X : Nat} {I : Nat → Nat → Int32} {J : Nat → Nat → Int64} {u0 : Option Value} {u1 : Option Value} : runI call iX11_expectFire (18, [u0, u1], [], (mm L X I J)) = some (.inl none, (mm L X I J)) := by
  exact ret3 dX11_expectFire_18 (.inl rfl)
theorem q_X11_row_0 {call : CALL} {L X : Nat} {I : Nat → Nat → Int32} {J : Nat → Nat → Int64} {x1 : Int32} : runI call iX11_row (0, [some (.ref 0), some (.int x1)], [], (mm L X I J)) = if x1 < (nI 0) then runI call iX11_row (10, [some (.ref 0), some (.int x1)], [.int (nI 0), .ref 0], (mm L X I J)) else runI call iX11_row (10, [some (.ref 0), some (.int x1)], [.int (nI 1), .ref 0], (mm L X I J)) := by
  refine Eq.trans (st1 dX11_row_0 rfl rfl) ?_
  refine Eq.trans (st1 dX11_row_1 rfl rfl) ?_
  refine Eq.trans (if_lt (tgt := 9) dX11_row_2 (by decide +kernel)) (ite_cong (fun _ => ?_) (fun _ => ?_))
  · refine Eq.trans (xiconst dX11_row_9 ci_0) ?_
    rfl
  · refine Eq.trans (xiconst dX11_row_5 ci_1) ?_
    refine Eq.trans (go_to (tgt := 10) dX11_row_6 (by decide +kernel)) ?_
    rfl
theorem q_X11_row_10 {call : CALL} {L X : Nat} {I : Nat → Nat → Int32} {J : Nat → Nat → Int64} {x1 : Int32} {s1 : Int32} : runI call iX11_row (10, [some (.ref 0), some (.int x1)], [.int s1, .ref 0], (mm L X I J)) = bnd (call nX11_expect [.ref 0, .int s1] (mm L X I J)) (fun v m' => runI call iX11_row (13, [some (.ref 0), some (.int x1)], v.toList ++ [], m')) := by
  exact iv0 dX11_row_10 rfl cp_11_193 rfl rfl (kd_ka ka_0) ka_0.1 (Nat.le_of_ble_eq_true rfl)
theorem q_X11_row_13 {call : CALL} {L X : Nat} {I : Nat → Nat → Int32} {J : Nat → Nat → Int64} {x1 : Int32} : runI call iX11_row (13, [some (.ref 0), some (.int x1)], [], (mm L X I J)) = if (I 43 5) ≤ x1 then some (.inl (some (.int (-1 : Int32))), (mm L X I J)) else bndN (call nX11_pick [.ref 44, .int x1] (mm L X I J)) (fun v m' => runI call iX11_row (35, [some (.ref 0), some (.int x1)], v.toList ++ [], m')) := by
  refine Eq.trans (st1 dX11_row_13 rfl rfl) ?_
  refine Eq.trans (st1 dX11_row_14 rfl rfl) ?_
  refine Eq.trans (getRm dX11_row_15 cp_11_56 ka_0 rfl r_0_8) ?_
  refine Eq.trans (getIm dX11_row_18 cp_11_206 ka_43 (.inl rfl)) ?_
  refine Eq.trans (ic_ge (tgt := 38) dX11_row_21 (by decide +kernel)) (ite_cong (fun _ => ?_) (fun _ => ?_))
  · refine Eq.trans (xiconst dX11_row_38 ci_m1) ?_
    exact ret0 dX11_row_39 rfl
  · refine Eq.trans (st1 dX11_row_24 rfl rfl) ?_
    refine Eq.trans (getRm dX11_row_25 cp_11_56 ka_0 rfl r_0_8) ?_
    refine Eq.trans (getRm dX11_row_28 cp_11_290 ka_43 rfl r_43_0) ?_
    refine Eq.trans (st1 dX11_row_31 rfl rfl) ?_
    exact is2 dX11_row_32 cp_11_232 (Nat.le_of_ble_eq_true rfl) rfl rfl (Nat.le_of_ble_eq_true rfl)
theorem q_X11_row_35 {call : CALL} {L X : Nat} {I : Nat → Nat → Int32} {J : Nat → Nat → Int64} {u0 : Option Value} {u1 : Option Value} {s0 : Int32} : runI call iX11_row (35, [u0, u1], [.int s0], (mm L X I J)) = some (.inl (some (.int s0)), (mm L X I J)) := by
  refine Eq.trans (go_to (tgt := 39) dX11_row_35 (by decide +kernel)) ?_
  exact ret0 dX11_row_39 rfl
theorem q_X11_behind_0 {call : CALL} {L X : Nat} {I : Nat → Nat → Int32} {J : Nat → Nat → Int64} {x1 : Int32} : runI call iX11_behind (0, [some (.ref 0), some (.int x1)], [], (mm L X I J)) = if x1 < (nI 0) then runI call iX11_behind (10, [some (.ref 0), some (.int x1)], [.int (nI 0), .ref 0], (mm L X I J)) else runI call iX11_behind (10, [some (.ref 0), some (.int x1)], [.int (nI 1), .ref 0], (mm L X I J)) := by
  refine Eq.trans (st1 dX11_behind_0 rfl rfl) ?_
  refine Eq.trans (st1 dX11_behind_1 rfl rfl) ?_
  refine Eq.trans (if_lt (tgt := 9) dX11_behind_2 (by decide +kernel)) (ite_cong (fun _ => ?_) (fun _ => ?_))
  · refine Eq.trans (xiconst dX11_behind_9 ci_0) ?_
    rfl
  · refine Eq.trans (xiconst dX11_behind_5 ci_1) ?_
    refine Eq.trans (go_to (tgt := 10) dX11_behind_6 (by decide +kernel)) ?_
    rfl
theorem q_X11_behind_10 {call : CALL} {L X : Nat} {I : Nat → Nat → Int32} {J : Nat → Nat → Int64} {x1 : Int32} {s1 : Int32} : runI call iX11_behind (10, [some (.ref 0), some (.int x1)], [.int s1, .ref 0], (mm L X I J)) = bnd (call nX11_expect [.ref 0, .int s1] (mm L X I J)) (fun v m' => runI call iX11_behind (13, [some (.ref 0), some (.int x1)], v.toList ++ [], m')) := by
  exact iv0 dX11_behind_10 rfl cp_11_193 rfl rfl (kd_ka ka_0) ka_0.1 (Nat.le_of_ble_eq_true rfl)
theorem q_X11_behind_13 {call : CALL} {L X : Nat} {I : Nat → Nat → Int32} {J : Nat → Nat → Int64} {x1 : Int32} : runI call iX11_behind (13, [some (.ref 0), some (.int x1)], [], (mm L X I J)) = if x1 < (I 43 5) then bnd (call nX8_arriving [.ref 52, .ref 43, .int (I 43 7)] (mm L X I J)) (fun v m' => runI call iX11_behind (44, [some (.ref 0), some (.int x1)], v.toList ++ [], m')) else some (.inl (some (.int (-1 : Int32))), (mm L X I J)) := by
  refine Eq.trans (st1 dX11_behind_13 rfl rfl) ?_
  refine Eq.trans (st1 dX11_behind_14 rfl rfl) ?_
  refine Eq.trans (getRm dX11_behind_15 cp_11_56 ka_0 rfl r_0_8) ?_
  refine Eq.trans (getIm dX11_behind_18 cp_11_206 ka_43 (.inl rfl)) ?_
  refine Eq.trans (ic_lt (tgt := 26) dX11_behind_21 (by decide +kernel)) (ite_cong (fun _ => ?_) (fun _ => ?_))
  · refine Eq.trans (st1 dX11_behind_26 rfl rfl) ?_
    refine Eq.trans (getRm dX11_behind_27 cp_11_72 ka_0 rfl r_0_10) ?_
    refine Eq.trans (st1 dX11_behind_30 rfl rfl) ?_
    refine Eq.trans (getRm dX11_behind_31 cp_11_56 ka_0 rfl r_0_8) ?_
    refine Eq.trans (st1 dX11_behind_34 rfl rfl) ?_
    refine Eq.trans (getRm dX11_behind_35 cp_11_56 ka_0 rfl r_0_8) ?_
    refine Eq.trans (getIm dX11_behind_38 cp_11_217 ka_43 (.inl rfl)) ?_
    exact iv0 dX11_behind_41 rfl cp_11_218 rfl rfl (kd_ka ka_52) ka_52.1 (Nat.le_of_ble_eq_true rfl)
  · refine Eq.trans (xiconst dX11_behind_24 ci_m1) ?_
    exact ret0 dX11_behind_25 rfl
theorem q_X11_behind_44 {call : CALL} {L X : Nat} {I : Nat → Nat → Int32} {J : Nat → Nat → Int64} {x1 : Int32} {s0 : Int32} : runI call iX11_behind (44, [some (.ref 0), some (.int x1)], [.int s0], (mm L X I J)) = bndN (call nX11_pick [.ref 53, .int x1] (mm L X I J)) (fun v m' => runI call iX11_behind (56, [some (.ref 0), some (.int x1)], v.toList ++ [], m')) := by
  refine Eq.trans (st1 dX11_behind_44 rfl rfl) ?_
  refine Eq.trans (st1 dX11_behind_45 rfl rfl) ?_
  refine Eq.trans (getRm dX11_behind_46 cp_11_72 ka_0 rfl r_0_10) ?_
  refine Eq.trans (getRm dX11_behind_49 cp_11_293 ka_52 rfl r_52_2) ?_
  refine Eq.trans (st1 dX11_behind_52 rfl rfl) ?_
  exact is2 dX11_behind_53 cp_11_232 (Nat.le_of_ble_eq_true rfl) rfl rfl (Nat.le_of_ble_eq_true rfl)
theorem q_X11_behind_56 {call : CALL} {L X : Nat} {I : Nat → Nat → Int32} {J : Nat → Nat → Int64} {u0 : Option Value} {u1 : Option Value} {s0 : Int32} : runI call iX11_behind (56, [u0, u1], [.int s0], (mm L X I J)) = some (.inl (some (.int s0)), (mm L X I J)) := by
  exact ret0 dX11_behind_56 rfl
theorem q_X11_would_0 {call : CALL} {L X : Nat} {I : Nat → Nat → Int32} {J : Nat → Nat → Int64} {x1 : Int32} {x2 : Int32} {x3 : Int32} {x4 : Int32} {x5 : Int32} {x6 : Int32} {x7 : Int32} {x8 : Int32} {x9 : Int32} : runI call iX11_would (0, [some (.ref 0), some (.int x1), some (.int x2), some (.int x3), some (.int x4), some (.int x5), some (.int x6), some (.int x7), some (.int x8), some (.int x9)], [], (mm L X I J)) = bndN (call nX11_within [.int x1, .int (nI 0), .int (nI 99)] (mm L X I J)) (fun v m' => runI call iX11_would (8, [some (.ref 0), some (.int x1), some (.int x2), some (.int x3), some (.int x4), some (.int x5), some (.int x6), some (.int x7), some (.int x8), some (.int x9)], v.toList ++ [.ref 0], m')) := by
  refine Eq.trans (st1 dX11_would_0 rfl rfl) ?_
  refine Eq.trans (st1 dX11_would_1 rfl rfl) ?_
  refine Eq.trans (xiconst dX11_would_2 ci_0) ?_
  refine Eq.trans (xbipush dX11_would_3 cb_99) ?_
  exact is2 dX11_would_5 cp_11_189 (Nat.le_of_ble_eq_true rfl) rfl rfl (Nat.le_of_ble_eq_true rfl)
theorem q_X11_would_8 {call : CALL} {L X : Nat} {I : Nat → Nat → Int32} {J : Nat → Nat → Int64} {x1 : Int32} {x2 : Int32} {x3 : Int32} {x4 : Int32} {x5 : Int32} {x6 : Int32} {x7 : Int32} {x8 : Int32} {x9 : Int32} {s1 : Int32} : runI call iX11_would (8, [some (.ref 0), some (.int x1), some (.int x2), some (.int x3), some (.int x4), some (.int x5), some (.int x6), some (.int x7), some (.int x8), some (.int x9)], [.int s1, .ref 0], (mm L X I J)) = if s1 = (nI 0) then runI call iX11_would (35, [some (.ref 0), some (.int x1), some (.int x2), some (.int x3), some (.int x4), some (.int x5), some (.int x6), some (.int x7), some (.int x8), some (.int x9)], [.ref 0], (mm L X I J)) else bndN (call nX11_within [.int x2, .int (nI 0), .int (nI 9)] (mm L X I J)) (fun v m' => runI call iX11_would (18, [some (.ref 0), some (.int x1), some (.int x2), some (.int x3), some (.int x4), some (.int x5), some (.int x6), some (.int x7), some (.int x8), some (.int x9)], v.toList ++ [.ref 0], m')) := by
  refine Eq.trans (if_eq (tgt := 35) dX11_would_8 (by decide +kernel)) (ite_cong (fun _ => ?_) (fun _ => ?_))
  · rfl
  · refine Eq.trans (st1 dX11_would_11 rfl rfl) ?_
    refine Eq.trans (xiconst dX11_would_12 ci_0) ?_
    refine Eq.trans (xbipush dX11_would_13 cb_9) ?_
    exact is2 dX11_would_15 cp_11_189 (Nat.le_of_ble_eq_true rfl) rfl rfl (Nat.le_of_ble_eq_true rfl)
theorem q_X11_would_35 {call : CALL} {L X : Nat} {I : Nat → Nat → Int32} {J : Nat → Nat → Int64} {x1 : Int32} {x2 : Int32} {x3 : Int32} {x4 : Int32} {x5 : Int32} {x6 : Int32} {x7 : Int32} {x8 : Int32} {x9 : Int32} : runI call iX11_would (35, [some (.ref 0), some (.int x1), some (.int x2), some (.int x3), some (.int x4), some (.int x5), some (.int x6), some (.int x7), some (.int x8), some (.int x9)], [.ref 0], (mm L X I J)) = runI call iX11_would (36, [some (.ref 0), some (.int x1), some (.int x2), some (.int x3), some (.int x4), some (.int x5), some (.int x6), some (.int x7), some (.int x8), some (.int x9)], [.int (nI 0), .ref 0], (mm L X I J)) := by
  refine Eq.trans (xiconst dX11_would_35 ci_0) ?_
  rfl
theorem q_X11_would_18 {call : CALL} {L X : Nat} {I : Nat → Nat → Int32} {J : Nat → Nat → Int64} {x1 : Int32} {x2 : Int32} {x3 : Int32} {x4 : Int32} {x5 : Int32} {x6 : Int32} {x7 : Int32} {x8 : Int32} {x9 : Int32} {s1 : Int32} : runI call iX11_would (18, [some (.ref 0), some (.int x1), some (.int x2), some (.int x3), some (.int x4), some (.int x5), some (.int x6), some (.int x7), some (.int x8), some (.int x9)], [.int s1, .ref 0], (mm L X I J)) = if s1 = (nI 0) then runI call iX11_would (35, [some (.ref 0), some (.int x1), some (.int x2), some (.int x3), some (.int x4), some (.int x5), some (.int x6), some (.int x7), some (.int x8), some (.int x9)], [.ref 0], (mm L X I J)) else bndN (call nX11_within [.int x3, .int (nI 1), .int (nI 30)] (mm L X I J)) (fun v m' => runI call iX11_would (28, [some (.ref 0), some (.int x1), some (.int x2), some (.int x3), some (.int x4), some (.int x5), some (.int x6), some (.int x7), some (.int x8), some (.int x9)], v.toList ++ [.ref 0], m')) := by
  refine Eq.trans (if_eq (tgt := 35) dX11_would_18 (by decide +kernel)) (ite_cong (fun _ => ?_) (fun _ => ?_))
  · rfl
  · refine Eq.trans (st1 dX11_would_21 rfl rfl) ?_
    refine Eq.trans (xiconst dX11_would_22 ci_1) ?_
    refine Eq.trans (xbipush dX11_would_23 cb_30) ?_
    exact is2 dX11_would_25 cp_11_189 (Nat.le_of_ble_eq_true rfl) rfl rfl (Nat.le_of_ble_eq_true rfl)
theorem q_X11_would_36 {call : CALL} {L X : Nat} {I : Nat → Nat → Int32} {J : Nat → Nat → Int64} {x1 : Int32} {x2 : Int32} {x3 : Int32} {x4 : Int32} {x5 : Int32} {x6 : Int32} {x7 : Int32} {x8 : Int32} {x9 : Int32} {s1 : Int32} : runI call iX11_would (36, [some (.ref 0), some (.int x1), some (.int x2), some (.int x3), some (.int x4), some (.int x5), some (.int x6), some (.int x7), some (.int x8), some (.int x9)], [.int s1, .ref 0], (mm L X I J)) = bnd (call nX11_expect [.ref 0, .int s1] (mm L X I J)) (fun v m' => runI call iX11_would (39, [some (.ref 0), some (.int x1), some (.int x2), some (.int x3), some (.int x4), some (.int x5), some (.int x6), some (.int x7), some (.int x8), some (.int x9)], v.toList ++ [], m')) := by
  exact iv0 dX11_would_36 rfl cp_11_193 rfl rfl (kd_ka ka_0) ka_0.1 (Nat.le_of_ble_eq_true rfl)
theorem q_X11_would_28 {call : CALL} {L X : Nat} {I : Nat → Nat → Int32} {J : Nat → Nat → Int64} {x1 : Int32} {x2 : Int32} {x3 : Int32} {x4 : Int32} {x5 : Int32} {x6 : Int32} {x7 : Int32} {x8 : Int32} {x9 : Int32} {s1 : Int32} : runI call iX11_would (28, [some (.ref 0), some (.int x1), some (.int x2), some (.int x3), some (.int x4), some (.int x5), some (.int x6), some (.int x7), some (.int x8), some (.int x9)], [.int s1, .ref 0], (mm L X I J)) = if s1 = (nI 0) then runI call iX11_would (35, [some (.ref 0), some (.int x1), some (.int x2), some (.int x3), some (.int x4), some (.int x5), some (.int x6), some (.int x7), some (.int x8), some (.int x9)], [.ref 0], (mm L X I J)) else runI call iX11_would (36, [some (.ref 0), some (.int x1), some (.int x2), some (.int x3), some (.int x4), some (.int x5), some (.int x6), some (.int x7), some (.int x8), some (.int x9)], [.int (nI 1), .ref 0], (mm L X I J)) := by
  refine Eq.trans (if_eq (tgt := 35) dX11_would_28 (by decide +kernel)) (ite_cong (fun _ => ?_) (fun _ => ?_))
  · rfl
  · refine Eq.trans (xiconst dX11_would_31 ci_1) ?_
    refine Eq.trans (go_to (tgt := 36) dX11_would_32 (by decide +kernel)) ?_
    rfl
theorem q_X11_would_39 {call : CALL} {L X : Nat} {I : Nat → Nat → Int32} {J : Nat → Nat → Int64} {x1 : Int32} {x2 : Int32} {x3 : Int32} {x4 : Int32} {x5 : Int32} {x6 : Int32} {x7 : Int32} {x8 : Int32} {x9 : Int32} : runI call iX11_would (39, [some (.ref 0), some (.int x1), some (.int x2), some (.int x3), some (.int x4), some (.int x5), some (.int x6), some (.int x7), some (.int x8), some (.int x9)], [], (mm L X I J)) = bndN (call nX11_within [.int x4, .int (nI 0), .int (nI 9)] (mm L X I J)) (fun v m' => runI call iX11_would (48, [some (.ref 0), some (.int x1), some (.int x2), some (.int x3), some (.int x4), some (.int x5), some (.int x6), some (.int x7), some (.int x8), some (.int x9)], v.toList ++ [.ref 0], m')) := by
  refine Eq.trans (st1 dX11_would_39 rfl rfl) ?_
  refine Eq.trans (st1 dX11_would_40 rfl rfl) ?_
  refine Eq.trans (xiconst dX11_would_42 ci_0) ?_
  refine Eq.trans (xbipush dX11_would_43 cb_9) ?_
  exact is2 dX11_would_45 cp_11_189 (Nat.le_of_ble_eq_true rfl) rfl rfl (Nat.le_of_ble_eq_true rfl)
theorem q_X11_would_48 {call : CALL} {L X : Nat} {I : Nat → Nat → Int32} {J : Nat → Nat → Int64} {x1 : Int32} {x2 : Int32} {x3 : Int32} {x4 : Int32} {x5 : Int32} {x6 : Int32} {x7 : Int32} {x8 : Int32} {x9 : Int32} {s1 : Int32} : runI call iX11_would (48, [some (.ref 0), some (.int x1), some (.int x2), some (.int x3), some (.int x4), some (.int x5), some (.int x6), some (.int x7), some (.int x8), some (.int x9)], [.int s1, .ref 0], (mm L X I J)) = if s1 = (nI 0) then runI call iX11_would (76, [some (.ref 0), some (.int x1), some (.int x2), some (.int x3), some (.int x4), some (.int x5), some (.int x6), some (.int x7), some (.int x8), some (.int x9)], [.ref 0], (mm L X I J)) else bndN (call nX11_within [.int x5, .int (nI 0), .int (nI 9)] (mm L X I J)) (fun v m' => runI call iX11_would (59, [some (.ref 0), some (.int x1), some (.int x2), some (.int x3), some (.int x4), some (.int x5), some (.int x6), some (.int x7), some (.int x8), some (.int x9)], v.toList ++ [.ref 0], m')) := by
  refine Eq.trans (if_eq (tgt := 76) dX11_would_48 (by decide +kernel)) (ite_cong (fun _ => ?_) (fun _ => ?_))
  · rfl
  · refine Eq.trans (st1 dX11_would_51 rfl rfl) ?_
    refine Eq.trans (xiconst dX11_would_53 ci_0) ?_
    refine Eq.trans (xbipush dX11_would_54 cb_9) ?_
    exact is2 dX11_would_56 cp_11_189 (Nat.le_of_ble_eq_true rfl) rfl rfl (Nat.le_of_ble_eq_true rfl)
theorem q_X11_would_76 {call : CALL} {L X : Nat} {I : Nat → Nat → Int32} {J : Nat → Nat → Int64} {x1 : Int32} {x2 : Int32} {x3 : Int32} {x4 : Int32} {x5 : Int32} {x6 : Int32} {x7 : Int32} {x8 : Int32} {x9 : Int32} : runI call iX11_would (76, [some (.ref 0), some (.int x1), some (.int x2), some (.int x3), some (.int x4), some (.int x5), some (.int x6), some (.int x7), some (.int x8), some (.int x9)], [.ref 0], (mm L X I J)) = runI call iX11_would (77, [some (.ref 0), some (.int x1), some (.int x2), some (.int x3), some (.int x4), some (.int x5), some (.int x6), some (.int x7), some (.int x8), some (.int x9)], [.int (nI 0), .ref 0], (mm L X I J)) := by
  refine Eq.trans (xiconst dX11_would_76 ci_0) ?_
  rfl
theorem q_X11_would_59 {call : CALL} {L X : Nat} {I : Nat → Nat → Int32} {J : Nat → Nat → Int64} {x1 : Int32} {x2 : Int32} {x3 : Int32} {x4 : Int32} {x5 : Int32} {x6 : Int32} {x7 : Int32} {x8 : Int32} {x9 : Int32} {s1 : Int32} : runI call iX11_would (59, [some (.ref 0), some (.int x1), some (.int x2), some (.int x3), some (.int x4), some (.int x5), some (.int x6), some (.int x7), some (.int x8), some (.int x9)], [.int s1, .ref 0], (mm L X I J)) = if s1 = (nI 0) then runI call iX11_would (76, [some (.ref 0), some (.int x1), some (.int x2), some (.int x3), some (.int x4), some (.int x5), some (.int x6), some (.int x7), some (.int x8), some (.int x9)], [.ref 0], (mm L X I J)) else bndN (call nX11_within [.int x6, .int (nI 0), .int (nI 5)] (mm L X I J)) (fun v m' => runI call iX11_would (69, [some (.ref 0), some (.int x1), some (.int x2), some (.int x3), some (.int x4), some (.int x5), some (.int x6), some (.int x7), some (.int x8), some (.int x9)], v.toList ++ [.ref 0], m')) := by
  refine Eq.trans (if_eq (tgt := 76) dX11_would_59 (by decide +kernel)) (ite_cong (fun _ => ?_) (fun _ => ?_))
  · rfl
  · refine Eq.trans (st1 dX11_would_62 rfl rfl) ?_
    refine Eq.trans (xiconst dX11_would_64 ci_0) ?_
    refine Eq.trans (xiconst dX11_would_65 ci_5) ?_
    exact is2 dX11_would_66 cp_11_189 (Nat.le_of_ble_eq_true rfl) rfl rfl (Nat.le_of_ble_eq_true rfl)
theorem q_X11_would_77 {call : CALL} {L X : Nat} {I : Nat → Nat → Int32} {J : Nat → Nat → Int64} {x1 : Int32} {x2 : Int32} {x3 : Int32} {x4 : Int32} {x5 : Int32} {x6 : Int32} {x7 : Int32} {x8 : Int32} {x9 : Int32} {s1 : Int32} : runI call iX11_would (77, [some (.ref 0), some (.int x1), some (.int x2), some (.int x3), some (.int x4), some (.int x5), some (.int x6), some (.int x7), some (.int x8), some (.int x9)], [.int s1, .ref 0], (mm L X I J)) = bnd (call nX11_expect [.ref 0, .int s1] (mm L X I J)) (fun v m' => runI call iX11_would (80, [some (.ref 0), some (.int x1), some (.int x2), some (.int x3), some (.int x4), some (.int x5), some (.int x6), some (.int x7), some (.int x8), some (.int x9)], v.toList ++ [], m')) := by
  exact iv0 dX11_would_77 rfl cp_11_193 rfl rfl (kd_ka ka_0) ka_0.1 (Nat.le_of_ble_eq_true rfl)
theorem q_X11_would_69 {call : CALL} {L X : Nat} {I : Nat → Nat → Int32} {J : Nat → Nat → Int64} {x1 : Int32} {x2 : Int32} {x3 : Int32} {x4 : Int32} {x5 : Int32} {x6 : Int32} {x7 : Int32} {x8 : Int32} {x9 : Int32} {s1 : Int32} : runI call iX11_would (69, [some (.ref 0), some (.int x1), some (.int x2), some (.int x3), some (.int x4), some (.int x5), some (.int x6), some (.int x7), some (.int x8), some (.int x9)], [.int s1, .ref 0], (mm L X I J)) = if s1 = (nI 0) then runI call iX11_would (76, [some (.ref 0), some (.int x1), some (.int x2), some (.int x3), some (.int x4), some (.int x5), some (.int x6), some (.int x7), some (.int x8), some (.int x9)], [.ref 0], (mm L X I J)) else runI call iX11_would (77, [some (.ref 0), some (.int x1), some (.int x2), some (.int x3), some (.int x4), some (.int x5), some (.int x6), some (.int x7), some (.int x8), some (.int x9)], [.int (nI 1), .ref 0], (mm L X I J)) := by
  refine Eq.trans (if_eq (tgt := 76) dX11_would_69 (by decide +kernel)) (ite_cong (fun _ => ?_) (fun _ => ?_))
  · rfl
  · refine Eq.trans (xiconst dX11_would_72 ci_1) ?_
    refine Eq.trans (go_to (tgt := 77) dX11_would_73 (by decide +kernel)) ?_
    rfl
theorem q_X11_would_80 {call : CALL} {L X : Nat} {I : Nat → Nat → Int32} {J : Nat → Nat → Int64} {x1 : Int32} {x2 : Int32} {x3 : Int32} {x4 : Int32} {x5 : Int32} {x6 : Int32} {x7 : Int32} {x8 : Int32} {x9 : Int32} : runI call iX11_would (80, [some (.ref 0), some (.int x1), some (.int x2), some (.int x3), some (.int x4), some (.int x5), some (.int x6), some (.int x7), some (.int x8), some (.int x9)], [], (mm L X I J)) = bndN (call nX11_within [.int x7, .int (nI 0), .int (nI 1)] (mm L X I J)) (fun v m' => runI call iX11_would (88, [some (.ref 0), some (.int x1), some (.int x2), some (.int x3), some (.int x4), some (.int x5), some (.int x6), some (.int x7), some (.int x8), some (.int x9)], v.toList ++ [.ref 0], m')) := by
  refine Eq.trans (st1 dX11_would_80 rfl rfl) ?_
  refine Eq.trans (st1 dX11_would_81 rfl rfl) ?_
  refine Eq.trans (xiconst dX11_would_83 ci_0) ?_
  refine Eq.trans (xiconst dX11_would_84 ci_1) ?_
  exact is2 dX11_would_85 cp_11_189 (Nat.le_of_ble_eq_true rfl) rfl rfl (Nat.le_of_ble_eq_true rfl)
theorem q_X11_would_88 {call : CALL} {L X : Nat} {I : Nat → Nat → Int32} {J : Nat → Nat → Int64} {x1 : Int32} {x2 : Int32} {x3 : Int32} {x4 : Int32} {x5 : Int32} {x6 : Int32} {x7 : Int32} {x8 : Int32} {x9 : Int32} {s1 : Int32} : runI call iX11_would (88, [some (.ref 0), some (.int x1), some (.int x2), some (.int x3), some (.int x4), some (.int x5), some (.int x6), some (.int x7), some (.int x8), some (.int x9)], [.int s1, .ref 0], (mm L X I J)) = if s1 = (nI 0) then runI call iX11_would (116, [some (.ref 0), some (.int x1), some (.int x2), some (.int x3), some (.int x4), some (.int x5), some (.int x6), some (.int x7), some (.int x8), some (.int x9)], [.ref 0], (mm L X I J)) else bndN (call nX11_within [.int x8, .int (nI 0), .int (nI 99)] (mm L X I J)) (fun v m' => runI call iX11_would (99, [some (.ref 0), some (.int x1), some (.int x2), some (.int x3), some (.int x4), some (.int x5), some (.int x6), some (.int x7), some (.int x8), some (.int x9)], v.toList ++ [.ref 0], m')) := by
  refine Eq.trans (if_eq (tgt := 116) dX11_would_88 (by decide +kernel)) (ite_cong (fun _ => ?_) (fun _ => ?_))
  · rfl
  · refine Eq.trans (st1 dX11_would_91 rfl rfl) ?_
    refine Eq.trans (xiconst dX11_would_93 ci_0) ?_
    refine Eq.trans (xbipush dX11_would_94 cb_99) ?_
    exact is2 dX11_would_96 cp_11_189 (Nat.le_of_ble_eq_true rfl) rfl rfl (Nat.le_of_ble_eq_true rfl)
theorem q_X11_would_116 {call : CALL} {L X : Nat} {I : Nat → Nat → Int32} {J : Nat → Nat → Int64} {x1 : Int32} {x2 : Int32} {x3 : Int32} {x4 : Int32} {x5 : Int32} {x6 : Int32} {x7 : Int32} {x8 : Int32} {x9 : Int32} : runI call iX11_would (116, [some (.ref 0), some (.int x1), some (.int x2), some (.int x3), some (.int x4), some (.int x5), some (.int x6), some (.int x7), some (.int x8), some (.int x9)], [.ref 0], (mm L X I J)) = runI call iX11_would (117, [some (.ref 0), some (.int x1), some (.int x2), some (.int x3), some (.int x4), some (.int x5), some (.int x6), some (.int x7), some (.int x8), some (.int x9)], [.int (nI 0), .ref 0], (mm L X I J)) := by
  refine Eq.trans (xiconst dX11_would_116 ci_0) ?_
  rfl
theorem q_X11_would_99 {call : CALL} {L X : Nat} {I : Nat → Nat → Int32} {J : Nat → Nat → Int64} {x1 : Int32} {x2 : Int32} {x3 : Int32} {x4 : Int32} {x5 : Int32} {x6 : Int32} {x7 : Int32} {x8 : Int32} {x9 : Int32} {s1 : Int32} : runI call iX11_would (99, [some (.ref 0), some (.int x1), some (.int x2), some (.int x3), some (.int x4), some (.int x5), some (.int x6), some (.int x7), some (.int x8), some (.int x9)], [.int s1, .ref 0], (mm L X I J)) = if s1 = (nI 0) then runI call iX11_would (116, [some (.ref 0), some (.int x1), some (.int x2), some (.int x3), some (.int x4), some (.int x5), some (.int x6), some (.int x7), some (.int x8), some (.int x9)], [.ref 0], (mm L X I J)) else bndN (call nX11_within [.int x9, .int (nI 0), .int (nI 5)] (mm L X I J)) (fun v m' => runI call iX11_would (109, [some (.ref 0), some (.int x1), some (.int x2), some (.int x3), some (.int x4), some (.int x5), some (.int x6), some (.int x7), some (.int x8), some (.int x9)], v.toList ++ [.ref 0], m')) := by
  refine Eq.trans (if_eq (tgt := 116) dX11_would_99 (by decide +kernel)) (ite_cong (fun _ => ?_) (fun _ => ?_))
  · rfl
  · refine Eq.trans (st1 dX11_would_102 rfl rfl) ?_
    refine Eq.trans (xiconst dX11_would_104 ci_0) ?_
    refine Eq.trans (xiconst dX11_would_105 ci_5) ?_
    exact is2 dX11_would_106 cp_11_189 (Nat.le_of_ble_eq_true rfl) rfl rfl (Nat.le_of_ble_eq_true rfl)
theorem q_X11_would_117 {call : CALL} {L X : Nat} {I : Nat → Nat → Int32} {J : Nat → Nat → Int64} {x1 : Int32} {x2 : Int32} {x3 : Int32} {x4 : Int32} {x5 : Int32} {x6 : Int32} {x7 : Int32} {x8 : Int32} {x9 : Int32} {s1 : Int32} : runI call iX11_would (117, [some (.ref 0), some (.int x1), some (.int x2), some (.int x3), some (.int x4), some (.int x5), some (.int x6), some (.int x7), some (.int x8), some (.int x9)], [.int s1, .ref 0], (mm L X I J)) = bnd (call nX11_expect [.ref 0, .int s1] (mm L X I J)) (fun v m' => runI call iX11_would (120, [some (.ref 0), some (.int x1), some (.int x2), some (.int x3), some (.int x4), some (.int x5), some (.int x6), some (.int x7), some (.int x8), some (.int x9)], v.toList ++ [], m')) := by
  exact iv0 dX11_would_117 rfl cp_11_193 rfl rfl (kd_ka ka_0) ka_0.1 (Nat.le_of_ble_eq_true rfl)
theorem q_X11_would_109 {call : CALL} {L X : Nat} {I : Nat → Nat → Int32} {J : Nat → Nat → Int64} {x1 : Int32} {x2 : Int32} {x3 : Int32} {x4 : Int32} {x5 : Int32} {x6 : Int32} {x7 : Int32} {x8 : Int32} {x9 : Int32} {s1 : Int32} : runI call iX11_would (109, [some (.ref 0), some (.int x1), some (.int x2), some (.int x3), some (.int x4), some (.int x5), some (.int x6), some (.int x7), some (.int x8), some (.int x9)], [.int s1, .ref 0], (mm L X I J)) = if s1 = (nI 0) then runI call iX11_would (116, [some (.ref 0), some (.int x1), some (.int x2), some (.int x3), some (.int x4), some (.int x5), some (.int x6), some (.int x7), some (.int x8), some (.int x9)], [.ref 0], (mm L X I J)) else runI call iX11_would (117, [some (.ref 0), some (.int x1), some (.int x2), some (.int x3), some (.int x4), some (.int x5), some (.int x6), some (.int x7), some (.int x8), some (.int x9)], [.int (nI 1), .ref 0], (mm L X I J)) := by
  refine Eq.trans (if_eq (tgt := 116) dX11_would_109 (by decide +kernel)) (ite_cong (fun _ => ?_) (fun _ => ?_))
  · rfl
  · refine Eq.trans (xiconst dX11_would_112 ci_1) ?_
    refine Eq.trans (go_to (tgt := 117) dX11_would_113 (by decide +kernel)) ?_
    rfl
theorem q_X11_would_120 {call : CALL} {L X : Nat} {I : Nat → Nat → Int32} {J : Nat → Nat → Int64} {x1 : Int32} {x2 : Int32} {x3 : Int32} {x4 : Int32} {x5 : Int32} {x6 : Int32} {x7 : Int32} {x8 : Int32} {x9 : Int32} : runI call iX11_would (120, [some (.ref 0), some (.int x1), some (.int x2), some (.int x3), some (.int x4), some (.int x5), some (.int x6), some (.int x7), some (.int x8), some (.int x9)], [], (mm L X I J)) = bnd (call nX2_tellPiece [.ref 23, .int x2, .int x3, .int x7, .int x9] (mm L X I J)) (fun v m' => runI call iX11_would (133, [some (.ref 0), some (.int x1), some (.int x2), some (.int x3), some (.int x4), some (.int x5), some (.int x6), some (.int x7), some (.int x8), some (.int x9)], v.toList ++ [], m')) := by
  refine Eq.trans (st1 dX11_would_120 rfl rfl) ?_
  refine Eq.trans (getRm dX11_would_121 cp_11_29 ka_0 rfl r_0_3) ?_
  refine Eq.trans (st1 dX11_would_124 rfl rfl) ?_
  refine Eq.trans (st1 dX11_would_125 rfl rfl) ?_
  refine Eq.trans (st1 dX11_would_126 rfl rfl) ?_
  refine Eq.trans (st1 dX11_would_128 rfl rfl) ?_
  exact iv0 dX11_would_130 rfl cp_11_296 rfl rfl (kd_ka ka_23) ka_23.1 (Nat.le_of_ble_eq_true rfl)
theorem q_X11_would_133 {call : CALL} {L X : Nat} {I : Nat → Nat → Int32} {J : Nat → Nat → Int64} {x1 : Int32} {u2 : Option Value} {u3 : Option Value} {x4 : Int32} {x5 : Int32} {x6 : Int32} {u7 : Option Value} {x8 : Int32} {u9 : Option Value} : runI call iX11_would (133, [some (.ref 0), some (.int x1), u2, u3, some (.int x4), some (.int x5), some (.int x6), u7, some (.int x8), u9], [], (mm L X I J)) = bnd (call nX2_tellNow [.ref 23, .int x1, .int x4, .int x5, .int x6, .int x8] (mm L X I J)) (fun v m' => runI call iX11_would (149, [some (.ref 0), some (.int x1), u2, u3, some (.int x4), some (.int x5), some (.int x6), u7, some (.int x8), u9], v.toList ++ [], m')) := by
  refine Eq.trans (st1 dX11_would_133 rfl rfl) ?_
  refine Eq.trans (getRm dX11_would_134 cp_11_29 ka_0 rfl r_0_3) ?_
  refine Eq.trans (st1 dX11_would_137 rfl rfl) ?_
  refine Eq.trans (st1 dX11_would_138 rfl rfl) ?_
  refine Eq.trans (st1 dX11_would_140 rfl rfl) ?_
  refine Eq.trans (st1 dX11_would_142 rfl rfl) ?_
  refine Eq.trans (st1 dX11_would_144 rfl rfl) ?_
  exact iv0 dX11_would_146 rfl cp_11_300 rfl rfl (kd_ka ka_23) ka_23.1 (Nat.le_of_ble_eq_true rfl)
theorem q_X11_would_149 {call : CALL} {L X : Nat} {I : Nat → Nat → Int32} {J : Nat → Nat → Int64} {u1 : Option Value} {u2 : Option Value} {u3 : Option Value} {u4 : Option Value} {u5 : Option Value} {u6 : Option Value} {u7 : Option Value} {u8 : Option Value} {u9 : Option Value} : runI call iX11_would (149, [some (.ref 0), u1, u2, u3, u4, u5, u6, u7, u8, u9], [], (mm L X I J)) = bnd (call nX2_left [.ref 23] (mm L X I J)) (fun v m' => runI call iX11_would (156, [some (.ref 0), u1, u2, u3, u4, u5, u6, u7, u8, u9], v.toList ++ [], m')) := by
  refine Eq.trans (st1 dX11_would_149 rfl rfl) ?_
  refine Eq.trans (getRm dX11_would_150 cp_11_29 ka_0 rfl r_0_3) ?_
  exact iv0 dX11_would_153 rfl cp_11_304 rfl rfl (kd_ka ka_23) ka_23.1 (Nat.le_of_ble_eq_true rfl)
theorem q_X11_would_156 {call : CALL} {L X : Nat} {I : Nat → Nat → Int32} {J : Nat → Nat → Int64} {u0 : Option Value} {u1 : Option Value} {u2 : Option Value} {u3 : Option Value} {u4 : Option Value} {u5 : Option Value} {u6 : Option Value} {u7 : Option Value} {u8 : Option Value} {u9 : Option Value} {s0 : Int32} : runI call iX11_would (156, [u0, u1, u2, u3, u4, u5, u6, u7, u8, u9], [.int s0], (mm L X I J)) = some (.inl (some (.int s0)), (mm L X I J)) := by
  exact ret0 dX11_would_156 rfl
theorem q_X11_fits_0 {call : CALL} {L X : Nat} {I : Nat → Nat → Int32} {J : Nat → Nat → Int64} {x1 : Int32} {x2 : Int32} : runI call iX11_fits (0, [some (.ref 0), some (.int x1), some (.int x2)], [], (mm L X I J)) = bnd (call nX11_expectThread [.ref 0, .int x1] (mm L X I J)) (fun v m' => runI call iX11_fits (5, [some (.ref 0), some (.int x1), some (.int x2)], v.toList ++ [], m')) := by
  refine Eq.trans (st1 dX11_fits_0 rfl rfl) ?_
  refine Eq.trans (st1 dX11_fits_1 rfl rfl) ?_
  exact iv0 dX11_fits_2 rfl cp_11_306 rfl rfl (kd_ka ka_0) ka_0.1 (Nat.le_of_ble_eq_true rfl)
theorem q_X11_fits_5 {call : CALL} {L X : Nat} {I : Nat → Nat → Int32} {J : Nat → Nat → Int64} {x1 : Int32} {x2 : Int32} : runI call iX11_fits (5, [some (.ref 0), some (.int x1), some (.int x2)], [], (mm L X I J)) = bnd (call nX11_expectThread [.ref 0, .int x2] (mm L X I J)) (fun v m' => runI call iX11_fits (10, [some (.ref 0), some (.int x1), some (.int x2)], v.toList ++ [], m')) := by
  refine Eq.trans (st1 dX11_fits_5 rfl rfl) ?_
  refine Eq.trans (st1 dX11_fits_6 rfl rfl) ?_
  exact iv0 dX11_fits_7 rfl cp_11_306 rfl rfl (kd_ka ka_0) ka_0.1 (Nat.le_of_ble_eq_true rfl)
theorem q_X11_fits_10 {call : CALL} {L X : Nat} {I : Nat → Nat → Int32} {J : Nat → Nat → Int64} {x1 : Int32} {x2 : Int32} : runI call iX11_fits (10, [some (.ref 0), some (.int x1), some (.int x2)], [], (mm L X I J)) = bnd (call nX1_joins [.ref 3, .int x1, .int x2] (mm L X I J)) (fun v m' => runI call iX11_fits (19, [some (.ref 0), some (.int x1), some (.int x2)], v.toList ++ [], m')) := by
  refine Eq.trans (st1 dX11_fits_10 rfl rfl) ?_
  refine Eq.trans (getRm dX11_fits_11 cp_11_19 ka_0 rfl r_0_1) ?_
  refine Eq.trans (st1 dX11_fits_14 rfl rfl) ?_
  refine Eq.trans (st1 dX11_fits_15 rfl rfl) ?_
  exact iv0 dX11_fits_16 rfl cp_11_309 rfl rfl (kd_ka ka_3) ka_3.1 (Nat.le_of_ble_eq_true rfl)
theorem q_X11_fits_19 {call : CALL} {L X : Nat} {I : Nat → Nat → Int32} {J : Nat → Nat → Int64} {u0 : Option Value} {u1 : Option Value} {u2 : Option Value} {s0 : Int32} : runI call iX11_fits (19, [u0, u1, u2], [.int s0], (mm L X I J)) = gd (b01 s0) (some (.inl (some (.int s0)), (mm L X I J))) := by
  exact ret1g dX11_fits_19 rfl
theorem q_X11_expectThread_0 {call : CALL} {L X : Nat} {I : Nat → Nat → Int32} {J : Nat → Nat → Int64} {x1 : Int32} : runI call iX11_expectThread (0, [some (.ref 0), some (.int x1)], [], (mm L X I J)) = bndN (call nX11_within [.int x1, .int (nI 0), .int (nI 9)] (mm L X I J)) (fun v m' => runI call iX11_expectThread (8, [some (.ref 0), some (.int x1)], v.toList ++ [.ref 0], m')) := by
  refine Eq.trans (st1 dX11_expectThread_0 rfl rfl) ?_
  refine Eq.trans (st1 dX11_expectThread_1 rfl rfl) ?_
  refine Eq.trans (xiconst dX11_expectThread_2 ci_0) ?_
  refine Eq.trans (xbipush dX11_expectThread_3 cb_9) ?_
  exact is2 dX11_expectThread_5 cp_11_189 (Nat.le_of_ble_eq_true rfl) rfl rfl (Nat.le_of_ble_eq_true rfl)
theorem q_X11_expectThread_8 {call : CALL} {L X : Nat} {I : Nat → Nat → Int32} {J : Nat → Nat → Int64} {u0 : Option Value} {u1 : Option Value} {s1 : Int32} : runI call iX11_expectThread (8, [u0, u1], [.int s1, .ref 0], (mm L X I J)) = bnd (call nX11_expect [.ref 0, .int s1] (mm L X I J)) (fun v m' => runI call iX11_expectThread (11, [u0, u1], v.toList ++ [], m')) := by
  exact iv0 dX11_expectThread_8 rfl cp_11_193 rfl rfl (kd_ka ka_0) ka_0.1 (Nat.le_of_ble_eq_true rfl)
theorem q_X11_expectThread_11 {call : CALL} {L X : Nat} {I : Nat → Nat → Int32} {J : Nat → Nat → Int64} {u0 : Option Value} {u1 : Option Value} : runI call iX11_expectThread (11, [u0, u1], [], (mm L X I J)) = some (.inl none, (mm L X I J)) := by
  exact ret3 dX11_expectThread_11 (.inl rfl)
theorem q_X11_can_0 {call : CALL} {L X : Nat} {I : Nat → Nat → Int32} {J : Nat → Nat → Int64} {x1 : Int32} : runI call iX11_can (0, [some (.ref 0), some (.int x1)], [], (mm L X I J)) = bnd (call nX11_expectPiece [.ref 0, .int x1] (mm L X I J)) (fun v m' => runI call iX11_can (5, [some (.ref 0), some (.int x1)], v.toList ++ [], m')) := by
  refine Eq.trans (st1 dX11_can_0 rfl rfl) ?_
  refine Eq.trans (st1 dX11_can_1 rfl rfl) ?_
  exact iv0 dX11_can_2 rfl cp_11_225 rfl rfl (kd_ka ka_0) ka_0.1 (Nat.le_of_ble_eq_true rfl)
theorem q_X11_can_5 {call : CALL} {L X : Nat} {I : Nat → Nat → Int32} {J : Nat → Nat → Int64} {x1 : Int32} : runI call iX11_can (5, [some (.ref 0), some (.int x1)], [], (mm L X I J)) = bnd (call nX3_wayOf [.ref 43, .int x1] (mm L X I J)) (fun v m' => runI call iX11_can (21, [some (.ref 0), some (.int x1)], v.toList ++ [.ref 3, .ref 43], m')) := by
  refine Eq.trans (st1 dX11_can_5 rfl rfl) ?_
  refine Eq.trans (getRm dX11_can_6 cp_11_56 ka_0 rfl r_0_8) ?_
  refine Eq.trans (st1 dX11_can_9 rfl rfl) ?_
  refine Eq.trans (getRm dX11_can_10 cp_11_19 ka_0 rfl r_0_1) ?_
  refine Eq.trans (st1 dX11_can_13 rfl rfl) ?_
  refine Eq.trans (getRm dX11_can_14 cp_11_56 ka_0 rfl r_0_8) ?_
  refine Eq.trans (st1 dX11_can_17 rfl rfl) ?_
  exact iv0 dX11_can_18 rfl cp_11_236 rfl rfl (kd_ka ka_43) ka_43.1 (Nat.le_of_ble_eq_true rfl)
theorem q_X11_can_21 {call : CALL} {L X : Nat} {I : Nat → Nat → Int32} {J : Nat → Nat → Int64} {u0 : Option Value} {u1 : Option Value} {s2 : Int32} : runI call iX11_can (21, [u0, u1], [.int s2, .ref 3, .ref 43], (mm L X I J)) = bnd (call nX3_canLay [.ref 43, .ref 3, .int s2] (mm L X I J)) (fun v m' => runI call iX11_can (24, [u0, u1], v.toList ++ [], m')) := by
  exact iv0 dX11_can_21 rfl cp_11_313 rfl rfl (kd_ka ka_43) ka_43.1 (Nat.le_of_ble_eq_true rfl)
theorem q_X11_can_24 {call : CALL} {L X : Nat} {I : Nat → Nat → Int32} {J : Nat → Nat → Int64} {u0 : Option Value} {u1 : Option Value} {s0 : Int32} : runI call iX11_can (24, [u0, u1], [.int s0], (mm L X I J)) = gd (b01 s0) (some (.inl (some (.int s0)), (mm L X I J))) := by
  exact ret1g dX11_can_24 rfl
theorem q_X11_ahead_0 {call : CALL} {L X : Nat} {I : Nat → Nat → Int32} {J : Nat → Nat → Int64} {x1 : Int32} : runI call iX11_ahead (0, [some (.ref 0), some (.int x1)], [], (mm L X I J)) = bndN (call nX11_within [.int x1, .int (nI 0), .int (nI 99)] (mm L X I J)) (fun v m' => runI call iX11_ahead (8, [some (.ref 0), some (.int x1)], v.toList ++ [.ref 0], m')) := by
  refine Eq.trans (st1 dX11_ahead_0 rfl rfl) ?_
  refine Eq.trans (st1 dX11_ahead_1 rfl rfl) ?_
  refine Eq.trans (xiconst dX11_ahead_2 ci_0) ?_
  refine Eq.trans (xbipush dX11_ahead_3 cb_99) ?_
  exact is2 dX11_ahead_5 cp_11_189 (Nat.le_of_ble_eq_true rfl) rfl rfl (Nat.le_of_ble_eq_true rfl)
theorem q_X11_ahead_8 {call : CALL} {L X : Nat} {I : Nat → Nat → Int32} {J : Nat → Nat → Int64} {x1 : Int32} {s1 : Int32} : runI call iX11_ahead (8, [some (.ref 0), some (.int x1)], [.int s1, .ref 0], (mm L X I J)) = bnd (call nX11_expect [.ref 0, .int s1] (mm L X I J)) (fun v m' => runI call iX11_ahead (11, [some (.ref 0), some (.int x1)], v.toList ++ [], m')) := by
  exact iv0 dX11_ahead_8 rfl cp_11_193 rfl rfl (kd_ka ka_0) ka_0.1 (Nat.le_of_ble_eq_true rfl)
theorem q_X11_ahead_11 {call : CALL} {L X : Nat} {I : Nat → Nat → Int32} {J : Nat → Nat → Int64} {x1 : Int32} : runI call iX11_ahead (11, [some (.ref 0), some (.int x1)], [], (mm L X I J)) = bnd (call nX10_outAfter [.ref 66, .ref 43, .int x1] (mm L X I J)) (fun v m' => runI call iX11_ahead (23, [some (.ref 0), some (.int x1)], v.toList ++ [], m')) := by
  refine Eq.trans (st1 dX11_ahead_11 rfl rfl) ?_
  refine Eq.trans (getRm dX11_ahead_12 cp_11_97 ka_0 rfl r_0_13) ?_
  refine Eq.trans (st1 dX11_ahead_15 rfl rfl) ?_
  refine Eq.trans (getRm dX11_ahead_16 cp_11_56 ka_0 rfl r_0_8) ?_
  refine Eq.trans (st1 dX11_ahead_19 rfl rfl) ?_
  exact iv0 dX11_ahead_20 rfl cp_11_317 rfl rfl (kd_ka ka_66) ka_66.1 (Nat.le_of_ble_eq_true rfl)
theorem q_X11_ahead_23 {call : CALL} {L X : Nat} {I : Nat → Nat → Int32} {J : Nat → Nat → Int64} {u0 : Option Value} {u1 : Option Value} {s0 : Int32} : runI call iX11_ahead (23, [u0, u1], [.int s0], (mm L X I J)) = some (.inl (some (.int s0)), (mm L X I J)) := by
  exact ret0 dX11_ahead_23 rfl
theorem q_X11_chain_0 {call : CALL} {L X : Nat} {I : Nat → Nat → Int32} {J : Nat → Nat → Int64} {x1 : Int32} : runI call iX11_chain (0, [some (.ref 0), some (.int x1)], [], (mm L X I J)) = bndN (call nX11_within [.int x1, .int (nI 0), .int (nI 1)] (mm L X I J)) (fun v m' => runI call iX11_chain (7, [some (.ref 0), some (.int x1)], v.toList ++ [.ref 0], m')) := by
  refine Eq.trans (st1 dX11_chain_0 rfl rfl) ?_
  refine Eq.trans (st1 dX11_chain_1 rfl rfl) ?_
  refine Eq.trans (xiconst dX11_chain_2 ci_0) ?_
  refine Eq.trans (xiconst dX11_chain_3 ci_1) ?_
  exact is2 dX11_chain_4 cp_11_189 (Nat.le_of_ble_eq_true rfl) rfl rfl (Nat.le_of_ble_eq_true rfl)
theorem q_X11_chain_7 {call : CALL} {L X : Nat} {I : Nat → Nat → Int32} {J : Nat → Nat → Int64} {x1 : Int32} {s1 : Int32} : runI call iX11_chain (7, [some (.ref 0), some (.int x1)], [.int s1, .ref 0], (mm L X I J)) = bnd (call nX11_expect [.ref 0, .int s1] (mm L X I J)) (fun v m' => runI call iX11_chain (10, [some (.ref 0), some (.int x1)], v.toList ++ [], m')) := by
  exact iv0 dX11_chain_7 rfl cp_11_193 rfl rfl (kd_ka ka_0) ka_0.1 (Nat.le_of_ble_eq_true rfl)
theorem q_X11_chain_10 {call : CALL} {L X : Nat} {I : Nat → Nat → Int32} {J : Nat → Nat → Int64} {x1 : Int32} : runI call iX11_chain (10, [some (.ref 0), some (.int x1)], [], (mm L X I J)) = bnd (call nX5_findChain [.ref 56] (mm L X I J)) (fun v m' => runI call iX11_chain (17, [some (.ref 0), some (.int x1)], v.toList ++ [], m')) := by
  refine Eq.trans (st1 dX11_chain_10 rfl rfl) ?_
  refine Eq.trans (getRm dX11_chain_11 cp_11_81 ka_0 rfl r_0_11) ?_
  exact iv0 dX11_chain_14 rfl cp_11_320 rfl rfl (kd_ka ka_56) ka_56.1 (Nat.le_of_ble_eq_true rfl)
theorem q_X11_chain_17 {call : CALL} {L X : Nat} {I : Nat → Nat → Int32} {J : Nat → Nat → Int64} {x1 : Int32} : runI call iX11_chain (17, [some (.ref 0), some (.int x1)], [], (mm L X I J)) = if x1 = (nI 0) then some (.inl (some (.int (I 56 7))), (mm L X I J)) else some (.inl (some (.int (I 56 6))), (mm L X I J)) := by
  refine Eq.trans (st1 dX11_chain_17 rfl rfl) ?_
  refine Eq.trans (if_ne (tgt := 31) dX11_chain_18 (by decide +kernel)) (ite_cong (fun _ => ?_) (fun _ => ?_))
  · refine Eq.trans (st1 dX11_chain_21 rfl rfl) ?_
    refine Eq.trans (getRm dX11_chain_22 cp_11_81 ka_0 rfl r_0_11) ?_
    refine Eq.trans (getIm dX11_chain_25 cp_11_323 ka_56 (.inl rfl)) ?_
    refine Eq.trans (go_to (tgt := 38) dX11_chain_28 (by decide +kernel)) ?_
    exact ret0 dX11_chain_38 rfl
  · refine Eq.trans (st1 dX11_chain_31 rfl rfl) ?_
    refine Eq.trans (getRm dX11_chain_32 cp_11_81 ka_0 rfl r_0_11) ?_
    refine Eq.trans (getIm dX11_chain_35 cp_11_326 ka_56 (.inl rfl)) ?_
    exact ret0 dX11_chain_38 rfl
theorem q_X11_chained_0 {call : CALL} {L X : Nat} {I : Nat → Nat → Int32} {J : Nat → Nat → Int64} {x1 : Int32} : runI call iX11_chained (0, [some (.ref 0), some (.int x1)], [], (mm L X I J)) = if x1 < (nI 0) then runI call iX11_chained (10, [some (.ref 0), some (.int x1)], [.int (nI 0), .ref 0], (mm L X I J)) else runI call iX11_chained (10, [some (.ref 0), some (.int x1)], [.int (nI 1), .ref 0], (mm L X I J)) := by
  refine Eq.trans (st1 dX11_chained_0 rfl rfl) ?_
  refine Eq.trans (st1 dX11_chained_1 rfl rfl) ?_
  refine Eq.trans (if_lt (tgt := 9) dX11_chained_2 (by decide +kernel)) (ite_cong (fun _ => ?_) (fun _ => ?_))
  · refine Eq.trans (xiconst dX11_chained_9 ci_0) ?_
    rfl
  · refine Eq.trans (xiconst dX11_chained_5 ci_1) ?_
    refine Eq.trans (go_to (tgt := 10) dX11_chained_6 (by decide +kernel)) ?_
    rfl
theorem q_X11_chained_10 {call : CALL} {L X : Nat} {I : Nat → Nat → Int32} {J : Nat → Nat → Int64} {x1 : Int32} {s1 : Int32} : runI call iX11_chained (10, [some (.ref 0), some (.int x1)], [.int s1, .ref 0], (mm L X I J)) = bnd (call nX11_expect [.ref 0, .int s1] (mm L X I J)) (fun v m' => runI call iX11_chained (13, [some (.ref 0), some (.int x1)], v.toList ++ [], m')) := by
  exact iv0 dX11_chained_10 rfl cp_11_193 rfl rfl (kd_ka ka_0) ka_0.1 (Nat.le_of_ble_eq_true rfl)
theorem q_X11_chained_13 {call : CALL} {L X : Nat} {I : Nat → Nat → Int32} {J : Nat → Nat → Int64} {x1 : Int32} : runI call iX11_chained (13, [some (.ref 0), some (.int x1)], [], (mm L X I J)) = bnd (call nX5_findChain [.ref 56] (mm L X I J)) (fun v m' => runI call iX11_chained (20, [some (.ref 0), some (.int x1)], v.toList ++ [], m')) := by
  refine Eq.trans (st1 dX11_chained_13 rfl rfl) ?_
  refine Eq.trans (getRm dX11_chained_14 cp_11_81 ka_0 rfl r_0_11) ?_
  exact iv0 dX11_chained_17 rfl cp_11_320 rfl rfl (kd_ka ka_56) ka_56.1 (Nat.le_of_ble_eq_true rfl)
theorem q_X11_chained_20 {call : CALL} {L X : Nat} {I : Nat → Nat → Int32} {J : Nat → Nat → Int64} {x1 : Int32} : runI call iX11_chained (20, [some (.ref 0), some (.int x1)], [], (mm L X I J)) = if (I 56 6) ≤ x1 then some (.inl (some (.int (-1 : Int32))), (mm L X I J)) else bndN (call nX11_pick [.ref 59, .int x1] (mm L X I J)) (fun v m' => runI call iX11_chained (42, [some (.ref 0), some (.int x1)], v.toList ++ [], m')) := by
  refine Eq.trans (st1 dX11_chained_20 rfl rfl) ?_
  refine Eq.trans (st1 dX11_chained_21 rfl rfl) ?_
  refine Eq.trans (getRm dX11_chained_22 cp_11_81 ka_0 rfl r_0_11) ?_
  refine Eq.trans (getIm dX11_chained_25 cp_11_326 ka_56 (.inl rfl)) ?_
  refine Eq.trans (ic_ge (tgt := 45) dX11_chained_28 (by decide +kernel)) (ite_cong (fun _ => ?_) (fun _ => ?_))
  · refine Eq.trans (xiconst dX11_chained_45 ci_m1) ?_
    exact ret0 dX11_chained_46 rfl
  · refine Eq.trans (st1 dX11_chained_31 rfl rfl) ?_
    refine Eq.trans (getRm dX11_chained_32 cp_11_81 ka_0 rfl r_0_11) ?_
    refine Eq.trans (getRm dX11_chained_35 cp_11_329 ka_56 rfl r_56_5) ?_
    refine Eq.trans (st1 dX11_chained_38 rfl rfl) ?_
    exact is2 dX11_chained_39 cp_11_232 (Nat.le_of_ble_eq_true rfl) rfl rfl (Nat.le_of_ble_eq_true rfl)
theorem q_X11_chained_42 {call : CALL} {L X : Nat} {I : Nat → Nat → Int32} {J : Nat → Nat → Int64} {u0 : Option Value} {u1 : Option Value} {s0 : Int32} : runI call iX11_chained (42, [u0, u1], [.int s0], (mm L X I J)) = some (.inl (some (.int s0)), (mm L X I J)) := by
  refine Eq.trans (go_to (tgt := 46) dX11_chained_42 (by decide +kernel)) ?_
  exact ret0 dX11_chained_46 rfl
theorem q_X11_brief_0 {call : CALL} {L X : Nat} {I : Nat → Nat → Int32} {J : Nat → Nat → Int64} {x1 : Int32} : runI call iX11_brief (0, [some (.ref 0), some (.int x1)], [], (mm L X I J)) = bnd (call nX11_expectFire [.ref 0, .int x1] (mm L X I J)) (fun v m' => runI call iX11_brief (5, [some (.ref 0), some (.int x1)], v.toList ++ [], m')) := by
  refine Eq.trans (st1 dX11_brief_0 rfl rfl) ?_
  refine Eq.trans (st1 dX11_brief_1 rfl rfl) ?_
  exact iv0 dX11_brief_2 rfl cp_11_274 rfl rfl (kd_ka ka_0) ka_0.1 (Nat.le_of_ble_eq_true rfl)
theorem q_X11_brief_5 {call : CALL} {L X : Nat} {I : Nat → Nat → Int32} {J : Nat → Nat → Int64} {x1 : Int32} : runI call iX11_brief (5, [some (.ref 0), some (.int x1)], [], (mm L X I J)) = bnd (call nX5_findShort [.ref 56, .ref 43, .int x1] (mm L X I J)) (fun v m' => runI call iX11_brief (17, [some (.ref 0), some (.int x1)], v.toList ++ [], m')) := by
  refine Eq.trans (st1 dX11_brief_5 rfl rfl) ?_
  refine Eq.trans (getRm dX11_brief_6 cp_11_81 ka_0 rfl r_0_11) ?_
  refine Eq.trans (st1 dX11_brief_9 rfl rfl) ?_
  refine Eq.trans (getRm dX11_brief_10 cp_11_56 ka_0 rfl r_0_8) ?_
  refine Eq.trans (st1 dX11_brief_13 rfl rfl) ?_
  exact iv0 dX11_brief_14 rfl cp_11_332 rfl rfl (kd_ka ka_56) ka_56.1 (Nat.le_of_ble_eq_true rfl)
theorem q_X11_brief_17 {call : CALL} {L X : Nat} {I : Nat → Nat → Int32} {J : Nat → Nat → Int64} {u1 : Option Value} : runI call iX11_brief (17, [some (.ref 0), u1], [], (mm L X I J)) = some (.inl (some (.int (I 56 13))), (mm L X I J)) := by
  refine Eq.trans (st1 dX11_brief_17 rfl rfl) ?_
  refine Eq.trans (getRm dX11_brief_18 cp_11_81 ka_0 rfl r_0_11) ?_
  refine Eq.trans (getIm dX11_brief_21 cp_11_336 ka_56 (.inl rfl)) ?_
  exact ret0 dX11_brief_24 rfl
theorem q_X11_briefly_0 {call : CALL} {L X : Nat} {I : Nat → Nat → Int32} {J : Nat → Nat → Int64} {x1 : Int32} {x2 : Int32} : runI call iX11_briefly (0, [some (.ref 0), some (.int x1), some (.int x2)], [], (mm L X I J)) = bnd (call nX11_expectFire [.ref 0, .int x1] (mm L X I J)) (fun v m' => runI call iX11_briefly (5, [some (.ref 0), some (.int x1), some (.int x2)], v.toList ++ [], m')) := by
  refine Eq.trans (st1 dX11_briefly_0 rfl rfl) ?_
  refine Eq.trans (st1 dX11_briefly_1 rfl rfl) ?_
  exact iv0 dX11_briefly_2 rfl cp_11_274 rfl rfl (kd_ka ka_0) ka_0.1 (Nat.le_of_ble_eq_true rfl)
theorem q_X11_briefly_5 {call : CALL} {L X : Nat} {I : Nat → Nat → Int32} {J : Nat → Nat → Int64} {x1 : Int32} {x2 : Int32} : runI call iX11_briefly (5, [some (.ref 0), some (.int x1), some (.int x2)], [], (mm L X I J)) = if x2 < (nI 0) then runI call iX11_briefly (15, [some (.ref 0), some (.int x1), some (.int x2)], [.int (nI 0), .ref 0], (mm L X I J)) else runI call iX11_briefly (15, [some (.ref 0), some (.int x1), some (.int x2)], [.int (nI 1), .ref 0], (mm L X I J)) := by
  refine Eq.trans (st1 dX11_briefly_5 rfl rfl) ?_
  refine Eq.trans (st1 dX11_briefly_6 rfl rfl) ?_
  refine Eq.trans (if_lt (tgt := 14) dX11_briefly_7 (by decide +kernel)) (ite_cong (fun _ => ?_) (fun _ => ?_))
  · refine Eq.trans (xiconst dX11_briefly_14 ci_0) ?_
    rfl
  · refine Eq.trans (xiconst dX11_briefly_10 ci_1) ?_
    refine Eq.trans (go_to (tgt := 15) dX11_briefly_11 (by decide +kernel)) ?_
    rfl
theorem q_X11_briefly_15 {call : CALL} {L X : Nat} {I : Nat → Nat → Int32} {J : Nat → Nat → Int64} {x1 : Int32} {x2 : Int32} {s1 : Int32} : runI call iX11_briefly (15, [some (.ref 0), some (.int x1), some (.int x2)], [.int s1, .ref 0], (mm L X I J)) = bnd (call nX11_expect [.ref 0, .int s1] (mm L X I J)) (fun v m' => runI call iX11_briefly (18, [some (.ref 0), some (.int x1), some (.int x2)], v.toList ++ [], m')) := by
  exact iv0 dX11_briefly_15 rfl cp_11_193 rfl rfl (kd_ka ka_0) ka_0.1 (Nat.le_of_ble_eq_true rfl)
theorem q_X11_briefly_18 {call : CALL} {L X : Nat} {I : Nat → Nat → Int32} {J : Nat → Nat → Int64} {x1 : Int32} {x2 : Int32} : runI call iX11_briefly (18, [some (.ref 0), some (.int x1), some (.int x2)], [], (mm L X I J)) = bnd (call nX5_findShort [.ref 56, .ref 43, .int x1] (mm L X I J)) (fun v m' => runI call iX11_briefly (30, [some (.ref 0), some (.int x1), some (.int x2)], v.toList ++ [], m')) := by
  refine Eq.trans (st1 dX11_briefly_18 rfl rfl) ?_
  refine Eq.trans (getRm dX11_briefly_19 cp_11_81 ka_0 rfl r_0_11) ?_
  refine Eq.trans (st1 dX11_briefly_22 rfl rfl) ?_
  refine Eq.trans (getRm dX11_briefly_23 cp_11_56 ka_0 rfl r_0_8) ?_
  refine Eq.trans (st1 dX11_briefly_26 rfl rfl) ?_
  exact iv0 dX11_briefly_27 rfl cp_11_332 rfl rfl (kd_ka ka_56) ka_56.1 (Nat.le_of_ble_eq_true rfl)
theorem q_X11_briefly_30 {call : CALL} {L X : Nat} {I : Nat → Nat → Int32} {J : Nat → Nat → Int64} {u1 : Option Value} {x2 : Int32} : runI call iX11_briefly (30, [some (.ref 0), u1, some (.int x2)], [], (mm L X I J)) = if (I 56 13) ≤ x2 then some (.inl (some (.int (-1 : Int32))), (mm L X I J)) else bndN (call nX11_pick [.ref 60, .int x2] (mm L X I J)) (fun v m' => runI call iX11_briefly (52, [some (.ref 0), u1, some (.int x2)], v.toList ++ [], m')) := by
  refine Eq.trans (st1 dX11_briefly_30 rfl rfl) ?_
  refine Eq.trans (st1 dX11_briefly_31 rfl rfl) ?_
  refine Eq.trans (getRm dX11_briefly_32 cp_11_81 ka_0 rfl r_0_11) ?_
  refine Eq.trans (getIm dX11_briefly_35 cp_11_336 ka_56 (.inl rfl)) ?_
  refine Eq.trans (ic_ge (tgt := 55) dX11_briefly_38 (by decide +kernel)) (ite_cong (fun _ => ?_) (fun _ => ?_))
  · refine Eq.trans (xiconst dX11_briefly_55 ci_m1) ?_
    exact ret0 dX11_briefly_56 rfl
  · refine Eq.trans (st1 dX11_briefly_41 rfl rfl) ?_
    refine Eq.trans (getRm dX11_briefly_42 cp_11_81 ka_0 rfl r_0_11) ?_
    refine Eq.trans (getRm dX11_briefly_45 cp_11_339 ka_56 rfl r_56_12) ?_
    refine Eq.trans (st1 dX11_briefly_48 rfl rfl) ?_
    exact is2 dX11_briefly_49 cp_11_232 (Nat.le_of_ble_eq_true rfl) rfl rfl (Nat.le_of_ble_eq_true rfl)
theorem q_X11_briefly_52 {call : CALL} {L X : Nat} {I : Nat → Nat → Int32} {J : Nat → Nat → Int64} {u0 : Option Value} {u1 : Option Value} {u2 : Option Value} {s0 : Int32} : runI call iX11_briefly (52, [u0, u1, u2], [.int s0], (mm L X I J)) = some (.inl (some (.int s0)), (mm L X I J)) := by
  refine Eq.trans (go_to (tgt := 56) dX11_briefly_52 (by decide +kernel)) ?_
  exact ret0 dX11_briefly_56 rfl
theorem q_X11_joiner_0 {call : CALL} {L X : Nat} {I : Nat → Nat → Int32} {J : Nat → Nat → Int64} {x1 : Int32} : runI call iX11_joiner (0, [some (.ref 0), some (.int x1)], [], (mm L X I J)) = bndN (call nX11_within [.int x1, .int (nI 0), .int (nI 1)] (mm L X I J)) (fun v m' => runI call iX11_joiner (7, [some (.ref 0), some (.int x1)], v.toList ++ [.ref 0], m')) := by
  refine Eq.trans (st1 dX11_joiner_0 rfl rfl) ?_
  refine Eq.trans (st1 dX11_joiner_1 rfl rfl) ?_
  refine Eq.trans (xiconst dX11_joiner_2 ci_0) ?_
  refine Eq.trans (xiconst dX11_joiner_3 ci_1) ?_
  exact is2 dX11_joiner_4 cp_11_189 (Nat.le_of_ble_eq_true rfl) rfl rfl (Nat.le_of_ble_eq_true rfl)
theorem q_X11_joiner_7 {call : CALL} {L X : Nat} {I : Nat → Nat → Int32} {J : Nat → Nat → Int64} {x1 : Int32} {s1 : Int32} : runI call iX11_joiner (7, [some (.ref 0), some (.int x1)], [.int s1, .ref 0], (mm L X I J)) = bnd (call nX11_expect [.ref 0, .int s1] (mm L X I J)) (fun v m' => runI call iX11_joiner (10, [some (.ref 0), some (.int x1)], v.toList ++ [], m')) := by
  exact iv0 dX11_joiner_7 rfl cp_11_193 rfl rfl (kd_ka ka_0) ka_0.1 (Nat.le_of_ble_eq_true rfl)
theorem q_X11_joiner_10 {call : CALL} {L X : Nat} {I : Nat → Nat → Int32} {J : Nat → Nat → Int64} {x1 : Int32} : runI call iX11_joiner (10, [some (.ref 0), some (.int x1)], [], (mm L X I J)) = bnd (call nX5_findCollar [.ref 56] (mm L X I J)) (fun v m' => runI call iX11_joiner (17, [some (.ref 0), some (.int x1)], v.toList ++ [], m')) := by
  refine Eq.trans (st1 dX11_joiner_10 rfl rfl) ?_
  refine Eq.trans (getRm dX11_joiner_11 cp_11_81 ka_0 rfl r_0_11) ?_
  exact iv0 dX11_joiner_14 rfl cp_11_342 rfl rfl (kd_ka ka_56) ka_56.1 (Nat.le_of_ble_eq_true rfl)
theorem q_X11_joiner_17 {call : CALL} {L X : Nat} {I : Nat → Nat → Int32} {J : Nat → Nat → Int64} {x1 : Int32} : runI call iX11_joiner (17, [some (.ref 0), some (.int x1)], [], (mm L X I J)) = if x1 = (nI 0) then some (.inl (some (.int (I 56 9))), (mm L X I J)) else some (.inl (some (.int (I 56 10))), (mm L X I J)) := by
  refine Eq.trans (st1 dX11_joiner_17 rfl rfl) ?_
  refine Eq.trans (if_ne (tgt := 31) dX11_joiner_18 (by decide +kernel)) (ite_cong (fun _ => ?_) (fun _ => ?_))
  · refine Eq.trans (st1 dX11_joiner_21 rfl rfl) ?_
    refine Eq.trans (getRm dX11_joiner_22 cp_11_81 ka_0 rfl r_0_11) ?_
    refine Eq.trans (getIm dX11_joiner_25 cp_11_345 ka_56 (.inl rfl)) ?_
    refine Eq.trans (go_to (tgt := 38) dX11_joiner_28 (by decide +kernel)) ?_
    exact ret0 dX11_joiner_38 rfl
  · refine Eq.trans (st1 dX11_joiner_31 rfl rfl) ?_
    refine Eq.trans (getRm dX11_joiner_32 cp_11_81 ka_0 rfl r_0_11) ?_
    refine Eq.trans (getIm dX11_joiner_35 cp_11_348 ka_56 (.inl rfl)) ?_
    exact ret0 dX11_joiner_38 rfl
theorem q_X11_leaks_0 {call : CALL} {L X : Nat} {I : Nat → Nat → Int32} {J : Nat → Nat → Int64} {x1 : Int32} : runI call iX11_leaks (0, [some (.ref 0), some (.int x1)], [], (mm L X I J)) = bndN (call nX11_within [.int x1, .int (nI 0), .int (nI 1)] (mm L X I J)) (fun v m' => runI call iX11_leaks (7, [some (.ref 0), some (.int x1)], v.toList ++ [.ref 0], m')) := by
  refine Eq.trans (st1 dX11_leaks_0 rfl rfl) ?_
  refine Eq.trans (st1 dX11_leaks_1 rfl rfl) ?_
  refine Eq.trans (xiconst dX11_leaks_2 ci_0) ?_
  refine Eq.trans (xiconst dX11_leaks_3 ci_1) ?_
  exact is2 dX11_leaks_4 cp_11_189 (Nat.le_of_ble_eq_true rfl) rfl rfl (Nat.le_of_ble_eq_true rfl)
theorem q_X11_leaks_7 {call : CALL} {L X : Nat} {I : Nat → Nat → Int32} {J : Nat → Nat → Int64} {x1 : Int32} {s1 : Int32} : runI call iX11_leaks (7, [some (.ref 0), some (.int x1)], [.int s1, .ref 0], (mm L X I J)) = bnd (call nX11_expect [.ref 0, .int s1] (mm L X I J)) (fun v m' => runI call iX11_leaks (10, [some (.ref 0), some (.int x1)], v.toList ++ [], m')) := by
  exact iv0 dX11_leaks_7 rfl cp_11_193 rfl rfl (kd_ka ka_0) ka_0.1 (Nat.le_of_ble_eq_true rfl)
theorem q_X11_leaks_10 {call : CALL} {L X : Nat} {I : Nat → Nat → Int32} {J : Nat → Nat → Int64} {x1 : Int32} : runI call iX11_leaks (10, [some (.ref 0), some (.int x1)], [], (mm L X I J)) = bnd (call nX0_findLeaks [.ref 31, .ref 43, .ref 52] (mm L X I J)) (fun v m' => runI call iX11_leaks (25, [some (.ref 0), some (.int x1)], v.toList ++ [], m')) := by
  refine Eq.trans (st1 dX11_leaks_10 rfl rfl) ?_
  refine Eq.trans (getRm dX11_leaks_11 cp_11_39 ka_0 rfl r_0_5) ?_
  refine Eq.trans (st1 dX11_leaks_14 rfl rfl) ?_
  refine Eq.trans (getRm dX11_leaks_15 cp_11_56 ka_0 rfl r_0_8) ?_
  refine Eq.trans (st1 dX11_leaks_18 rfl rfl) ?_
  refine Eq.trans (getRm dX11_leaks_19 cp_11_72 ka_0 rfl r_0_10) ?_
  exact iv0 dX11_leaks_22 rfl cp_11_351 rfl rfl (kd_ka ka_31) ka_31.1 (Nat.le_of_ble_eq_true rfl)
theorem q_X11_leaks_25 {call : CALL} {L X : Nat} {I : Nat → Nat → Int32} {J : Nat → Nat → Int64} {x1 : Int32} : runI call iX11_leaks (25, [some (.ref 0), some (.int x1)], [], (mm L X I J)) = if x1 = (nI 0) then some (.inl (some (.int (I 31 3))), (mm L X I J)) else some (.inl (some (.int (I 31 4))), (mm L X I J)) := by
  refine Eq.trans (st1 dX11_leaks_25 rfl rfl) ?_
  refine Eq.trans (if_ne (tgt := 39) dX11_leaks_26 (by decide +kernel)) (ite_cong (fun _ => ?_) (fun _ => ?_))
  · refine Eq.trans (st1 dX11_leaks_29 rfl rfl) ?_
    refine Eq.trans (getRm dX11_leaks_30 cp_11_39 ka_0 rfl r_0_5) ?_
    refine Eq.trans (getIm dX11_leaks_33 cp_11_355 ka_31 (.inl rfl)) ?_
    refine Eq.trans (go_to (tgt := 46) dX11_leaks_36 (by decide +kernel)) ?_
    exact ret0 dX11_leaks_46 rfl
  · refine Eq.trans (st1 dX11_leaks_39 rfl rfl) ?_
    refine Eq.trans (getRm dX11_leaks_40 cp_11_39 ka_0 rfl r_0_5) ?_
    refine Eq.trans (getIm dX11_leaks_43 cp_11_358 ka_31 (.inl rfl)) ?_
    exact ret0 dX11_leaks_46 rfl
theorem q_X11_look_0 {call : CALL} {L X : Nat} {I : Nat → Nat → Int32} {J : Nat → Nat → Int64} {x1 : Int32} : runI call iX11_look (0, [some (.ref 0), some (.int x1)], [], (mm L X I J)) = bndN (call nX11_within [.int x1, .int (nI 0), .int (nI 1)] (mm L X I J)) (fun v m' => runI call iX11_look (7, [some (.ref 0), some (.int x1)], v.toList ++ [.ref 0], m')) := by
  refine Eq.trans (st1 dX11_look_0 rfl rfl) ?_
  refine Eq.trans (st1 dX11_look_1 rfl rfl) ?_
  refine Eq.trans (xiconst dX11_look_2 ci_0) ?_
  refine Eq.trans (xiconst dX11_look_3 ci_1) ?_
  exact is2 dX11_look_4 cp_11_189 (Nat.le_of_ble_eq_true rfl) rfl rfl (Nat.le_of_ble_eq_true rfl)
theorem q_X11_look_7 {call : CALL} {L X : Nat} {I : Nat → Nat → Int32} {J : Nat → Nat → Int64} {x1 : Int32} {s1 : Int32} : runI call iX11_look (7, [some (.ref 0), some (.int x1)], [.int s1, .ref 0], (mm L X I J)) = bnd (call nX11_expect [.ref 0, .int s1] (mm L X I J)) (fun v m' => runI call iX11_look (10, [some (.ref 0), some (.int x1)], v.toList ++ [], m')) := by
  exact iv0 dX11_look_7 rfl cp_11_193 rfl rfl (kd_ka ka_0) ka_0.1 (Nat.le_of_ble_eq_true rfl)
theorem q_X11_look_10 {call : CALL} {L X : Nat} {I : Nat → Nat → Int32} {J : Nat → Nat → Int64} {x1 : Int32} : runI call iX11_look (10, [some (.ref 0), some (.int x1)], [], (mm L X I J)) = bnd (call nX0_findLook [.ref 31, .ref 43, .ref 52] (mm L X I J)) (fun v m' => runI call iX11_look (25, [some (.ref 0), some (.int x1)], v.toList ++ [], m')) := by
  refine Eq.trans (st1 dX11_look_10 rfl rfl) ?_
  refine Eq.trans (getRm dX11_look_11 cp_11_39 ka_0 rfl r_0_5) ?_
  refine Eq.trans (st1 dX11_look_14 rfl rfl) ?_
  refine Eq.trans (getRm dX11_look_15 cp_11_56 ka_0 rfl r_0_8) ?_
  refine Eq.trans (st1 dX11_look_18 rfl rfl) ?_
  refine Eq.trans (getRm dX11_look_19 cp_11_72 ka_0 rfl r_0_10) ?_
  exact iv0 dX11_look_22 rfl cp_11_361 rfl rfl (kd_ka ka_31) ka_31.1 (Nat.le_of_ble_eq_true rfl)
theorem q_X11_look_25 {call : CALL} {L X : Nat} {I : Nat → Nat → Int32} {J : Nat → Nat → Int64} {x1 : Int32} : runI call iX11_look (25, [some (.ref 0), some (.int x1)], [], (mm L X I J)) = if x1 = (nI 0) then some (.inl (some (.int (I 31 5))), (mm L X I J)) else some (.inl (some (.int (I 31 6))), (mm L X I J)) := by
  refine Eq.trans (st1 dX11_look_25 rfl rfl) ?_
  refine Eq.trans (if_ne (tgt := 39) dX11_look_26 (by decide +kernel)) (ite_cong (fun _ => ?_) (fun _ => ?_))
  · refine Eq.trans (st1 dX11_look_29 rfl rfl) ?_
    refine Eq.trans (getRm dX11_look_30 cp_11_39 ka_0 rfl r_0_5) ?_
    refine Eq.trans (getIm dX11_look_33 cp_11_364 ka_31 (.inl rfl)) ?_
    refine Eq.trans (go_to (tgt := 46) dX11_look_36 (by decide +kernel)) ?_
    exact ret0 dX11_look_46 rfl
  · refine Eq.trans (st1 dX11_look_39 rfl rfl) ?_
    refine Eq.trans (getRm dX11_look_40 cp_11_39 ka_0 rfl r_0_5) ?_
    refine Eq.trans (getIm dX11_look_43 cp_11_367 ka_31 (.inl rfl)) ?_
    exact ret0 dX11_look_46 rfl
theorem q_X11_sure_0 {call : CALL} {L X : Nat} {I : Nat → Nat → Int32} {J : Nat → Nat → Int64} {x1 : Int32} {x2 : Int32} {x3 : Int32} : runI call iX11_sure (0, [some (.ref 0), some (.int x1), some (.int x2), some (.int x3), none, none, none, none, none], [], (mm L X I J)) = bnd (call nX11_expectFire [.ref 0, .int x1] (mm L X I J)) (fun v m' => runI call iX11_sure (5, [some (.ref 0), some (.int x1), some (.int x2), some (.int x3), none, none, none, none, none], v.toList ++ [], m')) := by
  refine Eq.trans (st1 dX11_sure_0 rfl rfl) ?_
  refine Eq.trans (st1 dX11_sure_1 rfl rfl) ?_
  exact iv0 dX11_sure_2 rfl cp_11_274 rfl rfl (kd_ka ka_0) ka_0.1 (Nat.le_of_ble_eq_true rfl)
theorem q_X11_sure_5 {call : CALL} {L X : Nat} {I : Nat → Nat → Int32} {J : Nat → Nat → Int64} {x1 : Int32} {x2 : Int32} {x3 : Int32} {u4 : Option Value} {u5 : Option Value} {u6 : Option Value} {u7 : Option Value} {u8 : Option Value} : runI call iX11_sure (5, [some (.ref 0), some (.int x1), some (.int x2), some (.int x3), u4, u5, u6, u7, u8], [], (mm L X I J)) = bndN (call nX11_within [.int x2, .int (nI 0), .int (nI 16)] (mm L X I J)) (fun v m' => runI call iX11_sure (13, [some (.ref 0), some (.int x1), some (.int x2), some (.int x3), u4, u5, u6, u7, u8], v.toList ++ [.ref 0], m')) := by
  refine Eq.trans (st1 dX11_sure_5 rfl rfl) ?_
  refine Eq.trans (st1 dX11_sure_6 rfl rfl) ?_
  refine Eq.trans (xiconst dX11_sure_7 ci_0) ?_
  refine Eq.trans (xbipush dX11_sure_8 cb_16) ?_
  exact is2 dX11_sure_10 cp_11_189 (Nat.le_of_ble_eq_true rfl) rfl rfl (Nat.le_of_ble_eq_true rfl)
theorem q_X11_sure_13 {call : CALL} {L X : Nat} {I : Nat → Nat → Int32} {J : Nat → Nat → Int64} {x1 : Int32} {x2 : Int32} {x3 : Int32} {u4 : Option Value} {u5 : Option Value} {u6 : Option Value} {u7 : Option Value} {u8 : Option Value} {s1 : Int32} : runI call iX11_sure (13, [some (.ref 0), some (.int x1), some (.int x2), some (.int x3), u4, u5, u6, u7, u8], [.int s1, .ref 0], (mm L X I J)) = if s1 = (nI 0) then runI call iX11_sure (29, [some (.ref 0), some (.int x1), some (.int x2), some (.int x3), u4, u5, u6, u7, u8], [.ref 0], (mm L X I J)) else bndN (call nX11_within [.int x3, .int (nI 0), .int (nI 1)] (mm L X I J)) (fun v m' => runI call iX11_sure (22, [some (.ref 0), some (.int x1), some (.int x2), some (.int x3), u4, u5, u6, u7, u8], v.toList ++ [.ref 0], m')) := by
  refine Eq.trans (if_eq (tgt := 29) dX11_sure_13 (by decide +kernel)) (ite_cong (fun _ => ?_) (fun _ => ?_))
  · rfl
  · refine Eq.trans (st1 dX11_sure_16 rfl rfl) ?_
    refine Eq.trans (xiconst dX11_sure_17 ci_0) ?_
    refine Eq.trans (xiconst dX11_sure_18 ci_1) ?_
    exact is2 dX11_sure_19 cp_11_189 (Nat.le_of_ble_eq_true rfl) rfl rfl (Nat.le_of_ble_eq_true rfl)
theorem q_X11_sure_29 {call : CALL} {L X : Nat} {I : Nat → Nat → Int32} {J : Nat → Nat → Int64} {x1 : Int32} {x2 : Int32} {x3 : Int32} {u4 : Option Value} {u5 : Option Value} {u6 : Option Value} {u7 : Option Value} {u8 : Option Value} : runI call iX11_sure (29, [some (.ref 0), some (.int x1), some (.int x2), some (.int x3), u4, u5, u6, u7, u8], [.ref 0], (mm L X I J)) = runI call iX11_sure (30, [some (.ref 0), some (.int x1), some (.int x2), some (.int x3), u4, u5, u6, u7, u8], [.int (nI 0), .ref 0], (mm L X I J)) := by
  refine Eq.trans (xiconst dX11_sure_29 ci_0) ?_
  rfl
theorem q_X11_sure_22 {call : CALL} {L X : Nat} {I : Nat → Nat → Int32} {J : Nat → Nat → Int64} {x1 : Int32} {x2 : Int32} {x3 : Int32} {u4 : Option Value} {u5 : Option Value} {u6 : Option Value} {u7 : Option Value} {u8 : Option Value} {s1 : Int32} : runI call iX11_sure (22, [some (.ref 0), some (.int x1), some (.int x2), some (.int x3), u4, u5, u6, u7, u8], [.int s1, .ref 0], (mm L X I J)) = if s1 = (nI 0) then runI call iX11_sure (29, [some (.ref 0), some (.int x1), some (.int x2), some (.int x3), u4, u5, u6, u7, u8], [.ref 0], (mm L X I J)) else runI call iX11_sure (30, [some (.ref 0), some (.int x1), some (.int x2), some (.int x3), u4, u5, u6, u7, u8], [.int (nI 1), .ref 0], (mm L X I J)) := by
  refine Eq.trans (if_eq (tgt := 29) dX11_sure_22 (by decide +kernel)) (ite_cong (fun _ => ?_) (fun _ => ?_))
  · rfl
  · refine Eq.trans (xiconst dX11_sure_25 ci_1) ?_
    refine Eq.trans (go_to (tgt := 30) dX11_sure_26 (by decide +kernel)) ?_
    rfl
theorem q_X11_sure_30 {call : CALL} {L X : Nat} {I : Nat → Nat → Int32} {J : Nat → Nat → Int64} {x1 : Int32} {x2 : Int32} {x3 : Int32} {u4 : Option Value} {u5 : Option Value} {u6 : Option Value} {u7 : Option Value} {u8 : Option Value} {s1 : Int32} : runI call iX11_sure (30, [some (.ref 0), some (.int x1), some (.int x2), some (.int x3), u4, u5, u6, u7, u8], [.int s1, .ref 0], (mm L X I J)) = bnd (call nX11_expect [.ref 0, .int s1] (mm L X I J)) (fun v m' => runI call iX11_sure (33, [some (.ref 0), some (.int x1), some (.int x2), some (.int x3), u4, u5, u6, u7, u8], v.toList ++ [], m')) := by
  exact iv0 dX11_sure_30 rfl cp_11_193 rfl rfl (kd_ka ka_0) ka_0.1 (Nat.le_of_ble_eq_true rfl)
theorem q_X11_sure_33 {call : CALL} {L X : Nat} {I : Nat → Nat → Int32} {J : Nat → Nat → Int64} {x1 : Int32} {x2 : Int32} {x3 : Int32} {u4 : Option Value} {u5 : Option Value} {u6 : Option Value} {u7 : Option Value} {u8 : Option Value} : runI call iX11_sure (33, [some (.ref 0), some (.int x1), some (.int x2), some (.int x3), u4, u5, u6, u7, u8], [], (mm L X I J)) = bnd (call nX8_chanceOf [.ref 52, .ref 43, .int x1, .int x2] (mm L X I J)) (fun v m' => runI call iX11_sure (46, [some (.ref 0), some (.int x1), some (.int x2), some (.int x3), u4, u5, u6, u7, u8], v.toList ++ [], m')) := by
  refine Eq.trans (st1 dX11_sure_33 rfl rfl) ?_
  refine Eq.trans (getRm dX11_sure_34 cp_11_72 ka_0 rfl r_0_10) ?_
  refine Eq.trans (st1 dX11_sure_37 rfl rfl) ?_
  refine Eq.trans (getRm dX11_sure_38 cp_11_56 ka_0 rfl r_0_8) ?_
  refine Eq.trans (st1 dX11_sure_41 rfl rfl) ?_
  refine Eq.trans (st1 dX11_sure_42 rfl rfl) ?_
  exact iv0 dX11_sure_43 rfl cp_11_373 rfl rfl (kd_ka ka_52) ka_52.1 (Nat.le_of_ble_eq_true rfl)
theorem q_X11_sure_46 {call : CALL} {L X : Nat} {I : Nat → Nat → Int32} {J : Nat → Nat → Int64} {u1 : Option Value} {u2 : Option Value} {x3 : Int32} {u4 : Option Value} {u5 : Option Value} {u6 : Option Value} {u7 : Option Value} {u8 : Option Value} {z0 : Int64} : runI call iX11_sure (46, [some (.ref 0), u1, u2, some (.int x3), u4, u5, u6, u7, u8], [.long z0], (mm L X I J)) = runI call iX11_sure (64, [some (.ref 0), u1, u2, some (.int x3), some (.long z0), none, some (.long ((lN 1) <<< ((((nI 4) * (I 43 5))).toInt64 &&& 63))), none, some (.int (nI 0))], [], (mm L X I J)) := by
  refine Eq.trans (st1 dX11_sure_46 rfl rfl) ?_
  refine Eq.trans (st1 dX11_sure_48 rfl rfl) ?_
  refine Eq.trans (xiconst dX11_sure_49 ci_4) ?_
  refine Eq.trans (st1 dX11_sure_50 rfl rfl) ?_
  refine Eq.trans (getRm dX11_sure_51 cp_11_56 ka_0 rfl r_0_8) ?_
  refine Eq.trans (getIm dX11_sure_54 cp_11_206 ka_43 (.inl rfl)) ?_
  refine Eq.trans (st1 dX11_sure_57 rfl rfl) ?_
  refine Eq.trans (st1 dX11_sure_58 rfl rfl) ?_
  refine Eq.trans (st1 dX11_sure_59 rfl rfl) ?_
  refine Eq.trans (xiconst dX11_sure_61 ci_0) ?_
  refine Eq.trans (st1 dX11_sure_62 rfl rfl) ?_
  rfl
theorem q_X11_sure_64 {call : CALL} {L X : Nat} {I : Nat → Nat → Int32} {J : Nat → Nat → Int64} {u0 : Option Value} {u1 : Option Value} {u2 : Option Value} {x3 : Int32} {y4 : Int64} {y6 : Int64} {x8 : Int32} : runI call iX11_sure (64, [u0, u1, u2, some (.int x3), some (.long y4), none, some (.long y6), none, some (.int x8)], [], (mm L X I J)) = if (nI 24) ≤ x8 then runI call iX11_sure (105, [u0, u1, u2, some (.int x3), some (.long y4), none, some (.long y6), none, some (.int x8)], [], (mm L X I J)) else if (lg_cmp y6 (lN 1)) ≤ (nI 0) then runI call iX11_sure (105, [u0, u1, u2, some (.int x3), some (.long y4), none, some (.long y6), none, some (.int x8)], [], (mm L X I J)) else if (lg_cmp (y4 &&& (lN 1)) (lN 0)) = (nI 0) then runI call iX11_sure (64, [u0, u1, u2, some (.int x3), some (.long (y4 >>> (((nI 1)).toInt64 &&& 63))), none, some (.long (y6 >>> (((nI 1)).toInt64 &&& 63))), none, some (.int (x8 + (nI 1)))], [], (mm L X I J)) else runI call iX11_sure (105, [u0, u1, u2, some (.int x3), some (.long y4), none, some (.long y6), none, some (.int x8)], [], (mm L X I J)) := by
  refine Eq.trans (st1 dX11_sure_64 rfl rfl) ?_
  refine Eq.trans (xbipush dX11_sure_66 cb_24) ?_
  refine Eq.trans (ic_ge (tgt := 105) dX11_sure_68 (by decide +kernel)) (ite_cong (fun _ => ?_) (fun _ => ?_))
  · rfl
  · refine Eq.trans (st1 dX11_sure_71 rfl rfl) ?_
    refine Eq.trans (st1 dX11_sure_73 rfl rfl) ?_
    refine Eq.trans (st1 dX11_sure_74 rfl rfl) ?_
    refine Eq.trans (if_le (tgt := 105) dX11_sure_75 (by decide +kernel)) (ite_cong (fun _ => ?_) (fun _ => ?_))
    · rfl
    · refine Eq.trans (st1 dX11_sure_78 rfl rfl) ?_
      refine Eq.trans (st1 dX11_sure_80 rfl rfl) ?_
      refine Eq.trans (st1 dX11_sure_81 rfl rfl) ?_
      refine Eq.trans (st1 dX11_sure_82 rfl rfl) ?_
      refine Eq.trans (st1 dX11_sure_83 rfl rfl) ?_
      refine Eq.trans (if_ne (tgt := 105) dX11_sure_84 (by decide +kernel)) (ite_cong (fun _ => ?_) (fun _ => ?_))
      · refine Eq.trans (st1 dX11_sure_87 rfl rfl) ?_
        refine Eq.trans (xiconst dX11_sure_89 ci_1) ?_
        refine Eq.trans (st1 dX11_sure_90 rfl rfl) ?_
        refine Eq.trans (st1 dX11_sure_91 rfl rfl) ?_
        refine Eq.trans (st1 dX11_sure_93 rfl rfl) ?_
        refine Eq.trans (xiconst dX11_sure_95 ci_1) ?_
        refine Eq.trans (st1 dX11_sure_96 rfl rfl) ?_
        refine Eq.trans (st1 dX11_sure_97 rfl rfl) ?_
        refine Eq.trans (xinc2 dX11_sure_99 ci_1 rfl (Nat.le_of_ble_eq_true rfl) rfl) ?_
        refine Eq.trans (go_to (tgt := 64) dX11_sure_102 (by decide +kernel)) ?_
        rfl
      · rfl
theorem q_X11_sure_105 {call : CALL} {L X : Nat} {I : Nat → Nat → Int32} {J : Nat → Nat → Int64} {u0 : Option Value} {u1 : Option Value} {u2 : Option Value} {x3 : Int32} {y4 : Int64} {y6 : Int64} {u8 : Option Value} : runI call iX11_sure (105, [u0, u1, u2, some (.int x3), some (.long y4), none, some (.long y6), none, u8], [], (mm L X I J)) = if x3 = (nI 0) then some (.inl (some (.long y4)), (mm L X I J)) else some (.inl (some (.long y6)), (mm L X I J)) := by
  refine Eq.trans (st1 dX11_sure_105 rfl rfl) ?_
  refine Eq.trans (if_ne (tgt := 114) dX11_sure_106 (by decide +kernel)) (ite_cong (fun _ => ?_) (fun _ => ?_))
  · refine Eq.trans (st1 dX11_sure_109 rfl rfl) ?_
    refine Eq.trans (go_to (tgt := 116) dX11_sure_111 (by decide +kernel)) ?_
    exact ret2 dX11_sure_116 rfl
  · refine Eq.trans (st1 dX11_sure_114 rfl rfl) ?_
    exact ret2 dX11_sure_116 rfl
theorem q_X11_street_0 {call : CALL} {L X : Nat} {I : Nat → Nat → Int32} {J : Nat → Nat → Int64} {x1 : Int32} {x2 : Int32} {x3 : Int32} : runI call iX11_street (0, [some (.ref 0), some (.int x1), some (.int x2), some (.int x3)], [], (mm L X I J)) = bndN (call nX11_within [.int x1, .int (nI 0), .int (nI 99)] (mm L X I J)) (fun v m' => runI call iX11_street (8, [some (.ref 0), some (.int x1), some (.int x2), some (.int x3)], v.toList ++ [.ref 0], m')) := by
  refine Eq.trans (st1 dX11_street_0 rfl rfl) ?_
  refine Eq.trans (st1 dX11_street_1 rfl rfl) ?_
  refine Eq.trans (xiconst dX11_street_2 ci_0) ?_
  refine Eq.trans (xbipush dX11_street_3 cb_99) ?_
  exact is2 dX11_street_5 cp_11_189 (Nat.le_of_ble_eq_true rfl) rfl rfl (Nat.le_of_ble_eq_true rfl)
theorem q_X11_street_8 {call : CALL} {L X : Nat} {I : Nat → Nat → Int32} {J : Nat → Nat → Int64} {x1 : Int32} {x2 : Int32} {x3 : Int32} {s1 : Int32} : runI call iX11_street (8, [some (.ref 0), some (.int x1), some (.int x2), some (.int x3)], [.int s1, .ref 0], (mm L X I J)) = if s1 = (nI 0) then runI call iX11_street (34, [some (.ref 0), some (.int x1), some (.int x2), some (.int x3)], [.ref 0], (mm L X I J)) else bndN (call nX11_within [.int x2, .int (nI 0), .int (nI 9)] (mm L X I J)) (fun v m' => runI call iX11_street (18, [some (.ref 0), some (.int x1), some (.int x2), some (.int x3)], v.toList ++ [.ref 0], m')) := by
  refine Eq.trans (if_eq (tgt := 34) dX11_street_8 (by decide +kernel)) (ite_cong (fun _ => ?_) (fun _ => ?_))
  · rfl
  · refine Eq.trans (st1 dX11_street_11 rfl rfl) ?_
    refine Eq.trans (xiconst dX11_street_12 ci_0) ?_
    refine Eq.trans (xbipush dX11_street_13 cb_9) ?_
    exact is2 dX11_street_15 cp_11_189 (Nat.le_of_ble_eq_true rfl) rfl rfl (Nat.le_of_ble_eq_true rfl)
theorem q_X11_street_34 {call : CALL} {L X : Nat} {I : Nat → Nat → Int32} {J : Nat → Nat → Int64} {x1 : Int32} {x2 : Int32} {x3 : Int32} : runI call iX11_street (34, [some (.ref 0), some (.int x1), some (.int x2), some (.int x3)], [.ref 0], (mm L X I J)) = runI call iX11_street (35, [some (.ref 0), some (.int x1), some (.int x2), some (.int x3)], [.int (nI 0), .ref 0], (mm L X I J)) := by
  refine Eq.trans (xiconst dX11_street_34 ci_0) ?_
  rfl
theorem q_X11_street_18 {call : CALL} {L X : Nat} {I : Nat → Nat → Int32} {J : Nat → Nat → Int64} {x1 : Int32} {x2 : Int32} {x3 : Int32} {s1 : Int32} : runI call iX11_street (18, [some (.ref 0), some (.int x1), some (.int x2), some (.int x3)], [.int s1, .ref 0], (mm L X I J)) = if s1 = (nI 0) then runI call iX11_street (34, [some (.ref 0), some (.int x1), some (.int x2), some (.int x3)], [.ref 0], (mm L X I J)) else bndN (call nX11_within [.int x3, .int (nI 0), .int (nI 2)] (mm L X I J)) (fun v m' => runI call iX11_street (27, [some (.ref 0), some (.int x1), some (.int x2), some (.int x3)], v.toList ++ [.ref 0], m')) := by
  refine Eq.trans (if_eq (tgt := 34) dX11_street_18 (by decide +kernel)) (ite_cong (fun _ => ?_) (fun _ => ?_))
  · rfl
  · refine Eq.trans (st1 dX11_street_21 rfl rfl) ?_
    refine Eq.trans (xiconst dX11_street_22 ci_0) ?_
    refine Eq.trans (xiconst dX11_street_23 ci_2) ?_
    exact is2 dX11_street_24 cp_11_189 (Nat.le_of_ble_eq_true rfl) rfl rfl (Nat.le_of_ble_eq_true rfl)
theorem q_X11_street_35 {call : CALL} {L X : Nat} {I : Nat → Nat → Int32} {J : Nat → Nat → Int64} {x1 : Int32} {x2 : Int32} {x3 : Int32} {s1 : Int32} : runI call iX11_street (35, [some (.ref 0), some (.int x1), some (.int x2), some (.int x3)], [.int s1, .ref 0], (mm L X I J)) = bnd (call nX11_expect [.ref 0, .int s1] (mm L X I J)) (fun v m' => runI call iX11_street (38, [some (.ref 0), some (.int x1), some (.int x2), some (.int x3)], v.toList ++ [], m')) := by
  exact iv0 dX11_street_35 rfl cp_11_193 rfl rfl (kd_ka ka_0) ka_0.1 (Nat.le_of_ble_eq_true rfl)
theorem q_X11_street_27 {call : CALL} {L X : Nat} {I : Nat → Nat → Int32} {J : Nat → Nat → Int64} {x1 : Int32} {x2 : Int32} {x3 : Int32} {s1 : Int32} : runI call iX11_street (27, [some (.ref 0), some (.int x1), some (.int x2), some (.int x3)], [.int s1, .ref 0], (mm L X I J)) = if s1 = (nI 0) then runI call iX11_street (34, [some (.ref 0), some (.int x1), some (.int x2), some (.int x3)], [.ref 0], (mm L X I J)) else runI call iX11_street (35, [some (.ref 0), some (.int x1), some (.int x2), some (.int x3)], [.int (nI 1), .ref 0], (mm L X I J)) := by
  refine Eq.trans (if_eq (tgt := 34) dX11_street_27 (by decide +kernel)) (ite_cong (fun _ => ?_) (fun _ => ?_))
  · rfl
  · refine Eq.trans (xiconst dX11_street_30 ci_1) ?_
    refine Eq.trans (go_to (tgt := 35) dX11_street_31 (by decide +kernel)) ?_
    rfl
theorem q_X11_street_38 {call : CALL} {L X : Nat} {I : Nat → Nat → Int32} {J : Nat → Nat → Int64} {x1 : Int32} {x2 : Int32} {x3 : Int32} : runI call iX11_street (38, [some (.ref 0), some (.int x1), some (.int x2), some (.int x3)], [], (mm L X I J)) = bnd (call nX6_findRests [.ref 64, .ref 43, .int x2] (mm L X I J)) (fun v m' => runI call iX11_street (50, [some (.ref 0), some (.int x1), some (.int x2), some (.int x3)], v.toList ++ [], m')) := by
  refine Eq.trans (st1 dX11_street_38 rfl rfl) ?_
  refine Eq.trans (getRm dX11_street_39 cp_11_90 ka_0 rfl r_0_12) ?_
  refine Eq.trans (st1 dX11_street_42 rfl rfl) ?_
  refine Eq.trans (getRm dX11_street_43 cp_11_56 ka_0 rfl r_0_8) ?_
  refine Eq.trans (st1 dX11_street_46 rfl rfl) ?_
  exact iv0 dX11_street_47 rfl cp_11_377 rfl rfl (kd_ka ka_64) ka_64.1 (Nat.le_of_ble_eq_true rfl)
theorem q_X11_street_50 {call : CALL} {L X : Nat} {I : Nat → Nat → Int32} {J : Nat → Nat → Int64} {x1 : Int32} {u2 : Option Value} {x3 : Int32} : runI call iX11_street (50, [some (.ref 0), some (.int x1), u2, some (.int x3)], [], (mm L X I J)) = runI call iX11_street (51, [some (.ref 0), some (.int x1), u2, some (.int x3)], [.int x3], (mm L X I J)) := by
  refine Eq.trans (st1 dX11_street_50 rfl rfl) ?_
  rfl
theorem q_X11_street_51 {call : CALL} {L X : Nat} {I : Nat → Nat → Int32} {J : Nat → Nat → Int64} {x1 : Int32} {u2 : Option Value} {u3 : Option Value} {s0 : Int32} : runI call iX11_street (51, [some (.ref 0), some (.int x1), u2, u3], [.int s0], (mm L X I J)) = if s0 = (nI 0) then runI call iX11_street (76, [some (.ref 0), some (.int x1), u2, u3], [], (mm L X I J)) else if s0 = (nI 1) then runI call iX11_street (84, [some (.ref 0), some (.int x1), u2, u3], [], (mm L X I J)) else runI call iX11_street (92, [some (.ref 0), some (.int x1), u2, u3], [], (mm L X I J)) := by
  refine ite_cong2 (fun e0 => sw_l dX11_street_51 (by rw [e0]; decide +kernel)) (fun e0 => ?_)
  refine ite_cong2 (fun e1 => sw_l dX11_street_51 (by rw [e1]; decide +kernel)) (fun e1 => ?_)
  exact sw_l dX11_street_51 (swL_dflt2 (vs := [(0 : Int), (1 : Int)]) (by decide +kernel) (by decide +kernel) (by decide +kernel) (fun v hv => by simp only [List.mem_cons, List.not_mem_nil, or_false] at hv; rcases hv with rfl | rfl <;> first | exact ne_toInt (by decide +kernel) e0 | exact ne_toInt (by decide +kernel) e1))
theorem q_X11_street_76 {call : CALL} {L X : Nat} {I : Nat → Nat → Int32} {J : Nat → Nat → Int64} {u1 : Option Value} {u2 : Option Value} {u3 : Option Value} : runI call iX11_street (76, [some (.ref 0), u1, u2, u3], [], (mm L X I J)) = some (.inl (some (.int (I 64 4))), (mm L X I J)) := by
  refine Eq.trans (st1 dX11_street_76 rfl rfl) ?_
  refine Eq.trans (getRm dX11_street_77 cp_11_90 ka_0 rfl r_0_12) ?_
  refine Eq.trans (getIm dX11_street_80 cp_11_380 ka_64 (.inl rfl)) ?_
  exact ret0 dX11_street_83 rfl
theorem q_X11_street_84 {call : CALL} {L X : Nat} {I : Nat → Nat → Int32} {J : Nat → Nat → Int64} {u1 : Option Value} {u2 : Option Value} {u3 : Option Value} : runI call iX11_street (84, [some (.ref 0), u1, u2, u3], [], (mm L X I J)) = some (.inl (some (.int (I 64 5))), (mm L X I J)) := by
  refine Eq.trans (st1 dX11_street_84 rfl rfl) ?_
  refine Eq.trans (getRm dX11_street_85 cp_11_90 ka_0 rfl r_0_12) ?_
  refine Eq.trans (getIm dX11_street_88 cp_11_383 ka_64 (.inl rfl)) ?_
  exact ret0 dX11_street_91 rfl
theorem q_X11_street_92 {call : CALL} {L X : Nat} {I : Nat → Nat → Int32} {J : Nat → Nat → Int64} {x1 : Int32} {u2 : Option Value} {u3 : Option Value} : runI call iX11_street (92, [some (.ref 0), some (.int x1), u2, u3], [], (mm L X I J)) = if (I 64 4) = (nI 0) then some (.inl (some (.int (nI 0))), (mm L X I J)) else some (.inl (some (.int (x1 - (I 64 6)))), (mm L X I J)) := by
  refine Eq.trans (st1 dX11_street_92 rfl rfl) ?_
  refine Eq.trans (getRm dX11_street_93 cp_11_90 ka_0 rfl r_0_12) ?_
  refine Eq.trans (getIm dX11_street_96 cp_11_380 ka_64 (.inl rfl)) ?_
  refine Eq.trans (if_ne (tgt := 106) dX11_street_99 (by decide +kernel)) (ite_cong (fun _ => ?_) (fun _ => ?_))
  · refine Eq.trans (xiconst dX11_street_102 ci_0) ?_
    refine Eq.trans (go_to (tgt := 115) dX11_street_103 (by decide +kernel)) ?_
    exact ret0 dX11_street_115 rfl
  · refine Eq.trans (st1 dX11_street_106 rfl rfl) ?_
    refine Eq.trans (st1 dX11_street_107 rfl rfl) ?_
    refine Eq.trans (getRm dX11_street_108 cp_11_90 ka_0 rfl r_0_12) ?_
    refine Eq.trans (getIm dX11_street_111 cp_11_386 ka_64 (.inl rfl)) ?_
    refine Eq.trans (st1 dX11_street_114 rfl rfl) ?_
    exact ret0 dX11_street_115 rfl
theorem q_X11_share_0 {call : CALL} {L X : Nat} {I : Nat → Nat → Int32} {J : Nat → Nat → Int64} {x1 : Int32} {x2 : Int32} {x3 : Int32} : runI call iX11_share (0, [some (.ref 0), some (.int x1), some (.int x2), some (.int x3)], [], (mm L X I J)) = bnd (call nX11_expectFire [.ref 0, .int x1] (mm L X I J)) (fun v m' => runI call iX11_share (5, [some (.ref 0), some (.int x1), some (.int x2), some (.int x3)], v.toList ++ [], m')) := by
  refine Eq.trans (st1 dX11_share_0 rfl rfl) ?_
  refine Eq.trans (st1 dX11_share_1 rfl rfl) ?_
  exact iv0 dX11_share_2 rfl cp_11_274 rfl rfl (kd_ka ka_0) ka_0.1 (Nat.le_of_ble_eq_true rfl)
theorem q_X11_share_5 {call : CALL} {L X : Nat} {I : Nat → Nat → Int32} {J : Nat → Nat → Int64} {x1 : Int32} {x2 : Int32} {x3 : Int32} : runI call iX11_share (5, [some (.ref 0), some (.int x1), some (.int x2), some (.int x3)], [], (mm L X I J)) = bndN (call nX11_within [.int x2, .int (nI 0), .int (((nI 1) <<< ((I 3 2) &&& 31)) - (nI 1))] (mm L X I J)) (fun v m' => runI call iX11_share (22, [some (.ref 0), some (.int x1), some (.int x2), some (.int x3)], v.toList ++ [.ref 0], m')) := by
  refine Eq.trans (st1 dX11_share_5 rfl rfl) ?_
  refine Eq.trans (st1 dX11_share_6 rfl rfl) ?_
  refine Eq.trans (xiconst dX11_share_7 ci_0) ?_
  refine Eq.trans (xiconst dX11_share_8 ci_1) ?_
  refine Eq.trans (st1 dX11_share_9 rfl rfl) ?_
  refine Eq.trans (getRm dX11_share_10 cp_11_19 ka_0 rfl r_0_1) ?_
  refine Eq.trans (getIm dX11_share_13 cp_11_200 ka_3 (.inl rfl)) ?_
  refine Eq.trans (st1 dX11_share_16 rfl rfl) ?_
  refine Eq.trans (xiconst dX11_share_17 ci_1) ?_
  refine Eq.trans (st1 dX11_share_18 rfl rfl) ?_
  exact is2 dX11_share_19 cp_11_189 (Nat.le_of_ble_eq_true rfl) rfl rfl (Nat.le_of_ble_eq_true rfl)
theorem q_X11_share_22 {call : CALL} {L X : Nat} {I : Nat → Nat → Int32} {J : Nat → Nat → Int64} {x1 : Int32} {x2 : Int32} {x3 : Int32} {s1 : Int32} : runI call iX11_share (22, [some (.ref 0), some (.int x1), some (.int x2), some (.int x3)], [.int s1, .ref 0], (mm L X I J)) = if s1 = (nI 0) then runI call iX11_share (40, [some (.ref 0), some (.int x1), some (.int x2), some (.int x3)], [.ref 0], (mm L X I J)) else bndN (call nX11_within [.int x3, .int (nI 0), .int (nI 999)] (mm L X I J)) (fun v m' => runI call iX11_share (33, [some (.ref 0), some (.int x1), some (.int x2), some (.int x3)], v.toList ++ [.ref 0], m')) := by
  refine Eq.trans (if_eq (tgt := 40) dX11_share_22 (by decide +kernel)) (ite_cong (fun _ => ?_) (fun _ => ?_))
  · rfl
  · refine Eq.trans (st1 dX11_share_25 rfl rfl) ?_
    refine Eq.trans (xiconst dX11_share_26 ci_0) ?_
    refine Eq.trans (xsipush dX11_share_27 cs_999) ?_
    exact is2 dX11_share_30 cp_11_189 (Nat.le_of_ble_eq_true rfl) rfl rfl (Nat.le_of_ble_eq_true rfl)
theorem q_X11_share_40 {call : CALL} {L X : Nat} {I : Nat → Nat → Int32} {J : Nat → Nat → Int64} {x1 : Int32} {x2 : Int32} {x3 : Int32} : runI call iX11_share (40, [some (.ref 0), some (.int x1), some (.int x2), some (.int x3)], [.ref 0], (mm L X I J)) = runI call iX11_share (41, [some (.ref 0), some (.int x1), some (.int x2), some (.int x3)], [.int (nI 0), .ref 0], (mm L X I J)) := by
  refine Eq.trans (xiconst dX11_share_40 ci_0) ?_
  rfl
theorem q_X11_share_33 {call : CALL} {L X : Nat} {I : Nat → Nat → Int32} {J : Nat → Nat → Int64} {x1 : Int32} {x2 : Int32} {x3 : Int32} {s1 : Int32} : runI call iX11_share (33, [some (.ref 0), some (.int x1), some (.int x2), some (.int x3)], [.int s1, .ref 0], (mm L X I J)) = if s1 = (nI 0) then runI call iX11_share (40, [some (.ref 0), some (.int x1), some (.int x2), some (.int x3)], [.ref 0], (mm L X I J)) else runI call iX11_share (41, [some (.ref 0), some (.int x1), some (.int x2), some (.int x3)], [.int (nI 1), .ref 0], (mm L X I J)) := by
  refine Eq.trans (if_eq (tgt := 40) dX11_share_33 (by decide +kernel)) (ite_cong (fun _ => ?_) (fun _ => ?_))
  · rfl
  · refine Eq.trans (xiconst dX11_share_36 ci_1) ?_
    refine Eq.trans (go_to (tgt := 41) dX11_share_37 (by decide +kernel)) ?_
    rfl
theorem q_X11_share_41 {call : CALL} {L X : Nat} {I : Nat → Nat → Int32} {J : Nat → Nat → Int64} {x1 : Int32} {x2 : Int32} {x3 : Int32} {s1 : Int32} : runI call iX11_share (41, [some (.ref 0), some (.int x1), some (.int x2), some (.int x3)], [.int s1, .ref 0], (mm L X I J)) = bnd (call nX11_expect [.ref 0, .int s1] (mm L X I J)) (fun v m' => runI call iX11_share (44, [some (.ref 0), some (.int x1), some (.int x2), some (.int x3)], v.toList ++ [], m')) := by
  exact iv0 dX11_share_41 rfl cp_11_193 rfl rfl (kd_ka ka_0) ka_0.1 (Nat.le_of_ble_eq_true rfl)
theorem q_X11_share_44 {call : CALL} {L X : Nat} {I : Nat → Nat → Int32} {J : Nat → Nat → Int64} {x1 : Int32} {x2 : Int32} {x3 : Int32} : runI call iX11_share (44, [some (.ref 0), some (.int x1), some (.int x2), some (.int x3)], [], (mm L X I J)) = bndN (call nX11_bit [.int x2, .int x1] (mm L X I J)) (fun v m' => runI call iX11_share (49, [some (.ref 0), some (.int x1), some (.int x2), some (.int x3)], v.toList ++ [], m')) := by
  refine Eq.trans (st1 dX11_share_44 rfl rfl) ?_
  refine Eq.trans (st1 dX11_share_45 rfl rfl) ?_
  exact is2 dX11_share_46 cp_11_258 (Nat.le_of_ble_eq_true rfl) rfl rfl (Nat.le_of_ble_eq_true rfl)
theorem q_X11_share_49 {call : CALL} {L X : Nat} {I : Nat → Nat → Int32} {J : Nat → Nat → Int64} {x1 : Int32} {x2 : Int32} {x3 : Int32} {s0 : Int32} : runI call iX11_share (49, [some (.ref 0), some (.int x1), some (.int x2), some (.int x3)], [.int s0], (mm L X I J)) = if s0 = (nI 0) then some (.inl (some (.int (nI 0))), (mm L X I J)) else bndN (call nX11_pick [.ref 11, .int x1] (mm L X I J)) (fun v m' => runI call iX11_share (65, [some (.ref 0), some (.int x1), some (.int x2), some (.int x3)], v.toList ++ [], m')) := by
  refine Eq.trans (if_ne (tgt := 54) dX11_share_49 (by decide +kernel)) (ite_cong (fun _ => ?_) (fun _ => ?_))
  · refine Eq.trans (xiconst dX11_share_52 ci_0) ?_
    exact ret0 dX11_share_53 rfl
  · refine Eq.trans (st1 dX11_share_54 rfl rfl) ?_
    refine Eq.trans (getRm dX11_share_55 cp_11_19 ka_0 rfl r_0_1) ?_
    refine Eq.trans (getRm dX11_share_58 cp_11_280 ka_3 rfl r_3_11) ?_
    refine Eq.trans (st1 dX11_share_61 rfl rfl) ?_
    exact is2 dX11_share_62 cp_11_232 (Nat.le_of_ble_eq_true rfl) rfl rfl (Nat.le_of_ble_eq_true rfl)
theorem q_X11_share_65 {call : CALL} {L X : Nat} {I : Nat → Nat → Int32} {J : Nat → Nat → Int64} {u1 : Option Value} {x2 : Int32} {x3 : Int32} {s0 : Int32} : runI call iX11_share (65, [some (.ref 0), u1, some (.int x2), some (.int x3)], [.int s0], (mm L X I J)) = bnd (call nX1_level [.ref 3, .int x2, .int x3] (mm L X I J)) (fun v m' => runI call iX11_share (74, [some (.ref 0), u1, some (.int x2), some (.int x3)], v.toList ++ [.int s0], m')) := by
  refine Eq.trans (st1 dX11_share_65 rfl rfl) ?_
  refine Eq.trans (getRm dX11_share_66 cp_11_19 ka_0 rfl r_0_1) ?_
  refine Eq.trans (st1 dX11_share_69 rfl rfl) ?_
  refine Eq.trans (st1 dX11_share_70 rfl rfl) ?_
  exact iv0 dX11_share_71 rfl cp_11_389 rfl rfl (kd_ka ka_3) ka_3.1 (Nat.le_of_ble_eq_true rfl)
theorem q_X11_share_74 {call : CALL} {L X : Nat} {I : Nat → Nat → Int32} {J : Nat → Nat → Int64} {u0 : Option Value} {u1 : Option Value} {u2 : Option Value} {u3 : Option Value} {s0 : Int32} {s1 : Int32} : runI call iX11_share (74, [u0, u1, u2, u3], [.int s1, .int s0], (mm L X I J)) = some (.inl (some (.int (if s1 < s0 then s1 else s0))), (mm L X I J)) := by
  refine Eq.trans (imin dX11_share_74 cp_11_392 (Nat.le_of_ble_eq_true rfl)) ?_
  exact ret0 dX11_share_77 rfl
theorem q_X11_next_0 {call : CALL} {L X : Nat} {I : Nat → Nat → Int32} {J : Nat → Nat → Int64} {x1 : Int32} : runI call iX11_next (0, [some (.ref 0), some (.int x1), none, none], [], (mm L X I J)) = bndN (call nX11_within [.int x1, .int (nI 0), .int (nI 1)] (mm L X I J)) (fun v m' => runI call iX11_next (7, [some (.ref 0), some (.int x1), none, none], v.toList ++ [.ref 0], m')) := by
  refine Eq.trans (st1 dX11_next_0 rfl rfl) ?_
  refine Eq.trans (st1 dX11_next_1 rfl rfl) ?_
  refine Eq.trans (xiconst dX11_next_2 ci_0) ?_
  refine Eq.trans (xiconst dX11_next_3 ci_1) ?_
  exact is2 dX11_next_4 cp_11_189 (Nat.le_of_ble_eq_true rfl) rfl rfl (Nat.le_of_ble_eq_true rfl)
theorem q_X11_next_7 {call : CALL} {L X : Nat} {I : Nat → Nat → Int32} {J : Nat → Nat → Int64} {x1 : Int32} {u2 : Option Value} {u3 : Option Value} {s1 : Int32} : runI call iX11_next (7, [some (.ref 0), some (.int x1), u2, u3], [.int s1, .ref 0], (mm L X I J)) = bnd (call nX11_expect [.ref 0, .int s1] (mm L X I J)) (fun v m' => runI call iX11_next (10, [some (.ref 0), some (.int x1), u2, u3], v.toList ++ [], m')) := by
  exact iv0 dX11_next_7 rfl cp_11_193 rfl rfl (kd_ka ka_0) ka_0.1 (Nat.le_of_ble_eq_true rfl)
theorem q_X11_next_10 {call : CALL} {L X : Nat} {I : Nat → Nat → Int32} {J : Nat → Nat → Int64} {x1 : Int32} {u2 : Option Value} {u3 : Option Value} : runI call iX11_next (10, [some (.ref 0), some (.int x1), u2, u3], [], (mm L X I J)) = runI call iX11_next (14, [some (.ref 0), some (.int x1), some (.int (nI 0)), some (.int (nI 0))], [], (mm L X I J)) := by
  refine Eq.trans (xiconst dX11_next_10 ci_0) ?_
  refine Eq.trans (st1 dX11_next_11 rfl rfl) ?_
  refine Eq.trans (xiconst dX11_next_12 ci_0) ?_
  refine Eq.trans (st1 dX11_next_13 rfl rfl) ?_
  rfl
theorem q_X11_next_14 {call : CALL} {L X : Nat} {I : Nat → Nat → Int32} {J : Nat → Nat → Int64} {x1 : Int32} {x2 : Int32} {x3 : Int32} : runI call iX11_next (14, [some (.ref 0), some (.int x1), some (.int x2), some (.int x3)], [], (mm L X I J)) = if (I 3 0) ≤ x3 then some (.inl (some (.int x2)), (mm L X I J)) else bnd (call nX3_wayOf [.ref 43, .int x3] (mm L X I J)) (fun v m' => runI call iX11_next (41, [some (.ref 0), some (.int x1), some (.int x2), some (.int x3)], v.toList ++ [.ref 3, .ref 43], m')) := by
  refine Eq.trans (st1 dX11_next_14 rfl rfl) ?_
  refine Eq.trans (st1 dX11_next_15 rfl rfl) ?_
  refine Eq.trans (getRm dX11_next_16 cp_11_19 ka_0 rfl r_0_1) ?_
  refine Eq.trans (getIm dX11_next_19 cp_11_149 ka_3 (.inl rfl)) ?_
  refine Eq.trans (ic_ge (tgt := 61) dX11_next_22 (by decide +kernel)) (ite_cong (fun _ => ?_) (fun _ => ?_))
  · refine Eq.trans (st1 dX11_next_61 rfl rfl) ?_
    exact ret0 dX11_next_62 rfl
  · refine Eq.trans (st1 dX11_next_25 rfl rfl) ?_
    refine Eq.trans (getRm dX11_next_26 cp_11_56 ka_0 rfl r_0_8) ?_
    refine Eq.trans (st1 dX11_next_29 rfl rfl) ?_
    refine Eq.trans (getRm dX11_next_30 cp_11_19 ka_0 rfl r_0_1) ?_
    refine Eq.trans (st1 dX11_next_33 rfl rfl) ?_
    refine Eq.trans (getRm dX11_next_34 cp_11_56 ka_0 rfl r_0_8) ?_
    refine Eq.trans (st1 dX11_next_37 rfl rfl) ?_
    exact iv0 dX11_next_38 rfl cp_11_236 rfl rfl (kd_ka ka_43) ka_43.1 (Nat.le_of_ble_eq_true rfl)
theorem q_X11_next_41 {call : CALL} {L X : Nat} {I : Nat → Nat → Int32} {J : Nat → Nat → Int64} {x1 : Int32} {x2 : Int32} {x3 : Int32} {s2 : Int32} : runI call iX11_next (41, [some (.ref 0), some (.int x1), some (.int x2), some (.int x3)], [.int s2, .ref 3, .ref 43], (mm L X I J)) = bnd (call nX3_canLay [.ref 43, .ref 3, .int (s2 ^^^ x1)] (mm L X I J)) (fun v m' => runI call iX11_next (46, [some (.ref 0), some (.int x1), some (.int x2), some (.int x3)], v.toList ++ [], m')) := by
  refine Eq.trans (st1 dX11_next_41 rfl rfl) ?_
  refine Eq.trans (st1 dX11_next_42 rfl rfl) ?_
  exact iv0 dX11_next_43 rfl cp_11_313 rfl rfl (kd_ka ka_43) ka_43.1 (Nat.le_of_ble_eq_true rfl)
theorem q_X11_next_46 {call : CALL} {L X : Nat} {I : Nat → Nat → Int32} {J : Nat → Nat → Int64} {x1 : Int32} {x2 : Int32} {x3 : Int32} {s0 : Int32} : runI call iX11_next (46, [some (.ref 0), some (.int x1), some (.int x2), some (.int x3)], [.int s0], (mm L X I J)) = if s0 = (nI 0) then runI call iX11_next (55, [some (.ref 0), some (.int x1), some (.int x2), some (.int x3)], [], (mm L X I J)) else runI call iX11_next (55, [some (.ref 0), some (.int x1), some (.int (x2 ||| ((nI 1) <<< (x3 &&& 31)))), some (.int x3)], [], (mm L X I J)) := by
  refine Eq.trans (if_eq (tgt := 55) dX11_next_46 (by decide +kernel)) (ite_cong (fun _ => ?_) (fun _ => ?_))
  · rfl
  · refine Eq.trans (st1 dX11_next_49 rfl rfl) ?_
    refine Eq.trans (xiconst dX11_next_50 ci_1) ?_
    refine Eq.trans (st1 dX11_next_51 rfl rfl) ?_
    refine Eq.trans (st1 dX11_next_52 rfl rfl) ?_
    refine Eq.trans (st1 dX11_next_53 rfl rfl) ?_
    refine Eq.trans (st1 dX11_next_54 rfl rfl) ?_
    rfl
theorem q_X11_next_55 {call : CALL} {L X : Nat} {I : Nat → Nat → Int32} {J : Nat → Nat → Int64} {x1 : Int32} {x2 : Int32} {x3 : Int32} : runI call iX11_next (55, [some (.ref 0), some (.int x1), some (.int x2), some (.int x3)], [], (mm L X I J)) = runI call iX11_next (14, [some (.ref 0), some (.int x1), some (.int x2), some (.int (x3 + (nI 1)))], [], (mm L X I J)) := by
  refine Eq.trans (xinc2 dX11_next_55 ci_1 rfl (Nat.le_of_ble_eq_true rfl) rfl) ?_
  refine Eq.trans (go_to (tgt := 14) dX11_next_58 (by decide +kernel)) ?_
  rfl
theorem q_X11_worst_0 {call : CALL} {L X : Nat} {I : Nat → Nat → Int32} {J : Nat → Nat → Int64} {x1 : Int32} : runI call iX11_worst (0, [some (.ref 0), some (.int x1), none], [], (mm L X I J)) = bndN (call nX11_within [.int x1, .int (nI 0), .int (nI 1)] (mm L X I J)) (fun v m' => runI call iX11_worst (7, [some (.ref 0), some (.int x1), none], v.toList ++ [.ref 0], m')) := by
  refine Eq.trans (st1 dX11_worst_0 rfl rfl) ?_
  refine Eq.trans (st1 dX11_worst_1 rfl rfl) ?_
  refine Eq.trans (xiconst dX11_worst_2 ci_0) ?_
  refine Eq.trans (xiconst dX11_worst_3 ci_1) ?_
  exact is2 dX11_worst_4 cp_11_189 (Nat.le_of_ble_eq_true rfl) rfl rfl (Nat.le_of_ble_eq_true rfl)
theorem q_X11_worst_7 {call : CALL} {L X : Nat} {I : Nat → Nat → Int32} {J : Nat → Nat → Int64} {x1 : Int32} {u2 : Option Value} {s1 : Int32} : runI call iX11_worst (7, [some (.ref 0), some (.int x1), u2], [.int s1, .ref 0], (mm L X I J)) = bnd (call nX11_expect [.ref 0, .int s1] (mm L X I J)) (fun v m' => runI call iX11_worst (10, [some (.ref 0), some (.int x1), u2], v.toList ++ [], m')) := by
  exact iv0 dX11_worst_7 rfl cp_11_193 rfl rfl (kd_ka ka_0) ka_0.1 (Nat.le_of_ble_eq_true rfl)
theorem q_X11_worst_10 {call : CALL} {L X : Nat} {I : Nat → Nat → Int32} {J : Nat → Nat → Int64} {x1 : Int32} {u2 : Option Value} : runI call iX11_worst (10, [some (.ref 0), some (.int x1), u2], [], (mm L X I J)) = bnd (call nX8_worstPlace [.ref 52, .ref 43] (mm L X I J)) (fun v m' => runI call iX11_worst (21, [some (.ref 0), some (.int x1), u2], v.toList ++ [], m')) := by
  refine Eq.trans (st1 dX11_worst_10 rfl rfl) ?_
  refine Eq.trans (getRm dX11_worst_11 cp_11_72 ka_0 rfl r_0_10) ?_
  refine Eq.trans (st1 dX11_worst_14 rfl rfl) ?_
  refine Eq.trans (getRm dX11_worst_15 cp_11_56 ka_0 rfl r_0_8) ?_
  exact iv0 dX11_worst_18 rfl cp_11_397 rfl rfl (kd_ka ka_52) ka_52.1 (Nat.le_of_ble_eq_true rfl)
theorem q_X11_worst_21 {call : CALL} {L X : Nat} {I : Nat → Nat → Int32} {J : Nat → Nat → Int64} {x1 : Int32} {u2 : Option Value} {s0 : Int32} : runI call iX11_worst (21, [some (.ref 0), some (.int x1), u2], [.int s0], (mm L X I J)) = if x1 = (nI 0) then some (.inl (some (.int s0)), (mm L X I J)) else if (nI 0) ≤ s0 then bnd (call nX8_lostAt [.ref 52, .ref 43, .int s0] (mm L X I J)) (fun v m' => runI call iX11_worst (48, [some (.ref 0), some (.int x1), some (.int s0)], v.toList ++ [], m')) else some (.inl (some (.int (nI 0))), (mm L X I J)) := by
  refine Eq.trans (st1 dX11_worst_21 rfl rfl) ?_
  refine Eq.trans (st1 dX11_worst_22 rfl rfl) ?_
  refine Eq.trans (if_ne (tgt := 28) dX11_worst_23 (by decide +kernel)) (ite_cong (fun _ => ?_) (fun _ => ?_))
  · refine Eq.trans (st1 dX11_worst_26 rfl rfl) ?_
    exact ret0 dX11_worst_27 rfl
  · refine Eq.trans (st1 dX11_worst_28 rfl rfl) ?_
    refine Eq.trans (if_ge (tgt := 36) dX11_worst_29 (by decide +kernel)) (ite_cong (fun _ => ?_) (fun _ => ?_))
    · refine Eq.trans (st1 dX11_worst_36 rfl rfl) ?_
      refine Eq.trans (getRm dX11_worst_37 cp_11_72 ka_0 rfl r_0_10) ?_
      refine Eq.trans (st1 dX11_worst_40 rfl rfl) ?_
      refine Eq.trans (getRm dX11_worst_41 cp_11_56 ka_0 rfl r_0_8) ?_
      refine Eq.trans (st1 dX11_worst_44 rfl rfl) ?_
      exact iv0 dX11_worst_45 rfl cp_11_400 rfl rfl (kd_ka ka_52) ka_52.1 (Nat.le_of_ble_eq_true rfl)
    · refine Eq.trans (xiconst dX11_worst_32 ci_0) ?_
      refine Eq.trans (go_to (tgt := 48) dX11_worst_33 (by decide +kernel)) ?_
      exact ret0 dX11_worst_48 rfl
theorem q_X11_worst_48 {call : CALL} {L X : Nat} {I : Nat → Nat → Int32} {J : Nat → Nat → Int64} {u0 : Option Value} {u1 : Option Value} {u2 : Option Value} {s0 : Int32} : runI call iX11_worst (48, [u0, u1, u2], [.int s0], (mm L X I J)) = some (.inl (some (.int s0)), (mm L X I J)) := by
  exact ret0 dX11_worst_48 rfl
theorem q_X11_needed_0 {call : CALL} {L X : Nat} {I : Nat → Nat → Int32} {J : Nat → Nat → Int64} {x1 : Int32} : runI call iX11_needed (0, [some (.ref 0), some (.int x1), none], [], (mm L X I J)) = bnd (call nX11_expectFire [.ref 0, .int x1] (mm L X I J)) (fun v m' => runI call iX11_needed (5, [some (.ref 0), some (.int x1), none], v.toList ++ [], m')) := by
  refine Eq.trans (st1 dX11_needed_0 rfl rfl) ?_
  refine Eq.trans (st1 dX11_needed_1 rfl rfl) ?_
  exact iv0 dX11_needed_2 rfl cp_11_274 rfl rfl (kd_ka ka_0) ka_0.1 (Nat.le_of_ble_eq_true rfl)
theorem q_X11_needed_5 {call : CALL} {L X : Nat} {I : Nat → Nat → Int32} {J : Nat → Nat → Int64} {x1 : Int32} {u2 : Option Value} : runI call iX11_needed (5, [some (.ref 0), some (.int x1), u2], [], (mm L X I J)) = bnd (call nX3_longNow [.ref 43, .ref 3] (mm L X I J)) (fun v m' => runI call iX11_needed (16, [some (.ref 0), some (.int x1), u2], v.toList ++ [], m')) := by
  refine Eq.trans (st1 dX11_needed_5 rfl rfl) ?_
  refine Eq.trans (getRm dX11_needed_6 cp_11_56 ka_0 rfl r_0_8) ?_
  refine Eq.trans (st1 dX11_needed_9 rfl rfl) ?_
  refine Eq.trans (getRm dX11_needed_10 cp_11_19 ka_0 rfl r_0_1) ?_
  exact iv0 dX11_needed_13 rfl cp_11_213 rfl rfl (kd_ka ka_43) ka_43.1 (Nat.le_of_ble_eq_true rfl)
theorem q_X11_needed_16 {call : CALL} {L X : Nat} {I : Nat → Nat → Int32} {J : Nat → Nat → Int64} {x1 : Int32} {u2 : Option Value} {s0 : Int32} : runI call iX11_needed (16, [some (.ref 0), some (.int x1), u2], [.int s0], (mm L X I J)) = bndN (call nX11_pick [.ref 10, .int x1] (mm L X I J)) (fun v m' => runI call iX11_needed (27, [some (.ref 0), some (.int x1), u2], v.toList ++ [.int s0], m')) := by
  refine Eq.trans (st1 dX11_needed_16 rfl rfl) ?_
  refine Eq.trans (getRm dX11_needed_17 cp_11_19 ka_0 rfl r_0_1) ?_
  refine Eq.trans (getRm dX11_needed_20 cp_11_277 ka_3 rfl r_3_10) ?_
  refine Eq.trans (st1 dX11_needed_23 rfl rfl) ?_
  exact is2 dX11_needed_24 cp_11_232 (Nat.le_of_ble_eq_true rfl) rfl rfl (Nat.le_of_ble_eq_true rfl)
theorem q_X11_needed_27 {call : CALL} {L X : Nat} {I : Nat → Nat → Int32} {J : Nat → Nat → Int64} {x1 : Int32} {u2 : Option Value} {s0 : Int32} {s1 : Int32} : runI call iX11_needed (27, [some (.ref 0), some (.int x1), u2], [.int s1, .int s0], (mm L X I J)) = if s1 ≤ s0 then runI call iX11_needed (34, [some (.ref 0), some (.int x1), some (.int (nI 0))], [], (mm L X I J)) else some (.inl (some (.int (-1 : Int32))), (mm L X I J)) := by
  refine Eq.trans (ic_ge (tgt := 32) dX11_needed_27 (by decide +kernel)) (ite_cong (fun _ => ?_) (fun _ => ?_))
  · refine Eq.trans (xiconst dX11_needed_32 ci_0) ?_
    refine Eq.trans (st1 dX11_needed_33 rfl rfl) ?_
    rfl
  · refine Eq.trans (xiconst dX11_needed_30 ci_m1) ?_
    exact ret0 dX11_needed_31 rfl
theorem q_X11_needed_34 {call : CALL} {L X : Nat} {I : Nat → Nat → Int32} {J : Nat → Nat → Int64} {x1 : Int32} {x2 : Int32} : runI call iX11_needed (34, [some (.ref 0), some (.int x1), some (.int x2)], [], (mm L X I J)) = if (nI 99) < x2 then some (.inl (some (.int (-1 : Int32))), (mm L X I J)) else bnd (call nX8_arriving [.ref 52, .ref 43, .int x2] (mm L X I J)) (fun v m' => runI call iX11_needed (52, [some (.ref 0), some (.int x1), some (.int x2)], v.toList ++ [], m')) := by
  refine Eq.trans (st1 dX11_needed_34 rfl rfl) ?_
  refine Eq.trans (xbipush dX11_needed_35 cb_99) ?_
  refine Eq.trans (ic_gt (tgt := 74) dX11_needed_37 (by decide +kernel)) (ite_cong (fun _ => ?_) (fun _ => ?_))
  · refine Eq.trans (xiconst dX11_needed_74 ci_m1) ?_
    exact ret0 dX11_needed_75 rfl
  · refine Eq.trans (st1 dX11_needed_40 rfl rfl) ?_
    refine Eq.trans (getRm dX11_needed_41 cp_11_72 ka_0 rfl r_0_10) ?_
    refine Eq.trans (st1 dX11_needed_44 rfl rfl) ?_
    refine Eq.trans (getRm dX11_needed_45 cp_11_56 ka_0 rfl r_0_8) ?_
    refine Eq.trans (st1 dX11_needed_48 rfl rfl) ?_
    exact iv0 dX11_needed_49 rfl cp_11_218 rfl rfl (kd_ka ka_52) ka_52.1 (Nat.le_of_ble_eq_true rfl)
theorem q_X11_needed_52 {call : CALL} {L X : Nat} {I : Nat → Nat → Int32} {J : Nat → Nat → Int64} {x1 : Int32} {x2 : Int32} {s0 : Int32} : runI call iX11_needed (52, [some (.ref 0), some (.int x1), some (.int x2)], [.int s0], (mm L X I J)) = bndN (call nX11_pick [.ref 11, .int x1] (mm L X I J)) (fun v m' => runI call iX11_needed (63, [some (.ref 0), some (.int x1), some (.int x2)], v.toList ++ [.int s0], m')) := by
  refine Eq.trans (st1 dX11_needed_52 rfl rfl) ?_
  refine Eq.trans (getRm dX11_needed_53 cp_11_19 ka_0 rfl r_0_1) ?_
  refine Eq.trans (getRm dX11_needed_56 cp_11_280 ka_3 rfl r_3_11) ?_
  refine Eq.trans (st1 dX11_needed_59 rfl rfl) ?_
  exact is2 dX11_needed_60 cp_11_232 (Nat.le_of_ble_eq_true rfl) rfl rfl (Nat.le_of_ble_eq_true rfl)
theorem q_X11_needed_63 {call : CALL} {L X : Nat} {I : Nat → Nat → Int32} {J : Nat → Nat → Int64} {x1 : Int32} {x2 : Int32} {s0 : Int32} {s1 : Int32} : runI call iX11_needed (63, [some (.ref 0), some (.int x1), some (.int x2)], [.int s1, .int s0], (mm L X I J)) = if s0 < s1 then runI call iX11_needed (34, [some (.ref 0), some (.int x1), some (.int (x2 + (nI 1)))], [], (mm L X I J)) else some (.inl (some (.int x2)), (mm L X I J)) := by
  refine Eq.trans (ic_lt (tgt := 68) dX11_needed_63 (by decide +kernel)) (ite_cong (fun _ => ?_) (fun _ => ?_))
  · refine Eq.trans (xinc2 dX11_needed_68 ci_1 rfl (Nat.le_of_ble_eq_true rfl) rfl) ?_
    refine Eq.trans (go_to (tgt := 34) dX11_needed_71 (by decide +kernel)) ?_
    rfl
  · refine Eq.trans (st1 dX11_needed_66 rfl rfl) ?_
    exact ret0 dX11_needed_67 rfl
theorem q_X11_kin_0 {call : CALL} {L X : Nat} {I : Nat → Nat → Int32} {J : Nat → Nat → Int64} {x1 : Int32} : runI call iX11_kin (0, [some (.ref 0), some (.int x1)], [], (mm L X I J)) = bnd (call nX11_expectThread [.ref 0, .int x1] (mm L X I J)) (fun v m' => runI call iX11_kin (5, [some (.ref 0), some (.int x1)], v.toList ++ [], m')) := by
  refine Eq.trans (st1 dX11_kin_0 rfl rfl) ?_
  refine Eq.trans (st1 dX11_kin_1 rfl rfl) ?_
  exact iv0 dX11_kin_2 rfl cp_11_306 rfl rfl (kd_ka ka_0) ka_0.1 (Nat.le_of_ble_eq_true rfl)
theorem q_X11_kin_5 {call : CALL} {L X : Nat} {I : Nat → Nat → Int32} {J : Nat → Nat → Int64} {x1 : Int32} : runI call iX11_kin (5, [some (.ref 0), some (.int x1)], [], (mm L X I J)) = bndN (call nX11_pick [.ref 12, .int x1] (mm L X I J)) (fun v m' => runI call iX11_kin (16, [some (.ref 0), some (.int x1)], v.toList ++ [], m')) := by
  refine Eq.trans (st1 dX11_kin_5 rfl rfl) ?_
  refine Eq.trans (getRm dX11_kin_6 cp_11_19 ka_0 rfl r_0_1) ?_
  refine Eq.trans (getRm dX11_kin_9 cp_11_403 ka_3 rfl r_3_12) ?_
  refine Eq.trans (st1 dX11_kin_12 rfl rfl) ?_
  exact is2 dX11_kin_13 cp_11_232 (Nat.le_of_ble_eq_true rfl) rfl rfl (Nat.le_of_ble_eq_true rfl)
theorem q_X11_kin_16 {call : CALL} {L X : Nat} {I : Nat → Nat → Int32} {J : Nat → Nat → Int64} {u0 : Option Value} {u1 : Option Value} {s0 : Int32} : runI call iX11_kin (16, [u0, u1], [.int s0], (mm L X I J)) = some (.inl (some (.int s0)), (mm L X I J)) := by
  exact ret0 dX11_kin_16 rfl
theorem q_X11_year_0 {call : CALL} {L X : Nat} {I : Nat → Nat → Int32} {J : Nat → Nat → Int64} {x1 : Int32} {x2 : Int32} {x3 : Int32} {x4 : Int32} : runI call iX11_year (0, [some (.ref 0), some (.int x1), some (.int x2), some (.int x3), some (.int x4)], [], (mm L X I J)) = bndN (call nX11_within [.int x2, .int (nI 1), .int (nI 96)] (mm L X I J)) (fun v m' => runI call iX11_year (8, [some (.ref 0), some (.int x1), some (.int x2), some (.int x3), some (.int x4)], v.toList ++ [.ref 0], m')) := by
  refine Eq.trans (st1 dX11_year_0 rfl rfl) ?_
  refine Eq.trans (st1 dX11_year_1 rfl rfl) ?_
  refine Eq.trans (xiconst dX11_year_2 ci_1) ?_
  refine Eq.trans (xbipush dX11_year_3 cb_96) ?_
  exact is2 dX11_year_5 cp_11_189 (Nat.le_of_ble_eq_true rfl) rfl rfl (Nat.le_of_ble_eq_true rfl)
theorem q_X11_year_8 {call : CALL} {L X : Nat} {I : Nat → Nat → Int32} {J : Nat → Nat → Int64} {x1 : Int32} {x2 : Int32} {x3 : Int32} {x4 : Int32} {s1 : Int32} : runI call iX11_year (8, [some (.ref 0), some (.int x1), some (.int x2), some (.int x3), some (.int x4)], [.int s1, .ref 0], (mm L X I J)) = if s1 = (nI 0) then runI call iX11_year (35, [some (.ref 0), some (.int x1), some (.int x2), some (.int x3), some (.int x4)], [.ref 0], (mm L X I J)) else bndN (call nX11_within [.int x3, .int (nI 0), .int (nI 16)] (mm L X I J)) (fun v m' => runI call iX11_year (18, [some (.ref 0), some (.int x1), some (.int x2), some (.int x3), some (.int x4)], v.toList ++ [.ref 0], m')) := by
  refine Eq.trans (if_eq (tgt := 35) dX11_year_8 (by decide +kernel)) (ite_cong (fun _ => ?_) (fun _ => ?_))
  · rfl
  · refine Eq.trans (st1 dX11_year_11 rfl rfl) ?_
    refine Eq.trans (xiconst dX11_year_12 ci_0) ?_
    refine Eq.trans (xbipush dX11_year_13 cb_16) ?_
    exact is2 dX11_year_15 cp_11_189 (Nat.le_of_ble_eq_true rfl) rfl rfl (Nat.le_of_ble_eq_true rfl)
theorem q_X11_year_35 {call : CALL} {L X : Nat} {I : Nat → Nat → Int32} {J : Nat → Nat → Int64} {x1 : Int32} {x2 : Int32} {x3 : Int32} {x4 : Int32} : runI call iX11_year (35, [some (.ref 0), some (.int x1), some (.int x2), some (.int x3), some (.int x4)], [.ref 0], (mm L X I J)) = runI call iX11_year (36, [some (.ref 0), some (.int x1), some (.int x2), some (.int x3), some (.int x4)], [.int (nI 0), .ref 0], (mm L X I J)) := by
  refine Eq.trans (xiconst dX11_year_35 ci_0) ?_
  rfl
theorem q_X11_year_18 {call : CALL} {L X : Nat} {I : Nat → Nat → Int32} {J : Nat → Nat → Int64} {x1 : Int32} {x2 : Int32} {x3 : Int32} {x4 : Int32} {s1 : Int32} : runI call iX11_year (18, [some (.ref 0), some (.int x1), some (.int x2), some (.int x3), some (.int x4)], [.int s1, .ref 0], (mm L X I J)) = if s1 = (nI 0) then runI call iX11_year (35, [some (.ref 0), some (.int x1), some (.int x2), some (.int x3), some (.int x4)], [.ref 0], (mm L X I J)) else bndN (call nX11_within [.int x4, .int (nI 0), .int (nI 3)] (mm L X I J)) (fun v m' => runI call iX11_year (28, [some (.ref 0), some (.int x1), some (.int x2), some (.int x3), some (.int x4)], v.toList ++ [.ref 0], m')) := by
  refine Eq.trans (if_eq (tgt := 35) dX11_year_18 (by decide +kernel)) (ite_cong (fun _ => ?_) (fun _ => ?_))
  · rfl
  · refine Eq.trans (st1 dX11_year_21 rfl rfl) ?_
    refine Eq.trans (xiconst dX11_year_23 ci_0) ?_
    refine Eq.trans (xiconst dX11_year_24 ci_3) ?_
    exact is2 dX11_year_25 cp_11_189 (Nat.le_of_ble_eq_true rfl) rfl rfl (Nat.le_of_ble_eq_true rfl)
theorem q_X11_year_36 {call : CALL} {L X : Nat} {I : Nat → Nat → Int32} {J : Nat → Nat → Int64} {x1 : Int32} {x2 : Int32} {x3 : Int32} {x4 : Int32} {s1 : Int32} : runI call iX11_year (36, [some (.ref 0), some (.int x1), some (.int x2), some (.int x3), some (.int x4)], [.int s1, .ref 0], (mm L X I J)) = bnd (call nX11_expect [.ref 0, .int s1] (mm L X I J)) (fun v m' => runI call iX11_year (39, [some (.ref 0), some (.int x1), some (.int x2), some (.int x3), some (.int x4)], v.toList ++ [], m')) := by
  exact iv0 dX11_year_36 rfl cp_11_193 rfl rfl (kd_ka ka_0) ka_0.1 (Nat.le_of_ble_eq_true rfl)
theorem q_X11_year_28 {call : CALL} {L X : Nat} {I : Nat → Nat → Int32} {J : Nat → Nat → Int64} {x1 : Int32} {x2 : Int32} {x3 : Int32} {x4 : Int32} {s1 : Int32} : runI call iX11_year (28, [some (.ref 0), some (.int x1), some (.int x2), some (.int x3), some (.int x4)], [.int s1, .ref 0], (mm L X I J)) = if s1 = (nI 0) then runI call iX11_year (35, [some (.ref 0), some (.int x1), some (.int x2), some (.int x3), some (.int x4)], [.ref 0], (mm L X I J)) else runI call iX11_year (36, [some (.ref 0), some (.int x1), some (.int x2), some (.int x3), some (.int x4)], [.int (nI 1), .ref 0], (mm L X I J)) := by
  refine Eq.trans (if_eq (tgt := 35) dX11_year_28 (by decide +kernel)) (ite_cong (fun _ => ?_) (fun _ => ?_))
  · rfl
  · refine Eq.trans (xiconst dX11_year_31 ci_1) ?_
    refine Eq.trans (go_to (tgt := 36) dX11_year_32 (by decide +kernel)) ?_
    rfl
theorem q_X11_year_39 {call : CALL} {L X : Nat} {I : Nat → Nat → Int32} {J : Nat → Nat → Int64} {x1 : Int32} {x2 : Int32} {x3 : Int32} {x4 : Int32} : runI call iX11_year (39, [some (.ref 0), some (.int x1), some (.int x2), some (.int x3), some (.int x4)], [], (mm L X I J)) = bnd (call nX10_live [.ref 66, .ref 43, .int x1, .int x2, .int x3] (mm L X I J)) (fun v m' => runI call iX11_year (53, [some (.ref 0), some (.int x1), some (.int x2), some (.int x3), some (.int x4)], v.toList ++ [], m')) := by
  refine Eq.trans (st1 dX11_year_39 rfl rfl) ?_
  refine Eq.trans (getRm dX11_year_40 cp_11_97 ka_0 rfl r_0_13) ?_
  refine Eq.trans (st1 dX11_year_43 rfl rfl) ?_
  refine Eq.trans (getRm dX11_year_44 cp_11_56 ka_0 rfl r_0_8) ?_
  refine Eq.trans (st1 dX11_year_47 rfl rfl) ?_
  refine Eq.trans (st1 dX11_year_48 rfl rfl) ?_
  refine Eq.trans (st1 dX11_year_49 rfl rfl) ?_
  exact iv0 dX11_year_50 rfl cp_11_406 rfl rfl (kd_ka ka_66) ka_66.1 (Nat.le_of_ble_eq_true rfl)
theorem q_X11_year_53 {call : CALL} {L X : Nat} {I : Nat → Nat → Int32} {J : Nat → Nat → Int64} {u1 : Option Value} {u2 : Option Value} {u3 : Option Value} {x4 : Int32} : runI call iX11_year (53, [some (.ref 0), u1, u2, u3, some (.int x4)], [], (mm L X I J)) = runI call iX11_year (55, [some (.ref 0), u1, u2, u3, some (.int x4)], [.int x4], (mm L X I J)) := by
  refine Eq.trans (st1 dX11_year_53 rfl rfl) ?_
  rfl
theorem q_X11_year_55 {call : CALL} {L X : Nat} {I : Nat → Nat → Int32} {J : Nat → Nat → Int64} {u1 : Option Value} {u2 : Option Value} {u3 : Option Value} {u4 : Option Value} {s0 : Int32} : runI call iX11_year (55, [some (.ref 0), u1, u2, u3, u4], [.int s0], (mm L X I J)) = if s0 = (nI 0) then runI call iX11_year (80, [some (.ref 0), u1, u2, u3, u4], [], (mm L X I J)) else if s0 = (nI 1) then runI call iX11_year (88, [some (.ref 0), u1, u2, u3, u4], [], (mm L X I J)) else if s0 = (nI 2) then runI call iX11_year (99, [some (.ref 0), u1, u2, u3, u4], [], (mm L X I J)) else runI call iX11_year (124, [some (.ref 0), u1, u2, u3, u4], [], (mm L X I J)) := by
  refine ite_cong2 (fun e0 => sw_t dX11_year_55 (by rw [e0]; decide +kernel)) (fun e0 => ?_)
  refine ite_cong2 (fun e1 => sw_t dX11_year_55 (by rw [e1]; decide +kernel)) (fun e1 => ?_)
  refine ite_cong2 (fun e2 => sw_t dX11_year_55 (by rw [e2]; decide +kernel)) (fun e2 => ?_)
  exact sw_t dX11_year_55 (swT_dflt (vs := [(0 : Int), (1 : Int), (2 : Int)]) (by decide +kernel) (fun v hv => by simp only [List.mem_cons, List.not_mem_nil, or_false] at hv; rcases hv with rfl | rfl | rfl <;> first | exact ne_toInt (by decide +kernel) e0 | exact ne_toInt (by decide +kernel) e1 | exact ne_toInt (by decide +kernel) e2))
theorem q_X11_year_80 {call : CALL} {L X : Nat} {I : Nat → Nat → Int32} {J : Nat → Nat → Int64} {u1 : Option Value} {u2 : Option Value} {u3 : Option Value} {u4 : Option Value} : runI call iX11_year (80, [some (.ref 0), u1, u2, u3, u4], [], (mm L X I J)) = some (.inl (some (.int (I 66 3))), (mm L X I J)) := by
  refine Eq.trans (st1 dX11_year_80 rfl rfl) ?_
  refine Eq.trans (getRm dX11_year_81 cp_11_97 ka_0 rfl r_0_13) ?_
  refine Eq.trans (getIm dX11_year_84 cp_11_410 ka_66 (.inl rfl)) ?_
  exact ret0 dX11_year_87 rfl
theorem q_X11_year_88 {call : CALL} {L X : Nat} {I : Nat → Nat → Int32} {J : Nat → Nat → Int64} {u1 : Option Value} {u2 : Option Value} {u3 : Option Value} {u4 : Option Value} : runI call iX11_year (88, [some (.ref 0), u1, u2, u3, u4], [], (mm L X I J)) = bnd (call nX3_rowBits [.ref 67] (mm L X I J)) (fun v m' => runI call iX11_year (98, [some (.ref 0), u1, u2, u3, u4], v.toList ++ [], m')) := by
  refine Eq.trans (st1 dX11_year_88 rfl rfl) ?_
  refine Eq.trans (getRm dX11_year_89 cp_11_97 ka_0 rfl r_0_13) ?_
  refine Eq.trans (getRm dX11_year_92 cp_11_413 ka_66 rfl r_66_2) ?_
  exact iv0 dX11_year_95 rfl cp_11_209 rfl rfl (kd_ka ka_67) ka_67.1 (Nat.le_of_ble_eq_true rfl)
theorem q_X11_year_99 {call : CALL} {L X : Nat} {I : Nat → Nat → Int32} {J : Nat → Nat → Int64} {u1 : Option Value} {u2 : Option Value} {u3 : Option Value} {u4 : Option Value} : runI call iX11_year (99, [some (.ref 0), u1, u2, u3, u4], [], (mm L X I J)) = bnd (call nX8_arriving [.ref 52, .ref 67, .int (I 67 7)] (mm L X I J)) (fun v m' => runI call iX11_year (123, [some (.ref 0), u1, u2, u3, u4], v.toList ++ [], m')) := by
  refine Eq.trans (st1 dX11_year_99 rfl rfl) ?_
  refine Eq.trans (getRm dX11_year_100 cp_11_72 ka_0 rfl r_0_10) ?_
  refine Eq.trans (st1 dX11_year_103 rfl rfl) ?_
  refine Eq.trans (getRm dX11_year_104 cp_11_97 ka_0 rfl r_0_13) ?_
  refine Eq.trans (getRm dX11_year_107 cp_11_413 ka_66 rfl r_66_2) ?_
  refine Eq.trans (st1 dX11_year_110 rfl rfl) ?_
  refine Eq.trans (getRm dX11_year_111 cp_11_97 ka_0 rfl r_0_13) ?_
  refine Eq.trans (getRm dX11_year_114 cp_11_413 ka_66 rfl r_66_2) ?_
  refine Eq.trans (getIm dX11_year_117 cp_11_217 ka_67 (.inl rfl)) ?_
  exact iv0 dX11_year_120 rfl cp_11_218 rfl rfl (kd_ka ka_52) ka_52.1 (Nat.le_of_ble_eq_true rfl)
theorem q_X11_year_124 {call : CALL} {L X : Nat} {I : Nat → Nat → Int32} {J : Nat → Nat → Int64} {u1 : Option Value} {u2 : Option Value} {u3 : Option Value} {u4 : Option Value} : runI call iX11_year (124, [some (.ref 0), u1, u2, u3, u4], [], (mm L X I J)) = bnd (call nX3_allBursts [.ref 67] (mm L X I J)) (fun v m' => runI call iX11_year (134, [some (.ref 0), u1, u2, u3, u4], v.toList ++ [], m')) := by
  refine Eq.trans (st1 dX11_year_124 rfl rfl) ?_
  refine Eq.trans (getRm dX11_year_125 cp_11_97 ka_0 rfl r_0_13) ?_
  refine Eq.trans (getRm dX11_year_128 cp_11_413 ka_66 rfl r_66_2) ?_
  exact iv0 dX11_year_131 rfl cp_11_416 rfl rfl (kd_ka ka_67) ka_67.1 (Nat.le_of_ble_eq_true rfl)
theorem q_X11_year_98 {call : CALL} {L X : Nat} {I : Nat → Nat → Int32} {J : Nat → Nat → Int64} {u0 : Option Value} {u1 : Option Value} {u2 : Option Value} {u3 : Option Value} {u4 : Option Value} {s0 : Int32} : runI call iX11_year (98, [u0, u1, u2, u3, u4], [.int s0], (mm L X I J)) = some (.inl (some (.int s0)), (mm L X I J)) := by
  exact ret0 dX11_year_98 rfl
theorem q_X11_year_123 {call : CALL} {L X : Nat} {I : Nat → Nat → Int32} {J : Nat → Nat → Int64} {u0 : Option Value} {u1 : Option Value} {u2 : Option Value} {u3 : Option Value} {u4 : Option Value} {s0 : Int32} : runI call iX11_year (123, [u0, u1, u2, u3, u4], [.int s0], (mm L X I J)) = some (.inl (some (.int s0)), (mm L X I J)) := by
  exact ret0 dX11_year_123 rfl
theorem q_X11_year_134 {call : CALL} {L X : Nat} {I : Nat → Nat → Int32} {J : Nat → Nat → Int64} {u0 : Option Value} {u1 : Option Value} {u2 : Option Value} {u3 : Option Value} {u4 : Option Value} {s0 : Int32} : runI call iX11_year (134, [u0, u1, u2, u3, u4], [.int s0], (mm L X I J)) = some (.inl (some (.int s0)), (mm L X I J)) := by
  exact ret0 dX11_year_134 rfl
theorem q_X11_span_0 {call : CALL} {L X : Nat} {I : Nat → Nat → Int32} {J : Nat → Nat → Int64} {x1 : Int32} {x2 : Int32} {x3 : Int32} {x4 : Int32} {x5 : Int32} {x6 : Int32} : runI call iX11_span (0, [some (.ref 0), some (.int x1), some (.int x2), some (.int x3), some (.int x4), some (.int x5), some (.int x6), none, none, none, none], [], (mm L X I J)) = bndN (call nX11_within [.int x2, .int (nI 1), .int (nI 20)] (mm L X I J)) (fun v m' => runI call iX11_span (8, [some (.ref 0), some (.int x1), some (.int x2), some (.int x3), some (.int x4), some (.int x5), some (.int x6), none, none, none, none], v.toList ++ [.ref 0], m')) := by
  refine Eq.trans (st1 dX11_span_0 rfl rfl) ?_
  refine Eq.trans (st1 dX11_span_1 rfl rfl) ?_
  refine Eq.trans (xiconst dX11_span_2 ci_1) ?_
  refine Eq.trans (xbipush dX11_span_3 cb_20) ?_
  exact is2 dX11_span_5 cp_11_189 (Nat.le_of_ble_eq_true rfl) rfl rfl (Nat.le_of_ble_eq_true rfl)
theorem q_X11_span_8 {call : CALL} {L X : Nat} {I : Nat → Nat → Int32} {J : Nat → Nat → Int64} {x1 : Int32} {x2 : Int32} {x3 : Int32} {x4 : Int32} {x5 : Int32} {x6 : Int32} {u7 : Option Value} {u8 : Option Value} {u9 : Option Value} {u10 : Option Value} {s1 : Int32} : runI call iX11_span (8, [some (.ref 0), some (.int x1), some (.int x2), some (.int x3), some (.int x4), some (.int x5), some (.int x6), u7, u8, u9, u10], [.int s1, .ref 0], (mm L X I J)) = if s1 = (nI 0) then runI call iX11_span (36, [some (.ref 0), some (.int x1), some (.int x2), some (.int x3), some (.int x4), some (.int x5), some (.int x6), u7, u8, u9, u10], [.ref 0], (mm L X I J)) else bndN (call nX11_within [.int x3, .int (nI 1), .int (nI 96)] (mm L X I J)) (fun v m' => runI call iX11_span (18, [some (.ref 0), some (.int x1), some (.int x2), some (.int x3), some (.int x4), some (.int x5), some (.int x6), u7, u8, u9, u10], v.toList ++ [.ref 0], m')) := by
  refine Eq.trans (if_eq (tgt := 36) dX11_span_8 (by decide +kernel)) (ite_cong (fun _ => ?_) (fun _ => ?_))
  · rfl
  · refine Eq.trans (st1 dX11_span_11 rfl rfl) ?_
    refine Eq.trans (xiconst dX11_span_12 ci_1) ?_
    refine Eq.trans (xbipush dX11_span_13 cb_96) ?_
    exact is2 dX11_span_15 cp_11_189 (Nat.le_of_ble_eq_true rfl) rfl rfl (Nat.le_of_ble_eq_true rfl)
theorem q_X11_span_36 {call : CALL} {L X : Nat} {I : Nat → Nat → Int32} {J : Nat → Nat → Int64} {x1 : Int32} {x2 : Int32} {x3 : Int32} {x4 : Int32} {x5 : Int32} {x6 : Int32} {u7 : Option Value} {u8 : Option Value} {u9 : Option Value} {u10 : Option Value} : runI call iX11_span (36, [some (.ref 0), some (.int x1), some (.int x2), some (.int x3), some (.int x4), some (.int x5), some (.int x6), u7, u8, u9, u10], [.ref 0], (mm L X I J)) = runI call iX11_span (37, [some (.ref 0), some (.int x1), some (.int x2), some (.int x3), some (.int x4), some (.int x5), some (.int x6), u7, u8, u9, u10], [.int (nI 0), .ref 0], (mm L X I J)) := by
  refine Eq.trans (xiconst dX11_span_36 ci_0) ?_
  rfl
theorem q_X11_span_18 {call : CALL} {L X : Nat} {I : Nat → Nat → Int32} {J : Nat → Nat → Int64} {x1 : Int32} {x2 : Int32} {x3 : Int32} {x4 : Int32} {x5 : Int32} {x6 : Int32} {u7 : Option Value} {u8 : Option Value} {u9 : Option Value} {u10 : Option Value} {s1 : Int32} : runI call iX11_span (18, [some (.ref 0), some (.int x1), some (.int x2), some (.int x3), some (.int x4), some (.int x5), some (.int x6), u7, u8, u9, u10], [.int s1, .ref 0], (mm L X I J)) = if s1 = (nI 0) then runI call iX11_span (36, [some (.ref 0), some (.int x1), some (.int x2), some (.int x3), some (.int x4), some (.int x5), some (.int x6), u7, u8, u9, u10], [.ref 0], (mm L X I J)) else bndN (call nX11_within [.int x4, .int (nI 0), .int (nI 16)] (mm L X I J)) (fun v m' => runI call iX11_span (29, [some (.ref 0), some (.int x1), some (.int x2), some (.int x3), some (.int x4), some (.int x5), some (.int x6), u7, u8, u9, u10], v.toList ++ [.ref 0], m')) := by
  refine Eq.trans (if_eq (tgt := 36) dX11_span_18 (by decide +kernel)) (ite_cong (fun _ => ?_) (fun _ => ?_))
  · rfl
  · refine Eq.trans (st1 dX11_span_21 rfl rfl) ?_
    refine Eq.trans (xiconst dX11_span_23 ci_0) ?_
    refine Eq.trans (xbipush dX11_span_24 cb_16) ?_
    exact is2 dX11_span_26 cp_11_189 (Nat.le_of_ble_eq_true rfl) rfl rfl (Nat.le_of_ble_eq_true rfl)
theorem q_X11_span_37 {call : CALL} {L X : Nat} {I : Nat → Nat → Int32} {J : Nat → Nat → Int64} {x1 : Int32} {x2 : Int32} {x3 : Int32} {x4 : Int32} {x5 : Int32} {x6 : Int32} {u7 : Option Value} {u8 : Option Value} {u9 : Option Value} {u10 : Option Value} {s1 : Int32} : runI call iX11_span (37, [some (.ref 0), some (.int x1), some (.int x2), some (.int x3), some (.int x4), some (.int x5), some (.int x6), u7, u8, u9, u10], [.int s1, .ref 0], (mm L X I J)) = bnd (call nX11_expect [.ref 0, .int s1] (mm L X I J)) (fun v m' => runI call iX11_span (40, [some (.ref 0), some (.int x1), some (.int x2), some (.int x3), some (.int x4), some (.int x5), some (.int x6), u7, u8, u9, u10], v.toList ++ [], m')) := by
  exact iv0 dX11_span_37 rfl cp_11_193 rfl rfl (kd_ka ka_0) ka_0.1 (Nat.le_of_ble_eq_true rfl)
theorem q_X11_span_29 {call : CALL} {L X : Nat} {I : Nat → Nat → Int32} {J : Nat → Nat → Int64} {x1 : Int32} {x2 : Int32} {x3 : Int32} {x4 : Int32} {x5 : Int32} {x6 : Int32} {u7 : Option Value} {u8 : Option Value} {u9 : Option Value} {u10 : Option Value} {s1 : Int32} : runI call iX11_span (29, [some (.ref 0), some (.int x1), some (.int x2), some (.int x3), some (.int x4), some (.int x5), some (.int x6), u7, u8, u9, u10], [.int s1, .ref 0], (mm L X I J)) = if s1 = (nI 0) then runI call iX11_span (36, [some (.ref 0), some (.int x1), some (.int x2), some (.int x3), some (.int x4), some (.int x5), some (.int x6), u7, u8, u9, u10], [.ref 0], (mm L X I J)) else runI call iX11_span (37, [some (.ref 0), some (.int x1), some (.int x2), some (.int x3), some (.int x4), some (.int x5), some (.int x6), u7, u8, u9, u10], [.int (nI 1), .ref 0], (mm L X I J)) := by
  refine Eq.trans (if_eq (tgt := 36) dX11_span_29 (by decide +kernel)) (ite_cong (fun _ => ?_) (fun _ => ?_))
  · rfl
  · refine Eq.trans (xiconst dX11_span_32 ci_1) ?_
    refine Eq.trans (go_to (tgt := 37) dX11_span_33 (by decide +kernel)) ?_
    rfl
theorem q_X11_span_40 {call : CALL} {L X : Nat} {I : Nat → Nat → Int32} {J : Nat → Nat → Int64} {x1 : Int32} {x2 : Int32} {x3 : Int32} {x4 : Int32} {x5 : Int32} {x6 : Int32} {u7 : Option Value} {u8 : Option Value} {u9 : Option Value} {u10 : Option Value} : runI call iX11_span (40, [some (.ref 0), some (.int x1), some (.int x2), some (.int x3), some (.int x4), some (.int x5), some (.int x6), u7, u8, u9, u10], [], (mm L X I J)) = bndN (call nX11_within [.int x5, .int (nI 0), .int (nI 2)] (mm L X I J)) (fun v m' => runI call iX11_span (48, [some (.ref 0), some (.int x1), some (.int x2), some (.int x3), some (.int x4), some (.int x5), some (.int x6), u7, u8, u9, u10], v.toList ++ [.ref 0], m')) := by
  refine Eq.trans (st1 dX11_span_40 rfl rfl) ?_
  refine Eq.trans (st1 dX11_span_41 rfl rfl) ?_
  refine Eq.trans (xiconst dX11_span_43 ci_0) ?_
  refine Eq.trans (xiconst dX11_span_44 ci_2) ?_
  exact is2 dX11_span_45 cp_11_189 (Nat.le_of_ble_eq_true rfl) rfl rfl (Nat.le_of_ble_eq_true rfl)
theorem q_X11_span_48 {call : CALL} {L X : Nat} {I : Nat → Nat → Int32} {J : Nat → Nat → Int64} {x1 : Int32} {x2 : Int32} {x3 : Int32} {x4 : Int32} {x5 : Int32} {x6 : Int32} {u7 : Option Value} {u8 : Option Value} {u9 : Option Value} {u10 : Option Value} {s1 : Int32} : runI call iX11_span (48, [some (.ref 0), some (.int x1), some (.int x2), some (.int x3), some (.int x4), some (.int x5), some (.int x6), u7, u8, u9, u10], [.int s1, .ref 0], (mm L X I J)) = if s1 = (nI 0) then runI call iX11_span (73, [some (.ref 0), some (.int x1), some (.int x2), some (.int x3), some (.int x4), some (.int x5), some (.int x6), u7, u8, u9, u10], [.ref 0], (mm L X I J)) else bndN (call nX11_within [.int x6, .int (nI 0), .int ((I 3 2) - (nI 1))] (mm L X I J)) (fun v m' => runI call iX11_span (66, [some (.ref 0), some (.int x1), some (.int x2), some (.int x3), some (.int x4), some (.int x5), some (.int x6), u7, u8, u9, u10], v.toList ++ [.ref 0], m')) := by
  refine Eq.trans (if_eq (tgt := 73) dX11_span_48 (by decide +kernel)) (ite_cong (fun _ => ?_) (fun _ => ?_))
  · rfl
  · refine Eq.trans (st1 dX11_span_51 rfl rfl) ?_
    refine Eq.trans (xiconst dX11_span_53 ci_0) ?_
    refine Eq.trans (st1 dX11_span_54 rfl rfl) ?_
    refine Eq.trans (getRm dX11_span_55 cp_11_19 ka_0 rfl r_0_1) ?_
    refine Eq.trans (getIm dX11_span_58 cp_11_200 ka_3 (.inl rfl)) ?_
    refine Eq.trans (xiconst dX11_span_61 ci_1) ?_
    refine Eq.trans (st1 dX11_span_62 rfl rfl) ?_
    exact is2 dX11_span_63 cp_11_189 (Nat.le_of_ble_eq_true rfl) rfl rfl (Nat.le_of_ble_eq_true rfl)
theorem q_X11_span_73 {call : CALL} {L X : Nat} {I : Nat → Nat → Int32} {J : Nat → Nat → Int64} {x1 : Int32} {x2 : Int32} {x3 : Int32} {x4 : Int32} {x5 : Int32} {x6 : Int32} {u7 : Option Value} {u8 : Option Value} {u9 : Option Value} {u10 : Option Value} : runI call iX11_span (73, [some (.ref 0), some (.int x1), some (.int x2), some (.int x3), some (.int x4), some (.int x5), some (.int x6), u7, u8, u9, u10], [.ref 0], (mm L X I J)) = runI call iX11_span (74, [some (.ref 0), some (.int x1), some (.int x2), some (.int x3), some (.int x4), some (.int x5), some (.int x6), u7, u8, u9, u10], [.int (nI 0), .ref 0], (mm L X I J)) := by
  refine Eq.trans (xiconst dX11_span_73 ci_0) ?_
  rfl
theorem q_X11_span_66 {call : CALL} {L X : Nat} {I : Nat → Nat → Int32} {J : Nat → Nat → Int64} {x1 : Int32} {x2 : Int32} {x3 : Int32} {x4 : Int32} {x5 : Int32} {x6 : Int32} {u7 : Option Value} {u8 : Option Value} {u9 : Option Value} {u10 : Option Value} {s1 : Int32} : runI call iX11_span (66, [some (.ref 0), some (.int x1), some (.int x2), some (.int x3), some (.int x4), some (.int x5), some (.int x6), u7, u8, u9, u10], [.int s1, .ref 0], (mm L X I J)) = if s1 = (nI 0) then runI call iX11_span (73, [some (.ref 0), some (.int x1), some (.int x2), some (.int x3), some (.int x4), some (.int x5), some (.int x6), u7, u8, u9, u10], [.ref 0], (mm L X I J)) else runI call iX11_span (74, [some (.ref 0), some (.int x1), some (.int x2), some (.int x3), some (.int x4), some (.int x5), some (.int x6), u7, u8, u9, u10], [.int (nI 1), .ref 0], (mm L X I J)) := by
  refine Eq.trans (if_eq (tgt := 73) dX11_span_66 (by decide +kernel)) (ite_cong (fun _ => ?_) (fun _ => ?_))
  · rfl
  · refine Eq.trans (xiconst dX11_span_69 ci_1) ?_
    refine Eq.trans (go_to (tgt := 74) dX11_span_70 (by decide +kernel)) ?_
    rfl
theorem q_X11_span_74 {call : CALL} {L X : Nat} {I : Nat → Nat → Int32} {J : Nat → Nat → Int64} {x1 : Int32} {x2 : Int32} {x3 : Int32} {x4 : Int32} {x5 : Int32} {x6 : Int32} {u7 : Option Value} {u8 : Option Value} {u9 : Option Value} {u10 : Option Value} {s1 : Int32} : runI call iX11_span (74, [some (.ref 0), some (.int x1), some (.int x2), some (.int x3), some (.int x4), some (.int x5), some (.int x6), u7, u8, u9, u10], [.int s1, .ref 0], (mm L X I J)) = bnd (call nX11_expect [.ref 0, .int s1] (mm L X I J)) (fun v m' => runI call iX11_span (77, [some (.ref 0), some (.int x1), some (.int x2), some (.int x3), some (.int x4), some (.int x5), some (.int x6), u7, u8, u9, u10], v.toList ++ [], m')) := by
  exact iv0 dX11_span_74 rfl cp_11_193 rfl rfl (kd_ka ka_0) ka_0.1 (Nat.le_of_ble_eq_true rfl)
theorem q_X11_span_77 {call : CALL} {L X : Nat} {I : Nat → Nat → Int32} {J : Nat → Nat → Int64} {x1 : Int32} {x2 : Int32} {x3 : Int32} {x4 : Int32} {x5 : Int32} {x6 : Int32} {u7 : Option Value} {u8 : Option Value} {u9 : Option Value} {u10 : Option Value} : runI call iX11_span (77, [some (.ref 0), some (.int x1), some (.int x2), some (.int x3), some (.int x4), some (.int x5), some (.int x6), u7, u8, u9, u10], [], (mm L X I J)) = runI call iX11_span (90, [some (.ref 0), some (.int x1), some (.int x2), some (.int x3), some (.int x4), some (.int x5), some (.int x6), some (.int (nI 6)), some (.int (nI 0)), some (.int (nI 0)), some (.int (nI 0))], [], (mm L X I J)) := by
  refine Eq.trans (xbipush dX11_span_77 cb_6) ?_
  refine Eq.trans (st1 dX11_span_79 rfl rfl) ?_
  refine Eq.trans (xiconst dX11_span_81 ci_0) ?_
  refine Eq.trans (st1 dX11_span_82 rfl rfl) ?_
  refine Eq.trans (xiconst dX11_span_84 ci_0) ?_
  refine Eq.trans (st1 dX11_span_85 rfl rfl) ?_
  refine Eq.trans (xiconst dX11_span_87 ci_0) ?_
  refine Eq.trans (st1 dX11_span_88 rfl rfl) ?_
  rfl
theorem q_X11_span_90 {call : CALL} {L X : Nat} {I : Nat → Nat → Int32} {J : Nat → Nat → Int64} {x1 : Int32} {x2 : Int32} {x3 : Int32} {x4 : Int32} {x5 : Int32} {x6 : Int32} {x7 : Int32} {x8 : Int32} {x9 : Int32} {x10 : Int32} : runI call iX11_span (90, [some (.ref 0), some (.int x1), some (.int x2), some (.int x3), some (.int x4), some (.int x5), some (.int x6), some (.int x7), some (.int x8), some (.int x9), some (.int x10)], [], (mm L X I J)) = if x2 ≤ x10 then if x5 = (nI 0) then some (.inl (some (.int x7)), (mm L X I J)) else if x5 = (nI 1) then some (.inl (some (.int x8)), (mm L X I J)) else some (.inl (some (.int x9)), (mm L X I J)) else bnd (call nX10_live [.ref 66, .ref 43, .int (x1 + x10), .int x3, .int x4] (mm L X I J)) (fun v m' => runI call iX11_span (114, [some (.ref 0), some (.int x1), some (.int x2), some (.int x3), some (.int x4), some (.int x5), some (.int x6), some (.int x7), some (.int x8), some (.int x9), some (.int x10)], v.toList ++ [], m')) := by
  refine Eq.trans (st1 dX11_span_90 rfl rfl) ?_
  refine Eq.trans (st1 dX11_span_92 rfl rfl) ?_
  refine Eq.trans (ic_ge (tgt := 174) dX11_span_93 (by decide +kernel)) (ite_cong (fun _ => ?_) (fun _ => ?_))
  · refine Eq.trans (st1 dX11_span_174 rfl rfl) ?_
    refine Eq.trans (if_ne (tgt := 184) dX11_span_176 (by decide +kernel)) (ite_cong (fun _ => ?_) (fun _ => ?_))
    · refine Eq.trans (st1 dX11_span_179 rfl rfl) ?_
      refine Eq.trans (go_to (tgt := 197) dX11_span_181 (by decide +kernel)) ?_
      exact ret0 dX11_span_197 rfl
    · refine Eq.trans (st1 dX11_span_184 rfl rfl) ?_
      refine Eq.trans (xiconst dX11_span_186 ci_1) ?_
      refine Eq.trans (ic_ne (tgt := 195) dX11_span_187 (by decide +kernel)) (ite_cong (fun _ => ?_) (fun _ => ?_))
      · refine Eq.trans (st1 dX11_span_190 rfl rfl) ?_
        refine Eq.trans (go_to (tgt := 197) dX11_span_192 (by decide +kernel)) ?_
        exact ret0 dX11_span_197 rfl
      · refine Eq.trans (st1 dX11_span_195 rfl rfl) ?_
        exact ret0 dX11_span_197 rfl
  · refine Eq.trans (st1 dX11_span_96 rfl rfl) ?_
    refine Eq.trans (getRm dX11_span_97 cp_11_97 ka_0 rfl r_0_13) ?_
    refine Eq.trans (st1 dX11_span_100 rfl rfl) ?_
    refine Eq.trans (getRm dX11_span_101 cp_11_56 ka_0 rfl r_0_8) ?_
    refine Eq.trans (st1 dX11_span_104 rfl rfl) ?_
    refine Eq.trans (st1 dX11_span_105 rfl rfl) ?_
    refine Eq.trans (st1 dX11_span_107 rfl rfl) ?_
    refine Eq.trans (st1 dX11_span_108 rfl rfl) ?_
    refine Eq.trans (st1 dX11_span_109 rfl rfl) ?_
    exact iv0 dX11_span_111 rfl cp_11_406 rfl rfl (kd_ka ka_66) ka_66.1 (Nat.le_of_ble_eq_true rfl)
theorem q_X11_span_114 {call : CALL} {L X : Nat} {I : Nat → Nat → Int32} {J : Nat → Nat → Int64} {x1 : Int32} {x2 : Int32} {x3 : Int32} {x4 : Int32} {x5 : Int32} {x6 : Int32} {x7 : Int32} {x8 : Int32} {x9 : Int32} {x10 : Int32} : runI call iX11_span (114, [some (.ref 0), some (.int x1), some (.int x2), some (.int x3), some (.int x4), some (.int x5), some (.int x6), some (.int x7), some (.int x8), some (.int x9), some (.int x10)], [], (mm L X I J)) = bnd (call nX3_outBits [.ref 67] (mm L X I J)) (fun v m' => runI call iX11_span (160, [some (.ref 0), some (.int x1), some (.int x2), some (.int x3), some (.int x4), some (.int x5), some (.int x6), some (.int (if (I 67 5) < x7 then (I 67 5) else x7)), some (.int (if x8 < (I 67 5) then (I 67 5) else x8)), some (.int x9), some (.int x10)], v.toList ++ [.int x9], m')) := by
  refine Eq.trans (st1 dX11_span_114 rfl rfl) ?_
  refine Eq.trans (st1 dX11_span_116 rfl rfl) ?_
  refine Eq.trans (getRm dX11_span_117 cp_11_97 ka_0 rfl r_0_13) ?_
  refine Eq.trans (getRm dX11_span_120 cp_11_413 ka_66 rfl r_66_2) ?_
  refine Eq.trans (getIm dX11_span_123 cp_11_206 ka_67 (.inl rfl)) ?_
  refine Eq.trans (imin dX11_span_126 cp_11_392 (Nat.le_of_ble_eq_true rfl)) ?_
  refine Eq.trans (st1 dX11_span_129 rfl rfl) ?_
  refine Eq.trans (st1 dX11_span_131 rfl rfl) ?_
  refine Eq.trans (st1 dX11_span_133 rfl rfl) ?_
  refine Eq.trans (getRm dX11_span_134 cp_11_97 ka_0 rfl r_0_13) ?_
  refine Eq.trans (getRm dX11_span_137 cp_11_413 ka_66 rfl r_66_2) ?_
  refine Eq.trans (getIm dX11_span_140 cp_11_206 ka_67 (.inl rfl)) ?_
  refine Eq.trans (imax dX11_span_143 cp_11_419 (Nat.le_of_ble_eq_true rfl)) ?_
  refine Eq.trans (st1 dX11_span_146 rfl rfl) ?_
  refine Eq.trans (st1 dX11_span_148 rfl rfl) ?_
  refine Eq.trans (st1 dX11_span_150 rfl rfl) ?_
  refine Eq.trans (getRm dX11_span_151 cp_11_97 ka_0 rfl r_0_13) ?_
  refine Eq.trans (getRm dX11_span_154 cp_11_413 ka_66 rfl r_66_2) ?_
  exact iv0 dX11_span_157 rfl cp_11_222 rfl rfl (kd_ka ka_67) ka_67.1 (Nat.le_of_ble_eq_true rfl)
theorem q_X11_span_160 {call : CALL} {L X : Nat} {I : Nat → Nat → Int32} {J : Nat → Nat → Int64} {x1 : Int32} {x2 : Int32} {x3 : Int32} {x4 : Int32} {x5 : Int32} {x6 : Int32} {x7 : Int32} {x8 : Int32} {u9 : Option Value} {x10 : Int32} {s0 : Int32} {s1 : Int32} : runI call iX11_span (160, [some (.ref 0), some (.int x1), some (.int x2), some (.int x3), some (.int x4), some (.int x5), some (.int x6), some (.int x7), some (.int x8), u9, some (.int x10)], [.int s1, .int s0], (mm L X I J)) = bndN (call nX11_bit [.int s1, .int x6] (mm L X I J)) (fun v m' => runI call iX11_span (165, [some (.ref 0), some (.int x1), some (.int x2), some (.int x3), some (.int x4), some (.int x5), some (.int x6), some (.int x7), some (.int x8), u9, some (.int x10)], v.toList ++ [.int s0], m')) := by
  refine Eq.trans (st1 dX11_span_160 rfl rfl) ?_
  exact is2 dX11_span_162 cp_11_258 (Nat.le_of_ble_eq_true rfl) rfl rfl (Nat.le_of_ble_eq_true rfl)
theorem q_X11_span_165 {call : CALL} {L X : Nat} {I : Nat → Nat → Int32} {J : Nat → Nat → Int64} {x1 : Int32} {x2 : Int32} {x3 : Int32} {x4 : Int32} {x5 : Int32} {x6 : Int32} {x7 : Int32} {x8 : Int32} {u9 : Option Value} {x10 : Int32} {s0 : Int32} {s1 : Int32} : runI call iX11_span (165, [some (.ref 0), some (.int x1), some (.int x2), some (.int x3), some (.int x4), some (.int x5), some (.int x6), some (.int x7), some (.int x8), u9, some (.int x10)], [.int s1, .int s0], (mm L X I J)) = runI call iX11_span (90, [some (.ref 0), some (.int x1), some (.int x2), some (.int x3), some (.int x4), some (.int x5), some (.int x6), some (.int x7), some (.int x8), some (.int (s0 + s1)), some (.int (x10 + (nI 1)))], [], (mm L X I J)) := by
  refine Eq.trans (st1 dX11_span_165 rfl rfl) ?_
  refine Eq.trans (st1 dX11_span_166 rfl rfl) ?_
  refine Eq.trans (xinc2 dX11_span_168 ci_1 rfl (Nat.le_of_ble_eq_true rfl) rfl) ?_
  refine Eq.trans (go_to (tgt := 90) dX11_span_171 (by decide +kernel)) ?_
  rfl
theorem q_X12_tellsNothing_0 {call : CALL} {L X : Nat} {I : Nat → Nat → Int32} {J : Nat → Nat → Int64}  : runI call iX12_tellsNothing (0, [some (.ref 72), none], [], (mm L X I J)) = runI call iX12_tellsNothing (2, [some (.ref 72), some (.int (nI 0))], [], (mm L X I J)) := by
  refine Eq.trans (xiconst dX12_tellsNothing_0 ci_0) ?_
  refine Eq.trans (st1 dX12_tellsNothing_1 rfl rfl) ?_
  rfl
theorem q_X12_tellsNothing_2 {call : CALL} {L X : Nat} {I : Nat → Nat → Int32} {J : Nat → Nat → Int64} {x1 : Int32} : runI call iX12_tellsNothing (2, [some (.ref 72), some (.int x1)], [], (mm L X I J)) = if (nI 3) ≤ x1 then some (.inl none, (mm L X (up2 I 75 3 (nI 60)) J)) else gd (inb x1 4) (runI call iX12_tellsNothing (2, [some (.ref 72), some (.int (x1 + (nI 1)))], [], (mm L X (up2 I 75 (x1).toNatClampNeg (nI 0)) J))) := by
  refine Eq.trans (st1 dX12_tellsNothing_2 rfl rfl) ?_
  refine Eq.trans (xiconst dX12_tellsNothing_3 ci_3) ?_
  refine Eq.trans (ic_ge (tgt := 20) dX12_tellsNothing_4 (by decide +kernel)) (ite_cong (fun _ => ?_) (fun _ => ?_))
  · refine Eq.trans (st1 dX12_tellsNothing_20 rfl rfl) ?_
    refine Eq.trans (getRm dX12_tellsNothing_21 cp_12_20 ka_72 rfl r_72_11) ?_
    refine Eq.trans (xiconst dX12_tellsNothing_24 ci_3) ?_
    refine Eq.trans (xbipush dX12_tellsNothing_25 cb_60) ?_
    refine Eq.trans (as1c dX12_tellsNothing_27 ka_75 (by decide +kernel) nc_3) ?_
    exact ret3 dX12_tellsNothing_28 (.inl rfl)
  · refine Eq.trans (st1 dX12_tellsNothing_7 rfl rfl) ?_
    refine Eq.trans (getRm dX12_tellsNothing_8 cp_12_20 ka_72 rfl r_72_11) ?_
    refine Eq.trans (st1 dX12_tellsNothing_11 rfl rfl) ?_
    refine Eq.trans (xiconst dX12_tellsNothing_12 ci_0) ?_
    refine Eq.trans (as1m dX12_tellsNothing_13 ka_75) (gd_congr fun g1 => ?_)
    refine Eq.trans (xinc2 dX12_tellsNothing_14 ci_1 rfl (Nat.le_of_ble_eq_true rfl) rfl) ?_
    refine Eq.trans (go_to (tgt := 2) dX12_tellsNothing_17 (by decide +kernel)) ?_
    rfl
