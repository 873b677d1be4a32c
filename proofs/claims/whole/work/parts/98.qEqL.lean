/-! EQUATIONS OF THE LAW (written by gen_eq.py) -/
theorem q_L_law__23 {call : CALL} {L X : Nat} {I : Nat → Nat → Int32} {J : Nat → Nat → Int64} {x4 : Int32} {u5 : Option Value} {u6 : Option Value} {u7 : Option Value} : runI call iLaw (23, [some (.ref 1000000), some (.ref 0), some (.ref 72), some (.ref 632), some (.int x4), u5, u6, u7], [], (mm L X I J)) = if ((nI L) - (nI 10)) < x4 then some (.inl (some (.int (nI 1))), (mm L X I J)) else gd (inb x4 L) (runI call iLaw (40, [some (.ref 1000000), some (.ref 0), some (.ref 72), some (.ref 632), some (.int x4), u5, u6, u7], [.int ((I 1000000 (x4).toNatClampNeg) &&& (nI 63))], (mm L X I J))) := by
  refine Eq.trans (st1 dL_law__23 rfl rfl) ?_
  refine Eq.trans (st1 dL_law__25 rfl rfl) ?_
  refine Eq.trans (alen dL_law__26 kd_XB (.inr ⟨by decide, by decide⟩)) ?_
  refine Eq.trans (xbipush dL_law__27 cb_10) ?_
  refine Eq.trans (st1 dL_law__29 rfl rfl) ?_
  refine Eq.trans (ic_gt (tgt := 2429) dL_law__30 (by decide +kernel)) (ite_cong (fun _ => ?_) (fun _ => ?_))
  · refine Eq.trans (xiconst dL_law__2429 ci_1) ?_
    exact ret1 dL_law__2430 rfl (.inr rfl)
  · refine Eq.trans (st1 dL_law__33 rfl rfl) ?_
    refine Eq.trans (st1 dL_law__34 rfl rfl) ?_
    refine Eq.trans (al5 dL_law__36 kd_XB (by decide)) (gd_congr fun g1 => ?_)
    refine Eq.trans (xbipush dL_law__37 cb_63) ?_
    refine Eq.trans (st1 dL_law__39 rfl rfl) ?_
    rfl
theorem q_L_law__40 {call : CALL} {L X : Nat} {I : Nat → Nat → Int32} {J : Nat → Nat → Int64} {x4 : Int32} {u5 : Option Value} {u6 : Option Value} {u7 : Option Value} {s0 : Int32} : runI call iLaw (40, [some (.ref 1000000), some (.ref 0), some (.ref 72), some (.ref 632), some (.int x4), u5, u6, u7], [.int s0], (mm L X I J)) = if s0 = (nI 0) then runI call iLaw (208, [some (.ref 1000000), some (.ref 0), some (.ref 72), some (.ref 632), some (.int x4), u5, u6, u7], [], (mm L X I J)) else if s0 = (nI 1) then runI call iLaw (281, [some (.ref 1000000), some (.ref 0), some (.ref 72), some (.ref 632), some (.int x4), u5, u6, u7], [], (mm L X I J)) else if s0 = (nI 2) then runI call iLaw (337, [some (.ref 1000000), some (.ref 0), some (.ref 72), some (.ref 632), some (.int x4), u5, u6, u7], [], (mm L X I J)) else if s0 = (nI 3) then runI call iLaw (393, [some (.ref 1000000), some (.ref 0), some (.ref 72), some (.ref 632), some (.int x4), u5, u6, u7], [], (mm L X I J)) else if s0 = (nI 4) then runI call iLaw (449, [some (.ref 1000000), some (.ref 0), some (.ref 72), some (.ref 632), some (.int x4), u5, u6, u7], [], (mm L X I J)) else if s0 = (nI 5) then runI call iLaw (505, [some (.ref 1000000), some (.ref 0), some (.ref 72), some (.ref 632), some (.int x4), u5, u6, u7], [], (mm L X I J)) else if s0 = (nI 6) then runI call iLaw (518, [some (.ref 1000000), some (.ref 0), some (.ref 72), some (.ref 632), some (.int x4), u5, u6, u7], [], (mm L X I J)) else if s0 = (nI 7) then runI call iLaw (531, [some (.ref 1000000), some (.ref 0), some (.ref 72), some (.ref 632), some (.int x4), u5, u6, u7], [], (mm L X I J)) else if s0 = (nI 8) then runI call iLaw (587, [some (.ref 1000000), some (.ref 0), some (.ref 72), some (.ref 632), some (.int x4), u5, u6, u7], [], (mm L X I J)) else if s0 = (nI 9) then runI call iLaw (655, [some (.ref 1000000), some (.ref 0), some (.ref 72), some (.ref 632), some (.int x4), u5, u6, u7], [], (mm L X I J)) else if s0 = (nI 10) then runI call iLaw (723, [some (.ref 1000000), some (.ref 0), some (.ref 72), some (.ref 632), some (.int x4), u5, u6, u7], [], (mm L X I J)) else if s0 = (nI 11) then runI call iLaw (791, [some (.ref 1000000), some (.ref 0), some (.ref 72), some (.ref 632), some (.int x4), u5, u6, u7], [], (mm L X I J)) else if s0 = (nI 12) then runI call iLaw (847, [some (.ref 1000000), some (.ref 0), some (.ref 72), some (.ref 632), some (.int x4), u5, u6, u7], [], (mm L X I J)) else if s0 = (nI 13) then runI call iLaw (903, [some (.ref 1000000), some (.ref 0), some (.ref 72), some (.ref 632), some (.int x4), u5, u6, u7], [], (mm L X I J)) else if s0 = (nI 14) then runI call iLaw (1063, [some (.ref 1000000), some (.ref 0), some (.ref 72), some (.ref 632), some (.int x4), u5, u6, u7], [], (mm L X I J)) else if s0 = (nI 15) then runI call iLaw (1138, [some (.ref 1000000), some (.ref 0), some (.ref 72), some (.ref 632), some (.int x4), u5, u6, u7], [], (mm L X I J)) else if s0 = (nI 16) then runI call iLaw (1201, [some (.ref 1000000), some (.ref 0), some (.ref 72), some (.ref 632), some (.int x4), u5, u6, u7], [], (mm L X I J)) else if s0 = (nI 17) then runI call iLaw (1257, [some (.ref 1000000), some (.ref 0), some (.ref 72), some (.ref 632), some (.int x4), u5, u6, u7], [], (mm L X I J)) else if s0 = (nI 18) then runI call iLaw (1313, [some (.ref 1000000), some (.ref 0), some (.ref 72), some (.ref 632), some (.int x4), u5, u6, u7], [], (mm L X I J)) else if s0 = (nI 19) then runI call iLaw (1369, [some (.ref 1000000), some (.ref 0), some (.ref 72), some (.ref 632), some (.int x4), u5, u6, u7], [], (mm L X I J)) else if s0 = (nI 20) then runI call iLaw (1425, [some (.ref 1000000), some (.ref 0), some (.ref 72), some (.ref 632), some (.int x4), u5, u6, u7], [], (mm L X I J)) else if s0 = (nI 21) then runI call iLaw (1493, [some (.ref 1000000), some (.ref 0), some (.ref 72), some (.ref 632), some (.int x4), u5, u6, u7], [], (mm L X I J)) else if s0 = (nI 22) then runI call iLaw (1549, [some (.ref 1000000), some (.ref 0), some (.ref 72), some (.ref 632), some (.int x4), u5, u6, u7], [], (mm L X I J)) else if s0 = (nI 23) then runI call iLaw (1605, [some (.ref 1000000), some (.ref 0), some (.ref 72), some (.ref 632), some (.int x4), u5, u6, u7], [], (mm L X I J)) else if s0 = (nI 24) then runI call iLaw (1661, [some (.ref 1000000), some (.ref 0), some (.ref 72), some (.ref 632), some (.int x4), u5, u6, u7], [], (mm L X I J)) else if s0 = (nI 25) then runI call iLaw (1674, [some (.ref 1000000), some (.ref 0), some (.ref 72), some (.ref 632), some (.int x4), u5, u6, u7], [], (mm L X I J)) else if s0 = (nI 26) then runI call iLaw (1753, [some (.ref 1000000), some (.ref 0), some (.ref 72), some (.ref 632), some (.int x4), u5, u6, u7], [], (mm L X I J)) else if s0 = (nI 27) then runI call iLaw (1833, [some (.ref 1000000), some (.ref 0), some (.ref 72), some (.ref 632), some (.int x4), u5, u6, u7], [], (mm L X I J)) else if s0 = (nI 28) then runI call iLaw (1913, [some (.ref 1000000), some (.ref 0), some (.ref 72), some (.ref 632), some (.int x4), u5, u6, u7], [], (mm L X I J)) else if s0 = (nI 29) then runI call iLaw (1969, [some (.ref 1000000), some (.ref 0), some (.ref 72), some (.ref 632), some (.int x4), u5, u6, u7], [], (mm L X I J)) else if s0 = (nI 30) then runI call iLaw (2025, [some (.ref 1000000), some (.ref 0), some (.ref 72), some (.ref 632), some (.int x4), u5, u6, u7], [], (mm L X I J)) else if s0 = (nI 31) then runI call iLaw (2081, [some (.ref 1000000), some (.ref 0), some (.ref 72), some (.ref 632), some (.int x4), u5, u6, u7], [], (mm L X I J)) else if s0 = (nI 32) then runI call iLaw (2137, [some (.ref 1000000), some (.ref 0), some (.ref 72), some (.ref 632), some (.int x4), u5, u6, u7], [], (mm L X I J)) else if s0 = (nI 33) then runI call iLaw (2229, [some (.ref 1000000), some (.ref 0), some (.ref 72), some (.ref 632), some (.int x4), u5, u6, u7], [], (mm L X I J)) else if s0 = (nI 34) then runI call iLaw (2347, [some (.ref 1000000), some (.ref 0), some (.ref 72), some (.ref 632), some (.int x4), u5, u6, u7], [], (mm L X I J)) else if s0 = (nI 35) then runI call iLaw (2360, [some (.ref 1000000), some (.ref 0), some (.ref 72), some (.ref 632), some (.int x4), u5, u6, u7], [], (mm L X I J)) else if s0 = (nI 36) then runI call iLaw (2373, [some (.ref 1000000), some (.ref 0), some (.ref 72), some (.ref 632), some (.int x4), u5, u6, u7], [], (mm L X I J)) else if s0 = (nI 37) then runI call iLaw (2398, [some (.ref 1000000), some (.ref 0), some (.ref 72), some (.ref 632), some (.int x4), u5, u6, u7], [], (mm L X I J)) else runI call iLaw (2423, [some (.ref 1000000), some (.ref 0), some (.ref 72), some (.ref 632), some (.int x4), u5, u6, u7], [], (mm L X I J)) := by
  refine ite_cong2 (fun e0 => sw_t dL_law__40 (by rw [e0]; decide +kernel)) (fun e0 => ?_)
  refine ite_cong2 (fun e1 => sw_t dL_law__40 (by rw [e1]; decide +kernel)) (fun e1 => ?_)
  refine ite_cong2 (fun e2 => sw_t dL_law__40 (by rw [e2]; decide +kernel)) (fun e2 => ?_)
  refine ite_cong2 (fun e3 => sw_t dL_law__40 (by rw [e3]; decide +kernel)) (fun e3 => ?_)
  refine ite_cong2 (fun e4 => sw_t dL_law__40 (by rw [e4]; decide +kernel)) (fun e4 => ?_)
  refine ite_cong2 (fun e5 => sw_t dL_law__40 (by rw [e5]; decide +kernel)) (fun e5 => ?_)
  refine ite_cong2 (fun e6 => sw_t dL_law__40 (by rw [e6]; decide +kernel)) (fun e6 => ?_)
  refine ite_cong2 (fun e7 => sw_t dL_law__40 (by rw [e7]; decide +kernel)) (fun e7 => ?_)
  refine ite_cong2 (fun e8 => sw_t dL_law__40 (by rw [e8]; decide +kernel)) (fun e8 => ?_)
  refine ite_cong2 (fun e9 => sw_t dL_law__40 (by rw [e9]; decide +kernel)) (fun e9 => ?_)
  refine ite_cong2 (fun e10 => sw_t dL_law__40 (by rw [e10]; decide +kernel)) (fun e10 => ?_)
  refine ite_cong2 (fun e11 => sw_t dL_law__40 (by rw [e11]; decide +kernel)) (fun e11 => ?_)
  refine ite_cong2 (fun e12 => sw_t dL_law__40 (by rw [e12]; decide +kernel)) (fun e12 => ?_)
  refine ite_cong2 (fun e13 => sw_t dL_law__40 (by rw [e13]; decide +kernel)) (fun e13 => ?_)
  refine ite_cong2 (fun e14 => sw_t dL_law__40 (by rw [e14]; decide +kernel)) (fun e14 => ?_)
  refine ite_cong2 (fun e15 => sw_t dL_law__40 (by rw [e15]; decide +kernel)) (fun e15 => ?_)
  refine ite_cong2 (fun e16 => sw_t dL_law__40 (by rw [e16]; decide +kernel)) (fun e16 => ?_)
  refine ite_cong2 (fun e17 => sw_t dL_law__40 (by rw [e17]; decide +kernel)) (fun e17 => ?_)
  refine ite_cong2 (fun e18 => sw_t dL_law__40 (by rw [e18]; decide +kernel)) (fun e18 => ?_)
  refine ite_cong2 (fun e19 => sw_t dL_law__40 (by rw [e19]; decide +kernel)) (fun e19 => ?_)
  refine ite_cong2 (fun e20 => sw_t dL_law__40 (by rw [e20]; decide +kernel)) (fun e20 => ?_)
  refine ite_cong2 (fun e21 => sw_t dL_law__40 (by rw [e21]; decide +kernel)) (fun e21 => ?_)
  refine ite_cong2 (fun e22 => sw_t dL_law__40 (by rw [e22]; decide +kernel)) (fun e22 => ?_)
  refine ite_cong2 (fun e23 => sw_t dL_law__40 (by rw [e23]; decide +kernel)) (fun e23 => ?_)
  refine ite_cong2 (fun e24 => sw_t dL_law__40 (by rw [e24]; decide +kernel)) (fun e24 => ?_)
  refine ite_cong2 (fun e25 => sw_t dL_law__40 (by rw [e25]; decide +kernel)) (fun e25 => ?_)
  refine ite_cong2 (fun e26 => sw_t dL_law__40 (by rw [e26]; decide +kernel)) (fun e26 => ?_)
  refine ite_cong2 (fun e27 => sw_t dL_law__40 (by rw [e27]; decide +kernel)) (fun e27 => ?_)
  refine ite_cong2 (fun e28 => sw_t dL_law__40 (by rw [e28]; decide +kernel)) (fun e28 => ?_)
  refine ite_cong2 (fun e29 => sw_t dL_law__40 (by rw [e29]; decide +kernel)) (fun e29 => ?_)
  refine ite_cong2 (fun e30 => sw_t dL_law__40 (by rw [e30]; decide +kernel)) (fun e30 => ?_)
  refine ite_cong2 (fun e31 => sw_t dL_law__40 (by rw [e31]; decide +kernel)) (fun e31 => ?_)
  refine ite_cong2 (fun e32 => sw_t dL_law__40 (by rw [e32]; decide +kernel)) (fun e32 => ?_)
  refine ite_cong2 (fun e33 => sw_t dL_law__40 (by rw [e33]; decide +kernel)) (fun e33 => ?_)
  refine ite_cong2 (fun e34 => sw_t dL_law__40 (by rw [e34]; decide +kernel)) (fun e34 => ?_)
  refine ite_cong2 (fun e35 => sw_t dL_law__40 (by rw [e35]; decide +kernel)) (fun e35 => ?_)
  refine ite_cong2 (fun e36 => sw_t dL_law__40 (by rw [e36]; decide +kernel)) (fun e36 => ?_)
  refine ite_cong2 (fun e37 => sw_t dL_law__40 (by rw [e37]; decide +kernel)) (fun e37 => ?_)
  exact sw_t dL_law__40 (swT_dflt (vs := [(0 : Int), (1 : Int), (2 : Int), (3 : Int), (4 : Int), (5 : Int), (6 : Int), (7 : Int), (8 : Int), (9 : Int), (10 : Int), (11 : Int), (12 : Int), (13 : Int), (14 : Int), (15 : Int), (16 : Int), (17 : Int), (18 : Int), (19 : Int), (20 : Int), (21 : Int), (22 : Int), (23 : Int), (24 : Int), (25 : Int), (26 : Int), (27 : Int), (28 : Int), (29 : Int), (30 : Int), (31 : Int), (32 : Int), (33 : Int), (34 : Int), (35 : Int), (36 : Int), (37 : Int)]) (by decide +kernel) (fun v hv => by simp only [List.mem_cons, List.not_mem_nil, or_false] at hv; rcases hv with rfl | rfl | rfl | rfl | rfl | rfl | rfl | rfl | rfl | rfl | rfl | rfl | rfl | rfl | rfl | rfl | rfl | rfl | rfl | rfl | rfl | rfl | rfl | rfl | rfl | rfl | rfl | rfl | rfl | rfl | rfl | rfl | rfl | rfl | rfl | rfl | rfl | rfl <;> first | exact ne_toInt (by decide +kernel) e0 | exact ne_toInt (by decide +kernel) e1 | exact ne_toInt (by decide +kernel) e2 | exact ne_toInt (by decide +kernel) e3 | exact ne_toInt (by decide +kernel) e4 | exact ne_toInt (by decide +kernel) e5 | exact ne_toInt (by decide +kernel) e6 | exact ne_toInt (by decide +kernel) e7 | exact ne_toInt (by decide +kernel) e8 | exact ne_toInt (by decide +kernel) e9 | exact ne_toInt (by decide +kernel) e10 | exact ne_toInt (by decide +kernel) e11 | exact ne_toInt (by decide +kernel) e12 | exact ne_toInt (by decide +kernel) e13 | exact ne_toInt (by decide +kernel) e14 | exact ne_toInt (by decide +kernel) e15 | exact ne_toInt (by decide +kernel) e16 | exact ne_toInt (by decide +kernel) e17 | exact ne_toInt (by decide +kernel) e18 | exact ne_toInt (by decide +kernel) e19 | exact ne_toInt (by decide +kernel) e20 | exact ne_toInt (by decide +kernel) e21 | exact ne_toInt (by decide +kernel) e22 | exact ne_toInt (by decide +kernel) e23 | exact ne_toInt (by decide +kernel) e24 | exact ne_toInt (by decide +kernel) e25 | exact ne_toInt (by decide +kernel) e26 | exact ne_toInt (by decide +kernel) e27 | exact ne_toInt (by decide +kernel) e28 | exact ne_toInt (by decide +kernel) e29 | exact ne_toInt (by decide +kernel) e30 | exact ne_toInt (by decide +kernel) e31 | exact ne_toInt (by decide +kernel) e32 | exact ne_toInt (by decide +kernel) e33 | exact ne_toInt (by decide +kernel) e34 | exact ne_toInt (by decide +kernel) e35 | exact ne_toInt (by decide +kernel) e36 | exact ne_toInt (by decide +kernel) e37))
theorem q_L_law__208 {call : CALL} {L X : Nat} {I : Nat → Nat → Int32} {J : Nat → Nat → Int64} {x4 : Int32} {u5 : Option Value} {u6 : Option Value} {u7 : Option Value} : runI call iLaw (208, [some (.ref 1000000), some (.ref 0), some (.ref 72), some (.ref 632), some (.int x4), u5, u6, u7], [], (mm L X I J)) = gd (inb (x4 + (nI 1)) L) (gd (inb (x4 + (nI 2)) L) (gd (inb (x4 + (nI 3)) L) (gd (inb (x4 + (nI 4)) L) (gd (inb (x4 + (nI 5)) L) (bnd (call nX11_feed [.ref 0, .int (I 1000000 ((x4 + (nI 1))).toNatClampNeg), .int (I 1000000 ((x4 + (nI 2))).toNatClampNeg), .int (I 1000000 ((x4 + (nI 3))).toNatClampNeg), .int (I 1000000 ((x4 + (nI 4))).toNatClampNeg), .int (I 1000000 ((x4 + (nI 5))).toNatClampNeg)] (mm L X I J)) (fun v m' => runI call iLaw (242, [some (.ref 1000000), some (.ref 0), some (.ref 72), some (.ref 632), some (.int x4), u5, u6, u7], v.toList ++ [], m'))))))) := by
  refine Eq.trans (st1 dL_law__208 rfl rfl) ?_
  refine Eq.trans (st1 dL_law__209 rfl rfl) ?_
  refine Eq.trans (st1 dL_law__210 rfl rfl) ?_
  refine Eq.trans (xiconst dL_law__212 ci_1) ?_
  refine Eq.trans (st1 dL_law__213 rfl rfl) ?_
  refine Eq.trans (al5 dL_law__214 kd_XB (by decide)) (gd_congr fun g1 => ?_)
  refine Eq.trans (st1 dL_law__215 rfl rfl) ?_
  refine Eq.trans (st1 dL_law__216 rfl rfl) ?_
  refine Eq.trans (xiconst dL_law__218 ci_2) ?_
  refine Eq.trans (st1 dL_law__219 rfl rfl) ?_
  refine Eq.trans (al5 dL_law__220 kd_XB (by decide)) (gd_congr fun g2 => ?_)
  refine Eq.trans (st1 dL_law__221 rfl rfl) ?_
  refine Eq.trans (st1 dL_law__222 rfl rfl) ?_
  refine Eq.trans (xiconst dL_law__224 ci_3) ?_
  refine Eq.trans (st1 dL_law__225 rfl rfl) ?_
  refine Eq.trans (al5 dL_law__226 kd_XB (by decide)) (gd_congr fun g3 => ?_)
  refine Eq.trans (st1 dL_law__227 rfl rfl) ?_
  refine Eq.trans (st1 dL_law__228 rfl rfl) ?_
  refine Eq.trans (xiconst dL_law__230 ci_4) ?_
  refine Eq.trans (st1 dL_law__231 rfl rfl) ?_
  refine Eq.trans (al5 dL_law__232 kd_XB (by decide)) (gd_congr fun g4 => ?_)
  refine Eq.trans (st1 dL_law__233 rfl rfl) ?_
  refine Eq.trans (st1 dL_law__234 rfl rfl) ?_
  refine Eq.trans (xiconst dL_law__236 ci_5) ?_
  refine Eq.trans (st1 dL_law__237 rfl rfl) ?_
  refine Eq.trans (al5 dL_law__238 kd_XB (by decide)) (gd_congr fun g5 => ?_)
  exact iv0 dL_law__239 rfl cp_13_116 rfl rfl (kd_ka ka_0) ka_0.1 (Nat.le_of_ble_eq_true rfl)
theorem q_L_law__281 {call : CALL} {L X : Nat} {I : Nat → Nat → Int32} {J : Nat → Nat → Int64} {x4 : Int32} {u5 : Option Value} {u6 : Option Value} {u7 : Option Value} : runI call iLaw (281, [some (.ref 1000000), some (.ref 0), some (.ref 72), some (.ref 632), some (.int x4), u5, u6, u7], [], (mm L X I J)) = gd (inb (x4 + (nI 1)) L) (bndN (call nL_house [.ref 0, .int (I 1000000 ((x4 + (nI 1))).toNatClampNeg), .ref 632] (mm L X I J)) (fun v m' => runI call iLaw (292, [some (.ref 1000000), some (.ref 0), some (.ref 72), some (.ref 632), some (.int x4), u5, u6, u7], v.toList ++ [], m'))) := by
  refine Eq.trans (st1 dL_law__281 rfl rfl) ?_
  refine Eq.trans (st1 dL_law__282 rfl rfl) ?_
  refine Eq.trans (st1 dL_law__283 rfl rfl) ?_
  refine Eq.trans (xiconst dL_law__285 ci_1) ?_
  refine Eq.trans (st1 dL_law__286 rfl rfl) ?_
  refine Eq.trans (al5 dL_law__287 kd_XB (by decide)) (gd_congr fun g1 => ?_)
  refine Eq.trans (st1 dL_law__288 rfl rfl) ?_
  exact is2 dL_law__289 cp_13_121 (Nat.le_of_ble_eq_true rfl) rfl rfl (Nat.le_of_ble_eq_true rfl)
theorem q_L_law__337 {call : CALL} {L X : Nat} {I : Nat → Nat → Int32} {J : Nat → Nat → Int64} {x4 : Int32} {u5 : Option Value} {u6 : Option Value} {u7 : Option Value} : runI call iLaw (337, [some (.ref 1000000), some (.ref 0), some (.ref 72), some (.ref 632), some (.int x4), u5, u6, u7], [], (mm L X I J)) = gd (inb (x4 + (nI 1)) L) (bndN (call nL_law [.ref 0, .int (I 1000000 ((x4 + (nI 1))).toNatClampNeg), .ref 632] (mm L X I J)) (fun v m' => runI call iLaw (348, [some (.ref 1000000), some (.ref 0), some (.ref 72), some (.ref 632), some (.int x4), u5, u6, u7], v.toList ++ [], m'))) := by
  refine Eq.trans (st1 dL_law__337 rfl rfl) ?_
  refine Eq.trans (st1 dL_law__338 rfl rfl) ?_
  refine Eq.trans (st1 dL_law__339 rfl rfl) ?_
  refine Eq.trans (xiconst dL_law__341 ci_1) ?_
  refine Eq.trans (st1 dL_law__342 rfl rfl) ?_
  refine Eq.trans (al5 dL_law__343 kd_XB (by decide)) (gd_congr fun g1 => ?_)
  refine Eq.trans (st1 dL_law__344 rfl rfl) ?_
  exact is2 dL_law__345 cp_13_131 (Nat.le_of_ble_eq_true rfl) rfl rfl (Nat.le_of_ble_eq_true rfl)
theorem q_L_law__393 {call : CALL} {L X : Nat} {I : Nat → Nat → Int32} {J : Nat → Nat → Int64} {x4 : Int32} {u5 : Option Value} {u6 : Option Value} {u7 : Option Value} : runI call iLaw (393, [some (.ref 1000000), some (.ref 0), some (.ref 72), some (.ref 632), some (.int x4), u5, u6, u7], [], (mm L X I J)) = gd (inb (x4 + (nI 1)) L) (bndN (call nL_work [.ref 0, .int (I 1000000 ((x4 + (nI 1))).toNatClampNeg), .ref 632] (mm L X I J)) (fun v m' => runI call iLaw (404, [some (.ref 1000000), some (.ref 0), some (.ref 72), some (.ref 632), some (.int x4), u5, u6, u7], v.toList ++ [], m'))) := by
  refine Eq.trans (st1 dL_law__393 rfl rfl) ?_
  refine Eq.trans (st1 dL_law__394 rfl rfl) ?_
  refine Eq.trans (st1 dL_law__395 rfl rfl) ?_
  refine Eq.trans (xiconst dL_law__397 ci_1) ?_
  refine Eq.trans (st1 dL_law__398 rfl rfl) ?_
  refine Eq.trans (al5 dL_law__399 kd_XB (by decide)) (gd_congr fun g1 => ?_)
  refine Eq.trans (st1 dL_law__400 rfl rfl) ?_
  exact is2 dL_law__401 cp_13_134 (Nat.le_of_ble_eq_true rfl) rfl rfl (Nat.le_of_ble_eq_true rfl)
theorem q_L_law__449 {call : CALL} {L X : Nat} {I : Nat → Nat → Int32} {J : Nat → Nat → Int64} {x4 : Int32} {u5 : Option Value} {u6 : Option Value} {u7 : Option Value} : runI call iLaw (449, [some (.ref 1000000), some (.ref 0), some (.ref 72), some (.ref 632), some (.int x4), u5, u6, u7], [], (mm L X I J)) = gd (inb (x4 + (nI 1)) L) (bndN (call nL_book [.ref 0, .int (I 1000000 ((x4 + (nI 1))).toNatClampNeg), .ref 632] (mm L X I J)) (fun v m' => runI call iLaw (460, [some (.ref 1000000), some (.ref 0), some (.ref 72), some (.ref 632), some (.int x4), u5, u6, u7], v.toList ++ [], m'))) := by
  refine Eq.trans (st1 dL_law__449 rfl rfl) ?_
  refine Eq.trans (st1 dL_law__450 rfl rfl) ?_
  refine Eq.trans (st1 dL_law__451 rfl rfl) ?_
  refine Eq.trans (xiconst dL_law__453 ci_1) ?_
  refine Eq.trans (st1 dL_law__454 rfl rfl) ?_
  refine Eq.trans (al5 dL_law__455 kd_XB (by decide)) (gd_congr fun g1 => ?_)
  refine Eq.trans (st1 dL_law__456 rfl rfl) ?_
  exact is2 dL_law__457 cp_13_137 (Nat.le_of_ble_eq_true rfl) rfl rfl (Nat.le_of_ble_eq_true rfl)
theorem q_L_law__505 {call : CALL} {L X : Nat} {I : Nat → Nat → Int32} {J : Nat → Nat → Int64} {x4 : Int32} {u5 : Option Value} {u6 : Option Value} {u7 : Option Value} : runI call iLaw (505, [some (.ref 1000000), some (.ref 0), some (.ref 72), some (.ref 632), some (.int x4), u5, u6, u7], [], (mm L X I J)) = bnd (call nX11_fault [.ref 0] (mm L X I J)) (fun v m' => runI call iLaw (509, [some (.ref 1000000), some (.ref 0), some (.ref 72), some (.ref 632), some (.int x4), u5, u6, u7], v.toList ++ [], m')) := by
  refine Eq.trans (st1 dL_law__505 rfl rfl) ?_
  exact iv0 dL_law__506 rfl cp_13_140 rfl rfl (kd_ka ka_0) ka_0.1 (Nat.le_of_ble_eq_true rfl)
theorem q_L_law__518 {call : CALL} {L X : Nat} {I : Nat → Nat → Int32} {J : Nat → Nat → Int64} {x4 : Int32} {u5 : Option Value} {u6 : Option Value} {u7 : Option Value} : runI call iLaw (518, [some (.ref 1000000), some (.ref 0), some (.ref 72), some (.ref 632), some (.int x4), u5, u6, u7], [], (mm L X I J)) = bnd (call nX11_undo [.ref 0] (mm L X I J)) (fun v m' => runI call iLaw (522, [some (.ref 1000000), some (.ref 0), some (.ref 72), some (.ref 632), some (.int x4), u5, u6, u7], v.toList ++ [], m')) := by
  refine Eq.trans (st1 dL_law__518 rfl rfl) ?_
  exact iv0 dL_law__519 rfl cp_13_144 rfl rfl (kd_ka ka_0) ka_0.1 (Nat.le_of_ble_eq_true rfl)
theorem q_L_law__531 {call : CALL} {L X : Nat} {I : Nat → Nat → Int32} {J : Nat → Nat → Int64} {x4 : Int32} {u5 : Option Value} {u6 : Option Value} {u7 : Option Value} : runI call iLaw (531, [some (.ref 1000000), some (.ref 0), some (.ref 72), some (.ref 632), some (.int x4), u5, u6, u7], [], (mm L X I J)) = gd (inb (x4 + (nI 1)) L) (bndN (call nL_told [.ref 0, .int (I 1000000 ((x4 + (nI 1))).toNatClampNeg), .ref 632] (mm L X I J)) (fun v m' => runI call iLaw (542, [some (.ref 1000000), some (.ref 0), some (.ref 72), some (.ref 632), some (.int x4), u5, u6, u7], v.toList ++ [], m'))) := by
  refine Eq.trans (st1 dL_law__531 rfl rfl) ?_
  refine Eq.trans (st1 dL_law__532 rfl rfl) ?_
  refine Eq.trans (st1 dL_law__533 rfl rfl) ?_
  refine Eq.trans (xiconst dL_law__535 ci_1) ?_
  refine Eq.trans (st1 dL_law__536 rfl rfl) ?_
  refine Eq.trans (al5 dL_law__537 kd_XB (by decide)) (gd_congr fun g1 => ?_)
  refine Eq.trans (st1 dL_law__538 rfl rfl) ?_
  exact is2 dL_law__539 cp_13_148 (Nat.le_of_ble_eq_true rfl) rfl rfl (Nat.le_of_ble_eq_true rfl)
theorem q_L_law__587 {call : CALL} {L X : Nat} {I : Nat → Nat → Int32} {J : Nat → Nat → Int64} {x4 : Int32} {u5 : Option Value} {u6 : Option Value} {u7 : Option Value} : runI call iLaw (587, [some (.ref 1000000), some (.ref 0), some (.ref 72), some (.ref 632), some (.int x4), u5, u6, u7], [], (mm L X I J)) = gd (inb (x4 + (nI 1)) L) (gd (inb (x4 + (nI 2)) L) (bndN (call nL_piece [.ref 0, .int (I 1000000 ((x4 + (nI 1))).toNatClampNeg), .int (I 1000000 ((x4 + (nI 2))).toNatClampNeg), .ref 632] (mm L X I J)) (fun v m' => runI call iLaw (604, [some (.ref 1000000), some (.ref 0), some (.ref 72), some (.ref 632), some (.int x4), u5, u6, u7], v.toList ++ [], m')))) := by
  refine Eq.trans (st1 dL_law__587 rfl rfl) ?_
  refine Eq.trans (st1 dL_law__588 rfl rfl) ?_
  refine Eq.trans (st1 dL_law__589 rfl rfl) ?_
  refine Eq.trans (xiconst dL_law__591 ci_1) ?_
  refine Eq.trans (st1 dL_law__592 rfl rfl) ?_
  refine Eq.trans (al5 dL_law__593 kd_XB (by decide)) (gd_congr fun g1 => ?_)
  refine Eq.trans (st1 dL_law__594 rfl rfl) ?_
  refine Eq.trans (st1 dL_law__595 rfl rfl) ?_
  refine Eq.trans (xiconst dL_law__597 ci_2) ?_
  refine Eq.trans (st1 dL_law__598 rfl rfl) ?_
  refine Eq.trans (al5 dL_law__599 kd_XB (by decide)) (gd_congr fun g2 => ?_)
  refine Eq.trans (st1 dL_law__600 rfl rfl) ?_
  exact is2 dL_law__601 cp_13_151 (Nat.le_of_ble_eq_true rfl) rfl rfl (Nat.le_of_ble_eq_true rfl)
theorem q_L_law__655 {call : CALL} {L X : Nat} {I : Nat → Nat → Int32} {J : Nat → Nat → Int64} {x4 : Int32} {u5 : Option Value} {u6 : Option Value} {u7 : Option Value} : runI call iLaw (655, [some (.ref 1000000), some (.ref 0), some (.ref 72), some (.ref 632), some (.int x4), u5, u6, u7], [], (mm L X I J)) = gd (inb (x4 + (nI 1)) L) (gd (inb (x4 + (nI 2)) L) (bndN (call nL_collar [.ref 0, .int (I 1000000 ((x4 + (nI 1))).toNatClampNeg), .int (I 1000000 ((x4 + (nI 2))).toNatClampNeg), .ref 632] (mm L X I J)) (fun v m' => runI call iLaw (672, [some (.ref 1000000), some (.ref 0), some (.ref 72), some (.ref 632), some (.int x4), u5, u6, u7], v.toList ++ [], m')))) := by
  refine Eq.trans (st1 dL_law__655 rfl rfl) ?_
  refine Eq.trans (st1 dL_law__656 rfl rfl) ?_
  refine Eq.trans (st1 dL_law__657 rfl rfl) ?_
  refine Eq.trans (xiconst dL_law__659 ci_1) ?_
  refine Eq.trans (st1 dL_law__660 rfl rfl) ?_
  refine Eq.trans (al5 dL_law__661 kd_XB (by decide)) (gd_congr fun g1 => ?_)
  refine Eq.trans (st1 dL_law__662 rfl rfl) ?_
  refine Eq.trans (st1 dL_law__663 rfl rfl) ?_
  refine Eq.trans (xiconst dL_law__665 ci_2) ?_
  refine Eq.trans (st1 dL_law__666 rfl rfl) ?_
  refine Eq.trans (al5 dL_law__667 kd_XB (by decide)) (gd_congr fun g2 => ?_)
  refine Eq.trans (st1 dL_law__668 rfl rfl) ?_
  exact is2 dL_law__669 cp_13_155 (Nat.le_of_ble_eq_true rfl) rfl rfl (Nat.le_of_ble_eq_true rfl)
theorem q_L_law__723 {call : CALL} {L X : Nat} {I : Nat → Nat → Int32} {J : Nat → Nat → Int64} {x4 : Int32} {u5 : Option Value} {u6 : Option Value} {u7 : Option Value} : runI call iLaw (723, [some (.ref 1000000), some (.ref 0), some (.ref 72), some (.ref 632), some (.int x4), u5, u6, u7], [], (mm L X I J)) = gd (inb (x4 + (nI 1)) L) (gd (inb (x4 + (nI 2)) L) (bndN (call nL_fire [.ref 0, .int (I 1000000 ((x4 + (nI 1))).toNatClampNeg), .int (I 1000000 ((x4 + (nI 2))).toNatClampNeg), .ref 632] (mm L X I J)) (fun v m' => runI call iLaw (740, [some (.ref 1000000), some (.ref 0), some (.ref 72), some (.ref 632), some (.int x4), u5, u6, u7], v.toList ++ [], m')))) := by
  refine Eq.trans (st1 dL_law__723 rfl rfl) ?_
  refine Eq.trans (st1 dL_law__724 rfl rfl) ?_
  refine Eq.trans (st1 dL_law__725 rfl rfl) ?_
  refine Eq.trans (xiconst dL_law__727 ci_1) ?_
  refine Eq.trans (st1 dL_law__728 rfl rfl) ?_
  refine Eq.trans (al5 dL_law__729 kd_XB (by decide)) (gd_congr fun g1 => ?_)
  refine Eq.trans (st1 dL_law__730 rfl rfl) ?_
  refine Eq.trans (st1 dL_law__731 rfl rfl) ?_
  refine Eq.trans (xiconst dL_law__733 ci_2) ?_
  refine Eq.trans (st1 dL_law__734 rfl rfl) ?_
  refine Eq.trans (al5 dL_law__735 kd_XB (by decide)) (gd_congr fun g2 => ?_)
  refine Eq.trans (st1 dL_law__736 rfl rfl) ?_
  exact is2 dL_law__737 cp_13_158 (Nat.le_of_ble_eq_true rfl) rfl rfl (Nat.le_of_ble_eq_true rfl)
theorem q_L_law__791 {call : CALL} {L X : Nat} {I : Nat → Nat → Int32} {J : Nat → Nat → Int64} {x4 : Int32} {u5 : Option Value} {u6 : Option Value} {u7 : Option Value} : runI call iLaw (791, [some (.ref 1000000), some (.ref 0), some (.ref 72), some (.ref 632), some (.int x4), u5, u6, u7], [], (mm L X I J)) = gd (inb (x4 + (nI 1)) L) (bndN (call nL_row [.ref 0, .int (I 1000000 ((x4 + (nI 1))).toNatClampNeg), .ref 632] (mm L X I J)) (fun v m' => runI call iLaw (802, [some (.ref 1000000), some (.ref 0), some (.ref 72), some (.ref 632), some (.int x4), u5, u6, u7], v.toList ++ [], m'))) := by
  refine Eq.trans (st1 dL_law__791 rfl rfl) ?_
  refine Eq.trans (st1 dL_law__792 rfl rfl) ?_
  refine Eq.trans (st1 dL_law__793 rfl rfl) ?_
  refine Eq.trans (xiconst dL_law__795 ci_1) ?_
  refine Eq.trans (st1 dL_law__796 rfl rfl) ?_
  refine Eq.trans (al5 dL_law__797 kd_XB (by decide)) (gd_congr fun g1 => ?_)
  refine Eq.trans (st1 dL_law__798 rfl rfl) ?_
  exact is2 dL_law__799 cp_13_161 (Nat.le_of_ble_eq_true rfl) rfl rfl (Nat.le_of_ble_eq_true rfl)
theorem q_L_law__847 {call : CALL} {L X : Nat} {I : Nat → Nat → Int32} {J : Nat → Nat → Int64} {x4 : Int32} {u5 : Option Value} {u6 : Option Value} {u7 : Option Value} : runI call iLaw (847, [some (.ref 1000000), some (.ref 0), some (.ref 72), some (.ref 632), some (.int x4), u5, u6, u7], [], (mm L X I J)) = gd (inb (x4 + (nI 1)) L) (bndN (call nL_behind [.ref 0, .int (I 1000000 ((x4 + (nI 1))).toNatClampNeg), .ref 632] (mm L X I J)) (fun v m' => runI call iLaw (858, [some (.ref 1000000), some (.ref 0), some (.ref 72), some (.ref 632), some (.int x4), u5, u6, u7], v.toList ++ [], m'))) := by
  refine Eq.trans (st1 dL_law__847 rfl rfl) ?_
  refine Eq.trans (st1 dL_law__848 rfl rfl) ?_
  refine Eq.trans (st1 dL_law__849 rfl rfl) ?_
  refine Eq.trans (xiconst dL_law__851 ci_1) ?_
  refine Eq.trans (st1 dL_law__852 rfl rfl) ?_
  refine Eq.trans (al5 dL_law__853 kd_XB (by decide)) (gd_congr fun g1 => ?_)
  refine Eq.trans (st1 dL_law__854 rfl rfl) ?_
  exact is2 dL_law__855 cp_13_164 (Nat.le_of_ble_eq_true rfl) rfl rfl (Nat.le_of_ble_eq_true rfl)
theorem q_L_law__903 {call : CALL} {L X : Nat} {I : Nat → Nat → Int32} {J : Nat → Nat → Int64} {x4 : Int32} {u5 : Option Value} {u6 : Option Value} {u7 : Option Value} : runI call iLaw (903, [some (.ref 1000000), some (.ref 0), some (.ref 72), some (.ref 632), some (.int x4), u5, u6, u7], [], (mm L X I J)) = gd (inb (x4 + (nI 1)) L) (gd (inb (x4 + (nI 2)) L) (gd (inb (x4 + (nI 3)) L) (gd (inb (x4 + (nI 4)) L) (gd (inb (x4 + (nI 5)) L) (gd (inb (x4 + (nI 6)) L) (gd (inb (x4 + (nI 7)) L) (gd (inb (x4 + (nI 8)) L) (gd (inb (x4 + (nI 9)) L) (bndN (call nL_would [.ref 0, .int (I 1000000 ((x4 + (nI 1))).toNatClampNeg), .int (I 1000000 ((x4 + (nI 2))).toNatClampNeg), .int (I 1000000 ((x4 + (nI 3))).toNatClampNeg), .int (I 1000000 ((x4 + (nI 4))).toNatClampNeg), .int (I 1000000 ((x4 + (nI 5))).toNatClampNeg), .int (I 1000000 ((x4 + (nI 6))).toNatClampNeg), .int (I 1000000 ((x4 + (nI 7))).toNatClampNeg), .int (I 1000000 ((x4 + (nI 8))).toNatClampNeg), .int (I 1000000 ((x4 + (nI 9))).toNatClampNeg), .ref 632] (mm L X I J)) (fun v m' => runI call iLaw (966, [some (.ref 1000000), some (.ref 0), some (.ref 72), some (.ref 632), some (.int x4), u5, u6, u7], v.toList ++ [], m'))))))))))) := by
  refine Eq.trans (st1 dL_law__903 rfl rfl) ?_
  refine Eq.trans (st1 dL_law__904 rfl rfl) ?_
  refine Eq.trans (st1 dL_law__905 rfl rfl) ?_
  refine Eq.trans (xiconst dL_law__907 ci_1) ?_
  refine Eq.trans (st1 dL_law__908 rfl rfl) ?_
  refine Eq.trans (al5 dL_law__909 kd_XB (by decide)) (gd_congr fun g1 => ?_)
  refine Eq.trans (st1 dL_law__910 rfl rfl) ?_
  refine Eq.trans (st1 dL_law__911 rfl rfl) ?_
  refine Eq.trans (xiconst dL_law__913 ci_2) ?_
  refine Eq.trans (st1 dL_law__914 rfl rfl) ?_
  refine Eq.trans (al5 dL_law__915 kd_XB (by decide)) (gd_congr fun g2 => ?_)
  refine Eq.trans (st1 dL_law__916 rfl rfl) ?_
  refine Eq.trans (st1 dL_law__917 rfl rfl) ?_
  refine Eq.trans (xiconst dL_law__919 ci_3) ?_
  refine Eq.trans (st1 dL_law__920 rfl rfl) ?_
  refine Eq.trans (al5 dL_law__921 kd_XB (by decide)) (gd_congr fun g3 => ?_)
  refine Eq.trans (st1 dL_law__922 rfl rfl) ?_
  refine Eq.trans (st1 dL_law__923 rfl rfl) ?_
  refine Eq.trans (xiconst dL_law__925 ci_4) ?_
  refine Eq.trans (st1 dL_law__926 rfl rfl) ?_
  refine Eq.trans (al5 dL_law__927 kd_XB (by decide)) (gd_congr fun g4 => ?_)
  refine Eq.trans (st1 dL_law__928 rfl rfl) ?_
  refine Eq.trans (st1 dL_law__929 rfl rfl) ?_
  refine Eq.trans (xiconst dL_law__931 ci_5) ?_
  refine Eq.trans (st1 dL_law__932 rfl rfl) ?_
  refine Eq.trans (al5 dL_law__933 kd_XB (by decide)) (gd_congr fun g5 => ?_)
  refine Eq.trans (st1 dL_law__934 rfl rfl) ?_
  refine Eq.trans (st1 dL_law__935 rfl rfl) ?_
  refine Eq.trans (xbipush dL_law__937 cb_6) ?_
  refine Eq.trans (st1 dL_law__939 rfl rfl) ?_
  refine Eq.trans (al5 dL_law__940 kd_XB (by decide)) (gd_congr fun g6 => ?_)
  refine Eq.trans (st1 dL_law__941 rfl rfl) ?_
  refine Eq.trans (st1 dL_law__942 rfl rfl) ?_
  refine Eq.trans (xbipush dL_law__944 cb_7) ?_
  refine Eq.trans (st1 dL_law__946 rfl rfl) ?_
  refine Eq.trans (al5 dL_law__947 kd_XB (by decide)) (gd_congr fun g7 => ?_)
  refine Eq.trans (st1 dL_law__948 rfl rfl) ?_
  refine Eq.trans (st1 dL_law__949 rfl rfl) ?_
  refine Eq.trans (xbipush dL_law__951 cb_8) ?_
  refine Eq.trans (st1 dL_law__953 rfl rfl) ?_
  refine Eq.trans (al5 dL_law__954 kd_XB (by decide)) (gd_congr fun g8 => ?_)
  refine Eq.trans (st1 dL_law__955 rfl rfl) ?_
  refine Eq.trans (st1 dL_law__956 rfl rfl) ?_
  refine Eq.trans (xbipush dL_law__958 cb_9) ?_
  refine Eq.trans (st1 dL_law__960 rfl rfl) ?_
  refine Eq.trans (al5 dL_law__961 kd_XB (by decide)) (gd_congr fun g9 => ?_)
  refine Eq.trans (st1 dL_law__962 rfl rfl) ?_
  exact is2 dL_law__963 cp_13_167 (Nat.le_of_ble_eq_true rfl) rfl rfl (Nat.le_of_ble_eq_true rfl)
theorem q_L_law__1063 {call : CALL} {L X : Nat} {I : Nat → Nat → Int32} {J : Nat → Nat → Int64} {x4 : Int32} {u5 : Option Value} {u6 : Option Value} {u7 : Option Value} : runI call iLaw (1063, [some (.ref 1000000), some (.ref 0), some (.ref 72), some (.ref 632), some (.int x4), u5, u6, u7], [], (mm L X I J)) = gd (inb (x4 + (nI 1)) L) (gd (inb (x4 + (nI 2)) L) (bndN (call nL_fits [.ref 0, .int (I 1000000 ((x4 + (nI 1))).toNatClampNeg), .int (I 1000000 ((x4 + (nI 2))).toNatClampNeg), .ref 632] (mm L X I J)) (fun v m' => runI call iLaw (1080, [some (.ref 1000000), some (.ref 0), some (.ref 72), some (.ref 632), some (.int x4), u5, u6, u7], v.toList ++ [], m')))) := by
  refine Eq.trans (st1 dL_law__1063 rfl rfl) ?_
  refine Eq.trans (st1 dL_law__1064 rfl rfl) ?_
  refine Eq.trans (st1 dL_law__1065 rfl rfl) ?_
  refine Eq.trans (xiconst dL_law__1067 ci_1) ?_
  refine Eq.trans (st1 dL_law__1068 rfl rfl) ?_
  refine Eq.trans (al5 dL_law__1069 kd_XB (by decide)) (gd_congr fun g1 => ?_)
  refine Eq.trans (st1 dL_law__1070 rfl rfl) ?_
  refine Eq.trans (st1 dL_law__1071 rfl rfl) ?_
  refine Eq.trans (xiconst dL_law__1073 ci_2) ?_
  refine Eq.trans (st1 dL_law__1074 rfl rfl) ?_
  refine Eq.trans (al5 dL_law__1075 kd_XB (by decide)) (gd_congr fun g2 => ?_)
  refine Eq.trans (st1 dL_law__1076 rfl rfl) ?_
  exact is2 dL_law__1077 cp_13_171 (Nat.le_of_ble_eq_true rfl) rfl rfl (Nat.le_of_ble_eq_true rfl)
theorem q_L_law__1138 {call : CALL} {L X : Nat} {I : Nat → Nat → Int32} {J : Nat → Nat → Int64} {x4 : Int32} {u5 : Option Value} {u6 : Option Value} {u7 : Option Value} : runI call iLaw (1138, [some (.ref 1000000), some (.ref 0), some (.ref 72), some (.ref 632), some (.int x4), u5, u6, u7], [], (mm L X I J)) = gd (inb (x4 + (nI 1)) L) (bndN (call nL_can [.ref 0, .int (I 1000000 ((x4 + (nI 1))).toNatClampNeg), .ref 632] (mm L X I J)) (fun v m' => runI call iLaw (1149, [some (.ref 1000000), some (.ref 0), some (.ref 72), some (.ref 632), some (.int x4), u5, u6, u7], v.toList ++ [], m'))) := by
  refine Eq.trans (st1 dL_law__1138 rfl rfl) ?_
  refine Eq.trans (st1 dL_law__1139 rfl rfl) ?_
  refine Eq.trans (st1 dL_law__1140 rfl rfl) ?_
  refine Eq.trans (xiconst dL_law__1142 ci_1) ?_
  refine Eq.trans (st1 dL_law__1143 rfl rfl) ?_
  refine Eq.trans (al5 dL_law__1144 kd_XB (by decide)) (gd_congr fun g1 => ?_)
  refine Eq.trans (st1 dL_law__1145 rfl rfl) ?_
  exact is2 dL_law__1146 cp_13_174 (Nat.le_of_ble_eq_true rfl) rfl rfl (Nat.le_of_ble_eq_true rfl)
theorem q_L_law__1201 {call : CALL} {L X : Nat} {I : Nat → Nat → Int32} {J : Nat → Nat → Int64} {x4 : Int32} {u5 : Option Value} {u6 : Option Value} {u7 : Option Value} : runI call iLaw (1201, [some (.ref 1000000), some (.ref 0), some (.ref 72), some (.ref 632), some (.int x4), u5, u6, u7], [], (mm L X I J)) = gd (inb (x4 + (nI 1)) L) (bndN (call nL_ahead [.ref 0, .int (I 1000000 ((x4 + (nI 1))).toNatClampNeg), .ref 632] (mm L X I J)) (fun v m' => runI call iLaw (1212, [some (.ref 1000000), some (.ref 0), some (.ref 72), some (.ref 632), some (.int x4), u5, u6, u7], v.toList ++ [], m'))) := by
  refine Eq.trans (st1 dL_law__1201 rfl rfl) ?_
  refine Eq.trans (st1 dL_law__1202 rfl rfl) ?_
  refine Eq.trans (st1 dL_law__1203 rfl rfl) ?_
  refine Eq.trans (xiconst dL_law__1205 ci_1) ?_
  refine Eq.trans (st1 dL_law__1206 rfl rfl) ?_
  refine Eq.trans (al5 dL_law__1207 kd_XB (by decide)) (gd_congr fun g1 => ?_)
  refine Eq.trans (st1 dL_law__1208 rfl rfl) ?_
  exact is2 dL_law__1209 cp_13_177 (Nat.le_of_ble_eq_true rfl) rfl rfl (Nat.le_of_ble_eq_true rfl)
theorem q_L_law__1257 {call : CALL} {L X : Nat} {I : Nat → Nat → Int32} {J : Nat → Nat → Int64} {x4 : Int32} {u5 : Option Value} {u6 : Option Value} {u7 : Option Value} : runI call iLaw (1257, [some (.ref 1000000), some (.ref 0), some (.ref 72), some (.ref 632), some (.int x4), u5, u6, u7], [], (mm L X I J)) = gd (inb (x4 + (nI 1)) L) (bndN (call nL_chain [.ref 0, .int (I 1000000 ((x4 + (nI 1))).toNatClampNeg), .ref 632] (mm L X I J)) (fun v m' => runI call iLaw (1268, [some (.ref 1000000), some (.ref 0), some (.ref 72), some (.ref 632), some (.int x4), u5, u6, u7], v.toList ++ [], m'))) := by
  refine Eq.trans (st1 dL_law__1257 rfl rfl) ?_
  refine Eq.trans (st1 dL_law__1258 rfl rfl) ?_
  refine Eq.trans (st1 dL_law__1259 rfl rfl) ?_
  refine Eq.trans (xiconst dL_law__1261 ci_1) ?_
  refine Eq.trans (st1 dL_law__1262 rfl rfl) ?_
  refine Eq.trans (al5 dL_law__1263 kd_XB (by decide)) (gd_congr fun g1 => ?_)
  refine Eq.trans (st1 dL_law__1264 rfl rfl) ?_
  exact is2 dL_law__1265 cp_13_180 (Nat.le_of_ble_eq_true rfl) rfl rfl (Nat.le_of_ble_eq_true rfl)
theorem q_L_law__1313 {call : CALL} {L X : Nat} {I : Nat → Nat → Int32} {J : Nat → Nat → Int64} {x4 : Int32} {u5 : Option Value} {u6 : Option Value} {u7 : Option Value} : runI call iLaw (1313, [some (.ref 1000000), some (.ref 0), some (.ref 72), some (.ref 632), some (.int x4), u5, u6, u7], [], (mm L X I J)) = gd (inb (x4 + (nI 1)) L) (bndN (call nL_chained [.ref 0, .int (I 1000000 ((x4 + (nI 1))).toNatClampNeg), .ref 632] (mm L X I J)) (fun v m' => runI call iLaw (1324, [some (.ref 1000000), some (.ref 0), some (.ref 72), some (.ref 632), some (.int x4), u5, u6, u7], v.toList ++ [], m'))) := by
  refine Eq.trans (st1 dL_law__1313 rfl rfl) ?_
  refine Eq.trans (st1 dL_law__1314 rfl rfl) ?_
  refine Eq.trans (st1 dL_law__1315 rfl rfl) ?_
  refine Eq.trans (xiconst dL_law__1317 ci_1) ?_
  refine Eq.trans (st1 dL_law__1318 rfl rfl) ?_
  refine Eq.trans (al5 dL_law__1319 kd_XB (by decide)) (gd_congr fun g1 => ?_)
  refine Eq.trans (st1 dL_law__1320 rfl rfl) ?_
  exact is2 dL_law__1321 cp_13_183 (Nat.le_of_ble_eq_true rfl) rfl rfl (Nat.le_of_ble_eq_true rfl)
theorem q_L_law__1369 {call : CALL} {L X : Nat} {I : Nat → Nat → Int32} {J : Nat → Nat → Int64} {x4 : Int32} {u5 : Option Value} {u6 : Option Value} {u7 : Option Value} : runI call iLaw (1369, [some (.ref 1000000), some (.ref 0), some (.ref 72), some (.ref 632), some (.int x4), u5, u6, u7], [], (mm L X I J)) = gd (inb (x4 + (nI 1)) L) (bndN (call nL_brief [.ref 0, .int (I 1000000 ((x4 + (nI 1))).toNatClampNeg), .ref 632] (mm L X I J)) (fun v m' => runI call iLaw (1380, [some (.ref 1000000), some (.ref 0), some (.ref 72), some (.ref 632), some (.int x4), u5, u6, u7], v.toList ++ [], m'))) := by
  refine Eq.trans (st1 dL_law__1369 rfl rfl) ?_
  refine Eq.trans (st1 dL_law__1370 rfl rfl) ?_
  refine Eq.trans (st1 dL_law__1371 rfl rfl) ?_
  refine Eq.trans (xiconst dL_law__1373 ci_1) ?_
  refine Eq.trans (st1 dL_law__1374 rfl rfl) ?_
  refine Eq.trans (al5 dL_law__1375 kd_XB (by decide)) (gd_congr fun g1 => ?_)
  refine Eq.trans (st1 dL_law__1376 rfl rfl) ?_
  exact is2 dL_law__1377 cp_13_186 (Nat.le_of_ble_eq_true rfl) rfl rfl (Nat.le_of_ble_eq_true rfl)
theorem q_L_law__1425 {call : CALL} {L X : Nat} {I : Nat → Nat → Int32} {J : Nat → Nat → Int64} {x4 : Int32} {u5 : Option Value} {u6 : Option Value} {u7 : Option Value} : runI call iLaw (1425, [some (.ref 1000000), some (.ref 0), some (.ref 72), some (.ref 632), some (.int x4), u5, u6, u7], [], (mm L X I J)) = gd (inb (x4 + (nI 1)) L) (gd (inb (x4 + (nI 2)) L) (bndN (call nL_briefly [.ref 0, .int (I 1000000 ((x4 + (nI 1))).toNatClampNeg), .int (I 1000000 ((x4 + (nI 2))).toNatClampNeg), .ref 632] (mm L X I J)) (fun v m' => runI call iLaw (1442, [some (.ref 1000000), some (.ref 0), some (.ref 72), some (.ref 632), some (.int x4), u5, u6, u7], v.toList ++ [], m')))) := by
  refine Eq.trans (st1 dL_law__1425 rfl rfl) ?_
  refine Eq.trans (st1 dL_law__1426 rfl rfl) ?_
  refine Eq.trans (st1 dL_law__1427 rfl rfl) ?_
  refine Eq.trans (xiconst dL_law__1429 ci_1) ?_
  refine Eq.trans (st1 dL_law__1430 rfl rfl) ?_
  refine Eq.trans (al5 dL_law__1431 kd_XB (by decide)) (gd_congr fun g1 => ?_)
  refine Eq.trans (st1 dL_law__1432 rfl rfl) ?_
  refine Eq.trans (st1 dL_law__1433 rfl rfl) ?_
  refine Eq.trans (xiconst dL_law__1435 ci_2) ?_
  refine Eq.trans (st1 dL_law__1436 rfl rfl) ?_
  refine Eq.trans (al5 dL_law__1437 kd_XB (by decide)) (gd_congr fun g2 => ?_)
  refine Eq.trans (st1 dL_law__1438 rfl rfl) ?_
  exact is2 dL_law__1439 cp_13_189 (Nat.le_of_ble_eq_true rfl) rfl rfl (Nat.le_of_ble_eq_true rfl)
theorem q_L_law__1493 {call : CALL} {L X : Nat} {I : Nat → Nat → Int32} {J : Nat → Nat → Int64} {x4 : Int32} {u5 : Option Value} {u6 : Option Value} {u7 : Option Value} : runI call iLaw (1493, [some (.ref 1000000), some (.ref 0), some (.ref 72), some (.ref 632), some (.int x4), u5, u6, u7], [], (mm L X I J)) = gd (inb (x4 + (nI 1)) L) (bndN (call nL_joiner [.ref 0, .int (I 1000000 ((x4 + (nI 1))).toNatClampNeg), .ref 632] (mm L X I J)) (fun v m' => runI call iLaw (1504, [some (.ref 1000000), some (.ref 0), some (.ref 72), some (.ref 632), some (.int x4), u5, u6, u7], v.toList ++ [], m'))) := by
  refine Eq.trans (st1 dL_law__1493 rfl rfl) ?_
  refine Eq.trans (st1 dL_law__1494 rfl rfl) ?_
  refine Eq.trans (st1 dL_law__1495 rfl rfl) ?_
  refine Eq.trans (xiconst dL_law__1497 ci_1) ?_
  refine Eq.trans (st1 dL_law__1498 rfl rfl) ?_
  refine Eq.trans (al5 dL_law__1499 kd_XB (by decide)) (gd_congr fun g1 => ?_)
  refine Eq.trans (st1 dL_law__1500 rfl rfl) ?_
  exact is2 dL_law__1501 cp_13_192 (Nat.le_of_ble_eq_true rfl) rfl rfl (Nat.le_of_ble_eq_true rfl)
theorem q_L_law__1549 {call : CALL} {L X : Nat} {I : Nat → Nat → Int32} {J : Nat → Nat → Int64} {x4 : Int32} {u5 : Option Value} {u6 : Option Value} {u7 : Option Value} : runI call iLaw (1549, [some (.ref 1000000), some (.ref 0), some (.ref 72), some (.ref 632), some (.int x4), u5, u6, u7], [], (mm L X I J)) = gd (inb (x4 + (nI 1)) L) (bndN (call nL_leaks [.ref 0, .int (I 1000000 ((x4 + (nI 1))).toNatClampNeg), .ref 632] (mm L X I J)) (fun v m' => runI call iLaw (1560, [some (.ref 1000000), some (.ref 0), some (.ref 72), some (.ref 632), some (.int x4), u5, u6, u7], v.toList ++ [], m'))) := by
  refine Eq.trans (st1 dL_law__1549 rfl rfl) ?_
  refine Eq.trans (st1 dL_law__1550 rfl rfl) ?_
  refine Eq.trans (st1 dL_law__1551 rfl rfl) ?_
  refine Eq.trans (xiconst dL_law__1553 ci_1) ?_
  refine Eq.trans (st1 dL_law__1554 rfl rfl) ?_
  refine Eq.trans (al5 dL_law__1555 kd_XB (by decide)) (gd_congr fun g1 => ?_)
  refine Eq.trans (st1 dL_law__1556 rfl rfl) ?_
  exact is2 dL_law__1557 cp_13_195 (Nat.le_of_ble_eq_true rfl) rfl rfl (Nat.le_of_ble_eq_true rfl)
theorem q_L_law__1605 {call : CALL} {L X : Nat} {I : Nat → Nat → Int32} {J : Nat → Nat → Int64} {x4 : Int32} {u5 : Option Value} {u6 : Option Value} {u7 : Option Value} : runI call iLaw (1605, [some (.ref 1000000), some (.ref 0), some (.ref 72), some (.ref 632), some (.int x4), u5, u6, u7], [], (mm L X I J)) = gd (inb (x4 + (nI 1)) L) (bndN (call nL_look [.ref 0, .int (I 1000000 ((x4 + (nI 1))).toNatClampNeg), .ref 632] (mm L X I J)) (fun v m' => runI call iLaw (1616, [some (.ref 1000000), some (.ref 0), some (.ref 72), some (.ref 632), some (.int x4), u5, u6, u7], v.toList ++ [], m'))) := by
  refine Eq.trans (st1 dL_law__1605 rfl rfl) ?_
  refine Eq.trans (st1 dL_law__1606 rfl rfl) ?_
  refine Eq.trans (st1 dL_law__1607 rfl rfl) ?_
  refine Eq.trans (xiconst dL_law__1609 ci_1) ?_
  refine Eq.trans (st1 dL_law__1610 rfl rfl) ?_
  refine Eq.trans (al5 dL_law__1611 kd_XB (by decide)) (gd_congr fun g1 => ?_)
  refine Eq.trans (st1 dL_law__1612 rfl rfl) ?_
  exact is2 dL_law__1613 cp_13_198 (Nat.le_of_ble_eq_true rfl) rfl rfl (Nat.le_of_ble_eq_true rfl)
theorem q_L_law__1661 {call : CALL} {L X : Nat} {I : Nat → Nat → Int32} {J : Nat → Nat → Int64} {x4 : Int32} {u5 : Option Value} {u6 : Option Value} {u7 : Option Value} : runI call iLaw (1661, [some (.ref 1000000), some (.ref 0), some (.ref 72), some (.ref 632), some (.int x4), u5, u6, u7], [], (mm L X I J)) = bnd (call nX11_wed [.ref 0] (mm L X I J)) (fun v m' => runI call iLaw (1665, [some (.ref 1000000), some (.ref 0), some (.ref 72), some (.ref 632), some (.int x4), u5, u6, u7], v.toList ++ [], m')) := by
  refine Eq.trans (st1 dL_law__1661 rfl rfl) ?_
  exact iv0 dL_law__1662 rfl cp_13_201 rfl rfl (kd_ka ka_0) ka_0.1 (Nat.le_of_ble_eq_true rfl)
theorem q_L_law__1674 {call : CALL} {L X : Nat} {I : Nat → Nat → Int32} {J : Nat → Nat → Int64} {x4 : Int32} {u5 : Option Value} {u6 : Option Value} {u7 : Option Value} : runI call iLaw (1674, [some (.ref 1000000), some (.ref 0), some (.ref 72), some (.ref 632), some (.int x4), u5, u6, u7], [], (mm L X I J)) = gd (inb (x4 + (nI 1)) L) (gd (inb (x4 + (nI 2)) L) (gd (inb (x4 + (nI 3)) L) (bndN (call nL_sure [.ref 0, .int (I 1000000 ((x4 + (nI 1))).toNatClampNeg), .int (I 1000000 ((x4 + (nI 2))).toNatClampNeg), .int (I 1000000 ((x4 + (nI 3))).toNatClampNeg), .ref 632] (mm L X I J)) (fun v m' => runI call iLaw (1697, [some (.ref 1000000), some (.ref 0), some (.ref 72), some (.ref 632), some (.int x4), u5, u6, u7], v.toList ++ [], m'))))) := by
  refine Eq.trans (st1 dL_law__1674 rfl rfl) ?_
  refine Eq.trans (st1 dL_law__1675 rfl rfl) ?_
  refine Eq.trans (st1 dL_law__1676 rfl rfl) ?_
  refine Eq.trans (xiconst dL_law__1678 ci_1) ?_
  refine Eq.trans (st1 dL_law__1679 rfl rfl) ?_
  refine Eq.trans (al5 dL_law__1680 kd_XB (by decide)) (gd_congr fun g1 => ?_)
  refine Eq.trans (st1 dL_law__1681 rfl rfl) ?_
  refine Eq.trans (st1 dL_law__1682 rfl rfl) ?_
  refine Eq.trans (xiconst dL_law__1684 ci_2) ?_
  refine Eq.trans (st1 dL_law__1685 rfl rfl) ?_
  refine Eq.trans (al5 dL_law__1686 kd_XB (by decide)) (gd_congr fun g2 => ?_)
  refine Eq.trans (st1 dL_law__1687 rfl rfl) ?_
  refine Eq.trans (st1 dL_law__1688 rfl rfl) ?_
  refine Eq.trans (xiconst dL_law__1690 ci_3) ?_
  refine Eq.trans (st1 dL_law__1691 rfl rfl) ?_
  refine Eq.trans (al5 dL_law__1692 kd_XB (by decide)) (gd_congr fun g3 => ?_)
  refine Eq.trans (st1 dL_law__1693 rfl rfl) ?_
  exact is2 dL_law__1694 cp_13_205 (Nat.le_of_ble_eq_true rfl) rfl rfl (Nat.le_of_ble_eq_true rfl)
theorem q_L_law__1753 {call : CALL} {L X : Nat} {I : Nat → Nat → Int32} {J : Nat → Nat → Int64} {x4 : Int32} {u5 : Option Value} {u6 : Option Value} {u7 : Option Value} : runI call iLaw (1753, [some (.ref 1000000), some (.ref 0), some (.ref 72), some (.ref 632), some (.int x4), u5, u6, u7], [], (mm L X I J)) = gd (inb (x4 + (nI 1)) L) (gd (inb (x4 + (nI 2)) L) (gd (inb (x4 + (nI 3)) L) (bndN (call nL_street [.ref 0, .int (I 1000000 ((x4 + (nI 1))).toNatClampNeg), .int (I 1000000 ((x4 + (nI 2))).toNatClampNeg), .int (I 1000000 ((x4 + (nI 3))).toNatClampNeg), .ref 632] (mm L X I J)) (fun v m' => runI call iLaw (1776, [some (.ref 1000000), some (.ref 0), some (.ref 72), some (.ref 632), some (.int x4), u5, u6, u7], v.toList ++ [], m'))))) := by
  refine Eq.trans (st1 dL_law__1753 rfl rfl) ?_
  refine Eq.trans (st1 dL_law__1754 rfl rfl) ?_
  refine Eq.trans (st1 dL_law__1755 rfl rfl) ?_
  refine Eq.trans (xiconst dL_law__1757 ci_1) ?_
  refine Eq.trans (st1 dL_law__1758 rfl rfl) ?_
  refine Eq.trans (al5 dL_law__1759 kd_XB (by decide)) (gd_congr fun g1 => ?_)
  refine Eq.trans (st1 dL_law__1760 rfl rfl) ?_
  refine Eq.trans (st1 dL_law__1761 rfl rfl) ?_
  refine Eq.trans (xiconst dL_law__1763 ci_2) ?_
  refine Eq.trans (st1 dL_law__1764 rfl rfl) ?_
  refine Eq.trans (al5 dL_law__1765 kd_XB (by decide)) (gd_congr fun g2 => ?_)
  refine Eq.trans (st1 dL_law__1766 rfl rfl) ?_
  refine Eq.trans (st1 dL_law__1767 rfl rfl) ?_
  refine Eq.trans (xiconst dL_law__1769 ci_3) ?_
  refine Eq.trans (st1 dL_law__1770 rfl rfl) ?_
  refine Eq.trans (al5 dL_law__1771 kd_XB (by decide)) (gd_congr fun g3 => ?_)
  refine Eq.trans (st1 dL_law__1772 rfl rfl) ?_
  exact is2 dL_law__1773 cp_13_209 (Nat.le_of_ble_eq_true rfl) rfl rfl (Nat.le_of_ble_eq_true rfl)
theorem q_L_law__1833 {call : CALL} {L X : Nat} {I : Nat → Nat → Int32} {J : Nat → Nat → Int64} {x4 : Int32} {u5 : Option Value} {u6 : Option Value} {u7 : Option Value} : runI call iLaw (1833, [some (.ref 1000000), some (.ref 0), some (.ref 72), some (.ref 632), some (.int x4), u5, u6, u7], [], (mm L X I J)) = gd (inb (x4 + (nI 1)) L) (gd (inb (x4 + (nI 2)) L) (gd (inb (x4 + (nI 3)) L) (bndN (call nL_share [.ref 0, .int (I 1000000 ((x4 + (nI 1))).toNatClampNeg), .int (I 1000000 ((x4 + (nI 2))).toNatClampNeg), .int (I 1000000 ((x4 + (nI 3))).toNatClampNeg), .ref 632] (mm L X I J)) (fun v m' => runI call iLaw (1856, [some (.ref 1000000), some (.ref 0), some (.ref 72), some (.ref 632), some (.int x4), u5, u6, u7], v.toList ++ [], m'))))) := by
  refine Eq.trans (st1 dL_law__1833 rfl rfl) ?_
  refine Eq.trans (st1 dL_law__1834 rfl rfl) ?_
  refine Eq.trans (st1 dL_law__1835 rfl rfl) ?_
  refine Eq.trans (xiconst dL_law__1837 ci_1) ?_
  refine Eq.trans (st1 dL_law__1838 rfl rfl) ?_
  refine Eq.trans (al5 dL_law__1839 kd_XB (by decide)) (gd_congr fun g1 => ?_)
  refine Eq.trans (st1 dL_law__1840 rfl rfl) ?_
  refine Eq.trans (st1 dL_law__1841 rfl rfl) ?_
  refine Eq.trans (xiconst dL_law__1843 ci_2) ?_
  refine Eq.trans (st1 dL_law__1844 rfl rfl) ?_
  refine Eq.trans (al5 dL_law__1845 kd_XB (by decide)) (gd_congr fun g2 => ?_)
  refine Eq.trans (st1 dL_law__1846 rfl rfl) ?_
  refine Eq.trans (st1 dL_law__1847 rfl rfl) ?_
  refine Eq.trans (xiconst dL_law__1849 ci_3) ?_
  refine Eq.trans (st1 dL_law__1850 rfl rfl) ?_
  refine Eq.trans (al5 dL_law__1851 kd_XB (by decide)) (gd_congr fun g3 => ?_)
  refine Eq.trans (st1 dL_law__1852 rfl rfl) ?_
  exact is2 dL_law__1853 cp_13_212 (Nat.le_of_ble_eq_true rfl) rfl rfl (Nat.le_of_ble_eq_true rfl)
theorem q_L_law__1913 {call : CALL} {L X : Nat} {I : Nat → Nat → Int32} {J : Nat → Nat → Int64} {x4 : Int32} {u5 : Option Value} {u6 : Option Value} {u7 : Option Value} : runI call iLaw (1913, [some (.ref 1000000), some (.ref 0), some (.ref 72), some (.ref 632), some (.int x4), u5, u6, u7], [], (mm L X I J)) = gd (inb (x4 + (nI 1)) L) (bndN (call nL_next [.ref 0, .int (I 1000000 ((x4 + (nI 1))).toNatClampNeg), .ref 632] (mm L X I J)) (fun v m' => runI call iLaw (1924, [some (.ref 1000000), some (.ref 0), some (.ref 72), some (.ref 632), some (.int x4), u5, u6, u7], v.toList ++ [], m'))) := by
  refine Eq.trans (st1 dL_law__1913 rfl rfl) ?_
  refine Eq.trans (st1 dL_law__1914 rfl rfl) ?_
  refine Eq.trans (st1 dL_law__1915 rfl rfl) ?_
  refine Eq.trans (xiconst dL_law__1917 ci_1) ?_
  refine Eq.trans (st1 dL_law__1918 rfl rfl) ?_
  refine Eq.trans (al5 dL_law__1919 kd_XB (by decide)) (gd_congr fun g1 => ?_)
  refine Eq.trans (st1 dL_law__1920 rfl rfl) ?_
  exact is2 dL_law__1921 cp_13_215 (Nat.le_of_ble_eq_true rfl) rfl rfl (Nat.le_of_ble_eq_true rfl)
theorem q_L_law__1969 {call : CALL} {L X : Nat} {I : Nat → Nat → Int32} {J : Nat → Nat → Int64} {x4 : Int32} {u5 : Option Value} {u6 : Option Value} {u7 : Option Value} : runI call iLaw (1969, [some (.ref 1000000), some (.ref 0), some (.ref 72), some (.ref 632), some (.int x4), u5, u6, u7], [], (mm L X I J)) = gd (inb (x4 + (nI 1)) L) (bndN (call nL_worst [.ref 0, .int (I 1000000 ((x4 + (nI 1))).toNatClampNeg), .ref 632] (mm L X I J)) (fun v m' => runI call iLaw (1980, [some (.ref 1000000), some (.ref 0), some (.ref 72), some (.ref 632), some (.int x4), u5, u6, u7], v.toList ++ [], m'))) := by
  refine Eq.trans (st1 dL_law__1969 rfl rfl) ?_
  refine Eq.trans (st1 dL_law__1970 rfl rfl) ?_
  refine Eq.trans (st1 dL_law__1971 rfl rfl) ?_
  refine Eq.trans (xiconst dL_law__1973 ci_1) ?_
  refine Eq.trans (st1 dL_law__1974 rfl rfl) ?_
  refine Eq.trans (al5 dL_law__1975 kd_XB (by decide)) (gd_congr fun g1 => ?_)
  refine Eq.trans (st1 dL_law__1976 rfl rfl) ?_
  exact is2 dL_law__1977 cp_13_218 (Nat.le_of_ble_eq_true rfl) rfl rfl (Nat.le_of_ble_eq_true rfl)
theorem q_L_law__2025 {call : CALL} {L X : Nat} {I : Nat → Nat → Int32} {J : Nat → Nat → Int64} {x4 : Int32} {u5 : Option Value} {u6 : Option Value} {u7 : Option Value} : runI call iLaw (2025, [some (.ref 1000000), some (.ref 0), some (.ref 72), some (.ref 632), some (.int x4), u5, u6, u7], [], (mm L X I J)) = gd (inb (x4 + (nI 1)) L) (bndN (call nL_needed [.ref 0, .int (I 1000000 ((x4 + (nI 1))).toNatClampNeg), .ref 632] (mm L X I J)) (fun v m' => runI call iLaw (2036, [some (.ref 1000000), some (.ref 0), some (.ref 72), some (.ref 632), some (.int x4), u5, u6, u7], v.toList ++ [], m'))) := by
  refine Eq.trans (st1 dL_law__2025 rfl rfl) ?_
  refine Eq.trans (st1 dL_law__2026 rfl rfl) ?_
  refine Eq.trans (st1 dL_law__2027 rfl rfl) ?_
  refine Eq.trans (xiconst dL_law__2029 ci_1) ?_
  refine Eq.trans (st1 dL_law__2030 rfl rfl) ?_
  refine Eq.trans (al5 dL_law__2031 kd_XB (by decide)) (gd_congr fun g1 => ?_)
  refine Eq.trans (st1 dL_law__2032 rfl rfl) ?_
  exact is2 dL_law__2033 cp_13_221 (Nat.le_of_ble_eq_true rfl) rfl rfl (Nat.le_of_ble_eq_true rfl)
theorem q_L_law__2081 {call : CALL} {L X : Nat} {I : Nat → Nat → Int32} {J : Nat → Nat → Int64} {x4 : Int32} {u5 : Option Value} {u6 : Option Value} {u7 : Option Value} : runI call iLaw (2081, [some (.ref 1000000), some (.ref 0), some (.ref 72), some (.ref 632), some (.int x4), u5, u6, u7], [], (mm L X I J)) = gd (inb (x4 + (nI 1)) L) (bndN (call nL_kin [.ref 0, .int (I 1000000 ((x4 + (nI 1))).toNatClampNeg), .ref 632] (mm L X I J)) (fun v m' => runI call iLaw (2092, [some (.ref 1000000), some (.ref 0), some (.ref 72), some (.ref 632), some (.int x4), u5, u6, u7], v.toList ++ [], m'))) := by
  refine Eq.trans (st1 dL_law__2081 rfl rfl) ?_
  refine Eq.trans (st1 dL_law__2082 rfl rfl) ?_
  refine Eq.trans (st1 dL_law__2083 rfl rfl) ?_
  refine Eq.trans (xiconst dL_law__2085 ci_1) ?_
  refine Eq.trans (st1 dL_law__2086 rfl rfl) ?_
  refine Eq.trans (al5 dL_law__2087 kd_XB (by decide)) (gd_congr fun g1 => ?_)
  refine Eq.trans (st1 dL_law__2088 rfl rfl) ?_
  exact is2 dL_law__2089 cp_13_224 (Nat.le_of_ble_eq_true rfl) rfl rfl (Nat.le_of_ble_eq_true rfl)
theorem q_L_law__2137 {call : CALL} {L X : Nat} {I : Nat → Nat → Int32} {J : Nat → Nat → Int64} {x4 : Int32} {u5 : Option Value} {u6 : Option Value} {u7 : Option Value} : runI call iLaw (2137, [some (.ref 1000000), some (.ref 0), some (.ref 72), some (.ref 632), some (.int x4), u5, u6, u7], [], (mm L X I J)) = gd (inb (x4 + (nI 1)) L) (gd (inb (x4 + (nI 2)) L) (gd (inb (x4 + (nI 3)) L) (gd (inb (x4 + (nI 4)) L) (bndN (call nL_year [.ref 0, .int (I 1000000 ((x4 + (nI 1))).toNatClampNeg), .int (I 1000000 ((x4 + (nI 2))).toNatClampNeg), .int (I 1000000 ((x4 + (nI 3))).toNatClampNeg), .int (I 1000000 ((x4 + (nI 4))).toNatClampNeg), .ref 632] (mm L X I J)) (fun v m' => runI call iLaw (2166, [some (.ref 1000000), some (.ref 0), some (.ref 72), some (.ref 632), some (.int x4), u5, u6, u7], v.toList ++ [], m')))))) := by
  refine Eq.trans (st1 dL_law__2137 rfl rfl) ?_
  refine Eq.trans (st1 dL_law__2138 rfl rfl) ?_
  refine Eq.trans (st1 dL_law__2139 rfl rfl) ?_
  refine Eq.trans (xiconst dL_law__2141 ci_1) ?_
  refine Eq.trans (st1 dL_law__2142 rfl rfl) ?_
  refine Eq.trans (al5 dL_law__2143 kd_XB (by decide)) (gd_congr fun g1 => ?_)
  refine Eq.trans (st1 dL_law__2144 rfl rfl) ?_
  refine Eq.trans (st1 dL_law__2145 rfl rfl) ?_
  refine Eq.trans (xiconst dL_law__2147 ci_2) ?_
  refine Eq.trans (st1 dL_law__2148 rfl rfl) ?_
  refine Eq.trans (al5 dL_law__2149 kd_XB (by decide)) (gd_congr fun g2 => ?_)
  refine Eq.trans (st1 dL_law__2150 rfl rfl) ?_
  refine Eq.trans (st1 dL_law__2151 rfl rfl) ?_
  refine Eq.trans (xiconst dL_law__2153 ci_3) ?_
  refine Eq.trans (st1 dL_law__2154 rfl rfl) ?_
  refine Eq.trans (al5 dL_law__2155 kd_XB (by decide)) (gd_congr fun g3 => ?_)
  refine Eq.trans (st1 dL_law__2156 rfl rfl) ?_
  refine Eq.trans (st1 dL_law__2157 rfl rfl) ?_
  refine Eq.trans (xiconst dL_law__2159 ci_4) ?_
  refine Eq.trans (st1 dL_law__2160 rfl rfl) ?_
  refine Eq.trans (al5 dL_law__2161 kd_XB (by decide)) (gd_congr fun g4 => ?_)
  refine Eq.trans (st1 dL_law__2162 rfl rfl) ?_
  exact is2 dL_law__2163 cp_13_227 (Nat.le_of_ble_eq_true rfl) rfl rfl (Nat.le_of_ble_eq_true rfl)
theorem q_L_law__2229 {call : CALL} {L X : Nat} {I : Nat → Nat → Int32} {J : Nat → Nat → Int64} {x4 : Int32} {u5 : Option Value} {u6 : Option Value} {u7 : Option Value} : runI call iLaw (2229, [some (.ref 1000000), some (.ref 0), some (.ref 72), some (.ref 632), some (.int x4), u5, u6, u7], [], (mm L X I J)) = gd (inb (x4 + (nI 1)) L) (gd (inb (x4 + (nI 2)) L) (gd (inb (x4 + (nI 3)) L) (gd (inb (x4 + (nI 4)) L) (gd (inb (x4 + (nI 5)) L) (gd (inb (x4 + (nI 6)) L) (bndN (call nL_span [.ref 0, .int (I 1000000 ((x4 + (nI 1))).toNatClampNeg), .int (I 1000000 ((x4 + (nI 2))).toNatClampNeg), .int (I 1000000 ((x4 + (nI 3))).toNatClampNeg), .int (I 1000000 ((x4 + (nI 4))).toNatClampNeg), .int (I 1000000 ((x4 + (nI 5))).toNatClampNeg), .int (I 1000000 ((x4 + (nI 6))).toNatClampNeg), .ref 632] (mm L X I J)) (fun v m' => runI call iLaw (2271, [some (.ref 1000000), some (.ref 0), some (.ref 72), some (.ref 632), some (.int x4), u5, u6, u7], v.toList ++ [], m')))))))) := by
  refine Eq.trans (st1 dL_law__2229 rfl rfl) ?_
  refine Eq.trans (st1 dL_law__2230 rfl rfl) ?_
  refine Eq.trans (st1 dL_law__2231 rfl rfl) ?_
  refine Eq.trans (xiconst dL_law__2233 ci_1) ?_
  refine Eq.trans (st1 dL_law__2234 rfl rfl) ?_
  refine Eq.trans (al5 dL_law__2235 kd_XB (by decide)) (gd_congr fun g1 => ?_)
  refine Eq.trans (st1 dL_law__2236 rfl rfl) ?_
  refine Eq.trans (st1 dL_law__2237 rfl rfl) ?_
  refine Eq.trans (xiconst dL_law__2239 ci_2) ?_
  refine Eq.trans (st1 dL_law__2240 rfl rfl) ?_
  refine Eq.trans (al5 dL_law__2241 kd_XB (by decide)) (gd_congr fun g2 => ?_)
  refine Eq.trans (st1 dL_law__2242 rfl rfl) ?_
  refine Eq.trans (st1 dL_law__2243 rfl rfl) ?_
  refine Eq.trans (xiconst dL_law__2245 ci_3) ?_
  refine Eq.trans (st1 dL_law__2246 rfl rfl) ?_
  refine Eq.trans (al5 dL_law__2247 kd_XB (by decide)) (gd_congr fun g3 => ?_)
  refine Eq.trans (st1 dL_law__2248 rfl rfl) ?_
  refine Eq.trans (st1 dL_law__2249 rfl rfl) ?_
  refine Eq.trans (xiconst dL_law__2251 ci_4) ?_
  refine Eq.trans (st1 dL_law__2252 rfl rfl) ?_
  refine Eq.trans (al5 dL_law__2253 kd_XB (by decide)) (gd_congr fun g4 => ?_)
  refine Eq.trans (st1 dL_law__2254 rfl rfl) ?_
  refine Eq.trans (st1 dL_law__2255 rfl rfl) ?_
  refine Eq.trans (xiconst dL_law__2257 ci_5) ?_
  refine Eq.trans (st1 dL_law__2258 rfl rfl) ?_
  refine Eq.trans (al5 dL_law__2259 kd_XB (by decide)) (gd_congr fun g5 => ?_)
  refine Eq.trans (st1 dL_law__2260 rfl rfl) ?_
  refine Eq.trans (st1 dL_law__2261 rfl rfl) ?_
  refine Eq.trans (xbipush dL_law__2263 cb_6) ?_
  refine Eq.trans (st1 dL_law__2265 rfl rfl) ?_
  refine Eq.trans (al5 dL_law__2266 kd_XB (by decide)) (gd_congr fun g6 => ?_)
  refine Eq.trans (st1 dL_law__2267 rfl rfl) ?_
  exact is2 dL_law__2268 cp_13_231 (Nat.le_of_ble_eq_true rfl) rfl rfl (Nat.le_of_ble_eq_true rfl)
theorem q_L_law__2347 {call : CALL} {L X : Nat} {I : Nat → Nat → Int32} {J : Nat → Nat → Int64} {x4 : Int32} {u5 : Option Value} {u6 : Option Value} {u7 : Option Value} : runI call iLaw (2347, [some (.ref 1000000), some (.ref 0), some (.ref 72), some (.ref 632), some (.int x4), u5, u6, u7], [], (mm L X I J)) = bnd (call nX11_image [.ref 0] (mm L X I J)) (fun v m' => runI call iLaw (2351, [some (.ref 1000000), some (.ref 0), some (.ref 72), some (.ref 632), some (.int x4), u5, u6, u7], v.toList ++ [], m')) := by
  refine Eq.trans (st1 dL_law__2347 rfl rfl) ?_
  exact iv0 dL_law__2348 rfl cp_13_235 rfl rfl (kd_ka ka_0) ka_0.1 (Nat.le_of_ble_eq_true rfl)
theorem q_L_law__2360 {call : CALL} {L X : Nat} {I : Nat → Nat → Int32} {J : Nat → Nat → Int64} {x4 : Int32} {u5 : Option Value} {u6 : Option Value} {u7 : Option Value} : runI call iLaw (2360, [some (.ref 1000000), some (.ref 0), some (.ref 72), some (.ref 632), some (.int x4), u5, u6, u7], [], (mm L X I J)) = bnd (call nX11_restore [.ref 0] (mm L X I J)) (fun v m' => runI call iLaw (2364, [some (.ref 1000000), some (.ref 0), some (.ref 72), some (.ref 632), some (.int x4), u5, u6, u7], v.toList ++ [], m')) := by
  refine Eq.trans (st1 dL_law__2360 rfl rfl) ?_
  exact iv0 dL_law__2361 rfl cp_13_239 rfl rfl (kd_ka ka_0) ka_0.1 (Nat.le_of_ble_eq_true rfl)
theorem q_L_law__2373 {call : CALL} {L X : Nat} {I : Nat → Nat → Int32} {J : Nat → Nat → Int64} {x4 : Int32} {u5 : Option Value} {u6 : Option Value} {u7 : Option Value} : runI call iLaw (2373, [some (.ref 1000000), some (.ref 0), some (.ref 72), some (.ref 632), some (.int x4), u5, u6, u7], [], (mm L X I J)) = gd (inb (x4 + (nI 1)) L) (bnd (call nX11_status [.ref 0, .int (I 1000000 ((x4 + (nI 1))).toNatClampNeg)] (mm L X I J)) (fun v m' => runI call iLaw (2383, [some (.ref 1000000), some (.ref 0), some (.ref 72), some (.ref 632), some (.int x4), u5, u6, u7], v.toList ++ [], m'))) := by
  refine Eq.trans (st1 dL_law__2373 rfl rfl) ?_
  refine Eq.trans (st1 dL_law__2374 rfl rfl) ?_
  refine Eq.trans (st1 dL_law__2375 rfl rfl) ?_
  refine Eq.trans (xiconst dL_law__2377 ci_1) ?_
  refine Eq.trans (st1 dL_law__2378 rfl rfl) ?_
  refine Eq.trans (al5 dL_law__2379 kd_XB (by decide)) (gd_congr fun g1 => ?_)
  exact iv0 dL_law__2380 rfl cp_13_243 rfl rfl (kd_ka ka_0) ka_0.1 (Nat.le_of_ble_eq_true rfl)
theorem q_L_law__2398 {call : CALL} {L X : Nat} {I : Nat → Nat → Int32} {J : Nat → Nat → Int64} {x4 : Int32} {u5 : Option Value} {u6 : Option Value} {u7 : Option Value} : runI call iLaw (2398, [some (.ref 1000000), some (.ref 0), some (.ref 72), some (.ref 632), some (.int x4), u5, u6, u7], [], (mm L X I J)) = gd (inb (x4 + (nI 1)) L) (bnd (call nX11_count [.ref 0, .int (I 1000000 ((x4 + (nI 1))).toNatClampNeg)] (mm L X I J)) (fun v m' => runI call iLaw (2408, [some (.ref 1000000), some (.ref 0), some (.ref 72), some (.ref 632), some (.int x4), u5, u6, u7], v.toList ++ [], m'))) := by
  refine Eq.trans (st1 dL_law__2398 rfl rfl) ?_
  refine Eq.trans (st1 dL_law__2399 rfl rfl) ?_
  refine Eq.trans (st1 dL_law__2400 rfl rfl) ?_
  refine Eq.trans (xiconst dL_law__2402 ci_1) ?_
  refine Eq.trans (st1 dL_law__2403 rfl rfl) ?_
  refine Eq.trans (al5 dL_law__2404 kd_XB (by decide)) (gd_congr fun g1 => ?_)
  exact iv0 dL_law__2405 rfl cp_13_247 rfl rfl (kd_ka ka_0) ka_0.1 (Nat.le_of_ble_eq_true rfl)
theorem q_L_law__2423 {call : CALL} {L X : Nat} {I : Nat → Nat → Int32} {J : Nat → Nat → Int64} {x4 : Int32} {u5 : Option Value} {u6 : Option Value} {u7 : Option Value} : runI call iLaw (2423, [some (.ref 1000000), some (.ref 0), some (.ref 72), some (.ref 632), some (.int x4), u5, u6, u7], [], (mm L X I J)) = runI call iLaw (23, [some (.ref 1000000), some (.ref 0), some (.ref 72), some (.ref 632), some (.int (x4 + (nI 10))), u5, u6, u7], [], (mm L X I J)) := by
  refine Eq.trans (xinc2 dL_law__2423 ci_10 rfl (Nat.le_of_ble_eq_true rfl) rfl) ?_
  refine Eq.trans (go_to (tgt := 23) dL_law__2426 (by decide +kernel)) ?_
  rfl
theorem q_L_law__242 {call : CALL} {L X : Nat} {I : Nat → Nat → Int32} {J : Nat → Nat → Int64} {x4 : Int32} {u5 : Option Value} {u6 : Option Value} {u7 : Option Value} {s0 : Int32} : runI call iLaw (242, [some (.ref 1000000), some (.ref 0), some (.ref 72), some (.ref 632), some (.int x4), u5, u6, u7], [.int s0], (mm L X I J)) = gd (inb (x4 + (nI 1)) L) (gd (inb (x4 + (nI 2)) L) (gd (inb (x4 + (nI 3)) L) (gd (inb (x4 + (nI 4)) L) (gd (inb (x4 + (nI 5)) L) (bnd (call nX12_feed [.ref 72, .int (I 1000000 ((x4 + (nI 1))).toNatClampNeg), .int (I 1000000 ((x4 + (nI 2))).toNatClampNeg), .int (I 1000000 ((x4 + (nI 3))).toNatClampNeg), .int (I 1000000 ((x4 + (nI 4))).toNatClampNeg), .int (I 1000000 ((x4 + (nI 5))).toNatClampNeg)] (mm L X I J)) (fun v m' => runI call iLaw (276, [some (.ref 1000000), some (.ref 0), some (.ref 72), some (.ref 632), some (.int x4), u5, u6, u7], v.toList ++ [.int s0], m'))))))) := by
  refine Eq.trans (st1 dL_law__242 rfl rfl) ?_
  refine Eq.trans (st1 dL_law__243 rfl rfl) ?_
  refine Eq.trans (st1 dL_law__244 rfl rfl) ?_
  refine Eq.trans (xiconst dL_law__246 ci_1) ?_
  refine Eq.trans (st1 dL_law__247 rfl rfl) ?_
  refine Eq.trans (al5 dL_law__248 kd_XB (by decide)) (gd_congr fun g1 => ?_)
  refine Eq.trans (st1 dL_law__249 rfl rfl) ?_
  refine Eq.trans (st1 dL_law__250 rfl rfl) ?_
  refine Eq.trans (xiconst dL_law__252 ci_2) ?_
  refine Eq.trans (st1 dL_law__253 rfl rfl) ?_
  refine Eq.trans (al5 dL_law__254 kd_XB (by decide)) (gd_congr fun g2 => ?_)
  refine Eq.trans (st1 dL_law__255 rfl rfl) ?_
  refine Eq.trans (st1 dL_law__256 rfl rfl) ?_
  refine Eq.trans (xiconst dL_law__258 ci_3) ?_
  refine Eq.trans (st1 dL_law__259 rfl rfl) ?_
  refine Eq.trans (al5 dL_law__260 kd_XB (by decide)) (gd_congr fun g3 => ?_)
  refine Eq.trans (st1 dL_law__261 rfl rfl) ?_
  refine Eq.trans (st1 dL_law__262 rfl rfl) ?_
  refine Eq.trans (xiconst dL_law__264 ci_4) ?_
  refine Eq.trans (st1 dL_law__265 rfl rfl) ?_
  refine Eq.trans (al5 dL_law__266 kd_XB (by decide)) (gd_congr fun g4 => ?_)
  refine Eq.trans (st1 dL_law__267 rfl rfl) ?_
  refine Eq.trans (st1 dL_law__268 rfl rfl) ?_
  refine Eq.trans (xiconst dL_law__270 ci_5) ?_
  refine Eq.trans (st1 dL_law__271 rfl rfl) ?_
  refine Eq.trans (al5 dL_law__272 kd_XB (by decide)) (gd_congr fun g5 => ?_)
  exact iv0 dL_law__273 rfl cp_13_120 rfl rfl (kd_ka ka_72) ka_72.1 (Nat.le_of_ble_eq_true rfl)
theorem q_L_law__292 {call : CALL} {L X : Nat} {I : Nat → Nat → Int32} {J : Nat → Nat → Int64} {x4 : Int32} {u5 : Option Value} {u6 : Option Value} {u7 : Option Value} {s0 : Int32} : runI call iLaw (292, [some (.ref 1000000), some (.ref 0), some (.ref 72), some (.ref 632), some (.int x4), u5, u6, u7], [.int s0], (mm L X I J)) = gd (inb (x4 + (nI 1)) L) (bnd (call nX12_house [.ref 72, .int (I 1000000 ((x4 + (nI 1))).toNatClampNeg)] (mm L X I J)) (fun v m' => runI call iLaw (304, [some (.ref 1000000), some (.ref 0), some (.ref 72), some (.ref 632), some (.int x4), some (.int s0), u6, u7], v.toList ++ [], m'))) := by
  refine Eq.trans (st1 dL_law__292 rfl rfl) ?_
  refine Eq.trans (st1 dL_law__294 rfl rfl) ?_
  refine Eq.trans (st1 dL_law__295 rfl rfl) ?_
  refine Eq.trans (st1 dL_law__296 rfl rfl) ?_
  refine Eq.trans (xiconst dL_law__298 ci_1) ?_
  refine Eq.trans (st1 dL_law__299 rfl rfl) ?_
  refine Eq.trans (al5 dL_law__300 kd_XB (by decide)) (gd_congr fun g1 => ?_)
  exact iv0 dL_law__301 rfl cp_13_126 rfl rfl (kd_ka ka_72) ka_72.1 (Nat.le_of_ble_eq_true rfl)
theorem q_L_law__348 {call : CALL} {L X : Nat} {I : Nat → Nat → Int32} {J : Nat → Nat → Int64} {x4 : Int32} {u5 : Option Value} {u6 : Option Value} {u7 : Option Value} {s0 : Int32} : runI call iLaw (348, [some (.ref 1000000), some (.ref 0), some (.ref 72), some (.ref 632), some (.int x4), u5, u6, u7], [.int s0], (mm L X I J)) = gd (inb (x4 + (nI 1)) L) (bnd (call nX12_law [.ref 72, .int (I 1000000 ((x4 + (nI 1))).toNatClampNeg)] (mm L X I J)) (fun v m' => runI call iLaw (360, [some (.ref 1000000), some (.ref 0), some (.ref 72), some (.ref 632), some (.int x4), some (.int s0), u6, u7], v.toList ++ [], m'))) := by
  refine Eq.trans (st1 dL_law__348 rfl rfl) ?_
  refine Eq.trans (st1 dL_law__350 rfl rfl) ?_
  refine Eq.trans (st1 dL_law__351 rfl rfl) ?_
  refine Eq.trans (st1 dL_law__352 rfl rfl) ?_
  refine Eq.trans (xiconst dL_law__354 ci_1) ?_
  refine Eq.trans (st1 dL_law__355 rfl rfl) ?_
  refine Eq.trans (al5 dL_law__356 kd_XB (by decide)) (gd_congr fun g1 => ?_)
  exact iv0 dL_law__357 rfl cp_13_133 rfl rfl (kd_ka ka_72) ka_72.1 (Nat.le_of_ble_eq_true rfl)
theorem q_L_law__404 {call : CALL} {L X : Nat} {I : Nat → Nat → Int32} {J : Nat → Nat → Int64} {x4 : Int32} {u5 : Option Value} {u6 : Option Value} {u7 : Option Value} {s0 : Int32} : runI call iLaw (404, [some (.ref 1000000), some (.ref 0), some (.ref 72), some (.ref 632), some (.int x4), u5, u6, u7], [.int s0], (mm L X I J)) = gd (inb (x4 + (nI 1)) L) (bnd (call nX12_work [.ref 72, .int (I 1000000 ((x4 + (nI 1))).toNatClampNeg)] (mm L X I J)) (fun v m' => runI call iLaw (416, [some (.ref 1000000), some (.ref 0), some (.ref 72), some (.ref 632), some (.int x4), some (.int s0), u6, u7], v.toList ++ [], m'))) := by
  refine Eq.trans (st1 dL_law__404 rfl rfl) ?_
  refine Eq.trans (st1 dL_law__406 rfl rfl) ?_
  refine Eq.trans (st1 dL_law__407 rfl rfl) ?_
  refine Eq.trans (st1 dL_law__408 rfl rfl) ?_
  refine Eq.trans (xiconst dL_law__410 ci_1) ?_
  refine Eq.trans (st1 dL_law__411 rfl rfl) ?_
  refine Eq.trans (al5 dL_law__412 kd_XB (by decide)) (gd_congr fun g1 => ?_)
  exact iv0 dL_law__413 rfl cp_13_136 rfl rfl (kd_ka ka_72) ka_72.1 (Nat.le_of_ble_eq_true rfl)
theorem q_L_law__460 {call : CALL} {L X : Nat} {I : Nat → Nat → Int32} {J : Nat → Nat → Int64} {x4 : Int32} {u5 : Option Value} {u6 : Option Value} {u7 : Option Value} {s0 : Int32} : runI call iLaw (460, [some (.ref 1000000), some (.ref 0), some (.ref 72), some (.ref 632), some (.int x4), u5, u6, u7], [.int s0], (mm L X I J)) = gd (inb (x4 + (nI 1)) L) (bnd (call nX12_book [.ref 72, .int (I 1000000 ((x4 + (nI 1))).toNatClampNeg)] (mm L X I J)) (fun v m' => runI call iLaw (472, [some (.ref 1000000), some (.ref 0), some (.ref 72), some (.ref 632), some (.int x4), some (.int s0), u6, u7], v.toList ++ [], m'))) := by
  refine Eq.trans (st1 dL_law__460 rfl rfl) ?_
  refine Eq.trans (st1 dL_law__462 rfl rfl) ?_
  refine Eq.trans (st1 dL_law__463 rfl rfl) ?_
  refine Eq.trans (st1 dL_law__464 rfl rfl) ?_
  refine Eq.trans (xiconst dL_law__466 ci_1) ?_
  refine Eq.trans (st1 dL_law__467 rfl rfl) ?_
  refine Eq.trans (al5 dL_law__468 kd_XB (by decide)) (gd_congr fun g1 => ?_)
  exact iv0 dL_law__469 rfl cp_13_139 rfl rfl (kd_ka ka_72) ka_72.1 (Nat.le_of_ble_eq_true rfl)
theorem q_L_law__509 {call : CALL} {L X : Nat} {I : Nat → Nat → Int32} {J : Nat → Nat → Int64} {x4 : Int32} {u5 : Option Value} {u6 : Option Value} {u7 : Option Value} {s0 : Int32} : runI call iLaw (509, [some (.ref 1000000), some (.ref 0), some (.ref 72), some (.ref 632), some (.int x4), u5, u6, u7], [.int s0], (mm L X I J)) = bnd (call nX12_fault [.ref 72] (mm L X I J)) (fun v m' => runI call iLaw (513, [some (.ref 1000000), some (.ref 0), some (.ref 72), some (.ref 632), some (.int x4), u5, u6, u7], v.toList ++ [.int s0], m')) := by
  refine Eq.trans (st1 dL_law__509 rfl rfl) ?_
  exact iv0 dL_law__510 rfl cp_13_143 rfl rfl (kd_ka ka_72) ka_72.1 (Nat.le_of_ble_eq_true rfl)
theorem q_L_law__522 {call : CALL} {L X : Nat} {I : Nat → Nat → Int32} {J : Nat → Nat → Int64} {x4 : Int32} {u5 : Option Value} {u6 : Option Value} {u7 : Option Value} {s0 : Int32} : runI call iLaw (522, [some (.ref 1000000), some (.ref 0), some (.ref 72), some (.ref 632), some (.int x4), u5, u6, u7], [.int s0], (mm L X I J)) = bnd (call nX12_undo [.ref 72] (mm L X I J)) (fun v m' => runI call iLaw (526, [some (.ref 1000000), some (.ref 0), some (.ref 72), some (.ref 632), some (.int x4), u5, u6, u7], v.toList ++ [.int s0], m')) := by
  refine Eq.trans (st1 dL_law__522 rfl rfl) ?_
  exact iv0 dL_law__523 rfl cp_13_147 rfl rfl (kd_ka ka_72) ka_72.1 (Nat.le_of_ble_eq_true rfl)
theorem q_L_law__542 {call : CALL} {L X : Nat} {I : Nat → Nat → Int32} {J : Nat → Nat → Int64} {x4 : Int32} {u5 : Option Value} {u6 : Option Value} {u7 : Option Value} {s0 : Int32} : runI call iLaw (542, [some (.ref 1000000), some (.ref 0), some (.ref 72), some (.ref 632), some (.int x4), u5, u6, u7], [.int s0], (mm L X I J)) = gd (inb (x4 + (nI 1)) L) (bnd (call nX12_told [.ref 72, .int (I 1000000 ((x4 + (nI 1))).toNatClampNeg)] (mm L X I J)) (fun v m' => runI call iLaw (554, [some (.ref 1000000), some (.ref 0), some (.ref 72), some (.ref 632), some (.int x4), some (.int s0), u6, u7], v.toList ++ [], m'))) := by
  refine Eq.trans (st1 dL_law__542 rfl rfl) ?_
  refine Eq.trans (st1 dL_law__544 rfl rfl) ?_
  refine Eq.trans (st1 dL_law__545 rfl rfl) ?_
  refine Eq.trans (st1 dL_law__546 rfl rfl) ?_
  refine Eq.trans (xiconst dL_law__548 ci_1) ?_
  refine Eq.trans (st1 dL_law__549 rfl rfl) ?_
  refine Eq.trans (al5 dL_law__550 kd_XB (by decide)) (gd_congr fun g1 => ?_)
  exact iv0 dL_law__551 rfl cp_13_150 rfl rfl (kd_ka ka_72) ka_72.1 (Nat.le_of_ble_eq_true rfl)
theorem q_L_law__604 {call : CALL} {L X : Nat} {I : Nat → Nat → Int32} {J : Nat → Nat → Int64} {x4 : Int32} {u5 : Option Value} {u6 : Option Value} {u7 : Option Value} {s0 : Int32} : runI call iLaw (604, [some (.ref 1000000), some (.ref 0), some (.ref 72), some (.ref 632), some (.int x4), u5, u6, u7], [.int s0], (mm L X I J)) = gd (inb (x4 + (nI 1)) L) (gd (inb (x4 + (nI 2)) L) (bnd (call nX12_piece [.ref 72, .int (I 1000000 ((x4 + (nI 1))).toNatClampNeg), .int (I 1000000 ((x4 + (nI 2))).toNatClampNeg)] (mm L X I J)) (fun v m' => runI call iLaw (622, [some (.ref 1000000), some (.ref 0), some (.ref 72), some (.ref 632), some (.int x4), some (.int s0), u6, u7], v.toList ++ [], m')))) := by
  refine Eq.trans (st1 dL_law__604 rfl rfl) ?_
  refine Eq.trans (st1 dL_law__606 rfl rfl) ?_
  refine Eq.trans (st1 dL_law__607 rfl rfl) ?_
  refine Eq.trans (st1 dL_law__608 rfl rfl) ?_
  refine Eq.trans (xiconst dL_law__610 ci_1) ?_
  refine Eq.trans (st1 dL_law__611 rfl rfl) ?_
  refine Eq.trans (al5 dL_law__612 kd_XB (by decide)) (gd_congr fun g1 => ?_)
  refine Eq.trans (st1 dL_law__613 rfl rfl) ?_
  refine Eq.trans (st1 dL_law__614 rfl rfl) ?_
  refine Eq.trans (xiconst dL_law__616 ci_2) ?_
  refine Eq.trans (st1 dL_law__617 rfl rfl) ?_
  refine Eq.trans (al5 dL_law__618 kd_XB (by decide)) (gd_congr fun g2 => ?_)
  exact iv0 dL_law__619 rfl cp_13_154 rfl rfl (kd_ka ka_72) ka_72.1 (Nat.le_of_ble_eq_true rfl)
theorem q_L_law__672 {call : CALL} {L X : Nat} {I : Nat → Nat → Int32} {J : Nat → Nat → Int64} {x4 : Int32} {u5 : Option Value} {u6 : Option Value} {u7 : Option Value} {s0 : Int32} : runI call iLaw (672, [some (.ref 1000000), some (.ref 0), some (.ref 72), some (.ref 632), some (.int x4), u5, u6, u7], [.int s0], (mm L X I J)) = gd (inb (x4 + (nI 1)) L) (gd (inb (x4 + (nI 2)) L) (bnd (call nX12_collar [.ref 72, .int (I 1000000 ((x4 + (nI 1))).toNatClampNeg), .int (I 1000000 ((x4 + (nI 2))).toNatClampNeg)] (mm L X I J)) (fun v m' => runI call iLaw (690, [some (.ref 1000000), some (.ref 0), some (.ref 72), some (.ref 632), some (.int x4), some (.int s0), u6, u7], v.toList ++ [], m')))) := by
  refine Eq.trans (st1 dL_law__672 rfl rfl) ?_
  refine Eq.trans (st1 dL_law__674 rfl rfl) ?_
  refine Eq.trans (st1 dL_law__675 rfl rfl) ?_
  refine Eq.trans (st1 dL_law__676 rfl rfl) ?_
  refine Eq.trans (xiconst dL_law__678 ci_1) ?_
  refine Eq.trans (st1 dL_law__679 rfl rfl) ?_
  refine Eq.trans (al5 dL_law__680 kd_XB (by decide)) (gd_congr fun g1 => ?_)
  refine Eq.trans (st1 dL_law__681 rfl rfl) ?_
  refine Eq.trans (st1 dL_law__682 rfl rfl) ?_
  refine Eq.trans (xiconst dL_law__684 ci_2) ?_
  refine Eq.trans (st1 dL_law__685 rfl rfl) ?_
  refine Eq.trans (al5 dL_law__686 kd_XB (by decide)) (gd_congr fun g2 => ?_)
  exact iv0 dL_law__687 rfl cp_13_157 rfl rfl (kd_ka ka_72) ka_72.1 (Nat.le_of_ble_eq_true rfl)
theorem q_L_law__740 {call : CALL} {L X : Nat} {I : Nat → Nat → Int32} {J : Nat → Nat → Int64} {x4 : Int32} {u5 : Option Value} {u6 : Option Value} {u7 : Option Value} {s0 : Int32} : runI call iLaw (740, [some (.ref 1000000), some (.ref 0), some (.ref 72), some (.ref 632), some (.int x4), u5, u6, u7], [.int s0], (mm L X I J)) = gd (inb (x4 + (nI 1)) L) (gd (inb (x4 + (nI 2)) L) (bnd (call nX12_fire [.ref 72, .int (I 1000000 ((x4 + (nI 1))).toNatClampNeg), .int (I 1000000 ((x4 + (nI 2))).toNatClampNeg)] (mm L X I J)) (fun v m' => runI call iLaw (758, [some (.ref 1000000), some (.ref 0), some (.ref 72), some (.ref 632), some (.int x4), some (.int s0), u6, u7], v.toList ++ [], m')))) := by
  refine Eq.trans (st1 dL_law__740 rfl rfl) ?_
  refine Eq.trans (st1 dL_law__742 rfl rfl) ?_
  refine Eq.trans (st1 dL_law__743 rfl rfl) ?_
  refine Eq.trans (st1 dL_law__744 rfl rfl) ?_
  refine Eq.trans (xiconst dL_law__746 ci_1) ?_
  refine Eq.trans (st1 dL_law__747 rfl rfl) ?_
  refine Eq.trans (al5 dL_law__748 kd_XB (by decide)) (gd_congr fun g1 => ?_)
  refine Eq.trans (st1 dL_law__749 rfl rfl) ?_
  refine Eq.trans (st1 dL_law__750 rfl rfl) ?_
  refine Eq.trans (xiconst dL_law__752 ci_2) ?_
  refine Eq.trans (st1 dL_law__753 rfl rfl) ?_
  refine Eq.trans (al5 dL_law__754 kd_XB (by decide)) (gd_congr fun g2 => ?_)
  exact iv0 dL_law__755 rfl cp_13_160 rfl rfl (kd_ka ka_72) ka_72.1 (Nat.le_of_ble_eq_true rfl)
theorem q_L_law__802 {call : CALL} {L X : Nat} {I : Nat → Nat → Int32} {J : Nat → Nat → Int64} {x4 : Int32} {u5 : Option Value} {u6 : Option Value} {u7 : Option Value} {s0 : Int32} : runI call iLaw (802, [some (.ref 1000000), some (.ref 0), some (.ref 72), some (.ref 632), some (.int x4), u5, u6, u7], [.int s0], (mm L X I J)) = gd (inb (x4 + (nI 1)) L) (bnd (call nX12_row [.ref 72, .int (I 1000000 ((x4 + (nI 1))).toNatClampNeg)] (mm L X I J)) (fun v m' => runI call iLaw (814, [some (.ref 1000000), some (.ref 0), some (.ref 72), some (.ref 632), some (.int x4), some (.int s0), u6, u7], v.toList ++ [], m'))) := by
  refine Eq.trans (st1 dL_law__802 rfl rfl) ?_
  refine Eq.trans (st1 dL_law__804 rfl rfl) ?_
  refine Eq.trans (st1 dL_law__805 rfl rfl) ?_
  refine Eq.trans (st1 dL_law__806 rfl rfl) ?_
  refine Eq.trans (xiconst dL_law__808 ci_1) ?_
  refine Eq.trans (st1 dL_law__809 rfl rfl) ?_
  refine Eq.trans (al5 dL_law__810 kd_XB (by decide)) (gd_congr fun g1 => ?_)
  exact iv0 dL_law__811 rfl cp_13_163 rfl rfl (kd_ka ka_72) ka_72.1 (Nat.le_of_ble_eq_true rfl)
theorem q_L_law__858 {call : CALL} {L X : Nat} {I : Nat → Nat → Int32} {J : Nat → Nat → Int64} {x4 : Int32} {u5 : Option Value} {u6 : Option Value} {u7 : Option Value} {s0 : Int32} : runI call iLaw (858, [some (.ref 1000000), some (.ref 0), some (.ref 72), some (.ref 632), some (.int x4), u5, u6, u7], [.int s0], (mm L X I J)) = gd (inb (x4 + (nI 1)) L) (bnd (call nX12_behind [.ref 72, .int (I 1000000 ((x4 + (nI 1))).toNatClampNeg)] (mm L X I J)) (fun v m' => runI call iLaw (870, [some (.ref 1000000), some (.ref 0), some (.ref 72), some (.ref 632), some (.int x4), some (.int s0), u6, u7], v.toList ++ [], m'))) := by
  refine Eq.trans (st1 dL_law__858 rfl rfl) ?_
  refine Eq.trans (st1 dL_law__860 rfl rfl) ?_
  refine Eq.trans (st1 dL_law__861 rfl rfl) ?_
  refine Eq.trans (st1 dL_law__862 rfl rfl) ?_
  refine Eq.trans (xiconst dL_law__864 ci_1) ?_
  refine Eq.trans (st1 dL_law__865 rfl rfl) ?_
  refine Eq.trans (al5 dL_law__866 kd_XB (by decide)) (gd_congr fun g1 => ?_)
  exact iv0 dL_law__867 rfl cp_13_166 rfl rfl (kd_ka ka_72) ka_72.1 (Nat.le_of_ble_eq_true rfl)
theorem q_L_law__966 {call : CALL} {L X : Nat} {I : Nat → Nat → Int32} {J : Nat → Nat → Int64} {x4 : Int32} {u5 : Option Value} {u6 : Option Value} {u7 : Option Value} {s0 : Int32} : runI call iLaw (966, [some (.ref 1000000), some (.ref 0), some (.ref 72), some (.ref 632), some (.int x4), u5, u6, u7], [.int s0], (mm L X I J)) = gd (inb (x4 + (nI 1)) L) (gd (inb (x4 + (nI 2)) L) (gd (inb (x4 + (nI 3)) L) (gd (inb (x4 + (nI 4)) L) (gd (inb (x4 + (nI 5)) L) (gd (inb (x4 + (nI 6)) L) (gd (inb (x4 + (nI 7)) L) (gd (inb (x4 + (nI 8)) L) (gd (inb (x4 + (nI 9)) L) (bnd (call nX12_would [.ref 72, .int (I 1000000 ((x4 + (nI 1))).toNatClampNeg), .int (I 1000000 ((x4 + (nI 2))).toNatClampNeg), .int (I 1000000 ((x4 + (nI 3))).toNatClampNeg), .int (I 1000000 ((x4 + (nI 4))).toNatClampNeg), .int (I 1000000 ((x4 + (nI 5))).toNatClampNeg), .int (I 1000000 ((x4 + (nI 6))).toNatClampNeg), .int (I 1000000 ((x4 + (nI 7))).toNatClampNeg), .int (I 1000000 ((x4 + (nI 8))).toNatClampNeg), .int (I 1000000 ((x4 + (nI 9))).toNatClampNeg)] (mm L X I J)) (fun v m' => runI call iLaw (1030, [some (.ref 1000000), some (.ref 0), some (.ref 72), some (.ref 632), some (.int x4), some (.int s0), u6, u7], v.toList ++ [], m'))))))))))) := by
  refine Eq.trans (st1 dL_law__966 rfl rfl) ?_
  refine Eq.trans (st1 dL_law__968 rfl rfl) ?_
  refine Eq.trans (st1 dL_law__969 rfl rfl) ?_
  refine Eq.trans (st1 dL_law__970 rfl rfl) ?_
  refine Eq.trans (xiconst dL_law__972 ci_1) ?_
  refine Eq.trans (st1 dL_law__973 rfl rfl) ?_
  refine Eq.trans (al5 dL_law__974 kd_XB (by decide)) (gd_congr fun g1 => ?_)
  refine Eq.trans (st1 dL_law__975 rfl rfl) ?_
  refine Eq.trans (st1 dL_law__976 rfl rfl) ?_
  refine Eq.trans (xiconst dL_law__978 ci_2) ?_
  refine Eq.trans (st1 dL_law__979 rfl rfl) ?_
  refine Eq.trans (al5 dL_law__980 kd_XB (by decide)) (gd_congr fun g2 => ?_)
  refine Eq.trans (st1 dL_law__981 rfl rfl) ?_
  refine Eq.trans (st1 dL_law__982 rfl rfl) ?_
  refine Eq.trans (xiconst dL_law__984 ci_3) ?_
  refine Eq.trans (st1 dL_law__985 rfl rfl) ?_
  refine Eq.trans (al5 dL_law__986 kd_XB (by decide)) (gd_congr fun g3 => ?_)
  refine Eq.trans (st1 dL_law__987 rfl rfl) ?_
  refine Eq.trans (st1 dL_law__988 rfl rfl) ?_
  refine Eq.trans (xiconst dL_law__990 ci_4) ?_
  refine Eq.trans (st1 dL_law__991 rfl rfl) ?_
  refine Eq.trans (al5 dL_law__992 kd_XB (by decide)) (gd_congr fun g4 => ?_)
  refine Eq.trans (st1 dL_law__993 rfl rfl) ?_
  refine Eq.trans (st1 dL_law__994 rfl rfl) ?_
  refine Eq.trans (xiconst dL_law__996 ci_5) ?_
  refine Eq.trans (st1 dL_law__997 rfl rfl) ?_
  refine Eq.trans (al5 dL_law__998 kd_XB (by decide)) (gd_congr fun g5 => ?_)
  refine Eq.trans (st1 dL_law__999 rfl rfl) ?_
  refine Eq.trans (st1 dL_law__1000 rfl rfl) ?_
  refine Eq.trans (xbipush dL_law__1002 cb_6) ?_
  refine Eq.trans (st1 dL_law__1004 rfl rfl) ?_
  refine Eq.trans (al5 dL_law__1005 kd_XB (by decide)) (gd_congr fun g6 => ?_)
  refine Eq.trans (st1 dL_law__1006 rfl rfl) ?_
  refine Eq.trans (st1 dL_law__1007 rfl rfl) ?_
  refine Eq.trans (xbipush dL_law__1009 cb_7) ?_
  refine Eq.trans (st1 dL_law__1011 rfl rfl) ?_
  refine Eq.trans (al5 dL_law__1012 kd_XB (by decide)) (gd_congr fun g7 => ?_)
  refine Eq.trans (st1 dL_law__1013 rfl rfl) ?_
  refine Eq.trans (st1 dL_law__1014 rfl rfl) ?_
  refine Eq.trans (xbipush dL_law__1016 cb_8) ?_
  refine Eq.trans (st1 dL_law__1018 rfl rfl) ?_
  refine Eq.trans (al5 dL_law__1019 kd_XB (by decide)) (gd_congr fun g8 => ?_)
  refine Eq.trans (st1 dL_law__1020 rfl rfl) ?_
  refine Eq.trans (st1 dL_law__1021 rfl rfl) ?_
  refine Eq.trans (xbipush dL_law__1023 cb_9) ?_
  refine Eq.trans (st1 dL_law__1025 rfl rfl) ?_
  refine Eq.trans (al5 dL_law__1026 kd_XB (by decide)) (gd_congr fun g9 => ?_)
  exact iv0 dL_law__1027 rfl cp_13_170 rfl rfl (kd_ka ka_72) ka_72.1 (Nat.le_of_ble_eq_true rfl)
theorem q_L_law__1080 {call : CALL} {L X : Nat} {I : Nat → Nat → Int32} {J : Nat → Nat → Int64} {x4 : Int32} {u5 : Option Value} {u6 : Option Value} {u7 : Option Value} {s0 : Int32} : runI call iLaw (1080, [some (.ref 1000000), some (.ref 0), some (.ref 72), some (.ref 632), some (.int x4), u5, u6, u7], [.int s0], (mm L X I J)) = gd (inb (x4 + (nI 1)) L) (gd (inb (x4 + (nI 2)) L) (bnd (call nX12_fits [.ref 72, .int (I 1000000 ((x4 + (nI 1))).toNatClampNeg), .int (I 1000000 ((x4 + (nI 2))).toNatClampNeg)] (mm L X I J)) (fun v m' => runI call iLaw (1098, [some (.ref 1000000), some (.ref 0), some (.ref 72), some (.ref 632), some (.int x4), some (.int s0), u6, u7], v.toList ++ [], m')))) := by
  refine Eq.trans (st1 dL_law__1080 rfl rfl) ?_
  refine Eq.trans (st1 dL_law__1082 rfl rfl) ?_
  refine Eq.trans (st1 dL_law__1083 rfl rfl) ?_
  refine Eq.trans (st1 dL_law__1084 rfl rfl) ?_
  refine Eq.trans (xiconst dL_law__1086 ci_1) ?_
  refine Eq.trans (st1 dL_law__1087 rfl rfl) ?_
  refine Eq.trans (al5 dL_law__1088 kd_XB (by decide)) (gd_congr fun g1 => ?_)
  refine Eq.trans (st1 dL_law__1089 rfl rfl) ?_
  refine Eq.trans (st1 dL_law__1090 rfl rfl) ?_
  refine Eq.trans (xiconst dL_law__1092 ci_2) ?_
  refine Eq.trans (st1 dL_law__1093 rfl rfl) ?_
  refine Eq.trans (al5 dL_law__1094 kd_XB (by decide)) (gd_congr fun g2 => ?_)
  exact iv0 dL_law__1095 rfl cp_13_173 rfl rfl (kd_ka ka_72) ka_72.1 (Nat.le_of_ble_eq_true rfl)
theorem q_L_law__1149 {call : CALL} {L X : Nat} {I : Nat → Nat → Int32} {J : Nat → Nat → Int64} {x4 : Int32} {u5 : Option Value} {u6 : Option Value} {u7 : Option Value} {s0 : Int32} : runI call iLaw (1149, [some (.ref 1000000), some (.ref 0), some (.ref 72), some (.ref 632), some (.int x4), u5, u6, u7], [.int s0], (mm L X I J)) = gd (inb (x4 + (nI 1)) L) (bnd (call nX12_can [.ref 72, .int (I 1000000 ((x4 + (nI 1))).toNatClampNeg)] (mm L X I J)) (fun v m' => runI call iLaw (1161, [some (.ref 1000000), some (.ref 0), some (.ref 72), some (.ref 632), some (.int x4), some (.int s0), u6, u7], v.toList ++ [], m'))) := by
  refine Eq.trans (st1 dL_law__1149 rfl rfl) ?_
  refine Eq.trans (st1 dL_law__1151 rfl rfl) ?_
  refine Eq.trans (st1 dL_law__1152 rfl rfl) ?_
  refine Eq.trans (st1 dL_law__1153 rfl rfl) ?_
  refine Eq.trans (xiconst dL_law__1155 ci_1) ?_
  refine Eq.trans (st1 dL_law__1156 rfl rfl) ?_
  refine Eq.trans (al5 dL_law__1157 kd_XB (by decide)) (gd_congr fun g1 => ?_)
  exact iv0 dL_law__1158 rfl cp_13_176 rfl rfl (kd_ka ka_72) ka_72.1 (Nat.le_of_ble_eq_true rfl)
theorem q_L_law__1212 {call : CALL} {L X : Nat} {I : Nat → Nat → Int32} {J : Nat → Nat → Int64} {x4 : Int32} {u5 : Option Value} {u6 : Option Value} {u7 : Option Value} {s0 : Int32} : runI call iLaw (1212, [some (.ref 1000000), some (.ref 0), some (.ref 72), some (.ref 632), some (.int x4), u5, u6, u7], [.int s0], (mm L X I J)) = gd (inb (x4 + (nI 1)) L) (bnd (call nX12_ahead [.ref 72, .int (I 1000000 ((x4 + (nI 1))).toNatClampNeg)] (mm L X I J)) (fun v m' => runI call iLaw (1224, [some (.ref 1000000), some (.ref 0), some (.ref 72), some (.ref 632), some (.int x4), some (.int s0), u6, u7], v.toList ++ [], m'))) := by
  refine Eq.trans (st1 dL_law__1212 rfl rfl) ?_
  refine Eq.trans (st1 dL_law__1214 rfl rfl) ?_
  refine Eq.trans (st1 dL_law__1215 rfl rfl) ?_
  refine Eq.trans (st1 dL_law__1216 rfl rfl) ?_
  refine Eq.trans (xiconst dL_law__1218 ci_1) ?_
  refine Eq.trans (st1 dL_law__1219 rfl rfl) ?_
  refine Eq.trans (al5 dL_law__1220 kd_XB (by decide)) (gd_congr fun g1 => ?_)
  exact iv0 dL_law__1221 rfl cp_13_179 rfl rfl (kd_ka ka_72) ka_72.1 (Nat.le_of_ble_eq_true rfl)
theorem q_L_law__1268 {call : CALL} {L X : Nat} {I : Nat → Nat → Int32} {J : Nat → Nat → Int64} {x4 : Int32} {u5 : Option Value} {u6 : Option Value} {u7 : Option Value} {s0 : Int32} : runI call iLaw (1268, [some (.ref 1000000), some (.ref 0), some (.ref 72), some (.ref 632), some (.int x4), u5, u6, u7], [.int s0], (mm L X I J)) = gd (inb (x4 + (nI 1)) L) (bnd (call nX12_chain [.ref 72, .int (I 1000000 ((x4 + (nI 1))).toNatClampNeg)] (mm L X I J)) (fun v m' => runI call iLaw (1280, [some (.ref 1000000), some (.ref 0), some (.ref 72), some (.ref 632), some (.int x4), some (.int s0), u6, u7], v.toList ++ [], m'))) := by
  refine Eq.trans (st1 dL_law__1268 rfl rfl) ?_
  refine Eq.trans (st1 dL_law__1270 rfl rfl) ?_
  refine Eq.trans (st1 dL_law__1271 rfl rfl) ?_
  refine Eq.trans (st1 dL_law__1272 rfl rfl) ?_
  refine Eq.trans (xiconst dL_law__1274 ci_1) ?_
  refine Eq.trans (st1 dL_law__1275 rfl rfl) ?_
  refine Eq.trans (al5 dL_law__1276 kd_XB (by decide)) (gd_congr fun g1 => ?_)
  exact iv0 dL_law__1277 rfl cp_13_182 rfl rfl (kd_ka ka_72) ka_72.1 (Nat.le_of_ble_eq_true rfl)
theorem q_L_law__1324 {call : CALL} {L X : Nat} {I : Nat → Nat → Int32} {J : Nat → Nat → Int64} {x4 : Int32} {u5 : Option Value} {u6 : Option Value} {u7 : Option Value} {s0 : Int32} : runI call iLaw (1324, [some (.ref 1000000), some (.ref 0), some (.ref 72), some (.ref 632), some (.int x4), u5, u6, u7], [.int s0], (mm L X I J)) = gd (inb (x4 + (nI 1)) L) (bnd (call nX12_chained [.ref 72, .int (I 1000000 ((x4 + (nI 1))).toNatClampNeg)] (mm L X I J)) (fun v m' => runI call iLaw (1336, [some (.ref 1000000), some (.ref 0), some (.ref 72), some (.ref 632), some (.int x4), some (.int s0), u6, u7], v.toList ++ [], m'))) := by
  refine Eq.trans (st1 dL_law__1324 rfl rfl) ?_
  refine Eq.trans (st1 dL_law__1326 rfl rfl) ?_
  refine Eq.trans (st1 dL_law__1327 rfl rfl) ?_
  refine Eq.trans (st1 dL_law__1328 rfl rfl) ?_
  refine Eq.trans (xiconst dL_law__1330 ci_1) ?_
  refine Eq.trans (st1 dL_law__1331 rfl rfl) ?_
  refine Eq.trans (al5 dL_law__1332 kd_XB (by decide)) (gd_congr fun g1 => ?_)
  exact iv0 dL_law__1333 rfl cp_13_185 rfl rfl (kd_ka ka_72) ka_72.1 (Nat.le_of_ble_eq_true rfl)
theorem q_L_law__1380 {call : CALL} {L X : Nat} {I : Nat → Nat → Int32} {J : Nat → Nat → Int64} {x4 : Int32} {u5 : Option Value} {u6 : Option Value} {u7 : Option Value} {s0 : Int32} : runI call iLaw (1380, [some (.ref 1000000), some (.ref 0), some (.ref 72), some (.ref 632), some (.int x4), u5, u6, u7], [.int s0], (mm L X I J)) = gd (inb (x4 + (nI 1)) L) (bnd (call nX12_brief [.ref 72, .int (I 1000000 ((x4 + (nI 1))).toNatClampNeg)] (mm L X I J)) (fun v m' => runI call iLaw (1392, [some (.ref 1000000), some (.ref 0), some (.ref 72), some (.ref 632), some (.int x4), some (.int s0), u6, u7], v.toList ++ [], m'))) := by
  refine Eq.trans (st1 dL_law__1380 rfl rfl) ?_
  refine Eq.trans (st1 dL_law__1382 rfl rfl) ?_
  refine Eq.trans (st1 dL_law__1383 rfl rfl) ?_
  refine Eq.trans (st1 dL_law__1384 rfl rfl) ?_
  refine Eq.trans (xiconst dL_law__1386 ci_1) ?_
  refine Eq.trans (st1 dL_law__1387 rfl rfl) ?_
  refine Eq.trans (al5 dL_law__1388 kd_XB (by decide)) (gd_congr fun g1 => ?_)
  exact iv0 dL_law__1389 rfl cp_13_188 rfl rfl (kd_ka ka_72) ka_72.1 (Nat.le_of_ble_eq_true rfl)
theorem q_L_law__1442 {call : CALL} {L X : Nat} {I : Nat → Nat → Int32} {J : Nat → Nat → Int64} {x4 : Int32} {u5 : Option Value} {u6 : Option Value} {u7 : Option Value} {s0 : Int32} : runI call iLaw (1442, [some (.ref 1000000), some (.ref 0), some (.ref 72), some (.ref 632), some (.int x4), u5, u6, u7], [.int s0], (mm L X I J)) = gd (inb (x4 + (nI 1)) L) (gd (inb (x4 + (nI 2)) L) (bnd (call nX12_briefly [.ref 72, .int (I 1000000 ((x4 + (nI 1))).toNatClampNeg), .int (I 1000000 ((x4 + (nI 2))).toNatClampNeg)] (mm L X I J)) (fun v m' => runI call iLaw (1460, [some (.ref 1000000), some (.ref 0), some (.ref 72), some (.ref 632), some (.int x4), some (.int s0), u6, u7], v.toList ++ [], m')))) := by
  refine Eq.trans (st1 dL_law__1442 rfl rfl) ?_
  refine Eq.trans (st1 dL_law__1444 rfl rfl) ?_
  refine Eq.trans (st1 dL_law__1445 rfl rfl) ?_
  refine Eq.trans (st1 dL_law__1446 rfl rfl) ?_
  refine Eq.trans (xiconst dL_law__1448 ci_1) ?_
  refine Eq.trans (st1 dL_law__1449 rfl rfl) ?_
  refine Eq.trans (al5 dL_law__1450 kd_XB (by decide)) (gd_congr fun g1 => ?_)
  refine Eq.trans (st1 dL_law__1451 rfl rfl) ?_
  refine Eq.trans (st1 dL_law__1452 rfl rfl) ?_
  refine Eq.trans (xiconst dL_law__1454 ci_2) ?_
  refine Eq.trans (st1 dL_law__1455 rfl rfl) ?_
  refine Eq.trans (al5 dL_law__1456 kd_XB (by decide)) (gd_congr fun g2 => ?_)
  exact iv0 dL_law__1457 rfl cp_13_191 rfl rfl (kd_ka ka_72) ka_72.1 (Nat.le_of_ble_eq_true rfl)
theorem q_L_law__1504 {call : CALL} {L X : Nat} {I : Nat → Nat → Int32} {J : Nat → Nat → Int64} {x4 : Int32} {u5 : Option Value} {u6 : Option Value} {u7 : Option Value} {s0 : Int32} : runI call iLaw (1504, [some (.ref 1000000), some (.ref 0), some (.ref 72), some (.ref 632), some (.int x4), u5, u6, u7], [.int s0], (mm L X I J)) = gd (inb (x4 + (nI 1)) L) (bnd (call nX12_joiner [.ref 72, .int (I 1000000 ((x4 + (nI 1))).toNatClampNeg)] (mm L X I J)) (fun v m' => runI call iLaw (1516, [some (.ref 1000000), some (.ref 0), some (.ref 72), some (.ref 632), some (.int x4), some (.int s0), u6, u7], v.toList ++ [], m'))) := by
  refine Eq.trans (st1 dL_law__1504 rfl rfl) ?_
  refine Eq.trans (st1 dL_law__1506 rfl rfl) ?_
  refine Eq.trans (st1 dL_law__1507 rfl rfl) ?_
  refine Eq.trans (st1 dL_law__1508 rfl rfl) ?_
  refine Eq.trans (xiconst dL_law__1510 ci_1) ?_
  refine Eq.trans (st1 dL_law__1511 rfl rfl) ?_
  refine Eq.trans (al5 dL_law__1512 kd_XB (by decide)) (gd_congr fun g1 => ?_)
  exact iv0 dL_law__1513 rfl cp_13_194 rfl rfl (kd_ka ka_72) ka_72.1 (Nat.le_of_ble_eq_true rfl)
theorem q_L_law__1560 {call : CALL} {L X : Nat} {I : Nat → Nat → Int32} {J : Nat → Nat → Int64} {x4 : Int32} {u5 : Option Value} {u6 : Option Value} {u7 : Option Value} {s0 : Int32} : runI call iLaw (1560, [some (.ref 1000000), some (.ref 0), some (.ref 72), some (.ref 632), some (.int x4), u5, u6, u7], [.int s0], (mm L X I J)) = gd (inb (x4 + (nI 1)) L) (bnd (call nX12_leaks [.ref 72, .int (I 1000000 ((x4 + (nI 1))).toNatClampNeg)] (mm L X I J)) (fun v m' => runI call iLaw (1572, [some (.ref 1000000), some (.ref 0), some (.ref 72), some (.ref 632), some (.int x4), some (.int s0), u6, u7], v.toList ++ [], m'))) := by
  refine Eq.trans (st1 dL_law__1560 rfl rfl) ?_
  refine Eq.trans (st1 dL_law__1562 rfl rfl) ?_
  refine Eq.trans (st1 dL_law__1563 rfl rfl) ?_
  refine Eq.trans (st1 dL_law__1564 rfl rfl) ?_
  refine Eq.trans (xiconst dL_law__1566 ci_1) ?_
  refine Eq.trans (st1 dL_law__1567 rfl rfl) ?_
  refine Eq.trans (al5 dL_law__1568 kd_XB (by decide)) (gd_congr fun g1 => ?_)
  exact iv0 dL_law__1569 rfl cp_13_197 rfl rfl (kd_ka ka_72) ka_72.1 (Nat.le_of_ble_eq_true rfl)
theorem q_L_law__1616 {call : CALL} {L X : Nat} {I : Nat → Nat → Int32} {J : Nat → Nat → Int64} {x4 : Int32} {u5 : Option Value} {u6 : Option Value} {u7 : Option Value} {s0 : Int32} : runI call iLaw (1616, [some (.ref 1000000), some (.ref 0), some (.ref 72), some (.ref 632), some (.int x4), u5, u6, u7], [.int s0], (mm L X I J)) = gd (inb (x4 + (nI 1)) L) (bnd (call nX12_look [.ref 72, .int (I 1000000 ((x4 + (nI 1))).toNatClampNeg)] (mm L X I J)) (fun v m' => runI call iLaw (1628, [some (.ref 1000000), some (.ref 0), some (.ref 72), some (.ref 632), some (.int x4), some (.int s0), u6, u7], v.toList ++ [], m'))) := by
  refine Eq.trans (st1 dL_law__1616 rfl rfl) ?_
  refine Eq.trans (st1 dL_law__1618 rfl rfl) ?_
  refine Eq.trans (st1 dL_law__1619 rfl rfl) ?_
  refine Eq.trans (st1 dL_law__1620 rfl rfl) ?_
  refine Eq.trans (xiconst dL_law__1622 ci_1) ?_
  refine Eq.trans (st1 dL_law__1623 rfl rfl) ?_
  refine Eq.trans (al5 dL_law__1624 kd_XB (by decide)) (gd_congr fun g1 => ?_)
  exact iv0 dL_law__1625 rfl cp_13_200 rfl rfl (kd_ka ka_72) ka_72.1 (Nat.le_of_ble_eq_true rfl)
theorem q_L_law__1665 {call : CALL} {L X : Nat} {I : Nat → Nat → Int32} {J : Nat → Nat → Int64} {x4 : Int32} {u5 : Option Value} {u6 : Option Value} {u7 : Option Value} {s0 : Int32} : runI call iLaw (1665, [some (.ref 1000000), some (.ref 0), some (.ref 72), some (.ref 632), some (.int x4), u5, u6, u7], [.int s0], (mm L X I J)) = bnd (call nX12_wed [.ref 72] (mm L X I J)) (fun v m' => runI call iLaw (1669, [some (.ref 1000000), some (.ref 0), some (.ref 72), some (.ref 632), some (.int x4), u5, u6, u7], v.toList ++ [.int s0], m')) := by
  refine Eq.trans (st1 dL_law__1665 rfl rfl) ?_
  exact iv0 dL_law__1666 rfl cp_13_204 rfl rfl (kd_ka ka_72) ka_72.1 (Nat.le_of_ble_eq_true rfl)
theorem q_L_law__1697 {call : CALL} {L X : Nat} {I : Nat → Nat → Int32} {J : Nat → Nat → Int64} {x4 : Int32} {u5 : Option Value} {u6 : Option Value} {u7 : Option Value} {s0 : Int32} : runI call iLaw (1697, [some (.ref 1000000), some (.ref 0), some (.ref 72), some (.ref 632), some (.int x4), u5, u6, u7], [.int s0], (mm L X I J)) = gd (inb (x4 + (nI 1)) L) (gd (inb (x4 + (nI 2)) L) (gd (inb (x4 + (nI 3)) L) (bnd (call nX12_sure [.ref 72, .int (I 1000000 ((x4 + (nI 1))).toNatClampNeg), .int (I 1000000 ((x4 + (nI 2))).toNatClampNeg), .int (I 1000000 ((x4 + (nI 3))).toNatClampNeg)] (mm L X I J)) (fun v m' => runI call iLaw (1721, [some (.ref 1000000), some (.ref 0), some (.ref 72), some (.ref 632), some (.int x4), some (.int s0), u6, u7], v.toList ++ [], m'))))) := by
  refine Eq.trans (st1 dL_law__1697 rfl rfl) ?_
  refine Eq.trans (st1 dL_law__1699 rfl rfl) ?_
  refine Eq.trans (st1 dL_law__1700 rfl rfl) ?_
  refine Eq.trans (st1 dL_law__1701 rfl rfl) ?_
  refine Eq.trans (xiconst dL_law__1703 ci_1) ?_
  refine Eq.trans (st1 dL_law__1704 rfl rfl) ?_
  refine Eq.trans (al5 dL_law__1705 kd_XB (by decide)) (gd_congr fun g1 => ?_)
  refine Eq.trans (st1 dL_law__1706 rfl rfl) ?_
  refine Eq.trans (st1 dL_law__1707 rfl rfl) ?_
  refine Eq.trans (xiconst dL_law__1709 ci_2) ?_
  refine Eq.trans (st1 dL_law__1710 rfl rfl) ?_
  refine Eq.trans (al5 dL_law__1711 kd_XB (by decide)) (gd_congr fun g2 => ?_)
  refine Eq.trans (st1 dL_law__1712 rfl rfl) ?_
  refine Eq.trans (st1 dL_law__1713 rfl rfl) ?_
  refine Eq.trans (xiconst dL_law__1715 ci_3) ?_
  refine Eq.trans (st1 dL_law__1716 rfl rfl) ?_
  refine Eq.trans (al5 dL_law__1717 kd_XB (by decide)) (gd_congr fun g3 => ?_)
  exact iv0 dL_law__1718 rfl cp_13_208 rfl rfl (kd_ka ka_72) ka_72.1 (Nat.le_of_ble_eq_true rfl)
theorem q_L_law__1776 {call : CALL} {L X : Nat} {I : Nat → Nat → Int32} {J : Nat → Nat → Int64} {x4 : Int32} {u5 : Option Value} {u6 : Option Value} {u7 : Option Value} {s0 : Int32} : runI call iLaw (1776, [some (.ref 1000000), some (.ref 0), some (.ref 72), some (.ref 632), some (.int x4), u5, u6, u7], [.int s0], (mm L X I J)) = gd (inb (x4 + (nI 1)) L) (gd (inb (x4 + (nI 2)) L) (gd (inb (x4 + (nI 3)) L) (bnd (call nX12_street [.ref 72, .int (I 1000000 ((x4 + (nI 1))).toNatClampNeg), .int (I 1000000 ((x4 + (nI 2))).toNatClampNeg), .int (I 1000000 ((x4 + (nI 3))).toNatClampNeg)] (mm L X I J)) (fun v m' => runI call iLaw (1800, [some (.ref 1000000), some (.ref 0), some (.ref 72), some (.ref 632), some (.int x4), some (.int s0), u6, u7], v.toList ++ [], m'))))) := by
  refine Eq.trans (st1 dL_law__1776 rfl rfl) ?_
  refine Eq.trans (st1 dL_law__1778 rfl rfl) ?_
  refine Eq.trans (st1 dL_law__1779 rfl rfl) ?_
  refine Eq.trans (st1 dL_law__1780 rfl rfl) ?_
  refine Eq.trans (xiconst dL_law__1782 ci_1) ?_
  refine Eq.trans (st1 dL_law__1783 rfl rfl) ?_
  refine Eq.trans (al5 dL_law__1784 kd_XB (by decide)) (gd_congr fun g1 => ?_)
  refine Eq.trans (st1 dL_law__1785 rfl rfl) ?_
  refine Eq.trans (st1 dL_law__1786 rfl rfl) ?_
  refine Eq.trans (xiconst dL_law__1788 ci_2) ?_
  refine Eq.trans (st1 dL_law__1789 rfl rfl) ?_
  refine Eq.trans (al5 dL_law__1790 kd_XB (by decide)) (gd_congr fun g2 => ?_)
  refine Eq.trans (st1 dL_law__1791 rfl rfl) ?_
  refine Eq.trans (st1 dL_law__1792 rfl rfl) ?_
  refine Eq.trans (xiconst dL_law__1794 ci_3) ?_
  refine Eq.trans (st1 dL_law__1795 rfl rfl) ?_
  refine Eq.trans (al5 dL_law__1796 kd_XB (by decide)) (gd_congr fun g3 => ?_)
  exact iv0 dL_law__1797 rfl cp_13_211 rfl rfl (kd_ka ka_72) ka_72.1 (Nat.le_of_ble_eq_true rfl)
theorem q_L_law__1856 {call : CALL} {L X : Nat} {I : Nat → Nat → Int32} {J : Nat → Nat → Int64} {x4 : Int32} {u5 : Option Value} {u6 : Option Value} {u7 : Option Value} {s0 : Int32} : runI call iLaw (1856, [some (.ref 1000000), some (.ref 0), some (.ref 72), some (.ref 632), some (.int x4), u5, u6, u7], [.int s0], (mm L X I J)) = gd (inb (x4 + (nI 1)) L) (gd (inb (x4 + (nI 2)) L) (gd (inb (x4 + (nI 3)) L) (bnd (call nX12_share [.ref 72, .int (I 1000000 ((x4 + (nI 1))).toNatClampNeg), .int (I 1000000 ((x4 + (nI 2))).toNatClampNeg), .int (I 1000000 ((x4 + (nI 3))).toNatClampNeg)] (mm L X I J)) (fun v m' => runI call iLaw (1880, [some (.ref 1000000), some (.ref 0), some (.ref 72), some (.ref 632), some (.int x4), some (.int s0), u6, u7], v.toList ++ [], m'))))) := by
  refine Eq.trans (st1 dL_law__1856 rfl rfl) ?_
  refine Eq.trans (st1 dL_law__1858 rfl rfl) ?_
  refine Eq.trans (st1 dL_law__1859 rfl rfl) ?_
  refine Eq.trans (st1 dL_law__1860 rfl rfl) ?_
  refine Eq.trans (xiconst dL_law__1862 ci_1) ?_
  refine Eq.trans (st1 dL_law__1863 rfl rfl) ?_
  refine Eq.trans (al5 dL_law__1864 kd_XB (by decide)) (gd_congr fun g1 => ?_)
  refine Eq.trans (st1 dL_law__1865 rfl rfl) ?_
  refine Eq.trans (st1 dL_law__1866 rfl rfl) ?_
  refine Eq.trans (xiconst dL_law__1868 ci_2) ?_
  refine Eq.trans (st1 dL_law__1869 rfl rfl) ?_
  refine Eq.trans (al5 dL_law__1870 kd_XB (by decide)) (gd_congr fun g2 => ?_)
  refine Eq.trans (st1 dL_law__1871 rfl rfl) ?_
  refine Eq.trans (st1 dL_law__1872 rfl rfl) ?_
  refine Eq.trans (xiconst dL_law__1874 ci_3) ?_
  refine Eq.trans (st1 dL_law__1875 rfl rfl) ?_
  refine Eq.trans (al5 dL_law__1876 kd_XB (by decide)) (gd_congr fun g3 => ?_)
  exact iv0 dL_law__1877 rfl cp_13_214 rfl rfl (kd_ka ka_72) ka_72.1 (Nat.le_of_ble_eq_true rfl)
theorem q_L_law__1924 {call : CALL} {L X : Nat} {I : Nat → Nat → Int32} {J : Nat → Nat → Int64} {x4 : Int32} {u5 : Option Value} {u6 : Option Value} {u7 : Option Value} {s0 : Int32} : runI call iLaw (1924, [some (.ref 1000000), some (.ref 0), some (.ref 72), some (.ref 632), some (.int x4), u5, u6, u7], [.int s0], (mm L X I J)) = gd (inb (x4 + (nI 1)) L) (bnd (call nX12_next [.ref 72, .int (I 1000000 ((x4 + (nI 1))).toNatClampNeg)] (mm L X I J)) (fun v m' => runI call iLaw (1936, [some (.ref 1000000), some (.ref 0), some (.ref 72), some (.ref 632), some (.int x4), some (.int s0), u6, u7], v.toList ++ [], m'))) := by
  refine Eq.trans (st1 dL_law__1924 rfl rfl) ?_
  refine Eq.trans (st1 dL_law__1926 rfl rfl) ?_
  refine Eq.trans (st1 dL_law__1927 rfl rfl) ?_
  refine Eq.trans (st1 dL_law__1928 rfl rfl) ?_
  refine Eq.trans (xiconst dL_law__1930 ci_1) ?_
  refine Eq.trans (st1 dL_law__1931 rfl rfl) ?_
  refine Eq.trans (al5 dL_law__1932 kd_XB (by decide)) (gd_congr fun g1 => ?_)
  exact iv0 dL_law__1933 rfl cp_13_217 rfl rfl (kd_ka ka_72) ka_72.1 (Nat.le_of_ble_eq_true rfl)
theorem q_L_law__1980 {call : CALL} {L X : Nat} {I : Nat → Nat → Int32} {J : Nat → Nat → Int64} {x4 : Int32} {u5 : Option Value} {u6 : Option Value} {u7 : Option Value} {s0 : Int32} : runI call iLaw (1980, [some (.ref 1000000), some (.ref 0), some (.ref 72), some (.ref 632), some (.int x4), u5, u6, u7], [.int s0], (mm L X I J)) = gd (inb (x4 + (nI 1)) L) (bnd (call nX12_worst [.ref 72, .int (I 1000000 ((x4 + (nI 1))).toNatClampNeg)] (mm L X I J)) (fun v m' => runI call iLaw (1992, [some (.ref 1000000), some (.ref 0), some (.ref 72), some (.ref 632), some (.int x4), some (.int s0), u6, u7], v.toList ++ [], m'))) := by
  refine Eq.trans (st1 dL_law__1980 rfl rfl) ?_
  refine Eq.trans (st1 dL_law__1982 rfl rfl) ?_
  refine Eq.trans (st1 dL_law__1983 rfl rfl) ?_
  refine Eq.trans (st1 dL_law__1984 rfl rfl) ?_
  refine Eq.trans (xiconst dL_law__1986 ci_1) ?_
  refine Eq.trans (st1 dL_law__1987 rfl rfl) ?_
  refine Eq.trans (al5 dL_law__1988 kd_XB (by decide)) (gd_congr fun g1 => ?_)
  exact iv0 dL_law__1989 rfl cp_13_220 rfl rfl (kd_ka ka_72) ka_72.1 (Nat.le_of_ble_eq_true rfl)
theorem q_L_law__2036 {call : CALL} {L X : Nat} {I : Nat → Nat → Int32} {J : Nat → Nat → Int64} {x4 : Int32} {u5 : Option Value} {u6 : Option Value} {u7 : Option Value} {s0 : Int32} : runI call iLaw (2036, [some (.ref 1000000), some (.ref 0), some (.ref 72), some (.ref 632), some (.int x4), u5, u6, u7], [.int s0], (mm L X I J)) = gd (inb (x4 + (nI 1)) L) (bnd (call nX12_needed [.ref 72, .int (I 1000000 ((x4 + (nI 1))).toNatClampNeg)] (mm L X I J)) (fun v m' => runI call iLaw (2048, [some (.ref 1000000), some (.ref 0), some (.ref 72), some (.ref 632), some (.int x4), some (.int s0), u6, u7], v.toList ++ [], m'))) := by
  refine Eq.trans (st1 dL_law__2036 rfl rfl) ?_
  refine Eq.trans (st1 dL_law__2038 rfl rfl) ?_
  refine Eq.trans (st1 dL_law__2039 rfl rfl) ?_
  refine Eq.trans (st1 dL_law__2040 rfl rfl) ?_
  refine Eq.trans (xiconst dL_law__2042 ci_1) ?_
  refine Eq.trans (st1 dL_law__2043 rfl rfl) ?_
  refine Eq.trans (al5 dL_law__2044 kd_XB (by decide)) (gd_congr fun g1 => ?_)
  exact iv0 dL_law__2045 rfl cp_13_223 rfl rfl (kd_ka ka_72) ka_72.1 (Nat.le_of_ble_eq_true rfl)
theorem q_L_law__2092 {call : CALL} {L X : Nat} {I : Nat → Nat → Int32} {J : Nat → Nat → Int64} {x4 : Int32} {u5 : Option Value} {u6 : Option Value} {u7 : Option Value} {s0 : Int32} : runI call iLaw (2092, [some (.ref 1000000), some (.ref 0), some (.ref 72), some (.ref 632), some (.int x4), u5, u6, u7], [.int s0], (mm L X I J)) = gd (inb (x4 + (nI 1)) L) (bnd (call nX12_kin [.ref 72, .int (I 1000000 ((x4 + (nI 1))).toNatClampNeg)] (mm L X I J)) (fun v m' => runI call iLaw (2104, [some (.ref 1000000), some (.ref 0), some (.ref 72), some (.ref 632), some (.int x4), some (.int s0), u6, u7], v.toList ++ [], m'))) := by
  refine Eq.trans (st1 dL_law__2092 rfl rfl) ?_
  refine Eq.trans (st1 dL_law__2094 rfl rfl) ?_
  refine Eq.trans (st1 dL_law__2095 rfl rfl) ?_
  refine Eq.trans (st1 dL_law__2096 rfl rfl) ?_
  refine Eq.trans (xiconst dL_law__2098 ci_1) ?_
  refine Eq.trans (st1 dL_law__2099 rfl rfl) ?_
  refine Eq.trans (al5 dL_law__2100 kd_XB (by decide)) (gd_congr fun g1 => ?_)
  exact iv0 dL_law__2101 rfl cp_13_226 rfl rfl (kd_ka ka_72) ka_72.1 (Nat.le_of_ble_eq_true rfl)
theorem q_L_law__2166 {call : CALL} {L X : Nat} {I : Nat → Nat → Int32} {J : Nat → Nat → Int64} {x4 : Int32} {u5 : Option Value} {u6 : Option Value} {u7 : Option Value} {s0 : Int32} : runI call iLaw (2166, [some (.ref 1000000), some (.ref 0), some (.ref 72), some (.ref 632), some (.int x4), u5, u6, u7], [.int s0], (mm L X I J)) = gd (inb (x4 + (nI 1)) L) (gd (inb (x4 + (nI 2)) L) (gd (inb (x4 + (nI 3)) L) (gd (inb (x4 + (nI 4)) L) (bnd (call nX12_year [.ref 72, .int (I 1000000 ((x4 + (nI 1))).toNatClampNeg), .int (I 1000000 ((x4 + (nI 2))).toNatClampNeg), .int (I 1000000 ((x4 + (nI 3))).toNatClampNeg), .int (I 1000000 ((x4 + (nI 4))).toNatClampNeg)] (mm L X I J)) (fun v m' => runI call iLaw (2196, [some (.ref 1000000), some (.ref 0), some (.ref 72), some (.ref 632), some (.int x4), some (.int s0), u6, u7], v.toList ++ [], m')))))) := by
  refine Eq.trans (st1 dL_law__2166 rfl rfl) ?_
  refine Eq.trans (st1 dL_law__2168 rfl rfl) ?_
  refine Eq.trans (st1 dL_law__2169 rfl rfl) ?_
  refine Eq.trans (st1 dL_law__2170 rfl rfl) ?_
  refine Eq.trans (xiconst dL_law__2172 ci_1) ?_
  refine Eq.trans (st1 dL_law__2173 rfl rfl) ?_
  refine Eq.trans (al5 dL_law__2174 kd_XB (by decide)) (gd_congr fun g1 => ?_)
  refine Eq.trans (st1 dL_law__2175 rfl rfl) ?_
  refine Eq.trans (st1 dL_law__2176 rfl rfl) ?_
  refine Eq.trans (xiconst dL_law__2178 ci_2) ?_
  refine Eq.trans (st1 dL_law__2179 rfl rfl) ?_
  refine Eq.trans (al5 dL_law__2180 kd_XB (by decide)) (gd_congr fun g2 => ?_)
  refine Eq.trans (st1 dL_law__2181 rfl rfl) ?_
  refine Eq.trans (st1 dL_law__2182 rfl rfl) ?_
  refine Eq.trans (xiconst dL_law__2184 ci_3) ?_
  refine Eq.trans (st1 dL_law__2185 rfl rfl) ?_
  refine Eq.trans (al5 dL_law__2186 kd_XB (by decide)) (gd_congr fun g3 => ?_)
  refine Eq.trans (st1 dL_law__2187 rfl rfl) ?_
  refine Eq.trans (st1 dL_law__2188 rfl rfl) ?_
  refine Eq.trans (xiconst dL_law__2190 ci_4) ?_
  refine Eq.trans (st1 dL_law__2191 rfl rfl) ?_
  refine Eq.trans (al5 dL_law__2192 kd_XB (by decide)) (gd_congr fun g4 => ?_)
  exact iv0 dL_law__2193 rfl cp_13_230 rfl rfl (kd_ka ka_72) ka_72.1 (Nat.le_of_ble_eq_true rfl)
theorem q_L_law__2271 {call : CALL} {L X : Nat} {I : Nat → Nat → Int32} {J : Nat → Nat → Int64} {x4 : Int32} {u5 : Option Value} {u6 : Option Value} {u7 : Option Value} {s0 : Int32} : runI call iLaw (2271, [some (.ref 1000000), some (.ref 0), some (.ref 72), some (.ref 632), some (.int x4), u5, u6, u7], [.int s0], (mm L X I J)) = gd (inb (x4 + (nI 1)) L) (gd (inb (x4 + (nI 2)) L) (gd (inb (x4 + (nI 3)) L) (gd (inb (x4 + (nI 4)) L) (gd (inb (x4 + (nI 5)) L) (gd (inb (x4 + (nI 6)) L) (bnd (call nX12_span [.ref 72, .int (I 1000000 ((x4 + (nI 1))).toNatClampNeg), .int (I 1000000 ((x4 + (nI 2))).toNatClampNeg), .int (I 1000000 ((x4 + (nI 3))).toNatClampNeg), .int (I 1000000 ((x4 + (nI 4))).toNatClampNeg), .int (I 1000000 ((x4 + (nI 5))).toNatClampNeg), .int (I 1000000 ((x4 + (nI 6))).toNatClampNeg)] (mm L X I J)) (fun v m' => runI call iLaw (2314, [some (.ref 1000000), some (.ref 0), some (.ref 72), some (.ref 632), some (.int x4), some (.int s0), u6, u7], v.toList ++ [], m')))))))) := by
  refine Eq.trans (st1 dL_law__2271 rfl rfl) ?_
  refine Eq.trans (st1 dL_law__2273 rfl rfl) ?_
  refine Eq.trans (st1 dL_law__2274 rfl rfl) ?_
  refine Eq.trans (st1 dL_law__2275 rfl rfl) ?_
  refine Eq.trans (xiconst dL_law__2277 ci_1) ?_
  refine Eq.trans (st1 dL_law__2278 rfl rfl) ?_
  refine Eq.trans (al5 dL_law__2279 kd_XB (by decide)) (gd_congr fun g1 => ?_)
  refine Eq.trans (st1 dL_law__2280 rfl rfl) ?_
  refine Eq.trans (st1 dL_law__2281 rfl rfl) ?_
  refine Eq.trans (xiconst dL_law__2283 ci_2) ?_
  refine Eq.trans (st1 dL_law__2284 rfl rfl) ?_
  refine Eq.trans (al5 dL_law__2285 kd_XB (by decide)) (gd_congr fun g2 => ?_)
  refine Eq.trans (st1 dL_law__2286 rfl rfl) ?_
  refine Eq.trans (st1 dL_law__2287 rfl rfl) ?_
  refine Eq.trans (xiconst dL_law__2289 ci_3) ?_
  refine Eq.trans (st1 dL_law__2290 rfl rfl) ?_
  refine Eq.trans (al5 dL_law__2291 kd_XB (by decide)) (gd_congr fun g3 => ?_)
  refine Eq.trans (st1 dL_law__2292 rfl rfl) ?_
  refine Eq.trans (st1 dL_law__2293 rfl rfl) ?_
  refine Eq.trans (xiconst dL_law__2295 ci_4) ?_
  refine Eq.trans (st1 dL_law__2296 rfl rfl) ?_
  refine Eq.trans (al5 dL_law__2297 kd_XB (by decide)) (gd_congr fun g4 => ?_)
  refine Eq.trans (st1 dL_law__2298 rfl rfl) ?_
  refine Eq.trans (st1 dL_law__2299 rfl rfl) ?_
  refine Eq.trans (xiconst dL_law__2301 ci_5) ?_
  refine Eq.trans (st1 dL_law__2302 rfl rfl) ?_
  refine Eq.trans (al5 dL_law__2303 kd_XB (by decide)) (gd_congr fun g5 => ?_)
  refine Eq.trans (st1 dL_law__2304 rfl rfl) ?_
  refine Eq.trans (st1 dL_law__2305 rfl rfl) ?_
  refine Eq.trans (xbipush dL_law__2307 cb_6) ?_
  refine Eq.trans (st1 dL_law__2309 rfl rfl) ?_
  refine Eq.trans (al5 dL_law__2310 kd_XB (by decide)) (gd_congr fun g6 => ?_)
  exact iv0 dL_law__2311 rfl cp_13_234 rfl rfl (kd_ka ka_72) ka_72.1 (Nat.le_of_ble_eq_true rfl)
theorem q_L_law__2351 {call : CALL} {L X : Nat} {I : Nat → Nat → Int32} {J : Nat → Nat → Int64} {x4 : Int32} {u5 : Option Value} {u6 : Option Value} {u7 : Option Value} {s0 : Int32} : runI call iLaw (2351, [some (.ref 1000000), some (.ref 0), some (.ref 72), some (.ref 632), some (.int x4), u5, u6, u7], [.int s0], (mm L X I J)) = bnd (call nX12_image [.ref 72] (mm L X I J)) (fun v m' => runI call iLaw (2355, [some (.ref 1000000), some (.ref 0), some (.ref 72), some (.ref 632), some (.int x4), u5, u6, u7], v.toList ++ [.int s0], m')) := by
  refine Eq.trans (st1 dL_law__2351 rfl rfl) ?_
  exact iv0 dL_law__2352 rfl cp_13_238 rfl rfl (kd_ka ka_72) ka_72.1 (Nat.le_of_ble_eq_true rfl)
theorem q_L_law__2364 {call : CALL} {L X : Nat} {I : Nat → Nat → Int32} {J : Nat → Nat → Int64} {x4 : Int32} {u5 : Option Value} {u6 : Option Value} {u7 : Option Value} {s0 : Int32} : runI call iLaw (2364, [some (.ref 1000000), some (.ref 0), some (.ref 72), some (.ref 632), some (.int x4), u5, u6, u7], [.int s0], (mm L X I J)) = bnd (call nX12_restore [.ref 72] (mm L X I J)) (fun v m' => runI call iLaw (2368, [some (.ref 1000000), some (.ref 0), some (.ref 72), some (.ref 632), some (.int x4), u5, u6, u7], v.toList ++ [.int s0], m')) := by
  refine Eq.trans (st1 dL_law__2364 rfl rfl) ?_
  exact iv0 dL_law__2365 rfl cp_13_242 rfl rfl (kd_ka ka_72) ka_72.1 (Nat.le_of_ble_eq_true rfl)
theorem q_L_law__2383 {call : CALL} {L X : Nat} {I : Nat → Nat → Int32} {J : Nat → Nat → Int64} {x4 : Int32} {u5 : Option Value} {u6 : Option Value} {u7 : Option Value} {s0 : Int32} : runI call iLaw (2383, [some (.ref 1000000), some (.ref 0), some (.ref 72), some (.ref 632), some (.int x4), u5, u6, u7], [.int s0], (mm L X I J)) = gd (inb (x4 + (nI 1)) L) (bnd (call nX12_status [.ref 72, .int (I 1000000 ((x4 + (nI 1))).toNatClampNeg)] (mm L X I J)) (fun v m' => runI call iLaw (2393, [some (.ref 1000000), some (.ref 0), some (.ref 72), some (.ref 632), some (.int x4), u5, u6, u7], v.toList ++ [.int s0], m'))) := by
  refine Eq.trans (st1 dL_law__2383 rfl rfl) ?_
  refine Eq.trans (st1 dL_law__2384 rfl rfl) ?_
  refine Eq.trans (st1 dL_law__2385 rfl rfl) ?_
  refine Eq.trans (xiconst dL_law__2387 ci_1) ?_
  refine Eq.trans (st1 dL_law__2388 rfl rfl) ?_
  refine Eq.trans (al5 dL_law__2389 kd_XB (by decide)) (gd_congr fun g1 => ?_)
  exact iv0 dL_law__2390 rfl cp_13_246 rfl rfl (kd_ka ka_72) ka_72.1 (Nat.le_of_ble_eq_true rfl)
theorem q_L_law__2408 {call : CALL} {L X : Nat} {I : Nat → Nat → Int32} {J : Nat → Nat → Int64} {x4 : Int32} {u5 : Option Value} {u6 : Option Value} {u7 : Option Value} {s0 : Int32} : runI call iLaw (2408, [some (.ref 1000000), some (.ref 0), some (.ref 72), some (.ref 632), some (.int x4), u5, u6, u7], [.int s0], (mm L X I J)) = gd (inb (x4 + (nI 1)) L) (bnd (call nX12_count [.ref 72, .int (I 1000000 ((x4 + (nI 1))).toNatClampNeg)] (mm L X I J)) (fun v m' => runI call iLaw (2418, [some (.ref 1000000), some (.ref 0), some (.ref 72), some (.ref 632), some (.int x4), u5, u6, u7], v.toList ++ [.int s0], m'))) := by
  refine Eq.trans (st1 dL_law__2408 rfl rfl) ?_
  refine Eq.trans (st1 dL_law__2409 rfl rfl) ?_
  refine Eq.trans (st1 dL_law__2410 rfl rfl) ?_
  refine Eq.trans (xiconst dL_law__2412 ci_1) ?_
  refine Eq.trans (st1 dL_law__2413 rfl rfl) ?_
  refine Eq.trans (al5 dL_law__2414 kd_XB (by decide)) (gd_congr fun g1 => ?_)
  exact iv0 dL_law__2415 rfl cp_13_250 rfl rfl (kd_ka ka_72) ka_72.1 (Nat.le_of_ble_eq_true rfl)
theorem q_L_law__276 {call : CALL} {L X : Nat} {I : Nat → Nat → Int32} {J : Nat → Nat → Int64} {x4 : Int32} {u5 : Option Value} {u6 : Option Value} {u7 : Option Value} {s0 : Int32} {s1 : Int32} : runI call iLaw (276, [some (.ref 1000000), some (.ref 0), some (.ref 72), some (.ref 632), some (.int x4), u5, u6, u7], [.int s1, .int s0], (mm L X I J)) = if s0 = s1 then runI call iLaw (2423, [some (.ref 1000000), some (.ref 0), some (.ref 72), some (.ref 632), some (.int x4), u5, u6, u7], [], (mm L X I J)) else some (.inl (some (.int (nI 0))), (mm L X I J)) := by
  refine Eq.trans (ic_eq (tgt := 2423) dL_law__276 (by decide +kernel)) (ite_cong (fun _ => ?_) (fun _ => ?_))
  · rfl
  · refine Eq.trans (xiconst dL_law__279 ci_0) ?_
    exact ret1 dL_law__280 rfl (.inl rfl)
theorem q_L_law__304 {call : CALL} {L X : Nat} {I : Nat → Nat → Int32} {J : Nat → Nat → Int64} {x4 : Int32} {x5 : Int32} {u6 : Option Value} {u7 : Option Value} {s0 : Int32} : runI call iLaw (304, [some (.ref 1000000), some (.ref 0), some (.ref 72), some (.ref 632), some (.int x4), some (.int x5), u6, u7], [.int s0], (mm L X I J)) = bnd (call nX12_thrown [.ref 72] (mm L X I J)) (fun v m' => runI call iLaw (310, [some (.ref 1000000), some (.ref 0), some (.ref 72), some (.ref 632), some (.int x4), some (.int x5), some (.int s0), u7], v.toList ++ [], m')) := by
  refine Eq.trans (st1 dL_law__304 rfl rfl) ?_
  refine Eq.trans (st1 dL_law__306 rfl rfl) ?_
  exact iv0 dL_law__307 rfl cp_13_127 rfl rfl (kd_ka ka_72) ka_72.1 (Nat.le_of_ble_eq_true rfl)
theorem q_L_law__360 {call : CALL} {L X : Nat} {I : Nat → Nat → Int32} {J : Nat → Nat → Int64} {x4 : Int32} {x5 : Int32} {u6 : Option Value} {u7 : Option Value} {s0 : Int32} : runI call iLaw (360, [some (.ref 1000000), some (.ref 0), some (.ref 72), some (.ref 632), some (.int x4), some (.int x5), u6, u7], [.int s0], (mm L X I J)) = bnd (call nX12_thrown [.ref 72] (mm L X I J)) (fun v m' => runI call iLaw (366, [some (.ref 1000000), some (.ref 0), some (.ref 72), some (.ref 632), some (.int x4), some (.int x5), some (.int s0), u7], v.toList ++ [], m')) := by
  refine Eq.trans (st1 dL_law__360 rfl rfl) ?_
  refine Eq.trans (st1 dL_law__362 rfl rfl) ?_
  exact iv0 dL_law__363 rfl cp_13_127 rfl rfl (kd_ka ka_72) ka_72.1 (Nat.le_of_ble_eq_true rfl)
theorem q_L_law__416 {call : CALL} {L X : Nat} {I : Nat → Nat → Int32} {J : Nat → Nat → Int64} {x4 : Int32} {x5 : Int32} {u6 : Option Value} {u7 : Option Value} {s0 : Int32} : runI call iLaw (416, [some (.ref 1000000), some (.ref 0), some (.ref 72), some (.ref 632), some (.int x4), some (.int x5), u6, u7], [.int s0], (mm L X I J)) = bnd (call nX12_thrown [.ref 72] (mm L X I J)) (fun v m' => runI call iLaw (422, [some (.ref 1000000), some (.ref 0), some (.ref 72), some (.ref 632), some (.int x4), some (.int x5), some (.int s0), u7], v.toList ++ [], m')) := by
  refine Eq.trans (st1 dL_law__416 rfl rfl) ?_
  refine Eq.trans (st1 dL_law__418 rfl rfl) ?_
  exact iv0 dL_law__419 rfl cp_13_127 rfl rfl (kd_ka ka_72) ka_72.1 (Nat.le_of_ble_eq_true rfl)
theorem q_L_law__472 {call : CALL} {L X : Nat} {I : Nat → Nat → Int32} {J : Nat → Nat → Int64} {x4 : Int32} {x5 : Int32} {u6 : Option Value} {u7 : Option Value} {s0 : Int32} : runI call iLaw (472, [some (.ref 1000000), some (.ref 0), some (.ref 72), some (.ref 632), some (.int x4), some (.int x5), u6, u7], [.int s0], (mm L X I J)) = bnd (call nX12_thrown [.ref 72] (mm L X I J)) (fun v m' => runI call iLaw (478, [some (.ref 1000000), some (.ref 0), some (.ref 72), some (.ref 632), some (.int x4), some (.int x5), some (.int s0), u7], v.toList ++ [], m')) := by
  refine Eq.trans (st1 dL_law__472 rfl rfl) ?_
  refine Eq.trans (st1 dL_law__474 rfl rfl) ?_
  exact iv0 dL_law__475 rfl cp_13_127 rfl rfl (kd_ka ka_72) ka_72.1 (Nat.le_of_ble_eq_true rfl)
theorem q_L_law__513 {call : CALL} {L X : Nat} {I : Nat → Nat → Int32} {J : Nat → Nat → Int64} {x4 : Int32} {u5 : Option Value} {u6 : Option Value} {u7 : Option Value} {s0 : Int32} {s1 : Int32} : runI call iLaw (513, [some (.ref 1000000), some (.ref 0), some (.ref 72), some (.ref 632), some (.int x4), u5, u6, u7], [.int s1, .int s0], (mm L X I J)) = if s0 = s1 then runI call iLaw (2423, [some (.ref 1000000), some (.ref 0), some (.ref 72), some (.ref 632), some (.int x4), u5, u6, u7], [], (mm L X I J)) else some (.inl (some (.int (nI 0))), (mm L X I J)) := by
  refine Eq.trans (ic_eq (tgt := 2423) dL_law__513 (by decide +kernel)) (ite_cong (fun _ => ?_) (fun _ => ?_))
  · rfl
  · refine Eq.trans (xiconst dL_law__516 ci_0) ?_
    exact ret1 dL_law__517 rfl (.inl rfl)
theorem q_L_law__526 {call : CALL} {L X : Nat} {I : Nat → Nat → Int32} {J : Nat → Nat → Int64} {x4 : Int32} {u5 : Option Value} {u6 : Option Value} {u7 : Option Value} {s0 : Int32} {s1 : Int32} : runI call iLaw (526, [some (.ref 1000000), some (.ref 0), some (.ref 72), some (.ref 632), some (.int x4), u5, u6, u7], [.int s1, .int s0], (mm L X I J)) = if s0 = s1 then runI call iLaw (2423, [some (.ref 1000000), some (.ref 0), some (.ref 72), some (.ref 632), some (.int x4), u5, u6, u7], [], (mm L X I J)) else some (.inl (some (.int (nI 0))), (mm L X I J)) := by
  refine Eq.trans (ic_eq (tgt := 2423) dL_law__526 (by decide +kernel)) (ite_cong (fun _ => ?_) (fun _ => ?_))
  · rfl
  · refine Eq.trans (xiconst dL_law__529 ci_0) ?_
    exact ret1 dL_law__530 rfl (.inl rfl)
theorem q_L_law__554 {call : CALL} {L X : Nat} {I : Nat → Nat → Int32} {J : Nat → Nat → Int64} {x4 : Int32} {x5 : Int32} {u6 : Option Value} {u7 : Option Value} {s0 : Int32} : runI call iLaw (554, [some (.ref 1000000), some (.ref 0), some (.ref 72), some (.ref 632), some (.int x4), some (.int x5), u6, u7], [.int s0], (mm L X I J)) = bnd (call nX12_thrown [.ref 72] (mm L X I J)) (fun v m' => runI call iLaw (560, [some (.ref 1000000), some (.ref 0), some (.ref 72), some (.ref 632), some (.int x4), some (.int x5), some (.int s0), u7], v.toList ++ [], m')) := by
  refine Eq.trans (st1 dL_law__554 rfl rfl) ?_
  refine Eq.trans (st1 dL_law__556 rfl rfl) ?_
  exact iv0 dL_law__557 rfl cp_13_127 rfl rfl (kd_ka ka_72) ka_72.1 (Nat.le_of_ble_eq_true rfl)
theorem q_L_law__622 {call : CALL} {L X : Nat} {I : Nat → Nat → Int32} {J : Nat → Nat → Int64} {x4 : Int32} {x5 : Int32} {u6 : Option Value} {u7 : Option Value} {s0 : Int32} : runI call iLaw (622, [some (.ref 1000000), some (.ref 0), some (.ref 72), some (.ref 632), some (.int x4), some (.int x5), u6, u7], [.int s0], (mm L X I J)) = bnd (call nX12_thrown [.ref 72] (mm L X I J)) (fun v m' => runI call iLaw (628, [some (.ref 1000000), some (.ref 0), some (.ref 72), some (.ref 632), some (.int x4), some (.int x5), some (.int s0), u7], v.toList ++ [], m')) := by
  refine Eq.trans (st1 dL_law__622 rfl rfl) ?_
  refine Eq.trans (st1 dL_law__624 rfl rfl) ?_
  exact iv0 dL_law__625 rfl cp_13_127 rfl rfl (kd_ka ka_72) ka_72.1 (Nat.le_of_ble_eq_true rfl)
theorem q_L_law__690 {call : CALL} {L X : Nat} {I : Nat → Nat → Int32} {J : Nat → Nat → Int64} {x4 : Int32} {x5 : Int32} {u6 : Option Value} {u7 : Option Value} {s0 : Int32} : runI call iLaw (690, [some (.ref 1000000), some (.ref 0), some (.ref 72), some (.ref 632), some (.int x4), some (.int x5), u6, u7], [.int s0], (mm L X I J)) = bnd (call nX12_thrown [.ref 72] (mm L X I J)) (fun v m' => runI call iLaw (696, [some (.ref 1000000), some (.ref 0), some (.ref 72), some (.ref 632), some (.int x4), some (.int x5), some (.int s0), u7], v.toList ++ [], m')) := by
  refine Eq.trans (st1 dL_law__690 rfl rfl) ?_
  refine Eq.trans (st1 dL_law__692 rfl rfl) ?_
  exact iv0 dL_law__693 rfl cp_13_127 rfl rfl (kd_ka ka_72) ka_72.1 (Nat.le_of_ble_eq_true rfl)
theorem q_L_law__758 {call : CALL} {L X : Nat} {I : Nat → Nat → Int32} {J : Nat → Nat → Int64} {x4 : Int32} {x5 : Int32} {u6 : Option Value} {u7 : Option Value} {s0 : Int32} : runI call iLaw (758, [some (.ref 1000000), some (.ref 0), some (.ref 72), some (.ref 632), some (.int x4), some (.int x5), u6, u7], [.int s0], (mm L X I J)) = bnd (call nX12_thrown [.ref 72] (mm L X I J)) (fun v m' => runI call iLaw (764, [some (.ref 1000000), some (.ref 0), some (.ref 72), some (.ref 632), some (.int x4), some (.int x5), some (.int s0), u7], v.toList ++ [], m')) := by
  refine Eq.trans (st1 dL_law__758 rfl rfl) ?_
  refine Eq.trans (st1 dL_law__760 rfl rfl) ?_
  exact iv0 dL_law__761 rfl cp_13_127 rfl rfl (kd_ka ka_72) ka_72.1 (Nat.le_of_ble_eq_true rfl)
theorem q_L_law__814 {call : CALL} {L X : Nat} {I : Nat → Nat → Int32} {J : Nat → Nat → Int64} {x4 : Int32} {x5 : Int32} {u6 : Option Value} {u7 : Option Value} {s0 : Int32} : runI call iLaw (814, [some (.ref 1000000), some (.ref 0), some (.ref 72), some (.ref 632), some (.int x4), some (.int x5), u6, u7], [.int s0], (mm L X I J)) = bnd (call nX12_thrown [.ref 72] (mm L X I J)) (fun v m' => runI call iLaw (820, [some (.ref 1000000), some (.ref 0), some (.ref 72), some (.ref 632), some (.int x4), some (.int x5), some (.int s0), u7], v.toList ++ [], m')) := by
  refine Eq.trans (st1 dL_law__814 rfl rfl) ?_
  refine Eq.trans (st1 dL_law__816 rfl rfl) ?_
  exact iv0 dL_law__817 rfl cp_13_127 rfl rfl (kd_ka ka_72) ka_72.1 (Nat.le_of_ble_eq_true rfl)
theorem q_L_law__870 {call : CALL} {L X : Nat} {I : Nat → Nat → Int32} {J : Nat → Nat → Int64} {x4 : Int32} {x5 : Int32} {u6 : Option Value} {u7 : Option Value} {s0 : Int32} : runI call iLaw (870, [some (.ref 1000000), some (.ref 0), some (.ref 72), some (.ref 632), some (.int x4), some (.int x5), u6, u7], [.int s0], (mm L X I J)) = bnd (call nX12_thrown [.ref 72] (mm L X I J)) (fun v m' => runI call iLaw (876, [some (.ref 1000000), some (.ref 0), some (.ref 72), some (.ref 632), some (.int x4), some (.int x5), some (.int s0), u7], v.toList ++ [], m')) := by
  refine Eq.trans (st1 dL_law__870 rfl rfl) ?_
  refine Eq.trans (st1 dL_law__872 rfl rfl) ?_
  exact iv0 dL_law__873 rfl cp_13_127 rfl rfl (kd_ka ka_72) ka_72.1 (Nat.le_of_ble_eq_true rfl)
theorem q_L_law__1030 {call : CALL} {L X : Nat} {I : Nat → Nat → Int32} {J : Nat → Nat → Int64} {x4 : Int32} {x5 : Int32} {u6 : Option Value} {u7 : Option Value} {s0 : Int32} : runI call iLaw (1030, [some (.ref 1000000), some (.ref 0), some (.ref 72), some (.ref 632), some (.int x4), some (.int x5), u6, u7], [.int s0], (mm L X I J)) = bnd (call nX12_thrown [.ref 72] (mm L X I J)) (fun v m' => runI call iLaw (1036, [some (.ref 1000000), some (.ref 0), some (.ref 72), some (.ref 632), some (.int x4), some (.int x5), some (.int s0), u7], v.toList ++ [], m')) := by
  refine Eq.trans (st1 dL_law__1030 rfl rfl) ?_
  refine Eq.trans (st1 dL_law__1032 rfl rfl) ?_
  exact iv0 dL_law__1033 rfl cp_13_127 rfl rfl (kd_ka ka_72) ka_72.1 (Nat.le_of_ble_eq_true rfl)
theorem q_L_law__1098 {call : CALL} {L X : Nat} {I : Nat → Nat → Int32} {J : Nat → Nat → Int64} {x4 : Int32} {x5 : Int32} {u6 : Option Value} {u7 : Option Value} {s0 : Int32} : runI call iLaw (1098, [some (.ref 1000000), some (.ref 0), some (.ref 72), some (.ref 632), some (.int x4), some (.int x5), u6, u7], [.int s0], (mm L X I J)) = bnd (call nX12_thrown [.ref 72] (mm L X I J)) (fun v m' => runI call iLaw (1104, [some (.ref 1000000), some (.ref 0), some (.ref 72), some (.ref 632), some (.int x4), some (.int x5), some (.int s0), u7], v.toList ++ [], m')) := by
  refine Eq.trans (st1 dL_law__1098 rfl rfl) ?_
  refine Eq.trans (st1 dL_law__1100 rfl rfl) ?_
  exact iv0 dL_law__1101 rfl cp_13_127 rfl rfl (kd_ka ka_72) ka_72.1 (Nat.le_of_ble_eq_true rfl)
theorem q_L_law__1161 {call : CALL} {L X : Nat} {I : Nat → Nat → Int32} {J : Nat → Nat → Int64} {x4 : Int32} {x5 : Int32} {u6 : Option Value} {u7 : Option Value} {s0 : Int32} : runI call iLaw (1161, [some (.ref 1000000), some (.ref 0), some (.ref 72), some (.ref 632), some (.int x4), some (.int x5), u6, u7], [.int s0], (mm L X I J)) = bnd (call nX12_thrown [.ref 72] (mm L X I J)) (fun v m' => runI call iLaw (1167, [some (.ref 1000000), some (.ref 0), some (.ref 72), some (.ref 632), some (.int x4), some (.int x5), some (.int s0), u7], v.toList ++ [], m')) := by
  refine Eq.trans (st1 dL_law__1161 rfl rfl) ?_
  refine Eq.trans (st1 dL_law__1163 rfl rfl) ?_
  exact iv0 dL_law__1164 rfl cp_13_127 rfl rfl (kd_ka ka_72) ka_72.1 (Nat.le_of_ble_eq_true rfl)
theorem q_L_law__1224 {call : CALL} {L X : Nat} {I : Nat → Nat → Int32} {J : Nat → Nat → Int64} {x4 : Int32} {x5 : Int32} {u6 : Option Value} {u7 : Option Value} {s0 : Int32} : runI call iLaw (1224, [some (.ref 1000000), some (.ref 0), some (.ref 72), some (.ref 632), some (.int x4), some (.int x5), u6, u7], [.int s0], (mm L X I J)) = bnd (call nX12_thrown [.ref 72] (mm L X I J)) (fun v m' => runI call iLaw (1230, [some (.ref 1000000), some (.ref 0), some (.ref 72), some (.ref 632), some (.int x4), some (.int x5), some (.int s0), u7], v.toList ++ [], m')) := by
  refine Eq.trans (st1 dL_law__1224 rfl rfl) ?_
  refine Eq.trans (st1 dL_law__1226 rfl rfl) ?_
  exact iv0 dL_law__1227 rfl cp_13_127 rfl rfl (kd_ka ka_72) ka_72.1 (Nat.le_of_ble_eq_true rfl)
theorem q_L_law__1280 {call : CALL} {L X : Nat} {I : Nat → Nat → Int32} {J : Nat → Nat → Int64} {x4 : Int32} {x5 : Int32} {u6 : Option Value} {u7 : Option Value} {s0 : Int32} : runI call iLaw (1280, [some (.ref 1000000), some (.ref 0), some (.ref 72), some (.ref 632), some (.int x4), some (.int x5), u6, u7], [.int s0], (mm L X I J)) = bnd (call nX12_thrown [.ref 72] (mm L X I J)) (fun v m' => runI call iLaw (1286, [some (.ref 1000000), some (.ref 0), some (.ref 72), some (.ref 632), some (.int x4), some (.int x5), some (.int s0), u7], v.toList ++ [], m')) := by
  refine Eq.trans (st1 dL_law__1280 rfl rfl) ?_
  refine Eq.trans (st1 dL_law__1282 rfl rfl) ?_
  exact iv0 dL_law__1283 rfl cp_13_127 rfl rfl (kd_ka ka_72) ka_72.1 (Nat.le_of_ble_eq_true rfl)
theorem q_L_law__1336 {call : CALL} {L X : Nat} {I : Nat → Nat → Int32} {J : Nat → Nat → Int64} {x4 : Int32} {x5 : Int32} {u6 : Option Value} {u7 : Option Value} {s0 : Int32} : runI call iLaw (1336, [some (.ref 1000000), some (.ref 0), some (.ref 72), some (.ref 632), some (.int x4), some (.int x5), u6, u7], [.int s0], (mm L X I J)) = bnd (call nX12_thrown [.ref 72] (mm L X I J)) (fun v m' => runI call iLaw (1342, [some (.ref 1000000), some (.ref 0), some (.ref 72), some (.ref 632), some (.int x4), some (.int x5), some (.int s0), u7], v.toList ++ [], m')) := by
  refine Eq.trans (st1 dL_law__1336 rfl rfl) ?_
  refine Eq.trans (st1 dL_law__1338 rfl rfl) ?_
  exact iv0 dL_law__1339 rfl cp_13_127 rfl rfl (kd_ka ka_72) ka_72.1 (Nat.le_of_ble_eq_true rfl)
theorem q_L_law__1392 {call : CALL} {L X : Nat} {I : Nat → Nat → Int32} {J : Nat → Nat → Int64} {x4 : Int32} {x5 : Int32} {u6 : Option Value} {u7 : Option Value} {s0 : Int32} : runI call iLaw (1392, [some (.ref 1000000), some (.ref 0), some (.ref 72), some (.ref 632), some (.int x4), some (.int x5), u6, u7], [.int s0], (mm L X I J)) = bnd (call nX12_thrown [.ref 72] (mm L X I J)) (fun v m' => runI call iLaw (1398, [some (.ref 1000000), some (.ref 0), some (.ref 72), some (.ref 632), some (.int x4), some (.int x5), some (.int s0), u7], v.toList ++ [], m')) := by
  refine Eq.trans (st1 dL_law__1392 rfl rfl) ?_
  refine Eq.trans (st1 dL_law__1394 rfl rfl) ?_
  exact iv0 dL_law__1395 rfl cp_13_127 rfl rfl (kd_ka ka_72) ka_72.1 (Nat.le_of_ble_eq_true rfl)
theorem q_L_law__1460 {call : CALL} {L X : Nat} {I : Nat → Nat → Int32} {J : Nat → Nat → Int64} {x4 : Int32} {x5 : Int32} {u6 : Option Value} {u7 : Option Value} {s0 : Int32} : runI call iLaw (1460, [some (.ref 1000000), some (.ref 0), some (.ref 72), some (.ref 632), some (.int x4), some (.int x5), u6, u7], [.int s0], (mm L X I J)) = bnd (call nX12_thrown [.ref 72] (mm L X I J)) (fun v m' => runI call iLaw (1466, [some (.ref 1000000), some (.ref 0), some (.ref 72), some (.ref 632), some (.int x4), some (.int x5), some (.int s0), u7], v.toList ++ [], m')) := by
  refine Eq.trans (st1 dL_law__1460 rfl rfl) ?_
  refine Eq.trans (st1 dL_law__1462 rfl rfl) ?_
  exact iv0 dL_law__1463 rfl cp_13_127 rfl rfl (kd_ka ka_72) ka_72.1 (Nat.le_of_ble_eq_true rfl)
theorem q_L_law__1516 {call : CALL} {L X : Nat} {I : Nat → Nat → Int32} {J : Nat → Nat → Int64} {x4 : Int32} {x5 : Int32} {u6 : Option Value} {u7 : Option Value} {s0 : Int32} : runI call iLaw (1516, [some (.ref 1000000), some (.ref 0), some (.ref 72), some (.ref 632), some (.int x4), some (.int x5), u6, u7], [.int s0], (mm L X I J)) = bnd (call nX12_thrown [.ref 72] (mm L X I J)) (fun v m' => runI call iLaw (1522, [some (.ref 1000000), some (.ref 0), some (.ref 72), some (.ref 632), some (.int x4), some (.int x5), some (.int s0), u7], v.toList ++ [], m')) := by
  refine Eq.trans (st1 dL_law__1516 rfl rfl) ?_
  refine Eq.trans (st1 dL_law__1518 rfl rfl) ?_
  exact iv0 dL_law__1519 rfl cp_13_127 rfl rfl (kd_ka ka_72) ka_72.1 (Nat.le_of_ble_eq_true rfl)
theorem q_L_law__1572 {call : CALL} {L X : Nat} {I : Nat → Nat → Int32} {J : Nat → Nat → Int64} {x4 : Int32} {x5 : Int32} {u6 : Option Value} {u7 : Option Value} {s0 : Int32} : runI call iLaw (1572, [some (.ref 1000000), some (.ref 0), some (.ref 72), some (.ref 632), some (.int x4), some (.int x5), u6, u7], [.int s0], (mm L X I J)) = bnd (call nX12_thrown [.ref 72] (mm L X I J)) (fun v m' => runI call iLaw (1578, [some (.ref 1000000), some (.ref 0), some (.ref 72), some (.ref 632), some (.int x4), some (.int x5), some (.int s0), u7], v.toList ++ [], m')) := by
  refine Eq.trans (st1 dL_law__1572 rfl rfl) ?_
  refine Eq.trans (st1 dL_law__1574 rfl rfl) ?_
  exact iv0 dL_law__1575 rfl cp_13_127 rfl rfl (kd_ka ka_72) ka_72.1 (Nat.le_of_ble_eq_true rfl)
theorem q_L_law__1628 {call : CALL} {L X : Nat} {I : Nat → Nat → Int32} {J : Nat → Nat → Int64} {x4 : Int32} {x5 : Int32} {u6 : Option Value} {u7 : Option Value} {s0 : Int32} : runI call iLaw (1628, [some (.ref 1000000), some (.ref 0), some (.ref 72), some (.ref 632), some (.int x4), some (.int x5), u6, u7], [.int s0], (mm L X I J)) = bnd (call nX12_thrown [.ref 72] (mm L X I J)) (fun v m' => runI call iLaw (1634, [some (.ref 1000000), some (.ref 0), some (.ref 72), some (.ref 632), some (.int x4), some (.int x5), some (.int s0), u7], v.toList ++ [], m')) := by
  refine Eq.trans (st1 dL_law__1628 rfl rfl) ?_
  refine Eq.trans (st1 dL_law__1630 rfl rfl) ?_
  exact iv0 dL_law__1631 rfl cp_13_127 rfl rfl (kd_ka ka_72) ka_72.1 (Nat.le_of_ble_eq_true rfl)
theorem q_L_law__1669 {call : CALL} {L X : Nat} {I : Nat → Nat → Int32} {J : Nat → Nat → Int64} {x4 : Int32} {u5 : Option Value} {u6 : Option Value} {u7 : Option Value} {s0 : Int32} {s1 : Int32} : runI call iLaw (1669, [some (.ref 1000000), some (.ref 0), some (.ref 72), some (.ref 632), some (.int x4), u5, u6, u7], [.int s1, .int s0], (mm L X I J)) = if s0 = s1 then runI call iLaw (2423, [some (.ref 1000000), some (.ref 0), some (.ref 72), some (.ref 632), some (.int x4), u5, u6, u7], [], (mm L X I J)) else some (.inl (some (.int (nI 0))), (mm L X I J)) := by
  refine Eq.trans (ic_eq (tgt := 2423) dL_law__1669 (by decide +kernel)) (ite_cong (fun _ => ?_) (fun _ => ?_))
  · rfl
  · refine Eq.trans (xiconst dL_law__1672 ci_0) ?_
    exact ret1 dL_law__1673 rfl (.inl rfl)
theorem q_L_law__1721 {call : CALL} {L X : Nat} {I : Nat → Nat → Int32} {J : Nat → Nat → Int64} {x4 : Int32} {x5 : Int32} {u6 : Option Value} {u7 : Option Value} {z0 : Int64} : runI call iLaw (1721, [some (.ref 1000000), some (.ref 0), some (.ref 72), some (.ref 632), some (.int x4), some (.int x5), u6, u7], [.long z0], (mm L X I J)) = bnd (call nX12_thrown [.ref 72] (mm L X I J)) (fun v m' => runI call iLaw (1727, [some (.ref 1000000), some (.ref 0), some (.ref 72), some (.ref 632), some (.int x4), some (.int x5), some (.long z0), none], v.toList ++ [], m')) := by
  refine Eq.trans (st1 dL_law__1721 rfl rfl) ?_
  refine Eq.trans (st1 dL_law__1723 rfl rfl) ?_
  exact iv0 dL_law__1724 rfl cp_13_127 rfl rfl (kd_ka ka_72) ka_72.1 (Nat.le_of_ble_eq_true rfl)
theorem q_L_law__1800 {call : CALL} {L X : Nat} {I : Nat → Nat → Int32} {J : Nat → Nat → Int64} {x4 : Int32} {x5 : Int32} {u6 : Option Value} {u7 : Option Value} {s0 : Int32} : runI call iLaw (1800, [some (.ref 1000000), some (.ref 0), some (.ref 72), some (.ref 632), some (.int x4), some (.int x5), u6, u7], [.int s0], (mm L X I J)) = bnd (call nX12_thrown [.ref 72] (mm L X I J)) (fun v m' => runI call iLaw (1806, [some (.ref 1000000), some (.ref 0), some (.ref 72), some (.ref 632), some (.int x4), some (.int x5), some (.int s0), u7], v.toList ++ [], m')) := by
  refine Eq.trans (st1 dL_law__1800 rfl rfl) ?_
  refine Eq.trans (st1 dL_law__1802 rfl rfl) ?_
  exact iv0 dL_law__1803 rfl cp_13_127 rfl rfl (kd_ka ka_72) ka_72.1 (Nat.le_of_ble_eq_true rfl)
theorem q_L_law__1880 {call : CALL} {L X : Nat} {I : Nat → Nat → Int32} {J : Nat → Nat → Int64} {x4 : Int32} {x5 : Int32} {u6 : Option Value} {u7 : Option Value} {s0 : Int32} : runI call iLaw (1880, [some (.ref 1000000), some (.ref 0), some (.ref 72), some (.ref 632), some (.int x4), some (.int x5), u6, u7], [.int s0], (mm L X I J)) = bnd (call nX12_thrown [.ref 72] (mm L X I J)) (fun v m' => runI call iLaw (1886, [some (.ref 1000000), some (.ref 0), some (.ref 72), some (.ref 632), some (.int x4), some (.int x5), some (.int s0), u7], v.toList ++ [], m')) := by
  refine Eq.trans (st1 dL_law__1880 rfl rfl) ?_
  refine Eq.trans (st1 dL_law__1882 rfl rfl) ?_
  exact iv0 dL_law__1883 rfl cp_13_127 rfl rfl (kd_ka ka_72) ka_72.1 (Nat.le_of_ble_eq_true rfl)
theorem q_L_law__1936 {call : CALL} {L X : Nat} {I : Nat → Nat → Int32} {J : Nat → Nat → Int64} {x4 : Int32} {x5 : Int32} {u6 : Option Value} {u7 : Option Value} {s0 : Int32} : runI call iLaw (1936, [some (.ref 1000000), some (.ref 0), some (.ref 72), some (.ref 632), some (.int x4), some (.int x5), u6, u7], [.int s0], (mm L X I J)) = bnd (call nX12_thrown [.ref 72] (mm L X I J)) (fun v m' => runI call iLaw (1942, [some (.ref 1000000), some (.ref 0), some (.ref 72), some (.ref 632), some (.int x4), some (.int x5), some (.int s0), u7], v.toList ++ [], m')) := by
  refine Eq.trans (st1 dL_law__1936 rfl rfl) ?_
  refine Eq.trans (st1 dL_law__1938 rfl rfl) ?_
  exact iv0 dL_law__1939 rfl cp_13_127 rfl rfl (kd_ka ka_72) ka_72.1 (Nat.le_of_ble_eq_true rfl)
theorem q_L_law__1992 {call : CALL} {L X : Nat} {I : Nat → Nat → Int32} {J : Nat → Nat → Int64} {x4 : Int32} {x5 : Int32} {u6 : Option Value} {u7 : Option Value} {s0 : Int32} : runI call iLaw (1992, [some (.ref 1000000), some (.ref 0), some (.ref 72), some (.ref 632), some (.int x4), some (.int x5), u6, u7], [.int s0], (mm L X I J)) = bnd (call nX12_thrown [.ref 72] (mm L X I J)) (fun v m' => runI call iLaw (1998, [some (.ref 1000000), some (.ref 0), some (.ref 72), some (.ref 632), some (.int x4), some (.int x5), some (.int s0), u7], v.toList ++ [], m')) := by
  refine Eq.trans (st1 dL_law__1992 rfl rfl) ?_
  refine Eq.trans (st1 dL_law__1994 rfl rfl) ?_
  exact iv0 dL_law__1995 rfl cp_13_127 rfl rfl (kd_ka ka_72) ka_72.1 (Nat.le_of_ble_eq_true rfl)
theorem q_L_law__2048 {call : CALL} {L X : Nat} {I : Nat → Nat → Int32} {J : Nat → Nat → Int64} {x4 : Int32} {x5 : Int32} {u6 : Option Value} {u7 : Option Value} {s0 : Int32} : runI call iLaw (2048, [some (.ref 1000000), some (.ref 0), some (.ref 72), some (.ref 632), some (.int x4), some (.int x5), u6, u7], [.int s0], (mm L X I J)) = bnd (call nX12_thrown [.ref 72] (mm L X I J)) (fun v m' => runI call iLaw (2054, [some (.ref 1000000), some (.ref 0), some (.ref 72), some (.ref 632), some (.int x4), some (.int x5), some (.int s0), u7], v.toList ++ [], m')) := by
  refine Eq.trans (st1 dL_law__2048 rfl rfl) ?_
  refine Eq.trans (st1 dL_law__2050 rfl rfl) ?_
  exact iv0 dL_law__2051 rfl cp_13_127 rfl rfl (kd_ka ka_72) ka_72.1 (Nat.le_of_ble_eq_true rfl)
theorem q_L_law__2104 {call : CALL} {L X : Nat} {I : Nat → Nat → Int32} {J : Nat → Nat → Int64} {x4 : Int32} {x5 : Int32} {u6 : Option Value} {u7 : Option Value} {s0 : Int32} : runI call iLaw (2104, [some (.ref 1000000), some (.ref 0), some (.ref 72), some (.ref 632), some (.int x4), some (.int x5), u6, u7], [.int s0], (mm L X I J)) = bnd (call nX12_thrown [.ref 72] (mm L X I J)) (fun v m' => runI call iLaw (2110, [some (.ref 1000000), some (.ref 0), some (.ref 72), some (.ref 632), some (.int x4), some (.int x5), some (.int s0), u7], v.toList ++ [], m')) := by
  refine Eq.trans (st1 dL_law__2104 rfl rfl) ?_
  refine Eq.trans (st1 dL_law__2106 rfl rfl) ?_
  exact iv0 dL_law__2107 rfl cp_13_127 rfl rfl (kd_ka ka_72) ka_72.1 (Nat.le_of_ble_eq_true rfl)
theorem q_L_law__2196 {call : CALL} {L X : Nat} {I : Nat → Nat → Int32} {J : Nat → Nat → Int64} {x4 : Int32} {x5 : Int32} {u6 : Option Value} {u7 : Option Value} {s0 : Int32} : runI call iLaw (2196, [some (.ref 1000000), some (.ref 0), some (.ref 72), some (.ref 632), some (.int x4), some (.int x5), u6, u7], [.int s0], (mm L X I J)) = bnd (call nX12_thrown [.ref 72] (mm L X I J)) (fun v m' => runI call iLaw (2202, [some (.ref 1000000), some (.ref 0), some (.ref 72), some (.ref 632), some (.int x4), some (.int x5), some (.int s0), u7], v.toList ++ [], m')) := by
  refine Eq.trans (st1 dL_law__2196 rfl rfl) ?_
  refine Eq.trans (st1 dL_law__2198 rfl rfl) ?_
  exact iv0 dL_law__2199 rfl cp_13_127 rfl rfl (kd_ka ka_72) ka_72.1 (Nat.le_of_ble_eq_true rfl)
theorem q_L_law__2314 {call : CALL} {L X : Nat} {I : Nat → Nat → Int32} {J : Nat → Nat → Int64} {x4 : Int32} {x5 : Int32} {u6 : Option Value} {u7 : Option Value} {s0 : Int32} : runI call iLaw (2314, [some (.ref 1000000), some (.ref 0), some (.ref 72), some (.ref 632), some (.int x4), some (.int x5), u6, u7], [.int s0], (mm L X I J)) = bnd (call nX12_thrown [.ref 72] (mm L X I J)) (fun v m' => runI call iLaw (2320, [some (.ref 1000000), some (.ref 0), some (.ref 72), some (.ref 632), some (.int x4), some (.int x5), some (.int s0), u7], v.toList ++ [], m')) := by
  refine Eq.trans (st1 dL_law__2314 rfl rfl) ?_
  refine Eq.trans (st1 dL_law__2316 rfl rfl) ?_
  exact iv0 dL_law__2317 rfl cp_13_127 rfl rfl (kd_ka ka_72) ka_72.1 (Nat.le_of_ble_eq_true rfl)
theorem q_L_law__2355 {call : CALL} {L X : Nat} {I : Nat → Nat → Int32} {J : Nat → Nat → Int64} {x4 : Int32} {u5 : Option Value} {u6 : Option Value} {u7 : Option Value} {s0 : Int32} {s1 : Int32} : runI call iLaw (2355, [some (.ref 1000000), some (.ref 0), some (.ref 72), some (.ref 632), some (.int x4), u5, u6, u7], [.int s1, .int s0], (mm L X I J)) = if s0 = s1 then runI call iLaw (2423, [some (.ref 1000000), some (.ref 0), some (.ref 72), some (.ref 632), some (.int x4), u5, u6, u7], [], (mm L X I J)) else some (.inl (some (.int (nI 0))), (mm L X I J)) := by
  refine Eq.trans (ic_eq (tgt := 2423) dL_law__2355 (by decide +kernel)) (ite_cong (fun _ => ?_) (fun _ => ?_))
  · rfl
  · refine Eq.trans (xiconst dL_law__2358 ci_0) ?_
    exact ret1 dL_law__2359 rfl (.inl rfl)
theorem q_L_law__2368 {call : CALL} {L X : Nat} {I : Nat → Nat → Int32} {J : Nat → Nat → Int64} {x4 : Int32} {u5 : Option Value} {u6 : Option Value} {u7 : Option Value} {s0 : Int32} {s1 : Int32} : runI call iLaw (2368, [some (.ref 1000000), some (.ref 0), some (.ref 72), some (.ref 632), some (.int x4), u5, u6, u7], [.int s1, .int s0], (mm L X I J)) = if s0 = s1 then runI call iLaw (2423, [some (.ref 1000000), some (.ref 0), some (.ref 72), some (.ref 632), some (.int x4), u5, u6, u7], [], (mm L X I J)) else some (.inl (some (.int (nI 0))), (mm L X I J)) := by
  refine Eq.trans (ic_eq (tgt := 2423) dL_law__2368 (by decide +kernel)) (ite_cong (fun _ => ?_) (fun _ => ?_))
  · rfl
  · refine Eq.trans (xiconst dL_law__2371 ci_0) ?_
    exact ret1 dL_law__2372 rfl (.inl rfl)
theorem q_L_law__2393 {call : CALL} {L X : Nat} {I : Nat → Nat → Int32} {J : Nat → Nat → Int64} {x4 : Int32} {u5 : Option Value} {u6 : Option Value} {u7 : Option Value} {s0 : Int32} {s1 : Int32} : runI call iLaw (2393, [some (.ref 1000000), some (.ref 0), some (.ref 72), some (.ref 632), some (.int x4), u5, u6, u7], [.int s1, .int s0], (mm L X I J)) = if s0 = s1 then runI call iLaw (2423, [some (.ref 1000000), some (.ref 0), some (.ref 72), some (.ref 632), some (.int x4), u5, u6, u7], [], (mm L X I J)) else some (.inl (some (.int (nI 0))), (mm L X I J)) := by
  refine Eq.trans (ic_eq (tgt := 2423) dL_law__2393 (by decide +kernel)) (ite_cong (fun _ => ?_) (fun _ => ?_))
  · rfl
  · refine Eq.trans (xiconst dL_law__2396 ci_0) ?_
    exact ret1 dL_law__2397 rfl (.inl rfl)
theorem q_L_law__2418 {call : CALL} {L X : Nat} {I : Nat → Nat → Int32} {J : Nat → Nat → Int64} {x4 : Int32} {u5 : Option Value} {u6 : Option Value} {u7 : Option Value} {s0 : Int32} {s1 : Int32} : runI call iLaw (2418, [some (.ref 1000000), some (.ref 0), some (.ref 72), some (.ref 632), some (.int x4), u5, u6, u7], [.int s1, .int s0], (mm L X I J)) = if s0 = s1 then runI call iLaw (2423, [some (.ref 1000000), some (.ref 0), some (.ref 72), some (.ref 632), some (.int x4), u5, u6, u7], [], (mm L X I J)) else some (.inl (some (.int (nI 0))), (mm L X I J)) := by
  refine Eq.trans (ic_eq (tgt := 2423) dL_law__2418 (by decide +kernel)) (ite_cong (fun _ => ?_) (fun _ => ?_))
  · rfl
  · refine Eq.trans (xiconst dL_law__2421 ci_0) ?_
    exact ret1 dL_law__2422 rfl (.inl rfl)
theorem q_L_law__310 {call : CALL} {L X : Nat} {I : Nat → Nat → Int32} {J : Nat → Nat → Int64} {x4 : Int32} {x5 : Int32} {x6 : Int32} {u7 : Option Value} {s0 : Int32} : runI call iLaw (310, [some (.ref 1000000), some (.ref 0), some (.ref 72), some (.ref 632), some (.int x4), some (.int x5), some (.int x6), u7], [.int s0], (mm L X I J)) = if s0 = x5 then if x5 = (nI 0) then gd (inb (nI 0) 1) (if (lg_cmp (J 632 ((nI 0)).toNatClampNeg) (x6).toInt64) = (nI 0) then runI call iLaw (334, [some (.ref 1000000), some (.ref 0), some (.ref 72), some (.ref 632), some (.int x4), some (.int x5), some (.int x6), u7], [], (mm L X I J)) else some (.inl (some (.int (nI 0))), (mm L X I J))) else runI call iLaw (334, [some (.ref 1000000), some (.ref 0), some (.ref 72), some (.ref 632), some (.int x4), some (.int x5), some (.int x6), u7], [], (mm L X I J)) else some (.inl (some (.int (nI 0))), (mm L X I J)) := by
  refine Eq.trans (st1 dL_law__310 rfl rfl) ?_
  refine Eq.trans (ic_eq (tgt := 317) dL_law__312 (by decide +kernel)) (ite_cong (fun _ => ?_) (fun _ => ?_))
  · refine Eq.trans (st1 dL_law__317 rfl rfl) ?_
    refine Eq.trans (if_ne (tgt := 334) dL_law__319 (by decide +kernel)) (ite_cong (fun _ => ?_) (fun _ => ?_))
    · refine Eq.trans (st1 dL_law__322 rfl rfl) ?_
      refine Eq.trans (xiconst dL_law__323 ci_0) ?_
      refine Eq.trans (al3m dL_law__324 ka_632) (gd_congr fun g1 => ?_)
      refine Eq.trans (st1 dL_law__325 rfl rfl) ?_
      refine Eq.trans (st1 dL_law__327 rfl rfl) ?_
      refine Eq.trans (st1 dL_law__328 rfl rfl) ?_
      refine Eq.trans (if_eq (tgt := 334) dL_law__329 (by decide +kernel)) (ite_cong (fun _ => ?_) (fun _ => ?_))
      · rfl
      · refine Eq.trans (xiconst dL_law__332 ci_0) ?_
        exact ret1 dL_law__333 rfl (.inl rfl)
    · rfl
  · refine Eq.trans (xiconst dL_law__315 ci_0) ?_
    exact ret1 dL_law__316 rfl (.inl rfl)
theorem q_L_law__366 {call : CALL} {L X : Nat} {I : Nat → Nat → Int32} {J : Nat → Nat → Int64} {x4 : Int32} {x5 : Int32} {x6 : Int32} {u7 : Option Value} {s0 : Int32} : runI call iLaw (366, [some (.ref 1000000), some (.ref 0), some (.ref 72), some (.ref 632), some (.int x4), some (.int x5), some (.int x6), u7], [.int s0], (mm L X I J)) = if s0 = x5 then if x5 = (nI 0) then gd (inb (nI 0) 1) (if (lg_cmp (J 632 ((nI 0)).toNatClampNeg) (x6).toInt64) = (nI 0) then runI call iLaw (390, [some (.ref 1000000), some (.ref 0), some (.ref 72), some (.ref 632), some (.int x4), some (.int x5), some (.int x6), u7], [], (mm L X I J)) else some (.inl (some (.int (nI 0))), (mm L X I J))) else runI call iLaw (390, [some (.ref 1000000), some (.ref 0), some (.ref 72), some (.ref 632), some (.int x4), some (.int x5), some (.int x6), u7], [], (mm L X I J)) else some (.inl (some (.int (nI 0))), (mm L X I J)) := by
  refine Eq.trans (st1 dL_law__366 rfl rfl) ?_
  refine Eq.trans (ic_eq (tgt := 373) dL_law__368 (by decide +kernel)) (ite_cong (fun _ => ?_) (fun _ => ?_))
  · refine Eq.trans (st1 dL_law__373 rfl rfl) ?_
    refine Eq.trans (if_ne (tgt := 390) dL_law__375 (by decide +kernel)) (ite_cong (fun _ => ?_) (fun _ => ?_))
    · refine Eq.trans (st1 dL_law__378 rfl rfl) ?_
      refine Eq.trans (xiconst dL_law__379 ci_0) ?_
      refine Eq.trans (al3m dL_law__380 ka_632) (gd_congr fun g1 => ?_)
      refine Eq.trans (st1 dL_law__381 rfl rfl) ?_
      refine Eq.trans (st1 dL_law__383 rfl rfl) ?_
      refine Eq.trans (st1 dL_law__384 rfl rfl) ?_
      refine Eq.trans (if_eq (tgt := 390) dL_law__385 (by decide +kernel)) (ite_cong (fun _ => ?_) (fun _ => ?_))
      · rfl
      · refine Eq.trans (xiconst dL_law__388 ci_0) ?_
        exact ret1 dL_law__389 rfl (.inl rfl)
    · rfl
  · refine Eq.trans (xiconst dL_law__371 ci_0) ?_
    exact ret1 dL_law__372 rfl (.inl rfl)
theorem q_L_law__422 {call : CALL} {L X : Nat} {I : Nat → Nat → Int32} {J : Nat → Nat → Int64} {x4 : Int32} {x5 : Int32} {x6 : Int32} {u7 : Option Value} {s0 : Int32} : runI call iLaw (422, [some (.ref 1000000), some (.ref 0), some (.ref 72), some (.ref 632), some (.int x4), some (.int x5), some (.int x6), u7], [.int s0], (mm L X I J)) = if s0 = x5 then if x5 = (nI 0) then gd (inb (nI 0) 1) (if (lg_cmp (J 632 ((nI 0)).toNatClampNeg) (x6).toInt64) = (nI 0) then runI call iLaw (446, [some (.ref 1000000), some (.ref 0), some (.ref 72), some (.ref 632), some (.int x4), some (.int x5), some (.int x6), u7], [], (mm L X I J)) else some (.inl (some (.int (nI 0))), (mm L X I J))) else runI call iLaw (446, [some (.ref 1000000), some (.ref 0), some (.ref 72), some (.ref 632), some (.int x4), some (.int x5), some (.int x6), u7], [], (mm L X I J)) else some (.inl (some (.int (nI 0))), (mm L X I J)) := by
  refine Eq.trans (st1 dL_law__422 rfl rfl) ?_
  refine Eq.trans (ic_eq (tgt := 429) dL_law__424 (by decide +kernel)) (ite_cong (fun _ => ?_) (fun _ => ?_))
  · refine Eq.trans (st1 dL_law__429 rfl rfl) ?_
    refine Eq.trans (if_ne (tgt := 446) dL_law__431 (by decide +kernel)) (ite_cong (fun _ => ?_) (fun _ => ?_))
    · refine Eq.trans (st1 dL_law__434 rfl rfl) ?_
      refine Eq.trans (xiconst dL_law__435 ci_0) ?_
      refine Eq.trans (al3m dL_law__436 ka_632) (gd_congr fun g1 => ?_)
      refine Eq.trans (st1 dL_law__437 rfl rfl) ?_
      refine Eq.trans (st1 dL_law__439 rfl rfl) ?_
      refine Eq.trans (st1 dL_law__440 rfl rfl) ?_
      refine Eq.trans (if_eq (tgt := 446) dL_law__441 (by decide +kernel)) (ite_cong (fun _ => ?_) (fun _ => ?_))
      · rfl
      · refine Eq.trans (xiconst dL_law__444 ci_0) ?_
        exact ret1 dL_law__445 rfl (.inl rfl)
    · rfl
  · refine Eq.trans (xiconst dL_law__427 ci_0) ?_
    exact ret1 dL_law__428 rfl (.inl rfl)
theorem q_L_law__478 {call : CALL} {L X : Nat} {I : Nat → Nat → Int32} {J : Nat → Nat → Int64} {x4 : Int32} {x5 : Int32} {x6 : Int32} {u7 : Option Value} {s0 : Int32} : runI call iLaw (478, [some (.ref 1000000), some (.ref 0), some (.ref 72), some (.ref 632), some (.int x4), some (.int x5), some (.int x6), u7], [.int s0], (mm L X I J)) = if s0 = x5 then if x5 = (nI 0) then gd (inb (nI 0) 1) (if (lg_cmp (J 632 ((nI 0)).toNatClampNeg) (x6).toInt64) = (nI 0) then runI call iLaw (502, [some (.ref 1000000), some (.ref 0), some (.ref 72), some (.ref 632), some (.int x4), some (.int x5), some (.int x6), u7], [], (mm L X I J)) else some (.inl (some (.int (nI 0))), (mm L X I J))) else runI call iLaw (502, [some (.ref 1000000), some (.ref 0), some (.ref 72), some (.ref 632), some (.int x4), some (.int x5), some (.int x6), u7], [], (mm L X I J)) else some (.inl (some (.int (nI 0))), (mm L X I J)) := by
  refine Eq.trans (st1 dL_law__478 rfl rfl) ?_
  refine Eq.trans (ic_eq (tgt := 485) dL_law__480 (by decide +kernel)) (ite_cong (fun _ => ?_) (fun _ => ?_))
  · refine Eq.trans (st1 dL_law__485 rfl rfl) ?_
    refine Eq.trans (if_ne (tgt := 502) dL_law__487 (by decide +kernel)) (ite_cong (fun _ => ?_) (fun _ => ?_))
    · refine Eq.trans (st1 dL_law__490 rfl rfl) ?_
      refine Eq.trans (xiconst dL_law__491 ci_0) ?_
      refine Eq.trans (al3m dL_law__492 ka_632) (gd_congr fun g1 => ?_)
      refine Eq.trans (st1 dL_law__493 rfl rfl) ?_
      refine Eq.trans (st1 dL_law__495 rfl rfl) ?_
      refine Eq.trans (st1 dL_law__496 rfl rfl) ?_
      refine Eq.trans (if_eq (tgt := 502) dL_law__497 (by decide +kernel)) (ite_cong (fun _ => ?_) (fun _ => ?_))
      · rfl
      · refine Eq.trans (xiconst dL_law__500 ci_0) ?_
        exact ret1 dL_law__501 rfl (.inl rfl)
    · rfl
  · refine Eq.trans (xiconst dL_law__483 ci_0) ?_
    exact ret1 dL_law__484 rfl (.inl rfl)
theorem q_L_law__560 {call : CALL} {L X : Nat} {I : Nat → Nat → Int32} {J : Nat → Nat → Int64} {x4 : Int32} {x5 : Int32} {x6 : Int32} {u7 : Option Value} {s0 : Int32} : runI call iLaw (560, [some (.ref 1000000), some (.ref 0), some (.ref 72), some (.ref 632), some (.int x4), some (.int x5), some (.int x6), u7], [.int s0], (mm L X I J)) = if s0 = x5 then if x5 = (nI 0) then gd (inb (nI 0) 1) (if (lg_cmp (J 632 ((nI 0)).toNatClampNeg) (x6).toInt64) = (nI 0) then runI call iLaw (584, [some (.ref 1000000), some (.ref 0), some (.ref 72), some (.ref 632), some (.int x4), some (.int x5), some (.int x6), u7], [], (mm L X I J)) else some (.inl (some (.int (nI 0))), (mm L X I J))) else runI call iLaw (584, [some (.ref 1000000), some (.ref 0), some (.ref 72), some (.ref 632), some (.int x4), some (.int x5), some (.int x6), u7], [], (mm L X I J)) else some (.inl (some (.int (nI 0))), (mm L X I J)) := by
  refine Eq.trans (st1 dL_law__560 rfl rfl) ?_
  refine Eq.trans (ic_eq (tgt := 567) dL_law__562 (by decide +kernel)) (ite_cong (fun _ => ?_) (fun _ => ?_))
  · refine Eq.trans (st1 dL_law__567 rfl rfl) ?_
    refine Eq.trans (if_ne (tgt := 584) dL_law__569 (by decide +kernel)) (ite_cong (fun _ => ?_) (fun _ => ?_))
    · refine Eq.trans (st1 dL_law__572 rfl rfl) ?_
      refine Eq.trans (xiconst dL_law__573 ci_0) ?_
      refine Eq.trans (al3m dL_law__574 ka_632) (gd_congr fun g1 => ?_)
      refine Eq.trans (st1 dL_law__575 rfl rfl) ?_
      refine Eq.trans (st1 dL_law__577 rfl rfl) ?_
      refine Eq.trans (st1 dL_law__578 rfl rfl) ?_
      refine Eq.trans (if_eq (tgt := 584) dL_law__579 (by decide +kernel)) (ite_cong (fun _ => ?_) (fun _ => ?_))
      · rfl
      · refine Eq.trans (xiconst dL_law__582 ci_0) ?_
        exact ret1 dL_law__583 rfl (.inl rfl)
    · rfl
  · refine Eq.trans (xiconst dL_law__565 ci_0) ?_
    exact ret1 dL_law__566 rfl (.inl rfl)
theorem q_L_law__628 {call : CALL} {L X : Nat} {I : Nat → Nat → Int32} {J : Nat → Nat → Int64} {x4 : Int32} {x5 : Int32} {x6 : Int32} {u7 : Option Value} {s0 : Int32} : runI call iLaw (628, [some (.ref 1000000), some (.ref 0), some (.ref 72), some (.ref 632), some (.int x4), some (.int x5), some (.int x6), u7], [.int s0], (mm L X I J)) = if s0 = x5 then if x5 = (nI 0) then gd (inb (nI 0) 1) (if (lg_cmp (J 632 ((nI 0)).toNatClampNeg) (x6).toInt64) = (nI 0) then runI call iLaw (652, [some (.ref 1000000), some (.ref 0), some (.ref 72), some (.ref 632), some (.int x4), some (.int x5), some (.int x6), u7], [], (mm L X I J)) else some (.inl (some (.int (nI 0))), (mm L X I J))) else runI call iLaw (652, [some (.ref 1000000), some (.ref 0), some (.ref 72), some (.ref 632), some (.int x4), some (.int x5), some (.int x6), u7], [], (mm L X I J)) else some (.inl (some (.int (nI 0))), (mm L X I J)) := by
  refine Eq.trans (st1 dL_law__628 rfl rfl) ?_
  refine Eq.trans (ic_eq (tgt := 635) dL_law__630 (by decide +kernel)) (ite_cong (fun _ => ?_) (fun _ => ?_))
  · refine Eq.trans (st1 dL_law__635 rfl rfl) ?_
    refine Eq.trans (if_ne (tgt := 652) dL_law__637 (by decide +kernel)) (ite_cong (fun _ => ?_) (fun _ => ?_))
    · refine Eq.trans (st1 dL_law__640 rfl rfl) ?_
      refine Eq.trans (xiconst dL_law__641 ci_0) ?_
      refine Eq.trans (al3m dL_law__642 ka_632) (gd_congr fun g1 => ?_)
      refine Eq.trans (st1 dL_law__643 rfl rfl) ?_
      refine Eq.trans (st1 dL_law__645 rfl rfl) ?_
      refine Eq.trans (st1 dL_law__646 rfl rfl) ?_
      refine Eq.trans (if_eq (tgt := 652) dL_law__647 (by decide +kernel)) (ite_cong (fun _ => ?_) (fun _ => ?_))
      · rfl
      · refine Eq.trans (xiconst dL_law__650 ci_0) ?_
        exact ret1 dL_law__651 rfl (.inl rfl)
    · rfl
  · refine Eq.trans (xiconst dL_law__633 ci_0) ?_
    exact ret1 dL_law__634 rfl (.inl rfl)
theorem q_L_law__696 {call : CALL} {L X : Nat} {I : Nat → Nat → Int32} {J : Nat → Nat → Int64} {x4 : Int32} {x5 : Int32} {x6 : Int32} {u7 : Option Value} {s0 : Int32} : runI call iLaw (696, [some (.ref 1000000), some (.ref 0), some (.ref 72), some (.ref 632), some (.int x4), some (.int x5), some (.int x6), u7], [.int s0], (mm L X I J)) = if s0 = x5 then if x5 = (nI 0) then gd (inb (nI 0) 1) (if (lg_cmp (J 632 ((nI 0)).toNatClampNeg) (x6).toInt64) = (nI 0) then runI call iLaw (720, [some (.ref 1000000), some (.ref 0), some (.ref 72), some (.ref 632), some (.int x4), some (.int x5), some (.int x6), u7], [], (mm L X I J)) else some (.inl (some (.int (nI 0))), (mm L X I J))) else runI call iLaw (720, [some (.ref 1000000), some (.ref 0), some (.ref 72), some (.ref 632), some (.int x4), some (.int x5), some (.int x6), u7], [], (mm L X I J)) else some (.inl (some (.int (nI 0))), (mm L X I J)) := by
  refine Eq.trans (st1 dL_law__696 rfl rfl) ?_
  refine Eq.trans (ic_eq (tgt := 703) dL_law__698 (by decide +kernel)) (ite_cong (fun _ => ?_) (fun _ => ?_))
  · refine Eq.trans (st1 dL_law__703 rfl rfl) ?_
    refine Eq.trans (if_ne (tgt := 720) dL_law__705 (by decide +kernel)) (ite_cong (fun _ => ?_) (fun _ => ?_))
    · refine Eq.trans (st1 dL_law__708 rfl rfl) ?_
      refine Eq.trans (xiconst dL_law__709 ci_0) ?_
      refine Eq.trans (al3m dL_law__710 ka_632) (gd_congr fun g1 => ?_)
      refine Eq.trans (st1 dL_law__711 rfl rfl) ?_
      refine Eq.trans (st1 dL_law__713 rfl rfl) ?_
      refine Eq.trans (st1 dL_law__714 rfl rfl) ?_
      refine Eq.trans (if_eq (tgt := 720) dL_law__715 (by decide +kernel)) (ite_cong (fun _ => ?_) (fun _ => ?_))
      · rfl
      · refine Eq.trans (xiconst dL_law__718 ci_0) ?_
        exact ret1 dL_law__719 rfl (.inl rfl)
    · rfl
  · refine Eq.trans (xiconst dL_law__701 ci_0) ?_
    exact ret1 dL_law__702 rfl (.inl rfl)
theorem q_L_law__764 {call : CALL} {L X : Nat} {I : Nat → Nat → Int32} {J : Nat → Nat → Int64} {x4 : Int32} {x5 : Int32} {x6 : Int32} {u7 : Option Value} {s0 : Int32} : runI call iLaw (764, [some (.ref 1000000), some (.ref 0), some (.ref 72), some (.ref 632), some (.int x4), some (.int x5), some (.int x6), u7], [.int s0], (mm L X I J)) = if s0 = x5 then if x5 = (nI 0) then gd (inb (nI 0) 1) (if (lg_cmp (J 632 ((nI 0)).toNatClampNeg) (x6).toInt64) = (nI 0) then runI call iLaw (788, [some (.ref 1000000), some (.ref 0), some (.ref 72), some (.ref 632), some (.int x4), some (.int x5), some (.int x6), u7], [], (mm L X I J)) else some (.inl (some (.int (nI 0))), (mm L X I J))) else runI call iLaw (788, [some (.ref 1000000), some (.ref 0), some (.ref 72), some (.ref 632), some (.int x4), some (.int x5), some (.int x6), u7], [], (mm L X I J)) else some (.inl (some (.int (nI 0))), (mm L X I J)) := by
  refine Eq.trans (st1 dL_law__764 rfl rfl) ?_
  refine Eq.trans (ic_eq (tgt := 771) dL_law__766 (by decide +kernel)) (ite_cong (fun _ => ?_) (fun _ => ?_))
  · refine Eq.trans (st1 dL_law__771 rfl rfl) ?_
    refine Eq.trans (if_ne (tgt := 788) dL_law__773 (by decide +kernel)) (ite_cong (fun _ => ?_) (fun _ => ?_))
    · refine Eq.trans (st1 dL_law__776 rfl rfl) ?_
      refine Eq.trans (xiconst dL_law__777 ci_0) ?_
      refine Eq.trans (al3m dL_law__778 ka_632) (gd_congr fun g1 => ?_)
      refine Eq.trans (st1 dL_law__779 rfl rfl) ?_
      refine Eq.trans (st1 dL_law__781 rfl rfl) ?_
      refine Eq.trans (st1 dL_law__782 rfl rfl) ?_
      refine Eq.trans (if_eq (tgt := 788) dL_law__783 (by decide +kernel)) (ite_cong (fun _ => ?_) (fun _ => ?_))
      · rfl
      · refine Eq.trans (xiconst dL_law__786 ci_0) ?_
        exact ret1 dL_law__787 rfl (.inl rfl)
    · rfl
  · refine Eq.trans (xiconst dL_law__769 ci_0) ?_
    exact ret1 dL_law__770 rfl (.inl rfl)
theorem q_L_law__820 {call : CALL} {L X : Nat} {I : Nat → Nat → Int32} {J : Nat → Nat → Int64} {x4 : Int32} {x5 : Int32} {x6 : Int32} {u7 : Option Value} {s0 : Int32} : runI call iLaw (820, [some (.ref 1000000), some (.ref 0), some (.ref 72), some (.ref 632), some (.int x4), some (.int x5), some (.int x6), u7], [.int s0], (mm L X I J)) = if s0 = x5 then if x5 = (nI 0) then gd (inb (nI 0) 1) (if (lg_cmp (J 632 ((nI 0)).toNatClampNeg) (x6).toInt64) = (nI 0) then runI call iLaw (844, [some (.ref 1000000), some (.ref 0), some (.ref 72), some (.ref 632), some (.int x4), some (.int x5), some (.int x6), u7], [], (mm L X I J)) else some (.inl (some (.int (nI 0))), (mm L X I J))) else runI call iLaw (844, [some (.ref 1000000), some (.ref 0), some (.ref 72), some (.ref 632), some (.int x4), some (.int x5), some (.int x6), u7], [], (mm L X I J)) else some (.inl (some (.int (nI 0))), (mm L X I J)) := by
  refine Eq.trans (st1 dL_law__820 rfl rfl) ?_
  refine Eq.trans (ic_eq (tgt := 827) dL_law__822 (by decide +kernel)) (ite_cong (fun _ => ?_) (fun _ => ?_))
  · refine Eq.trans (st1 dL_law__827 rfl rfl) ?_
    refine Eq.trans (if_ne (tgt := 844) dL_law__829 (by decide +kernel)) (ite_cong (fun _ => ?_) (fun _ => ?_))
    · refine Eq.trans (st1 dL_law__832 rfl rfl) ?_
      refine Eq.trans (xiconst dL_law__833 ci_0) ?_
      refine Eq.trans (al3m dL_law__834 ka_632) (gd_congr fun g1 => ?_)
      refine Eq.trans (st1 dL_law__835 rfl rfl) ?_
      refine Eq.trans (st1 dL_law__837 rfl rfl) ?_
      refine Eq.trans (st1 dL_law__838 rfl rfl) ?_
      refine Eq.trans (if_eq (tgt := 844) dL_law__839 (by decide +kernel)) (ite_cong (fun _ => ?_) (fun _ => ?_))
      · rfl
      · refine Eq.trans (xiconst dL_law__842 ci_0) ?_
        exact ret1 dL_law__843 rfl (.inl rfl)
    · rfl
  · refine Eq.trans (xiconst dL_law__825 ci_0) ?_
    exact ret1 dL_law__826 rfl (.inl rfl)
theorem q_L_law__876 {call : CALL} {L X : Nat} {I : Nat → Nat → Int32} {J : Nat → Nat → Int64} {x4 : Int32} {x5 : Int32} {x6 : Int32} {u7 : Option Value} {s0 : Int32} : runI call iLaw (876, [some (.ref 1000000), some (.ref 0), some (.ref 72), some (.ref 632), some (.int x4), some (.int x5), some (.int x6), u7], [.int s0], (mm L X I J)) = if s0 = x5 then if x5 = (nI 0) then gd (inb (nI 0) 1) (if (lg_cmp (J 632 ((nI 0)).toNatClampNeg) (x6).toInt64) = (nI 0) then runI call iLaw (900, [some (.ref 1000000), some (.ref 0), some (.ref 72), some (.ref 632), some (.int x4), some (.int x5), some (.int x6), u7], [], (mm L X I J)) else some (.inl (some (.int (nI 0))), (mm L X I J))) else runI call iLaw (900, [some (.ref 1000000), some (.ref 0), some (.ref 72), some (.ref 632), some (.int x4), some (.int x5), some (.int x6), u7], [], (mm L X I J)) else some (.inl (some (.int (nI 0))), (mm L X I J)) := by
  refine Eq.trans (st1 dL_law__876 rfl rfl) ?_
  refine Eq.trans (ic_eq (tgt := 883) dL_law__878 (by decide +kernel)) (ite_cong (fun _ => ?_) (fun _ => ?_))
  · refine Eq.trans (st1 dL_law__883 rfl rfl) ?_
    refine Eq.trans (if_ne (tgt := 900) dL_law__885 (by decide +kernel)) (ite_cong (fun _ => ?_) (fun _ => ?_))
    · refine Eq.trans (st1 dL_law__888 rfl rfl) ?_
      refine Eq.trans (xiconst dL_law__889 ci_0) ?_
      refine Eq.trans (al3m dL_law__890 ka_632) (gd_congr fun g1 => ?_)
      refine Eq.trans (st1 dL_law__891 rfl rfl) ?_
      refine Eq.trans (st1 dL_law__893 rfl rfl) ?_
      refine Eq.trans (st1 dL_law__894 rfl rfl) ?_
      refine Eq.trans (if_eq (tgt := 900) dL_law__895 (by decide +kernel)) (ite_cong (fun _ => ?_) (fun _ => ?_))
      · rfl
      · refine Eq.trans (xiconst dL_law__898 ci_0) ?_
        exact ret1 dL_law__899 rfl (.inl rfl)
    · rfl
  · refine Eq.trans (xiconst dL_law__881 ci_0) ?_
    exact ret1 dL_law__882 rfl (.inl rfl)
theorem q_L_law__1036 {call : CALL} {L X : Nat} {I : Nat → Nat → Int32} {J : Nat → Nat → Int64} {x4 : Int32} {x5 : Int32} {x6 : Int32} {u7 : Option Value} {s0 : Int32} : runI call iLaw (1036, [some (.ref 1000000), some (.ref 0), some (.ref 72), some (.ref 632), some (.int x4), some (.int x5), some (.int x6), u7], [.int s0], (mm L X I J)) = if s0 = x5 then if x5 = (nI 0) then gd (inb (nI 0) 1) (if (lg_cmp (J 632 ((nI 0)).toNatClampNeg) (x6).toInt64) = (nI 0) then runI call iLaw (1060, [some (.ref 1000000), some (.ref 0), some (.ref 72), some (.ref 632), some (.int x4), some (.int x5), some (.int x6), u7], [], (mm L X I J)) else some (.inl (some (.int (nI 0))), (mm L X I J))) else runI call iLaw (1060, [some (.ref 1000000), some (.ref 0), some (.ref 72), some (.ref 632), some (.int x4), some (.int x5), some (.int x6), u7], [], (mm L X I J)) else some (.inl (some (.int (nI 0))), (mm L X I J)) := by
  refine Eq.trans (st1 dL_law__1036 rfl rfl) ?_
  refine Eq.trans (ic_eq (tgt := 1043) dL_law__1038 (by decide +kernel)) (ite_cong (fun _ => ?_) (fun _ => ?_))
  · refine Eq.trans (st1 dL_law__1043 rfl rfl) ?_
    refine Eq.trans (if_ne (tgt := 1060) dL_law__1045 (by decide +kernel)) (ite_cong (fun _ => ?_) (fun _ => ?_))
    · refine Eq.trans (st1 dL_law__1048 rfl rfl) ?_
      refine Eq.trans (xiconst dL_law__1049 ci_0) ?_
      refine Eq.trans (al3m dL_law__1050 ka_632) (gd_congr fun g1 => ?_)
      refine Eq.trans (st1 dL_law__1051 rfl rfl) ?_
      refine Eq.trans (st1 dL_law__1053 rfl rfl) ?_
      refine Eq.trans (st1 dL_law__1054 rfl rfl) ?_
      refine Eq.trans (if_eq (tgt := 1060) dL_law__1055 (by decide +kernel)) (ite_cong (fun _ => ?_) (fun _ => ?_))
      · rfl
      · refine Eq.trans (xiconst dL_law__1058 ci_0) ?_
        exact ret1 dL_law__1059 rfl (.inl rfl)
    · rfl
  · refine Eq.trans (xiconst dL_law__1041 ci_0) ?_
    exact ret1 dL_law__1042 rfl (.inl rfl)
theorem q_L_law__1104 {call : CALL} {L X : Nat} {I : Nat → Nat → Int32} {J : Nat → Nat → Int64} {x4 : Int32} {x5 : Int32} {x6 : Int32} {u7 : Option Value} {s0 : Int32} : runI call iLaw (1104, [some (.ref 1000000), some (.ref 0), some (.ref 72), some (.ref 632), some (.int x4), some (.int x5), some (.int x6), u7], [.int s0], (mm L X I J)) = if s0 = x5 then if x5 = (nI 0) then gd (inb (nI 0) 1) (if x6 = (nI 0) then runI call iLaw (1129, [some (.ref 1000000), some (.ref 0), some (.ref 72), some (.ref 632), some (.int x4), some (.int x5), some (.int x6), u7], [.long (lN 0), .long (J 632 ((nI 0)).toNatClampNeg)], (mm L X I J)) else runI call iLaw (1129, [some (.ref 1000000), some (.ref 0), some (.ref 72), some (.ref 632), some (.int x4), some (.int x5), some (.int x6), u7], [.long (lN 1), .long (J 632 ((nI 0)).toNatClampNeg)], (mm L X I J))) else runI call iLaw (1135, [some (.ref 1000000), some (.ref 0), some (.ref 72), some (.ref 632), some (.int x4), some (.int x5), some (.int x6), u7], [], (mm L X I J)) else some (.inl (some (.int (nI 0))), (mm L X I J)) := by
  refine Eq.trans (st1 dL_law__1104 rfl rfl) ?_
  refine Eq.trans (ic_eq (tgt := 1111) dL_law__1106 (by decide +kernel)) (ite_cong (fun _ => ?_) (fun _ => ?_))
  · refine Eq.trans (st1 dL_law__1111 rfl rfl) ?_
    refine Eq.trans (if_ne (tgt := 1135) dL_law__1113 (by decide +kernel)) (ite_cong (fun _ => ?_) (fun _ => ?_))
    · refine Eq.trans (st1 dL_law__1116 rfl rfl) ?_
      refine Eq.trans (xiconst dL_law__1117 ci_0) ?_
      refine Eq.trans (al3m dL_law__1118 ka_632) (gd_congr fun g1 => ?_)
      refine Eq.trans (st1 dL_law__1119 rfl rfl) ?_
      refine Eq.trans (if_eq (tgt := 1128) dL_law__1121 (by decide +kernel)) (ite_cong (fun _ => ?_) (fun _ => ?_))
      · refine Eq.trans (st1 dL_law__1128 rfl rfl) ?_
        rfl
      · refine Eq.trans (st1 dL_law__1124 rfl rfl) ?_
        refine Eq.trans (go_to (tgt := 1129) dL_law__1125 (by decide +kernel)) ?_
        rfl
    · rfl
  · refine Eq.trans (xiconst dL_law__1109 ci_0) ?_
    exact ret1 dL_law__1110 rfl (.inl rfl)
theorem q_L_law__1167 {call : CALL} {L X : Nat} {I : Nat → Nat → Int32} {J : Nat → Nat → Int64} {x4 : Int32} {x5 : Int32} {x6 : Int32} {u7 : Option Value} {s0 : Int32} : runI call iLaw (1167, [some (.ref 1000000), some (.ref 0), some (.ref 72), some (.ref 632), some (.int x4), some (.int x5), some (.int x6), u7], [.int s0], (mm L X I J)) = if s0 = x5 then if x5 = (nI 0) then gd (inb (nI 0) 1) (if x6 = (nI 0) then runI call iLaw (1192, [some (.ref 1000000), some (.ref 0), some (.ref 72), some (.ref 632), some (.int x4), some (.int x5), some (.int x6), u7], [.long (lN 0), .long (J 632 ((nI 0)).toNatClampNeg)], (mm L X I J)) else runI call iLaw (1192, [some (.ref 1000000), some (.ref 0), some (.ref 72), some (.ref 632), some (.int x4), some (.int x5), some (.int x6), u7], [.long (lN 1), .long (J 632 ((nI 0)).toNatClampNeg)], (mm L X I J))) else runI call iLaw (1198, [some (.ref 1000000), some (.ref 0), some (.ref 72), some (.ref 632), some (.int x4), some (.int x5), some (.int x6), u7], [], (mm L X I J)) else some (.inl (some (.int (nI 0))), (mm L X I J)) := by
  refine Eq.trans (st1 dL_law__1167 rfl rfl) ?_
  refine Eq.trans (ic_eq (tgt := 1174) dL_law__1169 (by decide +kernel)) (ite_cong (fun _ => ?_) (fun _ => ?_))
  · refine Eq.trans (st1 dL_law__1174 rfl rfl) ?_
    refine Eq.trans (if_ne (tgt := 1198) dL_law__1176 (by decide +kernel)) (ite_cong (fun _ => ?_) (fun _ => ?_))
    · refine Eq.trans (st1 dL_law__1179 rfl rfl) ?_
      refine Eq.trans (xiconst dL_law__1180 ci_0) ?_
      refine Eq.trans (al3m dL_law__1181 ka_632) (gd_congr fun g1 => ?_)
      refine Eq.trans (st1 dL_law__1182 rfl rfl) ?_
      refine Eq.trans (if_eq (tgt := 1191) dL_law__1184 (by decide +kernel)) (ite_cong (fun _ => ?_) (fun _ => ?_))
      · refine Eq.trans (st1 dL_law__1191 rfl rfl) ?_
        rfl
      · refine Eq.trans (st1 dL_law__1187 rfl rfl) ?_
        refine Eq.trans (go_to (tgt := 1192) dL_law__1188 (by decide +kernel)) ?_
        rfl
    · rfl
  · refine Eq.trans (xiconst dL_law__1172 ci_0) ?_
    exact ret1 dL_law__1173 rfl (.inl rfl)
theorem q_L_law__1230 {call : CALL} {L X : Nat} {I : Nat → Nat → Int32} {J : Nat → Nat → Int64} {x4 : Int32} {x5 : Int32} {x6 : Int32} {u7 : Option Value} {s0 : Int32} : runI call iLaw (1230, [some (.ref 1000000), some (.ref 0), some (.ref 72), some (.ref 632), some (.int x4), some (.int x5), some (.int x6), u7], [.int s0], (mm L X I J)) = if s0 = x5 then if x5 = (nI 0) then gd (inb (nI 0) 1) (if (lg_cmp (J 632 ((nI 0)).toNatClampNeg) (x6).toInt64) = (nI 0) then runI call iLaw (1254, [some (.ref 1000000), some (.ref 0), some (.ref 72), some (.ref 632), some (.int x4), some (.int x5), some (.int x6), u7], [], (mm L X I J)) else some (.inl (some (.int (nI 0))), (mm L X I J))) else runI call iLaw (1254, [some (.ref 1000000), some (.ref 0), some (.ref 72), some (.ref 632), some (.int x4), some (.int x5), some (.int x6), u7], [], (mm L X I J)) else some (.inl (some (.int (nI 0))), (mm L X I J)) := by
  refine Eq.trans (st1 dL_law__1230 rfl rfl) ?_
  refine Eq.trans (ic_eq (tgt := 1237) dL_law__1232 (by decide +kernel)) (ite_cong (fun _ => ?_) (fun _ => ?_))
  · refine Eq.trans (st1 dL_law__1237 rfl rfl) ?_
    refine Eq.trans (if_ne (tgt := 1254) dL_law__1239 (by decide +kernel)) (ite_cong (fun _ => ?_) (fun _ => ?_))
    · refine Eq.trans (st1 dL_law__1242 rfl rfl) ?_
      refine Eq.trans (xiconst dL_law__1243 ci_0) ?_
      refine Eq.trans (al3m dL_law__1244 ka_632) (gd_congr fun g1 => ?_)
      refine Eq.trans (st1 dL_law__1245 rfl rfl) ?_
      refine Eq.trans (st1 dL_law__1247 rfl rfl) ?_
      refine Eq.trans (st1 dL_law__1248 rfl rfl) ?_
      refine Eq.trans (if_eq (tgt := 1254) dL_law__1249 (by decide +kernel)) (ite_cong (fun _ => ?_) (fun _ => ?_))
      · rfl
      · refine Eq.trans (xiconst dL_law__1252 ci_0) ?_
        exact ret1 dL_law__1253 rfl (.inl rfl)
    · rfl
  · refine Eq.trans (xiconst dL_law__1235 ci_0) ?_
    exact ret1 dL_law__1236 rfl (.inl rfl)
theorem q_L_law__1286 {call : CALL} {L X : Nat} {I : Nat → Nat → Int32} {J : Nat → Nat → Int64} {x4 : Int32} {x5 : Int32} {x6 : Int32} {u7 : Option Value} {s0 : Int32} : runI call iLaw (1286, [some (.ref 1000000), some (.ref 0), some (.ref 72), some (.ref 632), some (.int x4), some (.int x5), some (.int x6), u7], [.int s0], (mm L X I J)) = if s0 = x5 then if x5 = (nI 0) then gd (inb (nI 0) 1) (if (lg_cmp (J 632 ((nI 0)).toNatClampNeg) (x6).toInt64) = (nI 0) then runI call iLaw (1310, [some (.ref 1000000), some (.ref 0), some (.ref 72), some (.ref 632), some (.int x4), some (.int x5), some (.int x6), u7], [], (mm L X I J)) else some (.inl (some (.int (nI 0))), (mm L X I J))) else runI call iLaw (1310, [some (.ref 1000000), some (.ref 0), some (.ref 72), some (.ref 632), some (.int x4), some (.int x5), some (.int x6), u7], [], (mm L X I J)) else some (.inl (some (.int (nI 0))), (mm L X I J)) := by
  refine Eq.trans (st1 dL_law__1286 rfl rfl) ?_
  refine Eq.trans (ic_eq (tgt := 1293) dL_law__1288 (by decide +kernel)) (ite_cong (fun _ => ?_) (fun _ => ?_))
  · refine Eq.trans (st1 dL_law__1293 rfl rfl) ?_
    refine Eq.trans (if_ne (tgt := 1310) dL_law__1295 (by decide +kernel)) (ite_cong (fun _ => ?_) (fun _ => ?_))
    · refine Eq.trans (st1 dL_law__1298 rfl rfl) ?_
      refine Eq.trans (xiconst dL_law__1299 ci_0) ?_
      refine Eq.trans (al3m dL_law__1300 ka_632) (gd_congr fun g1 => ?_)
      refine Eq.trans (st1 dL_law__1301 rfl rfl) ?_
      refine Eq.trans (st1 dL_law__1303 rfl rfl) ?_
      refine Eq.trans (st1 dL_law__1304 rfl rfl) ?_
      refine Eq.trans (if_eq (tgt := 1310) dL_law__1305 (by decide +kernel)) (ite_cong (fun _ => ?_) (fun _ => ?_))
      · rfl
      · refine Eq.trans (xiconst dL_law__1308 ci_0) ?_
        exact ret1 dL_law__1309 rfl (.inl rfl)
    · rfl
  · refine Eq.trans (xiconst dL_law__1291 ci_0) ?_
    exact ret1 dL_law__1292 rfl (.inl rfl)
theorem q_L_law__1342 {call : CALL} {L X : Nat} {I : Nat → Nat → Int32} {J : Nat → Nat → Int64} {x4 : Int32} {x5 : Int32} {x6 : Int32} {u7 : Option Value} {s0 : Int32} : runI call iLaw (1342, [some (.ref 1000000), some (.ref 0), some (.ref 72), some (.ref 632), some (.int x4), some (.int x5), some (.int x6), u7], [.int s0], (mm L X I J)) = if s0 = x5 then if x5 = (nI 0) then gd (inb (nI 0) 1) (if (lg_cmp (J 632 ((nI 0)).toNatClampNeg) (x6).toInt64) = (nI 0) then runI call iLaw (1366, [some (.ref 1000000), some (.ref 0), some (.ref 72), some (.ref 632), some (.int x4), some (.int x5), some (.int x6), u7], [], (mm L X I J)) else some (.inl (some (.int (nI 0))), (mm L X I J))) else runI call iLaw (1366, [some (.ref 1000000), some (.ref 0), some (.ref 72), some (.ref 632), some (.int x4), some (.int x5), some (.int x6), u7], [], (mm L X I J)) else some (.inl (some (.int (nI 0))), (mm L X I J)) := by
  refine Eq.trans (st1 dL_law__1342 rfl rfl) ?_
  refine Eq.trans (ic_eq (tgt := 1349) dL_law__1344 (by decide +kernel)) (ite_cong (fun _ => ?_) (fun _ => ?_))
  · refine Eq.trans (st1 dL_law__1349 rfl rfl) ?_
    refine Eq.trans (if_ne (tgt := 1366) dL_law__1351 (by decide +kernel)) (ite_cong (fun _ => ?_) (fun _ => ?_))
    · refine Eq.trans (st1 dL_law__1354 rfl rfl) ?_
      refine Eq.trans (xiconst dL_law__1355 ci_0) ?_
      refine Eq.trans (al3m dL_law__1356 ka_632) (gd_congr fun g1 => ?_)
      refine Eq.trans (st1 dL_law__1357 rfl rfl) ?_
      refine Eq.trans (st1 dL_law__1359 rfl rfl) ?_
      refine Eq.trans (st1 dL_law__1360 rfl rfl) ?_
      refine Eq.trans (if_eq (tgt := 1366) dL_law__1361 (by decide +kernel)) (ite_cong (fun _ => ?_) (fun _ => ?_))
      · rfl
      · refine Eq.trans (xiconst dL_law__1364 ci_0) ?_
        exact ret1 dL_law__1365 rfl (.inl rfl)
    · rfl
  · refine Eq.trans (xiconst dL_law__1347 ci_0) ?_
    exact ret1 dL_law__1348 rfl (.inl rfl)
theorem q_L_law__1398 {call : CALL} {L X : Nat} {I : Nat → Nat → Int32} {J : Nat → Nat → Int64} {x4 : Int32} {x5 : Int32} {x6 : Int32} {u7 : Option Value} {s0 : Int32} : runI call iLaw (1398, [some (.ref 1000000), some (.ref 0), some (.ref 72), some (.ref 632), some (.int x4), some (.int x5), some (.int x6), u7], [.int s0], (mm L X I J)) = if s0 = x5 then if x5 = (nI 0) then gd (inb (nI 0) 1) (if (lg_cmp (J 632 ((nI 0)).toNatClampNeg) (x6).toInt64) = (nI 0) then runI call iLaw (1422, [some (.ref 1000000), some (.ref 0), some (.ref 72), some (.ref 632), some (.int x4), some (.int x5), some (.int x6), u7], [], (mm L X I J)) else some (.inl (some (.int (nI 0))), (mm L X I J))) else runI call iLaw (1422, [some (.ref 1000000), some (.ref 0), some (.ref 72), some (.ref 632), some (.int x4), some (.int x5), some (.int x6), u7], [], (mm L X I J)) else some (.inl (some (.int (nI 0))), (mm L X I J)) := by
  refine Eq.trans (st1 dL_law__1398 rfl rfl) ?_
  refine Eq.trans (ic_eq (tgt := 1405) dL_law__1400 (by decide +kernel)) (ite_cong (fun _ => ?_) (fun _ => ?_))
  · refine Eq.trans (st1 dL_law__1405 rfl rfl) ?_
    refine Eq.trans (if_ne (tgt := 1422) dL_law__1407 (by decide +kernel)) (ite_cong (fun _ => ?_) (fun _ => ?_))
    · refine Eq.trans (st1 dL_law__1410 rfl rfl) ?_
      refine Eq.trans (xiconst dL_law__1411 ci_0) ?_
      refine Eq.trans (al3m dL_law__1412 ka_632) (gd_congr fun g1 => ?_)
      refine Eq.trans (st1 dL_law__1413 rfl rfl) ?_
      refine Eq.trans (st1 dL_law__1415 rfl rfl) ?_
      refine Eq.trans (st1 dL_law__1416 rfl rfl) ?_
      refine Eq.trans (if_eq (tgt := 1422) dL_law__1417 (by decide +kernel)) (ite_cong (fun _ => ?_) (fun _ => ?_))
      · rfl
      · refine Eq.trans (xiconst dL_law__1420 ci_0) ?_
        exact ret1 dL_law__1421 rfl (.inl rfl)
    · rfl
  · refine Eq.trans (xiconst dL_law__1403 ci_0) ?_
    exact ret1 dL_law__1404 rfl (.inl rfl)
theorem q_L_law__1466 {call : CALL} {L X : Nat} {I : Nat → Nat → Int32} {J : Nat → Nat → Int64} {x4 : Int32} {x5 : Int32} {x6 : Int32} {u7 : Option Value} {s0 : Int32} : runI call iLaw (1466, [some (.ref 1000000), some (.ref 0), some (.ref 72), some (.ref 632), some (.int x4), some (.int x5), some (.int x6), u7], [.int s0], (mm L X I J)) = if s0 = x5 then if x5 = (nI 0) then gd (inb (nI 0) 1) (if (lg_cmp (J 632 ((nI 0)).toNatClampNeg) (x6).toInt64) = (nI 0) then runI call iLaw (1490, [some (.ref 1000000), some (.ref 0), some (.ref 72), some (.ref 632), some (.int x4), some (.int x5), some (.int x6), u7], [], (mm L X I J)) else some (.inl (some (.int (nI 0))), (mm L X I J))) else runI call iLaw (1490, [some (.ref 1000000), some (.ref 0), some (.ref 72), some (.ref 632), some (.int x4), some (.int x5), some (.int x6), u7], [], (mm L X I J)) else some (.inl (some (.int (nI 0))), (mm L X I J)) := by
  refine Eq.trans (st1 dL_law__1466 rfl rfl) ?_
  refine Eq.trans (ic_eq (tgt := 1473) dL_law__1468 (by decide +kernel)) (ite_cong (fun _ => ?_) (fun _ => ?_))
  · refine Eq.trans (st1 dL_law__1473 rfl rfl) ?_
    refine Eq.trans (if_ne (tgt := 1490) dL_law__1475 (by decide +kernel)) (ite_cong (fun _ => ?_) (fun _ => ?_))
    · refine Eq.trans (st1 dL_law__1478 rfl rfl) ?_
      refine Eq.trans (xiconst dL_law__1479 ci_0) ?_
      refine Eq.trans (al3m dL_law__1480 ka_632) (gd_congr fun g1 => ?_)
      refine Eq.trans (st1 dL_law__1481 rfl rfl) ?_
      refine Eq.trans (st1 dL_law__1483 rfl rfl) ?_
      refine Eq.trans (st1 dL_law__1484 rfl rfl) ?_
      refine Eq.trans (if_eq (tgt := 1490) dL_law__1485 (by decide +kernel)) (ite_cong (fun _ => ?_) (fun _ => ?_))
      · rfl
      · refine Eq.trans (xiconst dL_law__1488 ci_0) ?_
        exact ret1 dL_law__1489 rfl (.inl rfl)
    · rfl
  · refine Eq.trans (xiconst dL_law__1471 ci_0) ?_
    exact ret1 dL_law__1472 rfl (.inl rfl)
theorem q_L_law__1522 {call : CALL} {L X : Nat} {I : Nat → Nat → Int32} {J : Nat → Nat → Int64} {x4 : Int32} {x5 : Int32} {x6 : Int32} {u7 : Option Value} {s0 : Int32} : runI call iLaw (1522, [some (.ref 1000000), some (.ref 0), some (.ref 72), some (.ref 632), some (.int x4), some (.int x5), some (.int x6), u7], [.int s0], (mm L X I J)) = if s0 = x5 then if x5 = (nI 0) then gd (inb (nI 0) 1) (if (lg_cmp (J 632 ((nI 0)).toNatClampNeg) (x6).toInt64) = (nI 0) then runI call iLaw (1546, [some (.ref 1000000), some (.ref 0), some (.ref 72), some (.ref 632), some (.int x4), some (.int x5), some (.int x6), u7], [], (mm L X I J)) else some (.inl (some (.int (nI 0))), (mm L X I J))) else runI call iLaw (1546, [some (.ref 1000000), some (.ref 0), some (.ref 72), some (.ref 632), some (.int x4), some (.int x5), some (.int x6), u7], [], (mm L X I J)) else some (.inl (some (.int (nI 0))), (mm L X I J)) := by
  refine Eq.trans (st1 dL_law__1522 rfl rfl) ?_
  refine Eq.trans (ic_eq (tgt := 1529) dL_law__1524 (by decide +kernel)) (ite_cong (fun _ => ?_) (fun _ => ?_))
  · refine Eq.trans (st1 dL_law__1529 rfl rfl) ?_
    refine Eq.trans (if_ne (tgt := 1546) dL_law__1531 (by decide +kernel)) (ite_cong (fun _ => ?_) (fun _ => ?_))
    · refine Eq.trans (st1 dL_law__1534 rfl rfl) ?_
      refine Eq.trans (xiconst dL_law__1535 ci_0) ?_
      refine Eq.trans (al3m dL_law__1536 ka_632) (gd_congr fun g1 => ?_)
      refine Eq.trans (st1 dL_law__1537 rfl rfl) ?_
      refine Eq.trans (st1 dL_law__1539 rfl rfl) ?_
      refine Eq.trans (st1 dL_law__1540 rfl rfl) ?_
      refine Eq.trans (if_eq (tgt := 1546) dL_law__1541 (by decide +kernel)) (ite_cong (fun _ => ?_) (fun _ => ?_))
      · rfl
      · refine Eq.trans (xiconst dL_law__1544 ci_0) ?_
        exact ret1 dL_law__1545 rfl (.inl rfl)
    · rfl
  · refine Eq.trans (xiconst dL_law__1527 ci_0) ?_
    exact ret1 dL_law__1528 rfl (.inl rfl)
theorem q_L_law__1578 {call : CALL} {L X : Nat} {I : Nat → Nat → Int32} {J : Nat → Nat → Int64} {x4 : Int32} {x5 : Int32} {x6 : Int32} {u7 : Option Value} {s0 : Int32} : runI call iLaw (1578, [some (.ref 1000000), some (.ref 0), some (.ref 72), some (.ref 632), some (.int x4), some (.int x5), some (.int x6), u7], [.int s0], (mm L X I J)) = if s0 = x5 then if x5 = (nI 0) then gd (inb (nI 0) 1) (if (lg_cmp (J 632 ((nI 0)).toNatClampNeg) (x6).toInt64) = (nI 0) then runI call iLaw (1602, [some (.ref 1000000), some (.ref 0), some (.ref 72), some (.ref 632), some (.int x4), some (.int x5), some (.int x6), u7], [], (mm L X I J)) else some (.inl (some (.int (nI 0))), (mm L X I J))) else runI call iLaw (1602, [some (.ref 1000000), some (.ref 0), some (.ref 72), some (.ref 632), some (.int x4), some (.int x5), some (.int x6), u7], [], (mm L X I J)) else some (.inl (some (.int (nI 0))), (mm L X I J)) := by
  refine Eq.trans (st1 dL_law__1578 rfl rfl) ?_
  refine Eq.trans (ic_eq (tgt := 1585) dL_law__1580 (by decide +kernel)) (ite_cong (fun _ => ?_) (fun _ => ?_))
  · refine Eq.trans (st1 dL_law__1585 rfl rfl) ?_
    refine Eq.trans (if_ne (tgt := 1602) dL_law__1587 (by decide +kernel)) (ite_cong (fun _ => ?_) (fun _ => ?_))
    · refine Eq.trans (st1 dL_law__1590 rfl rfl) ?_
      refine Eq.trans (xiconst dL_law__1591 ci_0) ?_
      refine Eq.trans (al3m dL_law__1592 ka_632) (gd_congr fun g1 => ?_)
      refine Eq.trans (st1 dL_law__1593 rfl rfl) ?_
      refine Eq.trans (st1 dL_law__1595 rfl rfl) ?_
      refine Eq.trans (st1 dL_law__1596 rfl rfl) ?_
      refine Eq.trans (if_eq (tgt := 1602) dL_law__1597 (by decide +kernel)) (ite_cong (fun _ => ?_) (fun _ => ?_))
      · rfl
      · refine Eq.trans (xiconst dL_law__1600 ci_0) ?_
        exact ret1 dL_law__1601 rfl (.inl rfl)
    · rfl
  · refine Eq.trans (xiconst dL_law__1583 ci_0) ?_
    exact ret1 dL_law__1584 rfl (.inl rfl)
theorem q_L_law__1634 {call : CALL} {L X : Nat} {I : Nat → Nat → Int32} {J : Nat → Nat → Int64} {x4 : Int32} {x5 : Int32} {x6 : Int32} {u7 : Option Value} {s0 : Int32} : runI call iLaw (1634, [some (.ref 1000000), some (.ref 0), some (.ref 72), some (.ref 632), some (.int x4), some (.int x5), some (.int x6), u7], [.int s0], (mm L X I J)) = if s0 = x5 then if x5 = (nI 0) then gd (inb (nI 0) 1) (if (lg_cmp (J 632 ((nI 0)).toNatClampNeg) (x6).toInt64) = (nI 0) then runI call iLaw (1658, [some (.ref 1000000), some (.ref 0), some (.ref 72), some (.ref 632), some (.int x4), some (.int x5), some (.int x6), u7], [], (mm L X I J)) else some (.inl (some (.int (nI 0))), (mm L X I J))) else runI call iLaw (1658, [some (.ref 1000000), some (.ref 0), some (.ref 72), some (.ref 632), some (.int x4), some (.int x5), some (.int x6), u7], [], (mm L X I J)) else some (.inl (some (.int (nI 0))), (mm L X I J)) := by
  refine Eq.trans (st1 dL_law__1634 rfl rfl) ?_
  refine Eq.trans (ic_eq (tgt := 1641) dL_law__1636 (by decide +kernel)) (ite_cong (fun _ => ?_) (fun _ => ?_))
  · refine Eq.trans (st1 dL_law__1641 rfl rfl) ?_
    refine Eq.trans (if_ne (tgt := 1658) dL_law__1643 (by decide +kernel)) (ite_cong (fun _ => ?_) (fun _ => ?_))
    · refine Eq.trans (st1 dL_law__1646 rfl rfl) ?_
      refine Eq.trans (xiconst dL_law__1647 ci_0) ?_
      refine Eq.trans (al3m dL_law__1648 ka_632) (gd_congr fun g1 => ?_)
      refine Eq.trans (st1 dL_law__1649 rfl rfl) ?_
      refine Eq.trans (st1 dL_law__1651 rfl rfl) ?_
      refine Eq.trans (st1 dL_law__1652 rfl rfl) ?_
      refine Eq.trans (if_eq (tgt := 1658) dL_law__1653 (by decide +kernel)) (ite_cong (fun _ => ?_) (fun _ => ?_))
      · rfl
      · refine Eq.trans (xiconst dL_law__1656 ci_0) ?_
        exact ret1 dL_law__1657 rfl (.inl rfl)
    · rfl
  · refine Eq.trans (xiconst dL_law__1639 ci_0) ?_
    exact ret1 dL_law__1640 rfl (.inl rfl)
theorem q_L_law__1727 {call : CALL} {L X : Nat} {I : Nat → Nat → Int32} {J : Nat → Nat → Int64} {x4 : Int32} {x5 : Int32} {y6 : Int64} {s0 : Int32} : runI call iLaw (1727, [some (.ref 1000000), some (.ref 0), some (.ref 72), some (.ref 632), some (.int x4), some (.int x5), some (.long y6), none], [.int s0], (mm L X I J)) = if s0 = x5 then if x5 = (nI 0) then gd (inb (nI 0) 1) (if (lg_cmp (J 632 ((nI 0)).toNatClampNeg) y6) = (nI 0) then runI call iLaw (1750, [some (.ref 1000000), some (.ref 0), some (.ref 72), some (.ref 632), some (.int x4), some (.int x5), some (.long y6), none], [], (mm L X I J)) else some (.inl (some (.int (nI 0))), (mm L X I J))) else runI call iLaw (1750, [some (.ref 1000000), some (.ref 0), some (.ref 72), some (.ref 632), some (.int x4), some (.int x5), some (.long y6), none], [], (mm L X I J)) else some (.inl (some (.int (nI 0))), (mm L X I J)) := by
  refine Eq.trans (st1 dL_law__1727 rfl rfl) ?_
  refine Eq.trans (ic_eq (tgt := 1734) dL_law__1729 (by decide +kernel)) (ite_cong (fun _ => ?_) (fun _ => ?_))
  · refine Eq.trans (st1 dL_law__1734 rfl rfl) ?_
    refine Eq.trans (if_ne (tgt := 1750) dL_law__1736 (by decide +kernel)) (ite_cong (fun _ => ?_) (fun _ => ?_))
    · refine Eq.trans (st1 dL_law__1739 rfl rfl) ?_
      refine Eq.trans (xiconst dL_law__1740 ci_0) ?_
      refine Eq.trans (al3m dL_law__1741 ka_632) (gd_congr fun g1 => ?_)
      refine Eq.trans (st1 dL_law__1742 rfl rfl) ?_
      refine Eq.trans (st1 dL_law__1744 rfl rfl) ?_
      refine Eq.trans (if_eq (tgt := 1750) dL_law__1745 (by decide +kernel)) (ite_cong (fun _ => ?_) (fun _ => ?_))
      · rfl
      · refine Eq.trans (xiconst dL_law__1748 ci_0) ?_
        exact ret1 dL_law__1749 rfl (.inl rfl)
    · rfl
  · refine Eq.trans (xiconst dL_law__1732 ci_0) ?_
    exact ret1 dL_law__1733 rfl (.inl rfl)
theorem q_L_law__1806 {call : CALL} {L X : Nat} {I : Nat → Nat → Int32} {J : Nat → Nat → Int64} {x4 : Int32} {x5 : Int32} {x6 : Int32} {u7 : Option Value} {s0 : Int32} : runI call iLaw (1806, [some (.ref 1000000), some (.ref 0), some (.ref 72), some (.ref 632), some (.int x4), some (.int x5), some (.int x6), u7], [.int s0], (mm L X I J)) = if s0 = x5 then if x5 = (nI 0) then gd (inb (nI 0) 1) (if (lg_cmp (J 632 ((nI 0)).toNatClampNeg) (x6).toInt64) = (nI 0) then runI call iLaw (1830, [some (.ref 1000000), some (.ref 0), some (.ref 72), some (.ref 632), some (.int x4), some (.int x5), some (.int x6), u7], [], (mm L X I J)) else some (.inl (some (.int (nI 0))), (mm L X I J))) else runI call iLaw (1830, [some (.ref 1000000), some (.ref 0), some (.ref 72), some (.ref 632), some (.int x4), some (.int x5), some (.int x6), u7], [], (mm L X I J)) else some (.inl (some (.int (nI 0))), (mm L X I J)) := by
  refine Eq.trans (st1 dL_law__1806 rfl rfl) ?_
  refine Eq.trans (ic_eq (tgt := 1813) dL_law__1808 (by decide +kernel)) (ite_cong (fun _ => ?_) (fun _ => ?_))
  · refine Eq.trans (st1 dL_law__1813 rfl rfl) ?_
    refine Eq.trans (if_ne (tgt := 1830) dL_law__1815 (by decide +kernel)) (ite_cong (fun _ => ?_) (fun _ => ?_))
    · refine Eq.trans (st1 dL_law__1818 rfl rfl) ?_
      refine Eq.trans (xiconst dL_law__1819 ci_0) ?_
      refine Eq.trans (al3m dL_law__1820 ka_632) (gd_congr fun g1 => ?_)
      refine Eq.trans (st1 dL_law__1821 rfl rfl) ?_
      refine Eq.trans (st1 dL_law__1823 rfl rfl) ?_
      refine Eq.trans (st1 dL_law__1824 rfl rfl) ?_
      refine Eq.trans (if_eq (tgt := 1830) dL_law__1825 (by decide +kernel)) (ite_cong (fun _ => ?_) (fun _ => ?_))
      · rfl
      · refine Eq.trans (xiconst dL_law__1828 ci_0) ?_
        exact ret1 dL_law__1829 rfl (.inl rfl)
    · rfl
  · refine Eq.trans (xiconst dL_law__1811 ci_0) ?_
    exact ret1 dL_law__1812 rfl (.inl rfl)
theorem q_L_law__1886 {call : CALL} {L X : Nat} {I : Nat → Nat → Int32} {J : Nat → Nat → Int64} {x4 : Int32} {x5 : Int32} {x6 : Int32} {u7 : Option Value} {s0 : Int32} : runI call iLaw (1886, [some (.ref 1000000), some (.ref 0), some (.ref 72), some (.ref 632), some (.int x4), some (.int x5), some (.int x6), u7], [.int s0], (mm L X I J)) = if s0 = x5 then if x5 = (nI 0) then gd (inb (nI 0) 1) (if (lg_cmp (J 632 ((nI 0)).toNatClampNeg) (x6).toInt64) = (nI 0) then runI call iLaw (1910, [some (.ref 1000000), some (.ref 0), some (.ref 72), some (.ref 632), some (.int x4), some (.int x5), some (.int x6), u7], [], (mm L X I J)) else some (.inl (some (.int (nI 0))), (mm L X I J))) else runI call iLaw (1910, [some (.ref 1000000), some (.ref 0), some (.ref 72), some (.ref 632), some (.int x4), some (.int x5), some (.int x6), u7], [], (mm L X I J)) else some (.inl (some (.int (nI 0))), (mm L X I J)) := by
  refine Eq.trans (st1 dL_law__1886 rfl rfl) ?_
  refine Eq.trans (ic_eq (tgt := 1893) dL_law__1888 (by decide +kernel)) (ite_cong (fun _ => ?_) (fun _ => ?_))
  · refine Eq.trans (st1 dL_law__1893 rfl rfl) ?_
    refine Eq.trans (if_ne (tgt := 1910) dL_law__1895 (by decide +kernel)) (ite_cong (fun _ => ?_) (fun _ => ?_))
    · refine Eq.trans (st1 dL_law__1898 rfl rfl) ?_
      refine Eq.trans (xiconst dL_law__1899 ci_0) ?_
      refine Eq.trans (al3m dL_law__1900 ka_632) (gd_congr fun g1 => ?_)
      refine Eq.trans (st1 dL_law__1901 rfl rfl) ?_
      refine Eq.trans (st1 dL_law__1903 rfl rfl) ?_
      refine Eq.trans (st1 dL_law__1904 rfl rfl) ?_
      refine Eq.trans (if_eq (tgt := 1910) dL_law__1905 (by decide +kernel)) (ite_cong (fun _ => ?_) (fun _ => ?_))
      · rfl
      · refine Eq.trans (xiconst dL_law__1908 ci_0) ?_
        exact ret1 dL_law__1909 rfl (.inl rfl)
    · rfl
  · refine Eq.trans (xiconst dL_law__1891 ci_0) ?_
    exact ret1 dL_law__1892 rfl (.inl rfl)
theorem q_L_law__1942 {call : CALL} {L X : Nat} {I : Nat → Nat → Int32} {J : Nat → Nat → Int64} {x4 : Int32} {x5 : Int32} {x6 : Int32} {u7 : Option Value} {s0 : Int32} : runI call iLaw (1942, [some (.ref 1000000), some (.ref 0), some (.ref 72), some (.ref 632), some (.int x4), some (.int x5), some (.int x6), u7], [.int s0], (mm L X I J)) = if s0 = x5 then if x5 = (nI 0) then gd (inb (nI 0) 1) (if (lg_cmp (J 632 ((nI 0)).toNatClampNeg) (x6).toInt64) = (nI 0) then runI call iLaw (1966, [some (.ref 1000000), some (.ref 0), some (.ref 72), some (.ref 632), some (.int x4), some (.int x5), some (.int x6), u7], [], (mm L X I J)) else some (.inl (some (.int (nI 0))), (mm L X I J))) else runI call iLaw (1966, [some (.ref 1000000), some (.ref 0), some (.ref 72), some (.ref 632), some (.int x4), some (.int x5), some (.int x6), u7], [], (mm L X I J)) else some (.inl (some (.int (nI 0))), (mm L X I J)) := by
  refine Eq.trans (st1 dL_law__1942 rfl rfl) ?_
  refine Eq.trans (ic_eq (tgt := 1949) dL_law__1944 (by decide +kernel)) (ite_cong (fun _ => ?_) (fun _ => ?_))
  · refine Eq.trans (st1 dL_law__1949 rfl rfl) ?_
    refine Eq.trans (if_ne (tgt := 1966) dL_law__1951 (by decide +kernel)) (ite_cong (fun _ => ?_) (fun _ => ?_))
    · refine Eq.trans (st1 dL_law__1954 rfl rfl) ?_
      refine Eq.trans (xiconst dL_law__1955 ci_0) ?_
      refine Eq.trans (al3m dL_law__1956 ka_632) (gd_congr fun g1 => ?_)
      refine Eq.trans (st1 dL_law__1957 rfl rfl) ?_
      refine Eq.trans (st1 dL_law__1959 rfl rfl) ?_
      refine Eq.trans (st1 dL_law__1960 rfl rfl) ?_
      refine Eq.trans (if_eq (tgt := 1966) dL_law__1961 (by decide +kernel)) (ite_cong (fun _ => ?_) (fun _ => ?_))
      · rfl
      · refine Eq.trans (xiconst dL_law__1964 ci_0) ?_
        exact ret1 dL_law__1965 rfl (.inl rfl)
    · rfl
  · refine Eq.trans (xiconst dL_law__1947 ci_0) ?_
    exact ret1 dL_law__1948 rfl (.inl rfl)
theorem q_L_law__1998 {call : CALL} {L X : Nat} {I : Nat → Nat → Int32} {J : Nat → Nat → Int64} {x4 : Int32} {x5 : Int32} {x6 : Int32} {u7 : Option Value} {s0 : Int32} : runI call iLaw (1998, [some (.ref 1000000), some (.ref 0), some (.ref 72), some (.ref 632), some (.int x4), some (.int x5), some (.int x6), u7], [.int s0], (mm L X I J)) = if s0 = x5 then if x5 = (nI 0) then gd (inb (nI 0) 1) (if (lg_cmp (J 632 ((nI 0)).toNatClampNeg) (x6).toInt64) = (nI 0) then runI call iLaw (2022, [some (.ref 1000000), some (.ref 0), some (.ref 72), some (.ref 632), some (.int x4), some (.int x5), some (.int x6), u7], [], (mm L X I J)) else some (.inl (some (.int (nI 0))), (mm L X I J))) else runI call iLaw (2022, [some (.ref 1000000), some (.ref 0), some (.ref 72), some (.ref 632), some (.int x4), some (.int x5), some (.int x6), u7], [], (mm L X I J)) else some (.inl (some (.int (nI 0))), (mm L X I J)) := by
  refine Eq.trans (st1 dL_law__1998 rfl rfl) ?_
  refine Eq.trans (ic_eq (tgt := 2005) dL_law__2000 (by decide +kernel)) (ite_cong (fun _ => ?_) (fun _ => ?_))
  · refine Eq.trans (st1 dL_law__2005 rfl rfl) ?_
    refine Eq.trans (if_ne (tgt := 2022) dL_law__2007 (by decide +kernel)) (ite_cong (fun _ => ?_) (fun _ => ?_))
    · refine Eq.trans (st1 dL_law__2010 rfl rfl) ?_
      refine Eq.trans (xiconst dL_law__2011 ci_0) ?_
      refine Eq.trans (al3m dL_law__2012 ka_632) (gd_congr fun g1 => ?_)
      refine Eq.trans (st1 dL_law__2013 rfl rfl) ?_
      refine Eq.trans (st1 dL_law__2015 rfl rfl) ?_
      refine Eq.trans (st1 dL_law__2016 rfl rfl) ?_
      refine Eq.trans (if_eq (tgt := 2022) dL_law__2017 (by decide +kernel)) (ite_cong (fun _ => ?_) (fun _ => ?_))
      · rfl
      · refine Eq.trans (xiconst dL_law__2020 ci_0) ?_
        exact ret1 dL_law__2021 rfl (.inl rfl)
    · rfl
  · refine Eq.trans (xiconst dL_law__2003 ci_0) ?_
    exact ret1 dL_law__2004 rfl (.inl rfl)
theorem q_L_law__2054 {call : CALL} {L X : Nat} {I : Nat → Nat → Int32} {J : Nat → Nat → Int64} {x4 : Int32} {x5 : Int32} {x6 : Int32} {u7 : Option Value} {s0 : Int32} : runI call iLaw (2054, [some (.ref 1000000), some (.ref 0), some (.ref 72), some (.ref 632), some (.int x4), some (.int x5), some (.int x6), u7], [.int s0], (mm L X I J)) = if s0 = x5 then if x5 = (nI 0) then gd (inb (nI 0) 1) (if (lg_cmp (J 632 ((nI 0)).toNatClampNeg) (x6).toInt64) = (nI 0) then runI call iLaw (2078, [some (.ref 1000000), some (.ref 0), some (.ref 72), some (.ref 632), some (.int x4), some (.int x5), some (.int x6), u7], [], (mm L X I J)) else some (.inl (some (.int (nI 0))), (mm L X I J))) else runI call iLaw (2078, [some (.ref 1000000), some (.ref 0), some (.ref 72), some (.ref 632), some (.int x4), some (.int x5), some (.int x6), u7], [], (mm L X I J)) else some (.inl (some (.int (nI 0))), (mm L X I J)) := by
  refine Eq.trans (st1 dL_law__2054 rfl rfl) ?_
  refine Eq.trans (ic_eq (tgt := 2061) dL_law__2056 (by decide +kernel)) (ite_cong (fun _ => ?_) (fun _ => ?_))
  · refine Eq.trans (st1 dL_law__2061 rfl rfl) ?_
    refine Eq.trans (if_ne (tgt := 2078) dL_law__2063 (by decide +kernel)) (ite_cong (fun _ => ?_) (fun _ => ?_))
    · refine Eq.trans (st1 dL_law__2066 rfl rfl) ?_
      refine Eq.trans (xiconst dL_law__2067 ci_0) ?_
      refine Eq.trans (al3m dL_law__2068 ka_632) (gd_congr fun g1 => ?_)
      refine Eq.trans (st1 dL_law__2069 rfl rfl) ?_
      refine Eq.trans (st1 dL_law__2071 rfl rfl) ?_
      refine Eq.trans (st1 dL_law__2072 rfl rfl) ?_
      refine Eq.trans (if_eq (tgt := 2078) dL_law__2073 (by decide +kernel)) (ite_cong (fun _ => ?_) (fun _ => ?_))
      · rfl
      · refine Eq.trans (xiconst dL_law__2076 ci_0) ?_
        exact ret1 dL_law__2077 rfl (.inl rfl)
    · rfl
  · refine Eq.trans (xiconst dL_law__2059 ci_0) ?_
    exact ret1 dL_law__2060 rfl (.inl rfl)
theorem q_L_law__2110 {call : CALL} {L X : Nat} {I : Nat → Nat → Int32} {J : Nat → Nat → Int64} {x4 : Int32} {x5 : Int32} {x6 : Int32} {u7 : Option Value} {s0 : Int32} : runI call iLaw (2110, [some (.ref 1000000), some (.ref 0), some (.ref 72), some (.ref 632), some (.int x4), some (.int x5), some (.int x6), u7], [.int s0], (mm L X I J)) = if s0 = x5 then if x5 = (nI 0) then gd (inb (nI 0) 1) (if (lg_cmp (J 632 ((nI 0)).toNatClampNeg) (x6).toInt64) = (nI 0) then runI call iLaw (2134, [some (.ref 1000000), some (.ref 0), some (.ref 72), some (.ref 632), some (.int x4), some (.int x5), some (.int x6), u7], [], (mm L X I J)) else some (.inl (some (.int (nI 0))), (mm L X I J))) else runI call iLaw (2134, [some (.ref 1000000), some (.ref 0), some (.ref 72), some (.ref 632), some (.int x4), some (.int x5), some (.int x6), u7], [], (mm L X I J)) else some (.inl (some (.int (nI 0))), (mm L X I J)) := by
  refine Eq.trans (st1 dL_law__2110 rfl rfl) ?_
  refine Eq.trans (ic_eq (tgt := 2117) dL_law__2112 (by decide +kernel)) (ite_cong (fun _ => ?_) (fun _ => ?_))
  · refine Eq.trans (st1 dL_law__2117 rfl rfl) ?_
    refine Eq.trans (if_ne (tgt := 2134) dL_law__2119 (by decide +kernel)) (ite_cong (fun _ => ?_) (fun _ => ?_))
    · refine Eq.trans (st1 dL_law__2122 rfl rfl) ?_
      refine Eq.trans (xiconst dL_law__2123 ci_0) ?_
      refine Eq.trans (al3m dL_law__2124 ka_632) (gd_congr fun g1 => ?_)
      refine Eq.trans (st1 dL_law__2125 rfl rfl) ?_
      refine Eq.trans (st1 dL_law__2127 rfl rfl) ?_
      refine Eq.trans (st1 dL_law__2128 rfl rfl) ?_
      refine Eq.trans (if_eq (tgt := 2134) dL_law__2129 (by decide +kernel)) (ite_cong (fun _ => ?_) (fun _ => ?_))
      · rfl
      · refine Eq.trans (xiconst dL_law__2132 ci_0) ?_
        exact ret1 dL_law__2133 rfl (.inl rfl)
    · rfl
  · refine Eq.trans (xiconst dL_law__2115 ci_0) ?_
    exact ret1 dL_law__2116 rfl (.inl rfl)
theorem q_L_law__2202 {call : CALL} {L X : Nat} {I : Nat → Nat → Int32} {J : Nat → Nat → Int64} {x4 : Int32} {x5 : Int32} {x6 : Int32} {u7 : Option Value} {s0 : Int32} : runI call iLaw (2202, [some (.ref 1000000), some (.ref 0), some (.ref 72), some (.ref 632), some (.int x4), some (.int x5), some (.int x6), u7], [.int s0], (mm L X I J)) = if s0 = x5 then if x5 = (nI 0) then gd (inb (nI 0) 1) (if (lg_cmp (J 632 ((nI 0)).toNatClampNeg) (x6).toInt64) = (nI 0) then runI call iLaw (2226, [some (.ref 1000000), some (.ref 0), some (.ref 72), some (.ref 632), some (.int x4), some (.int x5), some (.int x6), u7], [], (mm L X I J)) else some (.inl (some (.int (nI 0))), (mm L X I J))) else runI call iLaw (2226, [some (.ref 1000000), some (.ref 0), some (.ref 72), some (.ref 632), some (.int x4), some (.int x5), some (.int x6), u7], [], (mm L X I J)) else some (.inl (some (.int (nI 0))), (mm L X I J)) := by
  refine Eq.trans (st1 dL_law__2202 rfl rfl) ?_
  refine Eq.trans (ic_eq (tgt := 2209) dL_law__2204 (by decide +kernel)) (ite_cong (fun _ => ?_) (fun _ => ?_))
  · refine Eq.trans (st1 dL_law__2209 rfl rfl) ?_
    refine Eq.trans (if_ne (tgt := 2226) dL_law__2211 (by decide +kernel)) (ite_cong (fun _ => ?_) (fun _ => ?_))
    · refine Eq.trans (st1 dL_law__2214 rfl rfl) ?_
      refine Eq.trans (xiconst dL_law__2215 ci_0) ?_
      refine Eq.trans (al3m dL_law__2216 ka_632) (gd_congr fun g1 => ?_)
      refine Eq.trans (st1 dL_law__2217 rfl rfl) ?_
      refine Eq.trans (st1 dL_law__2219 rfl rfl) ?_
      refine Eq.trans (st1 dL_law__2220 rfl rfl) ?_
      refine Eq.trans (if_eq (tgt := 2226) dL_law__2221 (by decide +kernel)) (ite_cong (fun _ => ?_) (fun _ => ?_))
      · rfl
      · refine Eq.trans (xiconst dL_law__2224 ci_0) ?_
        exact ret1 dL_law__2225 rfl (.inl rfl)
    · rfl
  · refine Eq.trans (xiconst dL_law__2207 ci_0) ?_
    exact ret1 dL_law__2208 rfl (.inl rfl)
theorem q_L_law__2320 {call : CALL} {L X : Nat} {I : Nat → Nat → Int32} {J : Nat → Nat → Int64} {x4 : Int32} {x5 : Int32} {x6 : Int32} {u7 : Option Value} {s0 : Int32} : runI call iLaw (2320, [some (.ref 1000000), some (.ref 0), some (.ref 72), some (.ref 632), some (.int x4), some (.int x5), some (.int x6), u7], [.int s0], (mm L X I J)) = if s0 = x5 then if x5 = (nI 0) then gd (inb (nI 0) 1) (if (lg_cmp (J 632 ((nI 0)).toNatClampNeg) (x6).toInt64) = (nI 0) then runI call iLaw (2344, [some (.ref 1000000), some (.ref 0), some (.ref 72), some (.ref 632), some (.int x4), some (.int x5), some (.int x6), u7], [], (mm L X I J)) else some (.inl (some (.int (nI 0))), (mm L X I J))) else runI call iLaw (2344, [some (.ref 1000000), some (.ref 0), some (.ref 72), some (.ref 632), some (.int x4), some (.int x5), some (.int x6), u7], [], (mm L X I J)) else some (.inl (some (.int (nI 0))), (mm L X I J)) := by
  refine Eq.trans (st1 dL_law__2320 rfl rfl) ?_
  refine Eq.trans (ic_eq (tgt := 2327) dL_law__2322 (by decide +kernel)) (ite_cong (fun _ => ?_) (fun _ => ?_))
  · refine Eq.trans (st1 dL_law__2327 rfl rfl) ?_
    refine Eq.trans (if_ne (tgt := 2344) dL_law__2329 (by decide +kernel)) (ite_cong (fun _ => ?_) (fun _ => ?_))
    · refine Eq.trans (st1 dL_law__2332 rfl rfl) ?_
      refine Eq.trans (xiconst dL_law__2333 ci_0) ?_
      refine Eq.trans (al3m dL_law__2334 ka_632) (gd_congr fun g1 => ?_)
      refine Eq.trans (st1 dL_law__2335 rfl rfl) ?_
      refine Eq.trans (st1 dL_law__2337 rfl rfl) ?_
      refine Eq.trans (st1 dL_law__2338 rfl rfl) ?_
      refine Eq.trans (if_eq (tgt := 2344) dL_law__2339 (by decide +kernel)) (ite_cong (fun _ => ?_) (fun _ => ?_))
      · rfl
      · refine Eq.trans (xiconst dL_law__2342 ci_0) ?_
        exact ret1 dL_law__2343 rfl (.inl rfl)
    · rfl
  · refine Eq.trans (xiconst dL_law__2325 ci_0) ?_
    exact ret1 dL_law__2326 rfl (.inl rfl)
theorem q_L_law__334 {call : CALL} {L X : Nat} {I : Nat → Nat → Int32} {J : Nat → Nat → Int64} {x4 : Int32} {u5 : Option Value} {u6 : Option Value} {u7 : Option Value} : runI call iLaw (334, [some (.ref 1000000), some (.ref 0), some (.ref 72), some (.ref 632), some (.int x4), u5, u6, u7], [], (mm L X I J)) = runI call iLaw (2423, [some (.ref 1000000), some (.ref 0), some (.ref 72), some (.ref 632), some (.int x4), u5, u6, u7], [], (mm L X I J)) := by
  refine Eq.trans (go_to (tgt := 2423) dL_law__334 (by decide +kernel)) ?_
  rfl
theorem q_L_law__390 {call : CALL} {L X : Nat} {I : Nat → Nat → Int32} {J : Nat → Nat → Int64} {x4 : Int32} {u5 : Option Value} {u6 : Option Value} {u7 : Option Value} : runI call iLaw (390, [some (.ref 1000000), some (.ref 0), some (.ref 72), some (.ref 632), some (.int x4), u5, u6, u7], [], (mm L X I J)) = runI call iLaw (2423, [some (.ref 1000000), some (.ref 0), some (.ref 72), some (.ref 632), some (.int x4), u5, u6, u7], [], (mm L X I J)) := by
  refine Eq.trans (go_to (tgt := 2423) dL_law__390 (by decide +kernel)) ?_
  rfl
theorem q_L_law__446 {call : CALL} {L X : Nat} {I : Nat → Nat → Int32} {J : Nat → Nat → Int64} {x4 : Int32} {u5 : Option Value} {u6 : Option Value} {u7 : Option Value} : runI call iLaw (446, [some (.ref 1000000), some (.ref 0), some (.ref 72), some (.ref 632), some (.int x4), u5, u6, u7], [], (mm L X I J)) = runI call iLaw (2423, [some (.ref 1000000), some (.ref 0), some (.ref 72), some (.ref 632), some (.int x4), u5, u6, u7], [], (mm L X I J)) := by
  refine Eq.trans (go_to (tgt := 2423) dL_law__446 (by decide +kernel)) ?_
  rfl
theorem q_L_law__502 {call : CALL} {L X : Nat} {I : Nat → Nat → Int32} {J : Nat → Nat → Int64} {x4 : Int32} {u5 : Option Value} {u6 : Option Value} {u7 : Option Value} : runI call iLaw (502, [some (.ref 1000000), some (.ref 0), some (.ref 72), some (.ref 632), some (.int x4), u5, u6, u7], [], (mm L X I J)) = runI call iLaw (2423, [some (.ref 1000000), some (.ref 0), some (.ref 72), some (.ref 632), some (.int x4), u5, u6, u7], [], (mm L X I J)) := by
  refine Eq.trans (go_to (tgt := 2423) dL_law__502 (by decide +kernel)) ?_
  rfl
theorem q_L_law__584 {call : CALL} {L X : Nat} {I : Nat → Nat → Int32} {J : Nat → Nat → Int64} {x4 : Int32} {u5 : Option Value} {u6 : Option Value} {u7 : Option Value} : runI call iLaw (584, [some (.ref 1000000), some (.ref 0), some (.ref 72), some (.ref 632), some (.int x4), u5, u6, u7], [], (mm L X I J)) = runI call iLaw (2423, [some (.ref 1000000), some (.ref 0), some (.ref 72), some (.ref 632), some (.int x4), u5, u6, u7], [], (mm L X I J)) := by
  refine Eq.trans (go_to (tgt := 2423) dL_law__584 (by decide +kernel)) ?_
  rfl
theorem q_L_law__652 {call : CALL} {L X : Nat} {I : Nat → Nat → Int32} {J : Nat → Nat → Int64} {x4 : Int32} {u5 : Option Value} {u6 : Option Value} {u7 : Option Value} : runI call iLaw (652, [some (.ref 1000000), some (.ref 0), some (.ref 72), some (.ref 632), some (.int x4), u5, u6, u7], [], (mm L X I J)) = runI call iLaw (2423, [some (.ref 1000000), some (.ref 0), some (.ref 72), some (.ref 632), some (.int x4), u5, u6, u7], [], (mm L X I J)) := by
  refine Eq.trans (go_to (tgt := 2423) dL_law__652 (by decide +kernel)) ?_
  rfl
theorem q_L_law__720 {call : CALL} {L X : Nat} {I : Nat → Nat → Int32} {J : Nat → Nat → Int64} {x4 : Int32} {u5 : Option Value} {u6 : Option Value} {u7 : Option Value} : runI call iLaw (720, [some (.ref 1000000), some (.ref 0), some (.ref 72), some (.ref 632), some (.int x4), u5, u6, u7], [], (mm L X I J)) = runI call iLaw (2423, [some (.ref 1000000), some (.ref 0), some (.ref 72), some (.ref 632), some (.int x4), u5, u6, u7], [], (mm L X I J)) := by
  refine Eq.trans (go_to (tgt := 2423) dL_law__720 (by decide +kernel)) ?_
  rfl
theorem q_L_law__788 {call : CALL} {L X : Nat} {I : Nat → Nat → Int32} {J : Nat → Nat → Int64} {x4 : Int32} {u5 : Option Value} {u6 : Option Value} {u7 : Option Value} : runI call iLaw (788, [some (.ref 1000000), some (.ref 0), some (.ref 72), some (.ref 632), some (.int x4), u5, u6, u7], [], (mm L X I J)) = runI call iLaw (2423, [some (.ref 1000000), some (.ref 0), some (.ref 72), some (.ref 632), some (.int x4), u5, u6, u7], [], (mm L X I J)) := by
  refine Eq.trans (go_to (tgt := 2423) dL_law__788 (by decide +kernel)) ?_
  rfl
theorem q_L_law__844 {call : CALL} {L X : Nat} {I : Nat → Nat → Int32} {J : Nat → Nat → Int64} {x4 : Int32} {u5 : Option Value} {u6 : Option Value} {u7 : Option Value} : runI call iLaw (844, [some (.ref 1000000), some (.ref 0), some (.ref 72), some (.ref 632), some (.int x4), u5, u6, u7], [], (mm L X I J)) = runI call iLaw (2423, [some (.ref 1000000), some (.ref 0), some (.ref 72), some (.ref 632), some (.int x4), u5, u6, u7], [], (mm L X I J)) := by
  refine Eq.trans (go_to (tgt := 2423) dL_law__844 (by decide +kernel)) ?_
  rfl
theorem q_L_law__900 {call : CALL} {L X : Nat} {I : Nat → Nat → Int32} {J : Nat → Nat → Int64} {x4 : Int32} {u5 : Option Value} {u6 : Option Value} {u7 : Option Value} : runI call iLaw (900, [some (.ref 1000000), some (.ref 0), some (.ref 72), some (.ref 632), some (.int x4), u5, u6, u7], [], (mm L X I J)) = runI call iLaw (2423, [some (.ref 1000000), some (.ref 0), some (.ref 72), some (.ref 632), some (.int x4), u5, u6, u7], [], (mm L X I J)) := by
  refine Eq.trans (go_to (tgt := 2423) dL_law__900 (by decide +kernel)) ?_
  rfl
theorem q_L_law__1060 {call : CALL} {L X : Nat} {I : Nat → Nat → Int32} {J : Nat → Nat → Int64} {x4 : Int32} {u5 : Option Value} {u6 : Option Value} {u7 : Option Value} : runI call iLaw (1060, [some (.ref 1000000), some (.ref 0), some (.ref 72), some (.ref 632), some (.int x4), u5, u6, u7], [], (mm L X I J)) = runI call iLaw (2423, [some (.ref 1000000), some (.ref 0), some (.ref 72), some (.ref 632), some (.int x4), u5, u6, u7], [], (mm L X I J)) := by
  refine Eq.trans (go_to (tgt := 2423) dL_law__1060 (by decide +kernel)) ?_
  rfl
theorem q_L_law__1135 {call : CALL} {L X : Nat} {I : Nat → Nat → Int32} {J : Nat → Nat → Int64} {x4 : Int32} {u5 : Option Value} {u6 : Option Value} {u7 : Option Value} : runI call iLaw (1135, [some (.ref 1000000), some (.ref 0), some (.ref 72), some (.ref 632), some (.int x4), u5, u6, u7], [], (mm L X I J)) = runI call iLaw (2423, [some (.ref 1000000), some (.ref 0), some (.ref 72), some (.ref 632), some (.int x4), u5, u6, u7], [], (mm L X I J)) := by
  refine Eq.trans (go_to (tgt := 2423) dL_law__1135 (by decide +kernel)) ?_
  rfl
theorem q_L_law__1129 {call : CALL} {L X : Nat} {I : Nat → Nat → Int32} {J : Nat → Nat → Int64} {x4 : Int32} {u5 : Option Value} {u6 : Option Value} {u7 : Option Value} {z0 : Int64} {z1 : Int64} : runI call iLaw (1129, [some (.ref 1000000), some (.ref 0), some (.ref 72), some (.ref 632), some (.int x4), u5, u6, u7], [.long z1, .long z0], (mm L X I J)) = if (lg_cmp z0 z1) = (nI 0) then runI call iLaw (1135, [some (.ref 1000000), some (.ref 0), some (.ref 72), some (.ref 632), some (.int x4), u5, u6, u7], [], (mm L X I J)) else some (.inl (some (.int (nI 0))), (mm L X I J)) := by
  refine Eq.trans (st1 dL_law__1129 rfl rfl) ?_
  refine Eq.trans (if_eq (tgt := 1135) dL_law__1130 (by decide +kernel)) (ite_cong (fun _ => ?_) (fun _ => ?_))
  · rfl
  · refine Eq.trans (xiconst dL_law__1133 ci_0) ?_
    exact ret1 dL_law__1134 rfl (.inl rfl)
theorem q_L_law__1198 {call : CALL} {L X : Nat} {I : Nat → Nat → Int32} {J : Nat → Nat → Int64} {x4 : Int32} {u5 : Option Value} {u6 : Option Value} {u7 : Option Value} : runI call iLaw (1198, [some (.ref 1000000), some (.ref 0), some (.ref 72), some (.ref 632), some (.int x4), u5, u6, u7], [], (mm L X I J)) = runI call iLaw (2423, [some (.ref 1000000), some (.ref 0), some (.ref 72), some (.ref 632), some (.int x4), u5, u6, u7], [], (mm L X I J)) := by
  refine Eq.trans (go_to (tgt := 2423) dL_law__1198 (by decide +kernel)) ?_
  rfl
theorem q_L_law__1192 {call : CALL} {L X : Nat} {I : Nat → Nat → Int32} {J : Nat → Nat → Int64} {x4 : Int32} {u5 : Option Value} {u6 : Option Value} {u7 : Option Value} {z0 : Int64} {z1 : Int64} : runI call iLaw (1192, [some (.ref 1000000), some (.ref 0), some (.ref 72), some (.ref 632), some (.int x4), u5, u6, u7], [.long z1, .long z0], (mm L X I J)) = if (lg_cmp z0 z1) = (nI 0) then runI call iLaw (1198, [some (.ref 1000000), some (.ref 0), some (.ref 72), some (.ref 632), some (.int x4), u5, u6, u7], [], (mm L X I J)) else some (.inl (some (.int (nI 0))), (mm L X I J)) := by
  refine Eq.trans (st1 dL_law__1192 rfl rfl) ?_
  refine Eq.trans (if_eq (tgt := 1198) dL_law__1193 (by decide +kernel)) (ite_cong (fun _ => ?_) (fun _ => ?_))
  · rfl
  · refine Eq.trans (xiconst dL_law__1196 ci_0) ?_
    exact ret1 dL_law__1197 rfl (.inl rfl)
theorem q_L_law__1254 {call : CALL} {L X : Nat} {I : Nat → Nat → Int32} {J : Nat → Nat → Int64} {x4 : Int32} {u5 : Option Value} {u6 : Option Value} {u7 : Option Value} : runI call iLaw (1254, [some (.ref 1000000), some (.ref 0), some (.ref 72), some (.ref 632), some (.int x4), u5, u6, u7], [], (mm L X I J)) = runI call iLaw (2423, [some (.ref 1000000), some (.ref 0), some (.ref 72), some (.ref 632), some (.int x4), u5, u6, u7], [], (mm L X I J)) := by
  refine Eq.trans (go_to (tgt := 2423) dL_law__1254 (by decide +kernel)) ?_
  rfl
theorem q_L_law__1310 {call : CALL} {L X : Nat} {I : Nat → Nat → Int32} {J : Nat → Nat → Int64} {x4 : Int32} {u5 : Option Value} {u6 : Option Value} {u7 : Option Value} : runI call iLaw (1310, [some (.ref 1000000), some (.ref 0), some (.ref 72), some (.ref 632), some (.int x4), u5, u6, u7], [], (mm L X I J)) = runI call iLaw (2423, [some (.ref 1000000), some (.ref 0), some (.ref 72), some (.ref 632), some (.int x4), u5, u6, u7], [], (mm L X I J)) := by
  refine Eq.trans (go_to (tgt := 2423) dL_law__1310 (by decide +kernel)) ?_
  rfl
theorem q_L_law__1366 {call : CALL} {L X : Nat} {I : Nat → Nat → Int32} {J : Nat → Nat → Int64} {x4 : Int32} {u5 : Option Value} {u6 : Option Value} {u7 : Option Value} : runI call iLaw (1366, [some (.ref 1000000), some (.ref 0), some (.ref 72), some (.ref 632), some (.int x4), u5, u6, u7], [], (mm L X I J)) = runI call iLaw (2423, [some (.ref 1000000), some (.ref 0), some (.ref 72), some (.ref 632), some (.int x4), u5, u6, u7], [], (mm L X I J)) := by
  refine Eq.trans (go_to (tgt := 2423) dL_law__1366 (by decide +kernel)) ?_
  rfl
theorem q_L_law__1422 {call : CALL} {L X : Nat} {I : Nat → Nat → Int32} {J : Nat → Nat → Int64} {x4 : Int32} {u5 : Option Value} {u6 : Option Value} {u7 : Option Value} : runI call iLaw (1422, [some (.ref 1000000), some (.ref 0), some (.ref 72), some (.ref 632), some (.int x4), u5, u6, u7], [], (mm L X I J)) = runI call iLaw (2423, [some (.ref 1000000), some (.ref 0), some (.ref 72), some (.ref 632), some (.int x4), u5, u6, u7], [], (mm L X I J)) := by
  refine Eq.trans (go_to (tgt := 2423) dL_law__1422 (by decide +kernel)) ?_
  rfl
theorem q_L_law__1490 {call : CALL} {L X : Nat} {I : Nat → Nat → Int32} {J : Nat → Nat → Int64} {x4 : Int32} {u5 : Option Value} {u6 : Option Value} {u7 : Option Value} : runI call iLaw (1490, [some (.ref 1000000), some (.ref 0), some (.ref 72), some (.ref 632), some (.int x4), u5, u6, u7], [], (mm L X I J)) = runI call iLaw (2423, [some (.ref 1000000), some (.ref 0), some (.ref 72), some (.ref 632), some (.int x4), u5, u6, u7], [], (mm L X I J)) := by
  refine Eq.trans (go_to (tgt := 2423) dL_law__1490 (by decide +kernel)) ?_
  rfl
theorem q_L_law__1546 {call : CALL} {L X : Nat} {I : Nat → Nat → Int32} {J : Nat → Nat → Int64} {x4 : Int32} {u5 : Option Value} {u6 : Option Value} {u7 : Option Value} : runI call iLaw (1546, [some (.ref 1000000), some (.ref 0), some (.ref 72), some (.ref 632), some (.int x4), u5, u6, u7], [], (mm L X I J)) = runI call iLaw (2423, [some (.ref 1000000), some (.ref 0), some (.ref 72), some (.ref 632), some (.int x4), u5, u6, u7], [], (mm L X I J)) := by
  refine Eq.trans (go_to (tgt := 2423) dL_law__1546 (by decide +kernel)) ?_
  rfl
theorem q_L_law__1602 {call : CALL} {L X : Nat} {I : Nat → Nat → Int32} {J : Nat → Nat → Int64} {x4 : Int32} {u5 : Option Value} {u6 : Option Value} {u7 : Option Value} : runI call iLaw (1602, [some (.ref 1000000), some (.ref 0), some (.ref 72), some (.ref 632), some (.int x4), u5, u6, u7], [], (mm L X I J)) = runI call iLaw (2423, [some (.ref 1000000), some (.ref 0), some (.ref 72), some (.ref 632), some (.int x4), u5, u6, u7], [], (mm L X I J)) := by
  refine Eq.trans (go_to (tgt := 2423) dL_law__1602 (by decide +kernel)) ?_
  rfl
theorem q_L_law__1658 {call : CALL} {L X : Nat} {I : Nat → Nat → Int32} {J : Nat → Nat → Int64} {x4 : Int32} {u5 : Option Value} {u6 : Option Value} {u7 : Option Value} : runI call iLaw (1658, [some (.ref 1000000), some (.ref 0), some (.ref 72), some (.ref 632), some (.int x4), u5, u6, u7], [], (mm L X I J)) = runI call iLaw (2423, [some (.ref 1000000), some (.ref 0), some (.ref 72), some (.ref 632), some (.int x4), u5, u6, u7], [], (mm L X I J)) := by
  refine Eq.trans (go_to (tgt := 2423) dL_law__1658 (by decide +kernel)) ?_
  rfl
theorem q_L_law__1750 {call : CALL} {L X : Nat} {I : Nat → Nat → Int32} {J : Nat → Nat → Int64} {x4 : Int32} {u5 : Option Value} {y6 : Int64} : runI call iLaw (1750, [some (.ref 1000000), some (.ref 0), some (.ref 72), some (.ref 632), some (.int x4), u5, some (.long y6), none], [], (mm L X I J)) = runI call iLaw (2423, [some (.ref 1000000), some (.ref 0), some (.ref 72), some (.ref 632), some (.int x4), u5, some (.long y6), none], [], (mm L X I J)) := by
  refine Eq.trans (go_to (tgt := 2423) dL_law__1750 (by decide +kernel)) ?_
  rfl
theorem q_L_law__1830 {call : CALL} {L X : Nat} {I : Nat → Nat → Int32} {J : Nat → Nat → Int64} {x4 : Int32} {u5 : Option Value} {u6 : Option Value} {u7 : Option Value} : runI call iLaw (1830, [some (.ref 1000000), some (.ref 0), some (.ref 72), some (.ref 632), some (.int x4), u5, u6, u7], [], (mm L X I J)) = runI call iLaw (2423, [some (.ref 1000000), some (.ref 0), some (.ref 72), some (.ref 632), some (.int x4), u5, u6, u7], [], (mm L X I J)) := by
  refine Eq.trans (go_to (tgt := 2423) dL_law__1830 (by decide +kernel)) ?_
  rfl
theorem q_L_law__1910 {call : CALL} {L X : Nat} {I : Nat → Nat → Int32} {J : Nat → Nat → Int64} {x4 : Int32} {u5 : Option Value} {u6 : Option Value} {u7 : Option Value} : runI call iLaw (1910, [some (.ref 1000000), some (.ref 0), some (.ref 72), some (.ref 632), some (.int x4), u5, u6, u7], [], (mm L X I J)) = runI call iLaw (2423, [some (.ref 1000000), some (.ref 0), some (.ref 72), some (.ref 632), some (.int x4), u5, u6, u7], [], (mm L X I J)) := by
  refine Eq.trans (go_to (tgt := 2423) dL_law__1910 (by decide +kernel)) ?_
  rfl
theorem q_L_law__1966 {call : CALL} {L X : Nat} {I : Nat → Nat → Int32} {J : Nat → Nat → Int64} {x4 : Int32} {u5 : Option Value} {u6 : Option Value} {u7 : Option Value} : runI call iLaw (1966, [some (.ref 1000000), some (.ref 0), some (.ref 72), some (.ref 632), some (.int x4), u5, u6, u7], [], (mm L X I J)) = runI call iLaw (2423, [some (.ref 1000000), some (.ref 0), some (.ref 72), some (.ref 632), some (.int x4), u5, u6, u7], [], (mm L X I J)) := by
  refine Eq.trans (go_to (tgt := 2423) dL_law__1966 (by decide +kernel)) ?_
  rfl
theorem q_L_law__2022 {call : CALL} {L X : Nat} {I : Nat → Nat → Int32} {J : Nat → Nat → Int64} {x4 : Int32} {u5 : Option Value} {u6 : Option Value} {u7 : Option Value} : runI call iLaw (2022, [some (.ref 1000000), some (.ref 0), some (.ref 72), some (.ref 632), some (.int x4), u5, u6, u7], [], (mm L X I J)) = runI call iLaw (2423, [some (.ref 1000000), some (.ref 0), some (.ref 72), some (.ref 632), some (.int x4), u5, u6, u7], [], (mm L X I J)) := by
  refine Eq.trans (go_to (tgt := 2423) dL_law__2022 (by decide +kernel)) ?_
  rfl
theorem q_L_law__2078 {call : CALL} {L X : Nat} {I : Nat → Nat → Int32} {J : Nat → Nat → Int64} {x4 : Int32} {u5 : Option Value} {u6 : Option Value} {u7 : Option Value} : runI call iLaw (2078, [some (.ref 1000000), some (.ref 0), some (.ref 72), some (.ref 632), some (.int x4), u5, u6, u7], [], (mm L X I J)) = runI call iLaw (2423, [some (.ref 1000000), some (.ref 0), some (.ref 72), some (.ref 632), some (.int x4), u5, u6, u7], [], (mm L X I J)) := by
  refine Eq.trans (go_to (tgt := 2423) dL_law__2078 (by decide +kernel)) ?_
  rfl
theorem q_L_law__2134 {call : CALL} {L X : Nat} {I : Nat → Nat → Int32} {J : Nat → Nat → Int64} {x4 : Int32} {u5 : Option Value} {u6 : Option Value} {u7 : Option Value} : runI call iLaw (2134, [some (.ref 1000000), some (.ref 0), some (.ref 72), some (.ref 632), some (.int x4), u5, u6, u7], [], (mm L X I J)) = runI call iLaw (2423, [some (.ref 1000000), some (.ref 0), some (.ref 72), some (.ref 632), some (.int x4), u5, u6, u7], [], (mm L X I J)) := by
  refine Eq.trans (go_to (tgt := 2423) dL_law__2134 (by decide +kernel)) ?_
  rfl
theorem q_L_law__2226 {call : CALL} {L X : Nat} {I : Nat → Nat → Int32} {J : Nat → Nat → Int64} {x4 : Int32} {u5 : Option Value} {u6 : Option Value} {u7 : Option Value} : runI call iLaw (2226, [some (.ref 1000000), some (.ref 0), some (.ref 72), some (.ref 632), some (.int x4), u5, u6, u7], [], (mm L X I J)) = runI call iLaw (2423, [some (.ref 1000000), some (.ref 0), some (.ref 72), some (.ref 632), some (.int x4), u5, u6, u7], [], (mm L X I J)) := by
  refine Eq.trans (go_to (tgt := 2423) dL_law__2226 (by decide +kernel)) ?_
  rfl
theorem q_L_law__2344 {call : CALL} {L X : Nat} {I : Nat → Nat → Int32} {J : Nat → Nat → Int64} {x4 : Int32} {u5 : Option Value} {u6 : Option Value} {u7 : Option Value} : runI call iLaw (2344, [some (.ref 1000000), some (.ref 0), some (.ref 72), some (.ref 632), some (.int x4), u5, u6, u7], [], (mm L X I J)) = runI call iLaw (2423, [some (.ref 1000000), some (.ref 0), some (.ref 72), some (.ref 632), some (.int x4), u5, u6, u7], [], (mm L X I J)) := by
  refine Eq.trans (go_to (tgt := 2423) dL_law__2344 (by decide +kernel)) ?_
  rfl
theorem q_L_law__2423b {call : CALL} {L X : Nat} {I : Nat → Nat → Int32} {J : Nat → Nat → Int64} {x4 : Int32} {u5 : Option Value} {y6 : Int64} : runI call iLaw (2423, [some (.ref 1000000), some (.ref 0), some (.ref 72), some (.ref 632), some (.int x4), u5, some (.long y6), none], [], (mm L X I J)) = runI call iLaw (23, [some (.ref 1000000), some (.ref 0), some (.ref 72), some (.ref 632), some (.int (x4 + (nI 10))), u5, some (.long y6), none], [], (mm L X I J)) := by
  refine Eq.trans (xinc2 dL_law__2423 ci_10 rfl (Nat.le_of_ble_eq_true rfl) rfl) ?_
  refine Eq.trans (go_to (tgt := 23) dL_law__2426 (by decide +kernel)) ?_
  rfl
theorem q_L_law__23b {call : CALL} {L X : Nat} {I : Nat → Nat → Int32} {J : Nat → Nat → Int64} {x4 : Int32} {u5 : Option Value} {y6 : Int64} : runI call iLaw (23, [some (.ref 1000000), some (.ref 0), some (.ref 72), some (.ref 632), some (.int x4), u5, some (.long y6), none], [], (mm L X I J)) = if ((nI L) - (nI 10)) < x4 then some (.inl (some (.int (nI 1))), (mm L X I J)) else gd (inb x4 L) (runI call iLaw (40, [some (.ref 1000000), some (.ref 0), some (.ref 72), some (.ref 632), some (.int x4), u5, some (.long y6), none], [.int ((I 1000000 (x4).toNatClampNeg) &&& (nI 63))], (mm L X I J))) := by
  refine Eq.trans (st1 dL_law__23 rfl rfl) ?_
  refine Eq.trans (st1 dL_law__25 rfl rfl) ?_
  refine Eq.trans (alen dL_law__26 kd_XB (.inr ⟨by decide, by decide⟩)) ?_
  refine Eq.trans (xbipush dL_law__27 cb_10) ?_
  refine Eq.trans (st1 dL_law__29 rfl rfl) ?_
  refine Eq.trans (ic_gt (tgt := 2429) dL_law__30 (by decide +kernel)) (ite_cong (fun _ => ?_) (fun _ => ?_))
  · refine Eq.trans (xiconst dL_law__2429 ci_1) ?_
    exact ret1 dL_law__2430 rfl (.inr rfl)
  · refine Eq.trans (st1 dL_law__33 rfl rfl) ?_
    refine Eq.trans (st1 dL_law__34 rfl rfl) ?_
    refine Eq.trans (al5 dL_law__36 kd_XB (by decide)) (gd_congr fun g1 => ?_)
    refine Eq.trans (xbipush dL_law__37 cb_63) ?_
    refine Eq.trans (st1 dL_law__39 rfl rfl) ?_
    rfl
theorem q_L_law__40b {call : CALL} {L X : Nat} {I : Nat → Nat → Int32} {J : Nat → Nat → Int64} {x4 : Int32} {u5 : Option Value} {y6 : Int64} {s0 : Int32} : runI call iLaw (40, [some (.ref 1000000), some (.ref 0), some (.ref 72), some (.ref 632), some (.int x4), u5, some (.long y6), none], [.int s0], (mm L X I J)) = if s0 = (nI 0) then runI call iLaw (208, [some (.ref 1000000), some (.ref 0), some (.ref 72), some (.ref 632), some (.int x4), u5, some (.long y6), none], [], (mm L X I J)) else if s0 = (nI 1) then runI call iLaw (281, [some (.ref 1000000), some (.ref 0), some (.ref 72), some (.ref 632), some (.int x4), u5, some (.long y6), none], [], (mm L X I J)) else if s0 = (nI 2) then runI call iLaw (337, [some (.ref 1000000), some (.ref 0), some (.ref 72), some (.ref 632), some (.int x4), u5, some (.long y6), none], [], (mm L X I J)) else if s0 = (nI 3) then runI call iLaw (393, [some (.ref 1000000), some (.ref 0), some (.ref 72), some (.ref 632), some (.int x4), u5, some (.long y6), none], [], (mm L X I J)) else if s0 = (nI 4) then runI call iLaw (449, [some (.ref 1000000), some (.ref 0), some (.ref 72), some (.ref 632), some (.int x4), u5, some (.long y6), none], [], (mm L X I J)) else if s0 = (nI 5) then runI call iLaw (505, [some (.ref 1000000), some (.ref 0), some (.ref 72), some (.ref 632), some (.int x4), u5, some (.long y6), none], [], (mm L X I J)) else if s0 = (nI 6) then runI call iLaw (518, [some (.ref 1000000), some (.ref 0), some (.ref 72), some (.ref 632), some (.int x4), u5, some (.long y6), none], [], (mm L X I J)) else if s0 = (nI 7) then runI call iLaw (531, [some (.ref 1000000), some (.ref 0), some (.ref 72), some (.ref 632), some (.int x4), u5, some (.long y6), none], [], (mm L X I J)) else if s0 = (nI 8) then runI call iLaw (587, [some (.ref 1000000), some (.ref 0), some (.ref 72), some (.ref 632), some (.int x4), u5, some (.long y6), none], [], (mm L X I J)) else if s0 = (nI 9) then runI call iLaw (655, [some (.ref 1000000), some (.ref 0), some (.ref 72), some (.ref 632), some (.int x4), u5, some (.long y6), none], [], (mm L X I J)) else if s0 = (nI 10) then runI call iLaw (723, [some (.ref 1000000), some (.ref 0), some (.ref 72), some (.ref 632), some (.int x4), u5, some (.long y6), none], [], (mm L X I J)) else if s0 = (nI 11) then runI call iLaw (791, [some (.ref 1000000), some (.ref 0), some (.ref 72), some (.ref 632), some (.int x4), u5, some (.long y6), none], [], (mm L X I J)) else if s0 = (nI 12) then runI call iLaw (847, [some (.ref 1000000), some (.ref 0), some (.ref 72), some (.ref 632), some (.int x4), u5, some (.long y6), none], [], (mm L X I J)) else if s0 = (nI 13) then runI call iLaw (903, [some (.ref 1000000), some (.ref 0), some (.ref 72), some (.ref 632), some (.int x4), u5, some (.long y6), none], [], (mm L X I J)) else if s0 = (nI 14) then runI call iLaw (1063, [some (.ref 1000000), some (.ref 0), some (.ref 72), some (.ref 632), some (.int x4), u5, some (.long y6), none], [], (mm L X I J)) else if s0 = (nI 15) then runI call iLaw (1138, [some (.ref 1000000), some (.ref 0), some (.ref 72), some (.ref 632), some (.int x4), u5, some (.long y6), none], [], (mm L X I J)) else if s0 = (nI 16) then runI call iLaw (1201, [some (.ref 1000000), some (.ref 0), some (.ref 72), some (.ref 632), some (.int x4), u5, some (.long y6), none], [], (mm L X I J)) else if s0 = (nI 17) then runI call iLaw (1257, [some (.ref 1000000), some (.ref 0), some (.ref 72), some (.ref 632), some (.int x4), u5, some (.long y6), none], [], (mm L X I J)) else if s0 = (nI 18) then runI call iLaw (1313, [some (.ref 1000000), some (.ref 0), some (.ref 72), some (.ref 632), some (.int x4), u5, some (.long y6), none], [], (mm L X I J)) else if s0 = (nI 19) then runI call iLaw (1369, [some (.ref 1000000), some (.ref 0), some (.ref 72), some (.ref 632), some (.int x4), u5, some (.long y6), none], [], (mm L X I J)) else if s0 = (nI 20) then runI call iLaw (1425, [some (.ref 1000000), some (.ref 0), some (.ref 72), some (.ref 632), some (.int x4), u5, some (.long y6), none], [], (mm L X I J)) else if s0 = (nI 21) then runI call iLaw (1493, [some (.ref 1000000), some (.ref 0), some (.ref 72), some (.ref 632), some (.int x4), u5, some (.long y6), none], [], (mm L X I J)) else if s0 = (nI 22) then runI call iLaw (1549, [some (.ref 1000000), some (.ref 0), some (.ref 72), some (.ref 632), some (.int x4), u5, some (.long y6), none], [], (mm L X I J)) else if s0 = (nI 23) then runI call iLaw (1605, [some (.ref 1000000), some (.ref 0), some (.ref 72), some (.ref 632), some (.int x4), u5, some (.long y6), none], [], (mm L X I J)) else if s0 = (nI 24) then runI call iLaw (1661, [some (.ref 1000000), some (.ref 0), some (.ref 72), some (.ref 632), some (.int x4), u5, some (.long y6), none], [], (mm L X I J)) else if s0 = (nI 25) then runI call iLaw (1674, [some (.ref 1000000), some (.ref 0), some (.ref 72), some (.ref 632), some (.int x4), u5, some (.long y6), none], [], (mm L X I J)) else if s0 = (nI 26) then runI call iLaw (1753, [some (.ref 1000000), some (.ref 0), some (.ref 72), some (.ref 632), some (.int x4), u5, some (.long y6), none], [], (mm L X I J)) else if s0 = (nI 27) then runI call iLaw (1833, [some (.ref 1000000), some (.ref 0), some (.ref 72), some (.ref 632), some (.int x4), u5, some (.long y6), none], [], (mm L X I J)) else if s0 = (nI 28) then runI call iLaw (1913, [some (.ref 1000000), some (.ref 0), some (.ref 72), some (.ref 632), some (.int x4), u5, some (.long y6), none], [], (mm L X I J)) else if s0 = (nI 29) then runI call iLaw (1969, [some (.ref 1000000), some (.ref 0), some (.ref 72), some (.ref 632), some (.int x4), u5, some (.long y6), none], [], (mm L X I J)) else if s0 = (nI 30) then runI call iLaw (2025, [some (.ref 1000000), some (.ref 0), some (.ref 72), some (.ref 632), some (.int x4), u5, some (.long y6), none], [], (mm L X I J)) else if s0 = (nI 31) then runI call iLaw (2081, [some (.ref 1000000), some (.ref 0), some (.ref 72), some (.ref 632), some (.int x4), u5, some (.long y6), none], [], (mm L X I J)) else if s0 = (nI 32) then runI call iLaw (2137, [some (.ref 1000000), some (.ref 0), some (.ref 72), some (.ref 632), some (.int x4), u5, some (.long y6), none], [], (mm L X I J)) else if s0 = (nI 33) then runI call iLaw (2229, [some (.ref 1000000), some (.ref 0), some (.ref 72), some (.ref 632), some (.int x4), u5, some (.long y6), none], [], (mm L X I J)) else if s0 = (nI 34) then runI call iLaw (2347, [some (.ref 1000000), some (.ref 0), some (.ref 72), some (.ref 632), some (.int x4), u5, some (.long y6), none], [], (mm L X I J)) else if s0 = (nI 35) then runI call iLaw (2360, [some (.ref 1000000), some (.ref 0), some (.ref 72), some (.ref 632), some (.int x4), u5, some (.long y6), none], [], (mm L X I J)) else if s0 = (nI 36) then runI call iLaw (2373, [some (.ref 1000000), some (.ref 0), some (.ref 72), some (.ref 632), some (.int x4), u5, some (.long y6), none], [], (mm L X I J)) else if s0 = (nI 37) then runI call iLaw (2398, [some (.ref 1000000), some (.ref 0), some (.ref 72), some (.ref 632), some (.int x4), u5, some (.long y6), none], [], (mm L X I J)) else runI call iLaw (2423, [some (.ref 1000000), some (.ref 0), some (.ref 72), some (.ref 632), some (.int x4), u5, some (.long y6), none], [], (mm L X I J)) := by
  refine ite_cong2 (fun e0 => sw_t dL_law__40 (by rw [e0]; decide +kernel)) (fun e0 => ?_)
  refine ite_cong2 (fun e1 => sw_t dL_law__40 (by rw [e1]; decide +kernel)) (fun e1 => ?_)
  refine ite_cong2 (fun e2 => sw_t dL_law__40 (by rw [e2]; decide +kernel)) (fun e2 => ?_)
  refine ite_cong2 (fun e3 => sw_t dL_law__40 (by rw [e3]; decide +kernel)) (fun e3 => ?_)
  refine ite_cong2 (fun e4 => sw_t dL_law__40 (by rw [e4]; decide +kernel)) (fun e4 => ?_)
  refine ite_cong2 (fun e5 => sw_t dL_law__40 (by rw [e5]; decide +kernel)) (fun e5 => ?_)
  refine ite_cong2 (fun e6 => sw_t dL_law__40 (by rw [e6]; decide +kernel)) (fun e6 => ?_)
  refine ite_cong2 (fun e7 => sw_t dL_law__40 (by rw [e7]; decide +kernel)) (fun e7 => ?_)
  refine ite_cong2 (fun e8 => sw_t dL_law__40 (by rw [e8]; decide +kernel)) (fun e8 => ?_)
  refine ite_cong2 (fun e9 => sw_t dL_law__40 (by rw [e9]; decide +kernel)) (fun e9 => ?_)
  refine ite_cong2 (fun e10 => sw_t dL_law__40 (by rw [e10]; decide +kernel)) (fun e10 => ?_)
  refine ite_cong2 (fun e11 => sw_t dL_law__40 (by rw [e11]; decide +kernel)) (fun e11 => ?_)
  refine ite_cong2 (fun e12 => sw_t dL_law__40 (by rw [e12]; decide +kernel)) (fun e12 => ?_)
  refine ite_cong2 (fun e13 => sw_t dL_law__40 (by rw [e13]; decide +kernel)) (fun e13 => ?_)
  refine ite_cong2 (fun e14 => sw_t dL_law__40 (by rw [e14]; decide +kernel)) (fun e14 => ?_)
  refine ite_cong2 (fun e15 => sw_t dL_law__40 (by rw [e15]; decide +kernel)) (fun e15 => ?_)
  refine ite_cong2 (fun e16 => sw_t dL_law__40 (by rw [e16]; decide +kernel)) (fun e16 => ?_)
  refine ite_cong2 (fun e17 => sw_t dL_law__40 (by rw [e17]; decide +kernel)) (fun e17 => ?_)
  refine ite_cong2 (fun e18 => sw_t dL_law__40 (by rw [e18]; decide +kernel)) (fun e18 => ?_)
  refine ite_cong2 (fun e19 => sw_t dL_law__40 (by rw [e19]; decide +kernel)) (fun e19 => ?_)
  refine ite_cong2 (fun e20 => sw_t dL_law__40 (by rw [e20]; decide +kernel)) (fun e20 => ?_)
  refine ite_cong2 (fun e21 => sw_t dL_law__40 (by rw [e21]; decide +kernel)) (fun e21 => ?_)
  refine ite_cong2 (fun e22 => sw_t dL_law__40 (by rw [e22]; decide +kernel)) (fun e22 => ?_)
  refine ite_cong2 (fun e23 => sw_t dL_law__40 (by rw [e23]; decide +kernel)) (fun e23 => ?_)
  refine ite_cong2 (fun e24 => sw_t dL_law__40 (by rw [e24]; decide +kernel)) (fun e24 => ?_)
  refine ite_cong2 (fun e25 => sw_t dL_law__40 (by rw [e25]; decide +kernel)) (fun e25 => ?_)
  refine ite_cong2 (fun e26 => sw_t dL_law__40 (by rw [e26]; decide +kernel)) (fun e26 => ?_)
  refine ite_cong2 (fun e27 => sw_t dL_law__40 (by rw [e27]; decide +kernel)) (fun e27 => ?_)
  refine ite_cong2 (fun e28 => sw_t dL_law__40 (by rw [e28]; decide +kernel)) (fun e28 => ?_)
  refine ite_cong2 (fun e29 => sw_t dL_law__40 (by rw [e29]; decide +kernel)) (fun e29 => ?_)
  refine ite_cong2 (fun e30 => sw_t dL_law__40 (by rw [e30]; decide +kernel)) (fun e30 => ?_)
  refine ite_cong2 (fun e31 => sw_t dL_law__40 (by rw [e31]; decide +kernel)) (fun e31 => ?_)
  refine ite_cong2 (fun e32 => sw_t dL_law__40 (by rw [e32]; decide +kernel)) (fun e32 => ?_)
  refine ite_cong2 (fun e33 => sw_t dL_law__40 (by rw [e33]; decide +kernel)) (fun e33 => ?_)
  refine ite_cong2 (fun e34 => sw_t dL_law__40 (by rw [e34]; decide +kernel)) (fun e34 => ?_)
  refine ite_cong2 (fun e35 => sw_t dL_law__40 (by rw [e35]; decide +kernel)) (fun e35 => ?_)
  refine ite_cong2 (fun e36 => sw_t dL_law__40 (by rw [e36]; decide +kernel)) (fun e36 => ?_)
  refine ite_cong2 (fun e37 => sw_t dL_law__40 (by rw [e37]; decide +kernel)) (fun e37 => ?_)
  exact sw_t dL_law__40 (swT_dflt (vs := [(0 : Int), (1 : Int), (2 : Int), (3 : Int), (4 : Int), (5 : Int), (6 : Int), (7 : Int), (8 : Int), (9 : Int), (10 : Int), (11 : Int), (12 : Int), (13 : Int), (14 : Int), (15 : Int), (16 : Int), (17 : Int), (18 : Int), (19 : Int), (20 : Int), (21 : Int), (22 : Int), (23 : Int), (24 : Int), (25 : Int), (26 : Int), (27 : Int), (28 : Int), (29 : Int), (30 : Int), (31 : Int), (32 : Int), (33 : Int), (34 : Int), (35 : Int), (36 : Int), (37 : Int)]) (by decide +kernel) (fun v hv => by simp only [List.mem_cons, List.not_mem_nil, or_false] at hv; rcases hv with rfl | rfl | rfl | rfl | rfl | rfl | rfl | rfl | rfl | rfl | rfl | rfl | rfl | rfl | rfl | rfl | rfl | rfl | rfl | rfl | rfl | rfl | rfl | rfl | rfl | rfl | rfl | rfl | rfl | rfl | rfl | rfl | rfl | rfl | rfl | rfl | rfl | rfl <;> first | exact ne_toInt (by decide +kernel) e0 | exact ne_toInt (by decide +kernel) e1 | exact ne_toInt (by decide +kernel) e2 | exact ne_toInt (by decide +kernel) e3 | exact ne_toInt (by decide +kernel) e4 | exact ne_toInt (by decide +kernel) e5 | exact ne_toInt (by decide +kernel) e6 | exact ne_toInt (by decide +kernel) e7 | exact ne_toInt (by decide +kernel) e8 | exact ne_toInt (by decide +kernel) e9 | exact ne_toInt (by decide +kernel) e10 | exact ne_toInt (by decide +kernel) e11 | exact ne_toInt (by decide +kernel) e12 | exact ne_toInt (by decide +kernel) e13 | exact ne_toInt (by decide +kernel) e14 | exact ne_toInt (by decide +kernel) e15 | exact ne_toInt (by decide +kernel) e16 | exact ne_toInt (by decide +kernel) e17 | exact ne_toInt (by decide +kernel) e18 | exact ne_toInt (by decide +kernel) e19 | exact ne_toInt (by decide +kernel) e20 | exact ne_toInt (by decide +kernel) e21 | exact ne_toInt (by decide +kernel) e22 | exact ne_toInt (by decide +kernel) e23 | exact ne_toInt (by decide +kernel) e24 | exact ne_toInt (by decide +kernel) e25 | exact ne_toInt (by decide +kernel) e26 | exact ne_toInt (by decide +kernel) e27 | exact ne_toInt (by decide +kernel) e28 | exact ne_toInt (by decide +kernel) e29 | exact ne_toInt (by decide +kernel) e30 | exact ne_toInt (by decide +kernel) e31 | exact ne_toInt (by decide +kernel) e32 | exact ne_toInt (by decide +kernel) e33 | exact ne_toInt (by decide +kernel) e34 | exact ne_toInt (by decide +kernel) e35 | exact ne_toInt (by decide +kernel) e36 | exact ne_toInt (by decide +kernel) e37))
theorem q_L_law__208b {call : CALL} {L X : Nat} {I : Nat → Nat → Int32} {J : Nat → Nat → Int64} {x4 : Int32} {u5 : Option Value} {y6 : Int64} : runI call iLaw (208, [some (.ref 1000000), some (.ref 0), some (.ref 72), some (.ref 632), some (.int x4), u5, some (.long y6), none], [], (mm L X I J)) = gd (inb (x4 + (nI 1)) L) (gd (inb (x4 + (nI 2)) L) (gd (inb (x4 + (nI 3)) L) (gd (inb (x4 + (nI 4)) L) (gd (inb (x4 + (nI 5)) L) (bnd (call nX11_feed [.ref 0, .int (I 1000000 ((x4 + (nI 1))).toNatClampNeg), .int (I 1000000 ((x4 + (nI 2))).toNatClampNeg), .int (I 1000000 ((x4 + (nI 3))).toNatClampNeg), .int (I 1000000 ((x4 + (nI 4))).toNatClampNeg), .int (I 1000000 ((x4 + (nI 5))).toNatClampNeg)] (mm L X I J)) (fun v m' => runI call iLaw (242, [some (.ref 1000000), some (.ref 0), some (.ref 72), some (.ref 632), some (.int x4), u5, some (.long y6), none], v.toList ++ [], m'))))))) := by
  refine Eq.trans (st1 dL_law__208 rfl rfl) ?_
  refine Eq.trans (st1 dL_law__209 rfl rfl) ?_
  refine Eq.trans (st1 dL_law__210 rfl rfl) ?_
  refine Eq.trans (xiconst dL_law__212 ci_1) ?_
  refine Eq.trans (st1 dL_law__213 rfl rfl) ?_
  refine Eq.trans (al5 dL_law__214 kd_XB (by decide)) (gd_congr fun g1 => ?_)
  refine Eq.trans (st1 dL_law__215 rfl rfl) ?_
  refine Eq.trans (st1 dL_law__216 rfl rfl) ?_
  refine Eq.trans (xiconst dL_law__218 ci_2) ?_
  refine Eq.trans (st1 dL_law__219 rfl rfl) ?_
  refine Eq.trans (al5 dL_law__220 kd_XB (by decide)) (gd_congr fun g2 => ?_)
  refine Eq.trans (st1 dL_law__221 rfl rfl) ?_
  refine Eq.trans (st1 dL_law__222 rfl rfl) ?_
  refine Eq.trans (xiconst dL_law__224 ci_3) ?_
  refine Eq.trans (st1 dL_law__225 rfl rfl) ?_
  refine Eq.trans (al5 dL_law__226 kd_XB (by decide)) (gd_congr fun g3 => ?_)
  refine Eq.trans (st1 dL_law__227 rfl rfl) ?_
  refine Eq.trans (st1 dL_law__228 rfl rfl) ?_
  refine Eq.trans (xiconst dL_law__230 ci_4) ?_
  refine Eq.trans (st1 dL_law__231 rfl rfl) ?_
  refine Eq.trans (al5 dL_law__232 kd_XB (by decide)) (gd_congr fun g4 => ?_)
  refine Eq.trans (st1 dL_law__233 rfl rfl) ?_
  refine Eq.trans (st1 dL_law__234 rfl rfl) ?_
  refine Eq.trans (xiconst dL_law__236 ci_5) ?_
  refine Eq.trans (st1 dL_law__237 rfl rfl) ?_
  refine Eq.trans (al5 dL_law__238 kd_XB (by decide)) (gd_congr fun g5 => ?_)
  exact iv0 dL_law__239 rfl cp_13_116 rfl rfl (kd_ka ka_0) ka_0.1 (Nat.le_of_ble_eq_true rfl)
theorem q_L_law__281b {call : CALL} {L X : Nat} {I : Nat → Nat → Int32} {J : Nat → Nat → Int64} {x4 : Int32} {u5 : Option Value} {y6 : Int64} : runI call iLaw (281, [some (.ref 1000000), some (.ref 0), some (.ref 72), some (.ref 632), some (.int x4), u5, some (.long y6), none], [], (mm L X I J)) = gd (inb (x4 + (nI 1)) L) (bndN (call nL_house [.ref 0, .int (I 1000000 ((x4 + (nI 1))).toNatClampNeg), .ref 632] (mm L X I J)) (fun v m' => runI call iLaw (292, [some (.ref 1000000), some (.ref 0), some (.ref 72), some (.ref 632), some (.int x4), u5, some (.long y6), none], v.toList ++ [], m'))) := by
  refine Eq.trans (st1 dL_law__281 rfl rfl) ?_
  refine Eq.trans (st1 dL_law__282 rfl rfl) ?_
  refine Eq.trans (st1 dL_law__283 rfl rfl) ?_
  refine Eq.trans (xiconst dL_law__285 ci_1) ?_
  refine Eq.trans (st1 dL_law__286 rfl rfl) ?_
  refine Eq.trans (al5 dL_law__287 kd_XB (by decide)) (gd_congr fun g1 => ?_)
  refine Eq.trans (st1 dL_law__288 rfl rfl) ?_
  exact is2 dL_law__289 cp_13_121 (Nat.le_of_ble_eq_true rfl) rfl rfl (Nat.le_of_ble_eq_true rfl)
theorem q_L_law__337b {call : CALL} {L X : Nat} {I : Nat → Nat → Int32} {J : Nat → Nat → Int64} {x4 : Int32} {u5 : Option Value} {y6 : Int64} : runI call iLaw (337, [some (.ref 1000000), some (.ref 0), some (.ref 72), some (.ref 632), some (.int x4), u5, some (.long y6), none], [], (mm L X I J)) = gd (inb (x4 + (nI 1)) L) (bndN (call nL_law [.ref 0, .int (I 1000000 ((x4 + (nI 1))).toNatClampNeg), .ref 632] (mm L X I J)) (fun v m' => runI call iLaw (348, [some (.ref 1000000), some (.ref 0), some (.ref 72), some (.ref 632), some (.int x4), u5, some (.long y6), none], v.toList ++ [], m'))) := by
  refine Eq.trans (st1 dL_law__337 rfl rfl) ?_
  refine Eq.trans (st1 dL_law__338 rfl rfl) ?_
  refine Eq.trans (st1 dL_law__339 rfl rfl) ?_
  refine Eq.trans (xiconst dL_law__341 ci_1) ?_
  refine Eq.trans (st1 dL_law__342 rfl rfl) ?_
  refine Eq.trans (al5 dL_law__343 kd_XB (by decide)) (gd_congr fun g1 => ?_)
  refine Eq.trans (st1 dL_law__344 rfl rfl) ?_
  exact is2 dL_law__345 cp_13_131 (Nat.le_of_ble_eq_true rfl) rfl rfl (Nat.le_of_ble_eq_true rfl)
theorem q_L_law__393b {call : CALL} {L X : Nat} {I : Nat → Nat → Int32} {J : Nat → Nat → Int64} {x4 : Int32} {u5 : Option Value} {y6 : Int64} : runI call iLaw (393, [some (.ref 1000000), some (.ref 0), some (.ref 72), some (.ref 632), some (.int x4), u5, some (.long y6), none], [], (mm L X I J)) = gd (inb (x4 + (nI 1)) L) (bndN (call nL_work [.ref 0, .int (I 1000000 ((x4 + (nI 1))).toNatClampNeg), .ref 632] (mm L X I J)) (fun v m' => runI call iLaw (404, [some (.ref 1000000), some (.ref 0), some (.ref 72), some (.ref 632), some (.int x4), u5, some (.long y6), none], v.toList ++ [], m'))) := by
  refine Eq.trans (st1 dL_law__393 rfl rfl) ?_
  refine Eq.trans (st1 dL_law__394 rfl rfl) ?_
  refine Eq.trans (st1 dL_law__395 rfl rfl) ?_
  refine Eq.trans (xiconst dL_law__397 ci_1) ?_
  refine Eq.trans (st1 dL_law__398 rfl rfl) ?_
  refine Eq.trans (al5 dL_law__399 kd_XB (by decide)) (gd_congr fun g1 => ?_)
  refine Eq.trans (st1 dL_law__400 rfl rfl) ?_
  exact is2 dL_law__401 cp_13_134 (Nat.le_of_ble_eq_true rfl) rfl rfl (Nat.le_of_ble_eq_true rfl)
theorem q_L_law__449b {call : CALL} {L X : Nat} {I : Nat → Nat → Int32} {J : Nat → Nat → Int64} {x4 : Int32} {u5 : Option Value} {y6 : Int64} : runI call iLaw (449, [some (.ref 1000000), some (.ref 0), some (.ref 72), some (.ref 632), some (.int x4), u5, some (.long y6), none], [], (mm L X I J)) = gd (inb (x4 + (nI 1)) L) (bndN (call nL_book [.ref 0, .int (I 1000000 ((x4 + (nI 1))).toNatClampNeg), .ref 632] (mm L X I J)) (fun v m' => runI call iLaw (460, [some (.ref 1000000), some (.ref 0), some (.ref 72), some (.ref 632), some (.int x4), u5, some (.long y6), none], v.toList ++ [], m'))) := by
  refine Eq.trans (st1 dL_law__449 rfl rfl) ?_
  refine Eq.trans (st1 dL_law__450 rfl rfl) ?_
  refine Eq.trans (st1 dL_law__451 rfl rfl) ?_
  refine Eq.trans (xiconst dL_law__453 ci_1) ?_
  refine Eq.trans (st1 dL_law__454 rfl rfl) ?_
  refine Eq.trans (al5 dL_law__455 kd_XB (by decide)) (gd_congr fun g1 => ?_)
  refine Eq.trans (st1 dL_law__456 rfl rfl) ?_
  exact is2 dL_law__457 cp_13_137 (Nat.le_of_ble_eq_true rfl) rfl rfl (Nat.le_of_ble_eq_true rfl)
theorem q_L_law__505b {call : CALL} {L X : Nat} {I : Nat → Nat → Int32} {J : Nat → Nat → Int64} {x4 : Int32} {u5 : Option Value} {y6 : Int64} : runI call iLaw (505, [some (.ref 1000000), some (.ref 0), some (.ref 72), some (.ref 632), some (.int x4), u5, some (.long y6), none], [], (mm L X I J)) = bnd (call nX11_fault [.ref 0] (mm L X I J)) (fun v m' => runI call iLaw (509, [some (.ref 1000000), some (.ref 0), some (.ref 72), some (.ref 632), some (.int x4), u5, some (.long y6), none], v.toList ++ [], m')) := by
  refine Eq.trans (st1 dL_law__505 rfl rfl) ?_
  exact iv0 dL_law__506 rfl cp_13_140 rfl rfl (kd_ka ka_0) ka_0.1 (Nat.le_of_ble_eq_true rfl)
theorem q_L_law__518b {call : CALL} {L X : Nat} {I : Nat → Nat → Int32} {J : Nat → Nat → Int64} {x4 : Int32} {u5 : Option Value} {y6 : Int64} : runI call iLaw (518, [some (.ref 1000000), some (.ref 0), some (.ref 72), some (.ref 632), some (.int x4), u5, some (.long y6), none], [], (mm L X I J)) = bnd (call nX11_undo [.ref 0] (mm L X I J)) (fun v m' => runI call iLaw (522, [some (.ref 1000000), some (.ref 0), some (.ref 72), some (.ref 632), some (.int x4), u5, some (.long y6), none], v.toList ++ [], m')) := by
  refine Eq.trans (st1 dL_law__518 rfl rfl) ?_
  exact iv0 dL_law__519 rfl cp_13_144 rfl rfl (kd_ka ka_0) ka_0.1 (Nat.le_of_ble_eq_true rfl)
theorem q_L_law__531b {call : CALL} {L X : Nat} {I : Nat → Nat → Int32} {J : Nat → Nat → Int64} {x4 : Int32} {u5 : Option Value} {y6 : Int64} : runI call iLaw (531, [some (.ref 1000000), some (.ref 0), some (.ref 72), some (.ref 632), some (.int x4), u5, some (.long y6), none], [], (mm L X I J)) = gd (inb (x4 + (nI 1)) L) (bndN (call nL_told [.ref 0, .int (I 1000000 ((x4 + (nI 1))).toNatClampNeg), .ref 632] (mm L X I J)) (fun v m' => runI call iLaw (542, [some (.ref 1000000), some (.ref 0), some (.ref 72), some (.ref 632), some (.int x4), u5, some (.long y6), none], v.toList ++ [], m'))) := by
  refine Eq.trans (st1 dL_law__531 rfl rfl) ?_
  refine Eq.trans (st1 dL_law__532 rfl rfl) ?_
  refine Eq.trans (st1 dL_law__533 rfl rfl) ?_
  refine Eq.trans (xiconst dL_law__535 ci_1) ?_
  refine Eq.trans (st1 dL_law__536 rfl rfl) ?_
  refine Eq.trans (al5 dL_law__537 kd_XB (by decide)) (gd_congr fun g1 => ?_)
  refine Eq.trans (st1 dL_law__538 rfl rfl) ?_
  exact is2 dL_law__539 cp_13_148 (Nat.le_of_ble_eq_true rfl) rfl rfl (Nat.le_of_ble_eq_true rfl)
theorem q_L_law__587b {call : CALL} {L X : Nat} {I : Nat → Nat → Int32} {J : Nat → Nat → Int64} {x4 : Int32} {u5 : Option Value} {y6 : Int64} : runI call iLaw (587, [some (.ref 1000000), some (.ref 0), some (.ref 72), some (.ref 632), some (.int x4), u5, some (.long y6), none], [], (mm L X I J)) = gd (inb (x4 + (nI 1)) L) (gd (inb (x4 + (nI 2)) L) (bndN (call nL_piece [.ref 0, .int (I 1000000 ((x4 + (nI 1))).toNatClampNeg), .int (I 1000000 ((x4 + (nI 2))).toNatClampNeg), .ref 632] (mm L X I J)) (fun v m' => runI call iLaw (604, [some (.ref 1000000), some (.ref 0), some (.ref 72), some (.ref 632), some (.int x4), u5, some (.long y6), none], v.toList ++ [], m')))) := by
  refine Eq.trans (st1 dL_law__587 rfl rfl) ?_
  refine Eq.trans (st1 dL_law__588 rfl rfl) ?_
  refine Eq.trans (st1 dL_law__589 rfl rfl) ?_
  refine Eq.trans (xiconst dL_law__591 ci_1) ?_
  refine Eq.trans (st1 dL_law__592 rfl rfl) ?_
  refine Eq.trans (al5 dL_law__593 kd_XB (by decide)) (gd_congr fun g1 => ?_)
  refine Eq.trans (st1 dL_law__594 rfl rfl) ?_
  refine Eq.trans (st1 dL_law__595 rfl rfl) ?_
  refine Eq.trans (xiconst dL_law__597 ci_2) ?_
  refine Eq.trans (st1 dL_law__598 rfl rfl) ?_
  refine Eq.trans (al5 dL_law__599 kd_XB (by decide)) (gd_congr fun g2 => ?_)
  refine Eq.trans (st1 dL_law__600 rfl rfl) ?_
  exact is2 dL_law__601 cp_13_151 (Nat.le_of_ble_eq_true rfl) rfl rfl (Nat.le_of_ble_eq_true rfl)
theorem q_L_law__655b {call : CALL} {L X : Nat} {I : Nat → Nat → Int32} {J : Nat → Nat → Int64} {x4 : Int32} {u5 : Option Value} {y6 : Int64} : runI call iLaw (655, [some (.ref 1000000), some (.ref 0), some (.ref 72), some (.ref 632), some (.int x4), u5, some (.long y6), none], [], (mm L X I J)) = gd (inb (x4 + (nI 1)) L) (gd (inb (x4 + (nI 2)) L) (bndN (call nL_collar [.ref 0, .int (I 1000000 ((x4 + (nI 1))).toNatClampNeg), .int (I 1000000 ((x4 + (nI 2))).toNatClampNeg), .ref 632] (mm L X I J)) (fun v m' => runI call iLaw (672, [some (.ref 1000000), some (.ref 0), some (.ref 72), some (.ref 632), some (.int x4), u5, some (.long y6), none], v.toList ++ [], m')))) := by
  refine Eq.trans (st1 dL_law__655 rfl rfl) ?_
  refine Eq.trans (st1 dL_law__656 rfl rfl) ?_
  refine Eq.trans (st1 dL_law__657 rfl rfl) ?_
  refine Eq.trans (xiconst dL_law__659 ci_1) ?_
  refine Eq.trans (st1 dL_law__660 rfl rfl) ?_
  refine Eq.trans (al5 dL_law__661 kd_XB (by decide)) (gd_congr fun g1 => ?_)
  refine Eq.trans (st1 dL_law__662 rfl rfl) ?_
  refine Eq.trans (st1 dL_law__663 rfl rfl) ?_
  refine Eq.trans (xiconst dL_law__665 ci_2) ?_
  refine Eq.trans (st1 dL_law__666 rfl rfl) ?_
  refine Eq.trans (al5 dL_law__667 kd_XB (by decide)) (gd_congr fun g2 => ?_)
  refine Eq.trans (st1 dL_law__668 rfl rfl) ?_
  exact is2 dL_law__669 cp_13_155 (Nat.le_of_ble_eq_true rfl) rfl rfl (Nat.le_of_ble_eq_true rfl)
theorem q_L_law__723b {call : CALL} {L X : Nat} {I : Nat → Nat → Int32} {J : Nat → Nat → Int64} {x4 : Int32} {u5 : Option Value} {y6 : Int64} : runI call iLaw (723, [some (.ref 1000000), some (.ref 0), some (.ref 72), some (.ref 632), some (.int x4), u5, some (.long y6), none], [], (mm L X I J)) = gd (inb (x4 + (nI 1)) L) (gd (inb (x4 + (nI 2)) L) (bndN (call nL_fire [.ref 0, .int (I 1000000 ((x4 + (nI 1))).toNatClampNeg), .int (I 1000000 ((x4 + (nI 2))).toNatClampNeg), .ref 632] (mm L X I J)) (fun v m' => runI call iLaw (740, [some (.ref 1000000), some (.ref 0), some (.ref 72), some (.ref 632), some (.int x4), u5, some (.long y6), none], v.toList ++ [], m')))) := by
  refine Eq.trans (st1 dL_law__723 rfl rfl) ?_
  refine Eq.trans (st1 dL_law__724 rfl rfl) ?_
  refine Eq.trans (st1 dL_law__725 rfl rfl) ?_
  refine Eq.trans (xiconst dL_law__727 ci_1) ?_
  refine Eq.trans (st1 dL_law__728 rfl rfl) ?_
  refine Eq.trans (al5 dL_law__729 kd_XB (by decide)) (gd_congr fun g1 => ?_)
  refine Eq.trans (st1 dL_law__730 rfl rfl) ?_
  refine Eq.trans (st1 dL_law__731 rfl rfl) ?_
  refine Eq.trans (xiconst dL_law__733 ci_2) ?_
  refine Eq.trans (st1 dL_law__734 rfl rfl) ?_
  refine Eq.trans (al5 dL_law__735 kd_XB (by decide)) (gd_congr fun g2 => ?_)
  refine Eq.trans (st1 dL_law__736 rfl rfl) ?_
  exact is2 dL_law__737 cp_13_158 (Nat.le_of_ble_eq_true rfl) rfl rfl (Nat.le_of_ble_eq_true rfl)
theorem q_L_law__791b {call : CALL} {L X : Nat} {I : Nat → Nat → Int32} {J : Nat → Nat → Int64} {x4 : Int32} {u5 : Option Value} {y6 : Int64} : runI call iLaw (791, [some (.ref 1000000), some (.ref 0), some (.ref 72), some (.ref 632), some (.int x4), u5, some (.long y6), none], [], (mm L X I J)) = gd (inb (x4 + (nI 1)) L) (bndN (call nL_row [.ref 0, .int (I 1000000 ((x4 + (nI 1))).toNatClampNeg), .ref 632] (mm L X I J)) (fun v m' => runI call iLaw (802, [some (.ref 1000000), some (.ref 0), some (.ref 72), some (.ref 632), some (.int x4), u5, some (.long y6), none], v.toList ++ [], m'))) := by
  refine Eq.trans (st1 dL_law__791 rfl rfl) ?_
  refine Eq.trans (st1 dL_law__792 rfl rfl) ?_
  refine Eq.trans (st1 dL_law__793 rfl rfl) ?_
  refine Eq.trans (xiconst dL_law__795 ci_1) ?_
  refine Eq.trans (st1 dL_law__796 rfl rfl) ?_
  refine Eq.trans (al5 dL_law__797 kd_XB (by decide)) (gd_congr fun g1 => ?_)
  refine Eq.trans (st1 dL_law__798 rfl rfl) ?_
  exact is2 dL_law__799 cp_13_161 (Nat.le_of_ble_eq_true rfl) rfl rfl (Nat.le_of_ble_eq_true rfl)
theorem q_L_law__847b {call : CALL} {L X : Nat} {I : Nat → Nat → Int32} {J : Nat → Nat → Int64} {x4 : Int32} {u5 : Option Value} {y6 : Int64} : runI call iLaw (847, [some (.ref 1000000), some (.ref 0), some (.ref 72), some (.ref 632), some (.int x4), u5, some (.long y6), none], [], (mm L X I J)) = gd (inb (x4 + (nI 1)) L) (bndN (call nL_behind [.ref 0, .int (I 1000000 ((x4 + (nI 1))).toNatClampNeg), .ref 632] (mm L X I J)) (fun v m' => runI call iLaw (858, [some (.ref 1000000), some (.ref 0), some (.ref 72), some (.ref 632), some (.int x4), u5, some (.long y6), none], v.toList ++ [], m'))) := by
  refine Eq.trans (st1 dL_law__847 rfl rfl) ?_
  refine Eq.trans (st1 dL_law__848 rfl rfl) ?_
  refine Eq.trans (st1 dL_law__849 rfl rfl) ?_
  refine Eq.trans (xiconst dL_law__851 ci_1) ?_
  refine Eq.trans (st1 dL_law__852 rfl rfl) ?_
  refine Eq.trans (al5 dL_law__853 kd_XB (by decide)) (gd_congr fun g1 => ?_)
  refine Eq.trans (st1 dL_law__854 rfl rfl) ?_
  exact is2 dL_law__855 cp_13_164 (Nat.le_of_ble_eq_true rfl) rfl rfl (Nat.le_of_ble_eq_true rfl)
theorem q_L_law__903b {call : CALL} {L X : Nat} {I : Nat → Nat → Int32} {J : Nat → Nat → Int64} {x4 : Int32} {u5 : Option Value} {y6 : Int64} : runI call iLaw (903, [some (.ref 1000000), some (.ref 0), some (.ref 72), some (.ref 632), some (.int x4), u5, some (.long y6), none], [], (mm L X I J)) = gd (inb (x4 + (nI 1)) L) (gd (inb (x4 + (nI 2)) L) (gd (inb (x4 + (nI 3)) L) (gd (inb (x4 + (nI 4)) L) (gd (inb (x4 + (nI 5)) L) (gd (inb (x4 + (nI 6)) L) (gd (inb (x4 + (nI 7)) L) (gd (inb (x4 + (nI 8)) L) (gd (inb (x4 + (nI 9)) L) (bndN (call nL_would [.ref 0, .int (I 1000000 ((x4 + (nI 1))).toNatClampNeg), .int (I 1000000 ((x4 + (nI 2))).toNatClampNeg), .int (I 1000000 ((x4 + (nI 3))).toNatClampNeg), .int (I 1000000 ((x4 + (nI 4))).toNatClampNeg), .int (I 1000000 ((x4 + (nI 5))).toNatClampNeg), .int (I 1000000 ((x4 + (nI 6))).toNatClampNeg), .int (I 1000000 ((x4 + (nI 7))).toNatClampNeg), .int (I 1000000 ((x4 + (nI 8))).toNatClampNeg), .int (I 1000000 ((x4 + (nI 9))).toNatClampNeg), .ref 632] (mm L X I J)) (fun v m' => runI call iLaw (966, [some (.ref 1000000), some (.ref 0), some (.ref 72), some (.ref 632), some (.int x4), u5, some (.long y6), none], v.toList ++ [], m'))))))))))) := by
  refine Eq.trans (st1 dL_law__903 rfl rfl) ?_
  refine Eq.trans (st1 dL_law__904 rfl rfl) ?_
  refine Eq.trans (st1 dL_law__905 rfl rfl) ?_
  refine Eq.trans (xiconst dL_law__907 ci_1) ?_
  refine Eq.trans (st1 dL_law__908 rfl rfl) ?_
  refine Eq.trans (al5 dL_law__909 kd_XB (by decide)) (gd_congr fun g1 => ?_)
  refine Eq.trans (st1 dL_law__910 rfl rfl) ?_
  refine Eq.trans (st1 dL_law__911 rfl rfl) ?_
  refine Eq.trans (xiconst dL_law__913 ci_2) ?_
  refine Eq.trans (st1 dL_law__914 rfl rfl) ?_
  refine Eq.trans (al5 dL_law__915 kd_XB (by decide)) (gd_congr fun g2 => ?_)
  refine Eq.trans (st1 dL_law__916 rfl rfl) ?_
  refine Eq.trans (st1 dL_law__917 rfl rfl) ?_
  refine Eq.trans (xiconst dL_law__919 ci_3) ?_
  refine Eq.trans (st1 dL_law__920 rfl rfl) ?_
  refine Eq.trans (al5 dL_law__921 kd_XB (by decide)) (gd_congr fun g3 => ?_)
  refine Eq.trans (st1 dL_law__922 rfl rfl) ?_
  refine Eq.trans (st1 dL_law__923 rfl rfl) ?_
  refine Eq.trans (xiconst dL_law__925 ci_4) ?_
  refine Eq.trans (st1 dL_law__926 rfl rfl) ?_
  refine Eq.trans (al5 dL_law__927 kd_XB (by decide)) (gd_congr fun g4 => ?_)
  refine Eq.trans (st1 dL_law__928 rfl rfl) ?_
  refine Eq.trans (st1 dL_law__929 rfl rfl) ?_
  refine Eq.trans (xiconst dL_law__931 ci_5) ?_
  refine Eq.trans (st1 dL_law__932 rfl rfl) ?_
  refine Eq.trans (al5 dL_law__933 kd_XB (by decide)) (gd_congr fun g5 => ?_)
  refine Eq.trans (st1 dL_law__934 rfl rfl) ?_
  refine Eq.trans (st1 dL_law__935 rfl rfl) ?_
  refine Eq.trans (xbipush dL_law__937 cb_6) ?_
  refine Eq.trans (st1 dL_law__939 rfl rfl) ?_
  refine Eq.trans (al5 dL_law__940 kd_XB (by decide)) (gd_congr fun g6 => ?_)
  refine Eq.trans (st1 dL_law__941 rfl rfl) ?_
  refine Eq.trans (st1 dL_law__942 rfl rfl) ?_
  refine Eq.trans (xbipush dL_law__944 cb_7) ?_
  refine Eq.trans (st1 dL_law__946 rfl rfl) ?_
  refine Eq.trans (al5 dL_law__947 kd_XB (by decide)) (gd_congr fun g7 => ?_)
  refine Eq.trans (st1 dL_law__948 rfl rfl) ?_
  refine Eq.trans (st1 dL_law__949 rfl rfl) ?_
  refine Eq.trans (xbipush dL_law__951 cb_8) ?_
  refine Eq.trans (st1 dL_law__953 rfl rfl) ?_
  refine Eq.trans (al5 dL_law__954 kd_XB (by decide)) (gd_congr fun g8 => ?_)
  refine Eq.trans (st1 dL_law__955 rfl rfl) ?_
  refine Eq.trans (st1 dL_law__956 rfl rfl) ?_
  refine Eq.trans (xbipush dL_law__958 cb_9) ?_
  refine Eq.trans (st1 dL_law__960 rfl rfl) ?_
  refine Eq.trans (al5 dL_law__961 kd_XB (by decide)) (gd_congr fun g9 => ?_)
  refine Eq.trans (st1 dL_law__962 rfl rfl) ?_
  exact is2 dL_law__963 cp_13_167 (Nat.le_of_ble_eq_true rfl) rfl rfl (Nat.le_of_ble_eq_true rfl)
theorem q_L_law__1063b {call : CALL} {L X : Nat} {I : Nat → Nat → Int32} {J : Nat → Nat → Int64} {x4 : Int32} {u5 : Option Value} {y6 : Int64} : runI call iLaw (1063, [some (.ref 1000000), some (.ref 0), some (.ref 72), some (.ref 632), some (.int x4), u5, some (.long y6), none], [], (mm L X I J)) = gd (inb (x4 + (nI 1)) L) (gd (inb (x4 + (nI 2)) L) (bndN (call nL_fits [.ref 0, .int (I 1000000 ((x4 + (nI 1))).toNatClampNeg), .int (I 1000000 ((x4 + (nI 2))).toNatClampNeg), .ref 632] (mm L X I J)) (fun v m' => runI call iLaw (1080, [some (.ref 1000000), some (.ref 0), some (.ref 72), some (.ref 632), some (.int x4), u5, some (.long y6), none], v.toList ++ [], m')))) := by
  refine Eq.trans (st1 dL_law__1063 rfl rfl) ?_
  refine Eq.trans (st1 dL_law__1064 rfl rfl) ?_
  refine Eq.trans (st1 dL_law__1065 rfl rfl) ?_
  refine Eq.trans (xiconst dL_law__1067 ci_1) ?_
  refine Eq.trans (st1 dL_law__1068 rfl rfl) ?_
  refine Eq.trans (al5 dL_law__1069 kd_XB (by decide)) (gd_congr fun g1 => ?_)
  refine Eq.trans (st1 dL_law__1070 rfl rfl) ?_
  refine Eq.trans (st1 dL_law__1071 rfl rfl) ?_
  refine Eq.trans (xiconst dL_law__1073 ci_2) ?_
  refine Eq.trans (st1 dL_law__1074 rfl rfl) ?_
  refine Eq.trans (al5 dL_law__1075 kd_XB (by decide)) (gd_congr fun g2 => ?_)
  refine Eq.trans (st1 dL_law__1076 rfl rfl) ?_
  exact is2 dL_law__1077 cp_13_171 (Nat.le_of_ble_eq_true rfl) rfl rfl (Nat.le_of_ble_eq_true rfl)
theorem q_L_law__1138b {call : CALL} {L X : Nat} {I : Nat → Nat → Int32} {J : Nat → Nat → Int64} {x4 : Int32} {u5 : Option Value} {y6 : Int64} : runI call iLaw (1138, [some (.ref 1000000), some (.ref 0), some (.ref 72), some (.ref 632), some (.int x4), u5, some (.long y6), none], [], (mm L X I J)) = gd (inb (x4 + (nI 1)) L) (bndN (call nL_can [.ref 0, .int (I 1000000 ((x4 + (nI 1))).toNatClampNeg), .ref 632] (mm L X I J)) (fun v m' => runI call iLaw (1149, [some (.ref 1000000), some (.ref 0), some (.ref 72), some (.ref 632), some (.int x4), u5, some (.long y6), none], v.toList ++ [], m'))) := by
  refine Eq.trans (st1 dL_law__1138 rfl rfl) ?_
  refine Eq.trans (st1 dL_law__1139 rfl rfl) ?_
  refine Eq.trans (st1 dL_law__1140 rfl rfl) ?_
  refine Eq.trans (xiconst dL_law__1142 ci_1) ?_
  refine Eq.trans (st1 dL_law__1143 rfl rfl) ?_
  refine Eq.trans (al5 dL_law__1144 kd_XB (by decide)) (gd_congr fun g1 => ?_)
  refine Eq.trans (st1 dL_law__1145 rfl rfl) ?_
  exact is2 dL_law__1146 cp_13_174 (Nat.le_of_ble_eq_true rfl) rfl rfl (Nat.le_of_ble_eq_true rfl)
theorem q_L_law__1201b {call : CALL} {L X : Nat} {I : Nat → Nat → Int32} {J : Nat → Nat → Int64} {x4 : Int32} {u5 : Option Value} {y6 : Int64} : runI call iLaw (1201, [some (.ref 1000000), some (.ref 0), some (.ref 72), some (.ref 632), some (.int x4), u5, some (.long y6), none], [], (mm L X I J)) = gd (inb (x4 + (nI 1)) L) (bndN (call nL_ahead [.ref 0, .int (I 1000000 ((x4 + (nI 1))).toNatClampNeg), .ref 632] (mm L X I J)) (fun v m' => runI call iLaw (1212, [some (.ref 1000000), some (.ref 0), some (.ref 72), some (.ref 632), some (.int x4), u5, some (.long y6), none], v.toList ++ [], m'))) := by
  refine Eq.trans (st1 dL_law__1201 rfl rfl) ?_
  refine Eq.trans (st1 dL_law__1202 rfl rfl) ?_
  refine Eq.trans (st1 dL_law__1203 rfl rfl) ?_
  refine Eq.trans (xiconst dL_law__1205 ci_1) ?_
  refine Eq.trans (st1 dL_law__1206 rfl rfl) ?_
  refine Eq.trans (al5 dL_law__1207 kd_XB (by decide)) (gd_congr fun g1 => ?_)
  refine Eq.trans (st1 dL_law__1208 rfl rfl) ?_
  exact is2 dL_law__1209 cp_13_177 (Nat.le_of_ble_eq_true rfl) rfl rfl (Nat.le_of_ble_eq_true rfl)
theorem q_L_law__1257b {call : CALL} {L X : Nat} {I : Nat → Nat → Int32} {J : Nat → Nat → Int64} {x4 : Int32} {u5 : Option Value} {y6 : Int64} : runI call iLaw (1257, [some (.ref 1000000), some (.ref 0), some (.ref 72), some (.ref 632), some (.int x4), u5, some (.long y6), none], [], (mm L X I J)) = gd (inb (x4 + (nI 1)) L) (bndN (call nL_chain [.ref 0, .int (I 1000000 ((x4 + (nI 1))).toNatClampNeg), .ref 632] (mm L X I J)) (fun v m' => runI call iLaw (1268, [some (.ref 1000000), some (.ref 0), some (.ref 72), some (.ref 632), some (.int x4), u5, some (.long y6), none], v.toList ++ [], m'))) := by
  refine Eq.trans (st1 dL_law__1257 rfl rfl) ?_
  refine Eq.trans (st1 dL_law__1258 rfl rfl) ?_
  refine Eq.trans (st1 dL_law__1259 rfl rfl) ?_
  refine Eq.trans (xiconst dL_law__1261 ci_1) ?_
  refine Eq.trans (st1 dL_law__1262 rfl rfl) ?_
  refine Eq.trans (al5 dL_law__1263 kd_XB (by decide)) (gd_congr fun g1 => ?_)
  refine Eq.trans (st1 dL_law__1264 rfl rfl) ?_
  exact is2 dL_law__1265 cp_13_180 (Nat.le_of_ble_eq_true rfl) rfl rfl (Nat.le_of_ble_eq_true rfl)
theorem q_L_law__1313b {call : CALL} {L X : Nat} {I : Nat → Nat → Int32} {J : Nat → Nat → Int64} {x4 : Int32} {u5 : Option Value} {y6 : Int64} : runI call iLaw (1313, [some (.ref 1000000), some (.ref 0), some (.ref 72), some (.ref 632), some (.int x4), u5, some (.long y6), none], [], (mm L X I J)) = gd (inb (x4 + (nI 1)) L) (bndN (call nL_chained [.ref 0, .int (I 1000000 ((x4 + (nI 1))).toNatClampNeg), .ref 632] (mm L X I J)) (fun v m' => runI call iLaw (1324, [some (.ref 1000000), some (.ref 0), some (.ref 72), some (.ref 632), some (.int x4), u5, some (.long y6), none], v.toList ++ [], m'))) := by
  refine Eq.trans (st1 dL_law__1313 rfl rfl) ?_
  refine Eq.trans (st1 dL_law__1314 rfl rfl) ?_
  refine Eq.trans (st1 dL_law__1315 rfl rfl) ?_
  refine Eq.trans (xiconst dL_law__1317 ci_1) ?_
  refine Eq.trans (st1 dL_law__1318 rfl rfl) ?_
  refine Eq.trans (al5 dL_law__1319 kd_XB (by decide)) (gd_congr fun g1 => ?_)
  refine Eq.trans (st1 dL_law__1320 rfl rfl) ?_
  exact is2 dL_law__1321 cp_13_183 (Nat.le_of_ble_eq_true rfl) rfl rfl (Nat.le_of_ble_eq_true rfl)
theorem q_L_law__1369b {call : CALL} {L X : Nat} {I : Nat → Nat → Int32} {J : Nat → Nat → Int64} {x4 : Int32} {u5 : Option Value} {y6 : Int64} : runI call iLaw (1369, [some (.ref 1000000), some (.ref 0), some (.ref 72), some (.ref 632), some (.int x4), u5, some (.long y6), none], [], (mm L X I J)) = gd (inb (x4 + (nI 1)) L) (bndN (call nL_brief [.ref 0, .int (I 1000000 ((x4 + (nI 1))).toNatClampNeg), .ref 632] (mm L X I J)) (fun v m' => runI call iLaw (1380, [some (.ref 1000000), some (.ref 0), some (.ref 72), some (.ref 632), some (.int x4), u5, some (.long y6), none], v.toList ++ [], m'))) := by
  refine Eq.trans (st1 dL_law__1369 rfl rfl) ?_
  refine Eq.trans (st1 dL_law__1370 rfl rfl) ?_
  refine Eq.trans (st1 dL_law__1371 rfl rfl) ?_
  refine Eq.trans (xiconst dL_law__1373 ci_1) ?_
  refine Eq.trans (st1 dL_law__1374 rfl rfl) ?_
  refine Eq.trans (al5 dL_law__1375 kd_XB (by decide)) (gd_congr fun g1 => ?_)
  refine Eq.trans (st1 dL_law__1376 rfl rfl) ?_
  exact is2 dL_law__1377 cp_13_186 (Nat.le_of_ble_eq_true rfl) rfl rfl (Nat.le_of_ble_eq_true rfl)
theorem q_L_law__1425b {call : CALL} {L X : Nat} {I : Nat → Nat → Int32} {J : Nat → Nat → Int64} {x4 : Int32} {u5 : Option Value} {y6 : Int64} : runI call iLaw (1425, [some (.ref 1000000), some (.ref 0), some (.ref 72), some (.ref 632), some (.int x4), u5, some (.long y6), none], [], (mm L X I J)) = gd (inb (x4 + (nI 1)) L) (gd (inb (x4 + (nI 2)) L) (bndN (call nL_briefly [.ref 0, .int (I 1000000 ((x4 + (nI 1))).toNatClampNeg), .int (I 1000000 ((x4 + (nI 2))).toNatClampNeg), .ref 632] (mm L X I J)) (fun v m' => runI call iLaw (1442, [some (.ref 1000000), some (.ref 0), some (.ref 72), some (.ref 632), some (.int x4), u5, some (.long y6), none], v.toList ++ [], m')))) := by
  refine Eq.trans (st1 dL_law__1425 rfl rfl) ?_
  refine Eq.trans (st1 dL_law__1426 rfl rfl) ?_
  refine Eq.trans (st1 dL_law__1427 rfl rfl) ?_
  refine Eq.trans (xiconst dL_law__1429 ci_1) ?_
  refine Eq.trans (st1 dL_law__1430 rfl rfl) ?_
  refine Eq.trans (al5 dL_law__1431 kd_XB (by decide)) (gd_congr fun g1 => ?_)
  refine Eq.trans (st1 dL_law__1432 rfl rfl) ?_
  refine Eq.trans (st1 dL_law__1433 rfl rfl) ?_
  refine Eq.trans (xiconst dL_law__1435 ci_2) ?_
  refine Eq.trans (st1 dL_law__1436 rfl rfl) ?_
  refine Eq.trans (al5 dL_law__1437 kd_XB (by decide)) (gd_congr fun g2 => ?_)
  refine Eq.trans (st1 dL_law__1438 rfl rfl) ?_
  exact is2 dL_law__1439 cp_13_189 (Nat.le_of_ble_eq_true rfl) rfl rfl (Nat.le_of_ble_eq_true rfl)
theorem q_L_law__1493b {call : CALL} {L X : Nat} {I : Nat → Nat → Int32} {J : Nat → Nat → Int64} {x4 : Int32} {u5 : Option Value} {y6 : Int64} : runI call iLaw (1493, [some (.ref 1000000), some (.ref 0), some (.ref 72), some (.ref 632), some (.int x4), u5, some (.long y6), none], [], (mm L X I J)) = gd (inb (x4 + (nI 1)) L) (bndN (call nL_joiner [.ref 0, .int (I 1000000 ((x4 + (nI 1))).toNatClampNeg), .ref 632] (mm L X I J)) (fun v m' => runI call iLaw (1504, [some (.ref 1000000), some (.ref 0), some (.ref 72), some (.ref 632), some (.int x4), u5, some (.long y6), none], v.toList ++ [], m'))) := by
  refine Eq.trans (st1 dL_law__1493 rfl rfl) ?_
  refine Eq.trans (st1 dL_law__1494 rfl rfl) ?_
  refine Eq.trans (st1 dL_law__1495 rfl rfl) ?_
  refine Eq.trans (xiconst dL_law__1497 ci_1) ?_
  refine Eq.trans (st1 dL_law__1498 rfl rfl) ?_
  refine Eq.trans (al5 dL_law__1499 kd_XB (by decide)) (gd_congr fun g1 => ?_)
  refine Eq.trans (st1 dL_law__1500 rfl rfl) ?_
  exact is2 dL_law__1501 cp_13_192 (Nat.le_of_ble_eq_true rfl) rfl rfl (Nat.le_of_ble_eq_true rfl)
theorem q_L_law__1549b {call : CALL} {L X : Nat} {I : Nat → Nat → Int32} {J : Nat → Nat → Int64} {x4 : Int32} {u5 : Option Value} {y6 : Int64} : runI call iLaw (1549, [some (.ref 1000000), some (.ref 0), some (.ref 72), some (.ref 632), some (.int x4), u5, some (.long y6), none], [], (mm L X I J)) = gd (inb (x4 + (nI 1)) L) (bndN (call nL_leaks [.ref 0, .int (I 1000000 ((x4 + (nI 1))).toNatClampNeg), .ref 632] (mm L X I J)) (fun v m' => runI call iLaw (1560, [some (.ref 1000000), some (.ref 0), some (.ref 72), some (.ref 632), some (.int x4), u5, some (.long y6), none], v.toList ++ [], m'))) := by
  refine Eq.trans (st1 dL_law__1549 rfl rfl) ?_
  refine Eq.trans (st1 dL_law__1550 rfl rfl) ?_
  refine Eq.trans (st1 dL_law__1551 rfl rfl) ?_
  refine Eq.trans (xiconst dL_law__1553 ci_1) ?_
  refine Eq.trans (st1 dL_law__1554 rfl rfl) ?_
  refine Eq.trans (al5 dL_law__1555 kd_XB (by decide)) (gd_congr fun g1 => ?_)
  refine Eq.trans (st1 dL_law__1556 rfl rfl) ?_
  exact is2 dL_law__1557 cp_13_195 (Nat.le_of_ble_eq_true rfl) rfl rfl (Nat.le_of_ble_eq_true rfl)
theorem q_L_law__1605b {call : CALL} {L X : Nat} {I : Nat → Nat → Int32} {J : Nat → Nat → Int64} {x4 : Int32} {u5 : Option Value} {y6 : Int64} : runI call iLaw (1605, [some (.ref 1000000), some (.ref 0), some (.ref 72), some (.ref 632), some (.int x4), u5, some (.long y6), none], [], (mm L X I J)) = gd (inb (x4 + (nI 1)) L) (bndN (call nL_look [.ref 0, .int (I 1000000 ((x4 + (nI 1))).toNatClampNeg), .ref 632] (mm L X I J)) (fun v m' => runI call iLaw (1616, [some (.ref 1000000), some (.ref 0), some (.ref 72), some (.ref 632), some (.int x4), u5, some (.long y6), none], v.toList ++ [], m'))) := by
  refine Eq.trans (st1 dL_law__1605 rfl rfl) ?_
  refine Eq.trans (st1 dL_law__1606 rfl rfl) ?_
  refine Eq.trans (st1 dL_law__1607 rfl rfl) ?_
  refine Eq.trans (xiconst dL_law__1609 ci_1) ?_
  refine Eq.trans (st1 dL_law__1610 rfl rfl) ?_
  refine Eq.trans (al5 dL_law__1611 kd_XB (by decide)) (gd_congr fun g1 => ?_)
  refine Eq.trans (st1 dL_law__1612 rfl rfl) ?_
  exact is2 dL_law__1613 cp_13_198 (Nat.le_of_ble_eq_true rfl) rfl rfl (Nat.le_of_ble_eq_true rfl)
theorem q_L_law__1661b {call : CALL} {L X : Nat} {I : Nat → Nat → Int32} {J : Nat → Nat → Int64} {x4 : Int32} {u5 : Option Value} {y6 : Int64} : runI call iLaw (1661, [some (.ref 1000000), some (.ref 0), some (.ref 72), some (.ref 632), some (.int x4), u5, some (.long y6), none], [], (mm L X I J)) = bnd (call nX11_wed [.ref 0] (mm L X I J)) (fun v m' => runI call iLaw (1665, [some (.ref 1000000), some (.ref 0), some (.ref 72), some (.ref 632), some (.int x4), u5, some (.long y6), none], v.toList ++ [], m')) := by
  refine Eq.trans (st1 dL_law__1661 rfl rfl) ?_
  exact iv0 dL_law__1662 rfl cp_13_201 rfl rfl (kd_ka ka_0) ka_0.1 (Nat.le_of_ble_eq_true rfl)
theorem q_L_law__1674b {call : CALL} {L X : Nat} {I : Nat → Nat → Int32} {J : Nat → Nat → Int64} {x4 : Int32} {u5 : Option Value} {y6 : Int64} : runI call iLaw (1674, [some (.ref 1000000), some (.ref 0), some (.ref 72), some (.ref 632), some (.int x4), u5, some (.long y6), none], [], (mm L X I J)) = gd (inb (x4 + (nI 1)) L) (gd (inb (x4 + (nI 2)) L) (gd (inb (x4 + (nI 3)) L) (bndN (call nL_sure [.ref 0, .int (I 1000000 ((x4 + (nI 1))).toNatClampNeg), .int (I 1000000 ((x4 + (nI 2))).toNatClampNeg), .int (I 1000000 ((x4 + (nI 3))).toNatClampNeg), .ref 632] (mm L X I J)) (fun v m' => runI call iLaw (1697, [some (.ref 1000000), some (.ref 0), some (.ref 72), some (.ref 632), some (.int x4), u5, some (.long y6), none], v.toList ++ [], m'))))) := by
  refine Eq.trans (st1 dL_law__1674 rfl rfl) ?_
  refine Eq.trans (st1 dL_law__1675 rfl rfl) ?_
  refine Eq.trans (st1 dL_law__1676 rfl rfl) ?_
  refine Eq.trans (xiconst dL_law__1678 ci_1) ?_
  refine Eq.trans (st1 dL_law__1679 rfl rfl) ?_
  refine Eq.trans (al5 dL_law__1680 kd_XB (by decide)) (gd_congr fun g1 => ?_)
  refine Eq.trans (st1 dL_law__1681 rfl rfl) ?_
  refine Eq.trans (st1 dL_law__1682 rfl rfl) ?_
  refine Eq.trans (xiconst dL_law__1684 ci_2) ?_
  refine Eq.trans (st1 dL_law__1685 rfl rfl) ?_
  refine Eq.trans (al5 dL_law__1686 kd_XB (by decide)) (gd_congr fun g2 => ?_)
  refine Eq.trans (st1 dL_law__1687 rfl rfl) ?_
  refine Eq.trans (st1 dL_law__1688 rfl rfl) ?_
  refine Eq.trans (xiconst dL_law__1690 ci_3) ?_
  refine Eq.trans (st1 dL_law__1691 rfl rfl) ?_
  refine Eq.trans (al5 dL_law__1692 kd_XB (by decide)) (gd_congr fun g3 => ?_)
  refine Eq.trans (st1 dL_law__1693 rfl rfl) ?_
  exact is2 dL_law__1694 cp_13_205 (Nat.le_of_ble_eq_true rfl) rfl rfl (Nat.le_of_ble_eq_true rfl)
theorem q_L_law__1753b {call : CALL} {L X : Nat} {I : Nat → Nat → Int32} {J : Nat → Nat → Int64} {x4 : Int32} {u5 : Option Value} {y6 : Int64} : runI call iLaw (1753, [some (.ref 1000000), some (.ref 0), some (.ref 72), some (.ref 632), some (.int x4), u5, some (.long y6), none], [], (mm L X I J)) = gd (inb (x4 + (nI 1)) L) (gd (inb (x4 + (nI 2)) L) (gd (inb (x4 + (nI 3)) L) (bndN (call nL_street [.ref 0, .int (I 1000000 ((x4 + (nI 1))).toNatClampNeg), .int (I 1000000 ((x4 + (nI 2))).toNatClampNeg), .int (I 1000000 ((x4 + (nI 3))).toNatClampNeg), .ref 632] (mm L X I J)) (fun v m' => runI call iLaw (1776, [some (.ref 1000000), some (.ref 0), some (.ref 72), some (.ref 632), some (.int x4), u5, some (.long y6), none], v.toList ++ [], m'))))) := by
  refine Eq.trans (st1 dL_law__1753 rfl rfl) ?_
  refine Eq.trans (st1 dL_law__1754 rfl rfl) ?_
  refine Eq.trans (st1 dL_law__1755 rfl rfl) ?_
  refine Eq.trans (xiconst dL_law__1757 ci_1) ?_
  refine Eq.trans (st1 dL_law__1758 rfl rfl) ?_
  refine Eq.trans (al5 dL_law__1759 kd_XB (by decide)) (gd_congr fun g1 => ?_)
  refine Eq.trans (st1 dL_law__1760 rfl rfl) ?_
  refine Eq.trans (st1 dL_law__1761 rfl rfl) ?_
  refine Eq.trans (xiconst dL_law__1763 ci_2) ?_
  refine Eq.trans (st1 dL_law__1764 rfl rfl) ?_
  refine Eq.trans (al5 dL_law__1765 kd_XB (by decide)) (gd_congr fun g2 => ?_)
  refine Eq.trans (st1 dL_law__1766 rfl rfl) ?_
  refine Eq.trans (st1 dL_law__1767 rfl rfl) ?_
  refine Eq.trans (xiconst dL_law__1769 ci_3) ?_
  refine Eq.trans (st1 dL_law__1770 rfl rfl) ?_
  refine Eq.trans (al5 dL_law__1771 kd_XB (by decide)) (gd_congr fun g3 => ?_)
  refine Eq.trans (st1 dL_law__1772 rfl rfl) ?_
  exact is2 dL_law__1773 cp_13_209 (Nat.le_of_ble_eq_true rfl) rfl rfl (Nat.le_of_ble_eq_true rfl)
theorem q_L_law__1833b {call : CALL} {L X : Nat} {I : Nat → Nat → Int32} {J : Nat → Nat → Int64} {x4 : Int32} {u5 : Option Value} {y6 : Int64} : runI call iLaw (1833, [some (.ref 1000000), some (.ref 0), some (.ref 72), some (.ref 632), some (.int x4), u5, some (.long y6), none], [], (mm L X I J)) = gd (inb (x4 + (nI 1)) L) (gd (inb (x4 + (nI 2)) L) (gd (inb (x4 + (nI 3)) L) (bndN (call nL_share [.ref 0, .int (I 1000000 ((x4 + (nI 1))).toNatClampNeg), .int (I 1000000 ((x4 + (nI 2))).toNatClampNeg), .int (I 1000000 ((x4 + (nI 3))).toNatClampNeg), .ref 632] (mm L X I J)) (fun v m' => runI call iLaw (1856, [some (.ref 1000000), some (.ref 0), some (.ref 72), some (.ref 632), some (.int x4), u5, some (.long y6), none], v.toList ++ [], m'))))) := by
  refine Eq.trans (st1 dL_law__1833 rfl rfl) ?_
  refine Eq.trans (st1 dL_law__1834 rfl rfl) ?_
  refine Eq.trans (st1 dL_law__1835 rfl rfl) ?_
  refine Eq.trans (xiconst dL_law__1837 ci_1) ?_
  refine Eq.trans (st1 dL_law__1838 rfl rfl) ?_
  refine Eq.trans (al5 dL_law__1839 kd_XB (by decide)) (gd_congr fun g1 => ?_)
  refine Eq.trans (st1 dL_law__1840 rfl rfl) ?_
  refine Eq.trans (st1 dL_law__1841 rfl rfl) ?_
  refine Eq.trans (xiconst dL_law__1843 ci_2) ?_
  refine Eq.trans (st1 dL_law__1844 rfl rfl) ?_
  refine Eq.trans (al5 dL_law__1845 kd_XB (by decide)) (gd_congr fun g2 => ?_)
  refine Eq.trans (st1 dL_law__1846 rfl rfl) ?_
  refine Eq.trans (st1 dL_law__1847 rfl rfl) ?_
  refine Eq.trans (xiconst dL_law__1849 ci_3) ?_
  refine Eq.trans (st1 dL_law__1850 rfl rfl) ?_
  refine Eq.trans (al5 dL_law__1851 kd_XB (by decide)) (gd_congr fun g3 => ?_)
  refine Eq.trans (st1 dL_law__1852 rfl rfl) ?_
  exact is2 dL_law__1853 cp_13_212 (Nat.le_of_ble_eq_true rfl) rfl rfl (Nat.le_of_ble_eq_true rfl)
theorem q_L_law__1913b {call : CALL} {L X : Nat} {I : Nat → Nat → Int32} {J : Nat → Nat → Int64} {x4 : Int32} {u5 : Option Value} {y6 : Int64} : runI call iLaw (1913, [some (.ref 1000000), some (.ref 0), some (.ref 72), some (.ref 632), some (.int x4), u5, some (.long y6), none], [], (mm L X I J)) = gd (inb (x4 + (nI 1)) L) (bndN (call nL_next [.ref 0, .int (I 1000000 ((x4 + (nI 1))).toNatClampNeg), .ref 632] (mm L X I J)) (fun v m' => runI call iLaw (1924, [some (.ref 1000000), some (.ref 0), some (.ref 72), some (.ref 632), some (.int x4), u5, some (.long y6), none], v.toList ++ [], m'))) := by
  refine Eq.trans (st1 dL_law__1913 rfl rfl) ?_
  refine Eq.trans (st1 dL_law__1914 rfl rfl) ?_
  refine Eq.trans (st1 dL_law__1915 rfl rfl) ?_
  refine Eq.trans (xiconst dL_law__1917 ci_1) ?_
  refine Eq.trans (st1 dL_law__1918 rfl rfl) ?_
  refine Eq.trans (al5 dL_law__1919 kd_XB (by decide)) (gd_congr fun g1 => ?_)
  refine Eq.trans (st1 dL_law__1920 rfl rfl) ?_
  exact is2 dL_law__1921 cp_13_215 (Nat.le_of_ble_eq_true rfl) rfl rfl (Nat.le_of_ble_eq_true rfl)
theorem q_L_law__1969b {call : CALL} {L X : Nat} {I : Nat → Nat → Int32} {J : Nat → Nat → Int64} {x4 : Int32} {u5 : Option Value} {y6 : Int64} : runI call iLaw (1969, [some (.ref 1000000), some (.ref 0), some (.ref 72), some (.ref 632), some (.int x4), u5, some (.long y6), none], [], (mm L X I J)) = gd (inb (x4 + (nI 1)) L) (bndN (call nL_worst [.ref 0, .int (I 1000000 ((x4 + (nI 1))).toNatClampNeg), .ref 632] (mm L X I J)) (fun v m' => runI call iLaw (1980, [some (.ref 1000000), some (.ref 0), some (.ref 72), some (.ref 632), some (.int x4), u5, some (.long y6), none], v.toList ++ [], m'))) := by
  refine Eq.trans (st1 dL_law__1969 rfl rfl) ?_
  refine Eq.trans (st1 dL_law__1970 rfl rfl) ?_
  refine Eq.trans (st1 dL_law__1971 rfl rfl) ?_
  refine Eq.trans (xiconst dL_law__1973 ci_1) ?_
  refine Eq.trans (st1 dL_law__1974 rfl rfl) ?_
  refine Eq.trans (al5 dL_law__1975 kd_XB (by decide)) (gd_congr fun g1 => ?_)
  refine Eq.trans (st1 dL_law__1976 rfl rfl) ?_
  exact is2 dL_law__1977 cp_13_218 (Nat.le_of_ble_eq_true rfl) rfl rfl (Nat.le_of_ble_eq_true rfl)
theorem q_L_law__2025b {call : CALL} {L X : Nat} {I : Nat → Nat → Int32} {J : Nat → Nat → Int64} {x4 : Int32} {u5 : Option Value} {y6 : Int64} : runI call iLaw (2025, [some (.ref 1000000), some (.ref 0), some (.ref 72), some (.ref 632), some (.int x4), u5, some (.long y6), none], [], (mm L X I J)) = gd (inb (x4 + (nI 1)) L) (bndN (call nL_needed [.ref 0, .int (I 1000000 ((x4 + (nI 1))).toNatClampNeg), .ref 632] (mm L X I J)) (fun v m' => runI call iLaw (2036, [some (.ref 1000000), some (.ref 0), some (.ref 72), some (.ref 632), some (.int x4), u5, some (.long y6), none], v.toList ++ [], m'))) := by
  refine Eq.trans (st1 dL_law__2025 rfl rfl) ?_
  refine Eq.trans (st1 dL_law__2026 rfl rfl) ?_
  refine Eq.trans (st1 dL_law__2027 rfl rfl) ?_
  refine Eq.trans (xiconst dL_law__2029 ci_1) ?_
  refine Eq.trans (st1 dL_law__2030 rfl rfl) ?_
  refine Eq.trans (al5 dL_law__2031 kd_XB (by decide)) (gd_congr fun g1 => ?_)
  refine Eq.trans (st1 dL_law__2032 rfl rfl) ?_
  exact is2 dL_law__2033 cp_13_221 (Nat.le_of_ble_eq_true rfl) rfl rfl (Nat.le_of_ble_eq_true rfl)
theorem q_L_law__2081b {call : CALL} {L X : Nat} {I : Nat → Nat → Int32} {J : Nat → Nat → Int64} {x4 : Int32} {u5 : Option Value} {y6 : Int64} : runI call iLaw (2081, [some (.ref 1000000), some (.ref 0), some (.ref 72), some (.ref 632), some (.int x4), u5, some (.long y6), none], [], (mm L X I J)) = gd (inb (x4 + (nI 1)) L) (bndN (call nL_kin [.ref 0, .int (I 1000000 ((x4 + (nI 1))).toNatClampNeg), .ref 632] (mm L X I J)) (fun v m' => runI call iLaw (2092, [some (.ref 1000000), some (.ref 0), some (.ref 72), some (.ref 632), some (.int x4), u5, some (.long y6), none], v.toList ++ [], m'))) := by
  refine Eq.trans (st1 dL_law__2081 rfl rfl) ?_
  refine Eq.trans (st1 dL_law__2082 rfl rfl) ?_
  refine Eq.trans (st1 dL_law__2083 rfl rfl) ?_
  refine Eq.trans (xiconst dL_law__2085 ci_1) ?_
  refine Eq.trans (st1 dL_law__2086 rfl rfl) ?_
  refine Eq.trans (al5 dL_law__2087 kd_XB (by decide)) (gd_congr fun g1 => ?_)
  refine Eq.trans (st1 dL_law__2088 rfl rfl) ?_
  exact is2 dL_law__2089 cp_13_224 (Nat.le_of_ble_eq_true rfl) rfl rfl (Nat.le_of_ble_eq_true rfl)
theorem q_L_law__2137b {call : CALL} {L X : Nat} {I : Nat → Nat → Int32} {J : Nat → Nat → Int64} {x4 : Int32} {u5 : Option Value} {y6 : Int64} : runI call iLaw (2137, [some (.ref 1000000), some (.ref 0), some (.ref 72), some (.ref 632), some (.int x4), u5, some (.long y6), none], [], (mm L X I J)) = gd (inb (x4 + (nI 1)) L) (gd (inb (x4 + (nI 2)) L) (gd (inb (x4 + (nI 3)) L) (gd (inb (x4 + (nI 4)) L) (bndN (call nL_year [.ref 0, .int (I 1000000 ((x4 + (nI 1))).toNatClampNeg), .int (I 1000000 ((x4 + (nI 2))).toNatClampNeg), .int (I 1000000 ((x4 + (nI 3))).toNatClampNeg), .int (I 1000000 ((x4 + (nI 4))).toNatClampNeg), .ref 632] (mm L X I J)) (fun v m' => runI call iLaw (2166, [some (.ref 1000000), some (.ref 0), some (.ref 72), some (.ref 632), some (.int x4), u5, some (.long y6), none], v.toList ++ [], m')))))) := by
  refine Eq.trans (st1 dL_law__2137 rfl rfl) ?_
  refine Eq.trans (st1 dL_law__2138 rfl rfl) ?_
  refine Eq.trans (st1 dL_law__2139 rfl rfl) ?_
  refine Eq.trans (xiconst dL_law__2141 ci_1) ?_
  refine Eq.trans (st1 dL_law__2142 rfl rfl) ?_
  refine Eq.trans (al5 dL_law__2143 kd_XB (by decide)) (gd_congr fun g1 => ?_)
  refine Eq.trans (st1 dL_law__2144 rfl rfl) ?_
  refine Eq.trans (st1 dL_law__2145 rfl rfl) ?_
  refine Eq.trans (xiconst dL_law__2147 ci_2) ?_
  refine Eq.trans (st1 dL_law__2148 rfl rfl) ?_
  refine Eq.trans (al5 dL_law__2149 kd_XB (by decide)) (gd_congr fun g2 => ?_)
  refine Eq.trans (st1 dL_law__2150 rfl rfl) ?_
  refine Eq.trans (st1 dL_law__2151 rfl rfl) ?_
  refine Eq.trans (xiconst dL_law__2153 ci_3) ?_
  refine Eq.trans (st1 dL_law__2154 rfl rfl) ?_
  refine Eq.trans (al5 dL_law__2155 kd_XB (by decide)) (gd_congr fun g3 => ?_)
  refine Eq.trans (st1 dL_law__2156 rfl rfl) ?_
  refine Eq.trans (st1 dL_law__2157 rfl rfl) ?_
  refine Eq.trans (xiconst dL_law__2159 ci_4) ?_
  refine Eq.trans (st1 dL_law__2160 rfl rfl) ?_
  refine Eq.trans (al5 dL_law__2161 kd_XB (by decide)) (gd_congr fun g4 => ?_)
  refine Eq.trans (st1 dL_law__2162 rfl rfl) ?_
  exact is2 dL_law__2163 cp_13_227 (Nat.le_of_ble_eq_true rfl) rfl rfl (Nat.le_of_ble_eq_true rfl)
theorem q_L_law__2229b {call : CALL} {L X : Nat} {I : Nat → Nat → Int32} {J : Nat → Nat → Int64} {x4 : Int32} {u5 : Option Value} {y6 : Int64} : runI call iLaw (2229, [some (.ref 1000000), some (.ref 0), some (.ref 72), some (.ref 632), some (.int x4), u5, some (.long y6), none], [], (mm L X I J)) = gd (inb (x4 + (nI 1)) L) (gd (inb (x4 + (nI 2)) L) (gd (inb (x4 + (nI 3)) L) (gd (inb (x4 + (nI 4)) L) (gd (inb (x4 + (nI 5)) L) (gd (inb (x4 + (nI 6)) L) (bndN (call nL_span [.ref 0, .int (I 1000000 ((x4 + (nI 1))).toNatClampNeg), .int (I 1000000 ((x4 + (nI 2))).toNatClampNeg), .int (I 1000000 ((x4 + (nI 3))).toNatClampNeg), .int (I 1000000 ((x4 + (nI 4))).toNatClampNeg), .int (I 1000000 ((x4 + (nI 5))).toNatClampNeg), .int (I 1000000 ((x4 + (nI 6))).toNatClampNeg), .ref 632] (mm L X I J)) (fun v m' => runI call iLaw (2271, [some (.ref 1000000), some (.ref 0), some (.ref 72), some (.ref 632), some (.int x4), u5, some (.long y6), none], v.toList ++ [], m')))))))) := by
  refine Eq.trans (st1 dL_law__2229 rfl rfl) ?_
  refine Eq.trans (st1 dL_law__2230 rfl rfl) ?_
  refine Eq.trans (st1 dL_law__2231 rfl rfl) ?_
  refine Eq.trans (xiconst dL_law__2233 ci_1) ?_
  refine Eq.trans (st1 dL_law__2234 rfl rfl) ?_
  refine Eq.trans (al5 dL_law__2235 kd_XB (by decide)) (gd_congr fun g1 => ?_)
  refine Eq.trans (st1 dL_law__2236 rfl rfl) ?_
  refine Eq.trans (st1 dL_law__2237 rfl rfl) ?_
  refine Eq.trans (xiconst dL_law__2239 ci_2) ?_
  refine Eq.trans (st1 dL_law__2240 rfl rfl) ?_
  refine Eq.trans (al5 dL_law__2241 kd_XB (by decide)) (gd_congr fun g2 => ?_)
  refine Eq.trans (st1 dL_law__2242 rfl rfl) ?_
  refine Eq.trans (st1 dL_law__2243 rfl rfl) ?_
  refine Eq.trans (xiconst dL_law__2245 ci_3) ?_
  refine Eq.trans (st1 dL_law__2246 rfl rfl) ?_
  refine Eq.trans (al5 dL_law__2247 kd_XB (by decide)) (gd_congr fun g3 => ?_)
  refine Eq.trans (st1 dL_law__2248 rfl rfl) ?_
  refine Eq.trans (st1 dL_law__2249 rfl rfl) ?_
  refine Eq.trans (xiconst dL_law__2251 ci_4) ?_
  refine Eq.trans (st1 dL_law__2252 rfl rfl) ?_
  refine Eq.trans (al5 dL_law__2253 kd_XB (by decide)) (gd_congr fun g4 => ?_)
  refine Eq.trans (st1 dL_law__2254 rfl rfl) ?_
  refine Eq.trans (st1 dL_law__2255 rfl rfl) ?_
  refine Eq.trans (xiconst dL_law__2257 ci_5) ?_
  refine Eq.trans (st1 dL_law__2258 rfl rfl) ?_
  refine Eq.trans (al5 dL_law__2259 kd_XB (by decide)) (gd_congr fun g5 => ?_)
  refine Eq.trans (st1 dL_law__2260 rfl rfl) ?_
  refine Eq.trans (st1 dL_law__2261 rfl rfl) ?_
  refine Eq.trans (xbipush dL_law__2263 cb_6) ?_
  refine Eq.trans (st1 dL_law__2265 rfl rfl) ?_
  refine Eq.trans (al5 dL_law__2266 kd_XB (by decide)) (gd_congr fun g6 => ?_)
  refine Eq.trans (st1 dL_law__2267 rfl rfl) ?_
  exact is2 dL_law__2268 cp_13_231 (Nat.le_of_ble_eq_true rfl) rfl rfl (Nat.le_of_ble_eq_true rfl)
theorem q_L_law__2347b {call : CALL} {L X : Nat} {I : Nat → Nat → Int32} {J : Nat → Nat → Int64} {x4 : Int32} {u5 : Option Value} {y6 : Int64} : runI call iLaw (2347, [some (.ref 1000000), some (.ref 0), some (.ref 72), some (.ref 632), some (.int x4), u5, some (.long y6), none], [], (mm L X I J)) = bnd (call nX11_image [.ref 0] (mm L X I J)) (fun v m' => runI call iLaw (2351, [some (.ref 1000000), some (.ref 0), some (.ref 72), some (.ref 632), some (.int x4), u5, some (.long y6), none], v.toList ++ [], m')) := by
  refine Eq.trans (st1 dL_law__2347 rfl rfl) ?_
  exact iv0 dL_law__2348 rfl cp_13_235 rfl rfl (kd_ka ka_0) ka_0.1 (Nat.le_of_ble_eq_true rfl)
theorem q_L_law__2360b {call : CALL} {L X : Nat} {I : Nat → Nat → Int32} {J : Nat → Nat → Int64} {x4 : Int32} {u5 : Option Value} {y6 : Int64} : runI call iLaw (2360, [some (.ref 1000000), some (.ref 0), some (.ref 72), some (.ref 632), some (.int x4), u5, some (.long y6), none], [], (mm L X I J)) = bnd (call nX11_restore [.ref 0] (mm L X I J)) (fun v m' => runI call iLaw (2364, [some (.ref 1000000), some (.ref 0), some (.ref 72), some (.ref 632), some (.int x4), u5, some (.long y6), none], v.toList ++ [], m')) := by
  refine Eq.trans (st1 dL_law__2360 rfl rfl) ?_
  exact iv0 dL_law__2361 rfl cp_13_239 rfl rfl (kd_ka ka_0) ka_0.1 (Nat.le_of_ble_eq_true rfl)
theorem q_L_law__2373b {call : CALL} {L X : Nat} {I : Nat → Nat → Int32} {J : Nat → Nat → Int64} {x4 : Int32} {u5 : Option Value} {y6 : Int64} : runI call iLaw (2373, [some (.ref 1000000), some (.ref 0), some (.ref 72), some (.ref 632), some (.int x4), u5, some (.long y6), none], [], (mm L X I J)) = gd (inb (x4 + (nI 1)) L) (bnd (call nX11_status [.ref 0, .int (I 1000000 ((x4 + (nI 1))).toNatClampNeg)] (mm L X I J)) (fun v m' => runI call iLaw (2383, [some (.ref 1000000), some (.ref 0), some (.ref 72), some (.ref 632), some (.int x4), u5, some (.long y6), none], v.toList ++ [], m'))) := by
  refine Eq.trans (st1 dL_law__2373 rfl rfl) ?_
  refine Eq.trans (st1 dL_law__2374 rfl rfl) ?_
  refine Eq.trans (st1 dL_law__2375 rfl rfl) ?_
  refine Eq.trans (xiconst dL_law__2377 ci_1) ?_
  refine Eq.trans (st1 dL_law__2378 rfl rfl) ?_
  refine Eq.trans (al5 dL_law__2379 kd_XB (by decide)) (gd_congr fun g1 => ?_)
  exact iv0 dL_law__2380 rfl cp_13_243 rfl rfl (kd_ka ka_0) ka_0.1 (Nat.le_of_ble_eq_true rfl)
theorem q_L_law__2398b {call : CALL} {L X : Nat} {I : Nat → Nat → Int32} {J : Nat → Nat → Int64} {x4 : Int32} {u5 : Option Value} {y6 : Int64} : runI call iLaw (2398, [some (.ref 1000000), some (.ref 0), some (.ref 72), some (.ref 632), some (.int x4), u5, some (.long y6), none], [], (mm L X I J)) = gd (inb (x4 + (nI 1)) L) (bnd (call nX11_count [.ref 0, .int (I 1000000 ((x4 + (nI 1))).toNatClampNeg)] (mm L X I J)) (fun v m' => runI call iLaw (2408, [some (.ref 1000000), some (.ref 0), some (.ref 72), some (.ref 632), some (.int x4), u5, some (.long y6), none], v.toList ++ [], m'))) := by
  refine Eq.trans (st1 dL_law__2398 rfl rfl) ?_
  refine Eq.trans (st1 dL_law__2399 rfl rfl) ?_
  refine Eq.trans (st1 dL_law__2400 rfl rfl) ?_
  refine Eq.trans (xiconst dL_law__2402 ci_1) ?_
  refine Eq.trans (st1 dL_law__2403 rfl rfl) ?_
  refine Eq.trans (al5 dL_law__2404 kd_XB (by decide)) (gd_congr fun g1 => ?_)
  exact iv0 dL_law__2405 rfl cp_13_247 rfl rfl (kd_ka ka_0) ka_0.1 (Nat.le_of_ble_eq_true rfl)
theorem q_L_law__242b {call : CALL} {L X : Nat} {I : Nat → Nat → Int32} {J : Nat → Nat → Int64} {x4 : Int32} {u5 : Option Value} {y6 : Int64} {s0 : Int32} : runI call iLaw (242, [some (.ref 1000000), some (.ref 0), some (.ref 72), some (.ref 632), some (.int x4), u5, some (.long y6), none], [.int s0], (mm L X I J)) = gd (inb (x4 + (nI 1)) L) (gd (inb (x4 + (nI 2)) L) (gd (inb (x4 + (nI 3)) L) (gd (inb (x4 + (nI 4)) L) (gd (inb (x4 + (nI 5)) L) (bnd (call nX12_feed [.ref 72, .int (I 1000000 ((x4 + (nI 1))).toNatClampNeg), .int (I 1000000 ((x4 + (nI 2))).toNatClampNeg), .int (I 1000000 ((x4 + (nI 3))).toNatClampNeg), .int (I 1000000 ((x4 + (nI 4))).toNatClampNeg), .int (I 1000000 ((x4 + (nI 5))).toNatClampNeg)] (mm L X I J)) (fun v m' => runI call iLaw (276, [some (.ref 1000000), some (.ref 0), some (.ref 72), some (.ref 632), some (.int x4), u5, some (.long y6), none], v.toList ++ [.int s0], m'))))))) := by
  refine Eq.trans (st1 dL_law__242 rfl rfl) ?_
  refine Eq.trans (st1 dL_law__243 rfl rfl) ?_
  refine Eq.trans (st1 dL_law__244 rfl rfl) ?_
  refine Eq.trans (xiconst dL_law__246 ci_1) ?_
  refine Eq.trans (st1 dL_law__247 rfl rfl) ?_
  refine Eq.trans (al5 dL_law__248 kd_XB (by decide)) (gd_congr fun g1 => ?_)
  refine Eq.trans (st1 dL_law__249 rfl rfl) ?_
  refine Eq.trans (st1 dL_law__250 rfl rfl) ?_
  refine Eq.trans (xiconst dL_law__252 ci_2) ?_
  refine Eq.trans (st1 dL_law__253 rfl rfl) ?_
  refine Eq.trans (al5 dL_law__254 kd_XB (by decide)) (gd_congr fun g2 => ?_)
  refine Eq.trans (st1 dL_law__255 rfl rfl) ?_
  refine Eq.trans (st1 dL_law__256 rfl rfl) ?_
  refine Eq.trans (xiconst dL_law__258 ci_3) ?_
  refine Eq.trans (st1 dL_law__259 rfl rfl) ?_
  refine Eq.trans (al5 dL_law__260 kd_XB (by decide)) (gd_congr fun g3 => ?_)
  refine Eq.trans (st1 dL_law__261 rfl rfl) ?_
  refine Eq.trans (st1 dL_law__262 rfl rfl) ?_
  refine Eq.trans (xiconst dL_law__264 ci_4) ?_
  refine Eq.trans (st1 dL_law__265 rfl rfl) ?_
  refine Eq.trans (al5 dL_law__266 kd_XB (by decide)) (gd_congr fun g4 => ?_)
  refine Eq.trans (st1 dL_law__267 rfl rfl) ?_
  refine Eq.trans (st1 dL_law__268 rfl rfl) ?_
  refine Eq.trans (xiconst dL_law__270 ci_5) ?_
  refine Eq.trans (st1 dL_law__271 rfl rfl) ?_
  refine Eq.trans (al5 dL_law__272 kd_XB (by decide)) (gd_congr fun g5 => ?_)
  exact iv0 dL_law__273 rfl cp_13_120 rfl rfl (kd_ka ka_72) ka_72.1 (Nat.le_of_ble_eq_true rfl)
theorem q_L_law__292b {call : CALL} {L X : Nat} {I : Nat → Nat → Int32} {J : Nat → Nat → Int64} {x4 : Int32} {u5 : Option Value} {y6 : Int64} {s0 : Int32} : runI call iLaw (292, [some (.ref 1000000), some (.ref 0), some (.ref 72), some (.ref 632), some (.int x4), u5, some (.long y6), none], [.int s0], (mm L X I J)) = gd (inb (x4 + (nI 1)) L) (bnd (call nX12_house [.ref 72, .int (I 1000000 ((x4 + (nI 1))).toNatClampNeg)] (mm L X I J)) (fun v m' => runI call iLaw (304, [some (.ref 1000000), some (.ref 0), some (.ref 72), some (.ref 632), some (.int x4), some (.int s0), some (.long y6), none], v.toList ++ [], m'))) := by
  refine Eq.trans (st1 dL_law__292 rfl rfl) ?_
  refine Eq.trans (st1 dL_law__294 rfl rfl) ?_
  refine Eq.trans (st1 dL_law__295 rfl rfl) ?_
  refine Eq.trans (st1 dL_law__296 rfl rfl) ?_
  refine Eq.trans (xiconst dL_law__298 ci_1) ?_
  refine Eq.trans (st1 dL_law__299 rfl rfl) ?_
  refine Eq.trans (al5 dL_law__300 kd_XB (by decide)) (gd_congr fun g1 => ?_)
  exact iv0 dL_law__301 rfl cp_13_126 rfl rfl (kd_ka ka_72) ka_72.1 (Nat.le_of_ble_eq_true rfl)
theorem q_L_law__348b {call : CALL} {L X : Nat} {I : Nat → Nat → Int32} {J : Nat → Nat → Int64} {x4 : Int32} {u5 : Option Value} {y6 : Int64} {s0 : Int32} : runI call iLaw (348, [some (.ref 1000000), some (.ref 0), some (.ref 72), some (.ref 632), some (.int x4), u5, some (.long y6), none], [.int s0], (mm L X I J)) = gd (inb (x4 + (nI 1)) L) (bnd (call nX12_law [.ref 72, .int (I 1000000 ((x4 + (nI 1))).toNatClampNeg)] (mm L X I J)) (fun v m' => runI call iLaw (360, [some (.ref 1000000), some (.ref 0), some (.ref 72), some (.ref 632), some (.int x4), some (.int s0), some (.long y6), none], v.toList ++ [], m'))) := by
  refine Eq.trans (st1 dL_law__348 rfl rfl) ?_
  refine Eq.trans (st1 dL_law__350 rfl rfl) ?_
  refine Eq.trans (st1 dL_law__351 rfl rfl) ?_
  refine Eq.trans (st1 dL_law__352 rfl rfl) ?_
  refine Eq.trans (xiconst dL_law__354 ci_1) ?_
  refine Eq.trans (st1 dL_law__355 rfl rfl) ?_
  refine Eq.trans (al5 dL_law__356 kd_XB (by decide)) (gd_congr fun g1 => ?_)
  exact iv0 dL_law__357 rfl cp_13_133 rfl rfl (kd_ka ka_72) ka_72.1 (Nat.le_of_ble_eq_true rfl)
theorem q_L_law__404b {call : CALL} {L X : Nat} {I : Nat → Nat → Int32} {J : Nat → Nat → Int64} {x4 : Int32} {u5 : Option Value} {y6 : Int64} {s0 : Int32} : runI call iLaw (404, [some (.ref 1000000), some (.ref 0), some (.ref 72), some (.ref 632), some (.int x4), u5, some (.long y6), none], [.int s0], (mm L X I J)) = gd (inb (x4 + (nI 1)) L) (bnd (call nX12_work [.ref 72, .int (I 1000000 ((x4 + (nI 1))).toNatClampNeg)] (mm L X I J)) (fun v m' => runI call iLaw (416, [some (.ref 1000000), some (.ref 0), some (.ref 72), some (.ref 632), some (.int x4), some (.int s0), some (.long y6), none], v.toList ++ [], m'))) := by
  refine Eq.trans (st1 dL_law__404 rfl rfl) ?_
  refine Eq.trans (st1 dL_law__406 rfl rfl) ?_
  refine Eq.trans (st1 dL_law__407 rfl rfl) ?_
  refine Eq.trans (st1 dL_law__408 rfl rfl) ?_
  refine Eq.trans (xiconst dL_law__410 ci_1) ?_
  refine Eq.trans (st1 dL_law__411 rfl rfl) ?_
  refine Eq.trans (al5 dL_law__412 kd_XB (by decide)) (gd_congr fun g1 => ?_)
  exact iv0 dL_law__413 rfl cp_13_136 rfl rfl (kd_ka ka_72) ka_72.1 (Nat.le_of_ble_eq_true rfl)
theorem q_L_law__460b {call : CALL} {L X : Nat} {I : Nat → Nat → Int32} {J : Nat → Nat → Int64} {x4 : Int32} {u5 : Option Value} {y6 : Int64} {s0 : Int32} : runI call iLaw (460, [some (.ref 1000000), some (.ref 0), some (.ref 72), some (.ref 632), some (.int x4), u5, some (.long y6), none], [.int s0], (mm L X I J)) = gd (inb (x4 + (nI 1)) L) (bnd (call nX12_book [.ref 72, .int (I 1000000 ((x4 + (nI 1))).toNatClampNeg)] (mm L X I J)) (fun v m' => runI call iLaw (472, [some (.ref 1000000), some (.ref 0), some (.ref 72), some (.ref 632), some (.int x4), some (.int s0), some (.long y6), none], v.toList ++ [], m'))) := by
  refine Eq.trans (st1 dL_law__460 rfl rfl) ?_
  refine Eq.trans (st1 dL_law__462 rfl rfl) ?_
  refine Eq.trans (st1 dL_law__463 rfl rfl) ?_
  refine Eq.trans (st1 dL_law__464 rfl rfl) ?_
  refine Eq.trans (xiconst dL_law__466 ci_1) ?_
  refine Eq.trans (st1 dL_law__467 rfl rfl) ?_
  refine Eq.trans (al5 dL_law__468 kd_XB (by decide)) (gd_congr fun g1 => ?_)
  exact iv0 dL_law__469 rfl cp_13_139 rfl rfl (kd_ka ka_72) ka_72.1 (Nat.le_of_ble_eq_true rfl)
theorem q_L_law__509b {call : CALL} {L X : Nat} {I : Nat → Nat → Int32} {J : Nat → Nat → Int64} {x4 : Int32} {u5 : Option Value} {y6 : Int64} {s0 : Int32} : runI call iLaw (509, [some (.ref 1000000), some (.ref 0), some (.ref 72), some (.ref 632), some (.int x4), u5, some (.long y6), none], [.int s0], (mm L X I J)) = bnd (call nX12_fault [.ref 72] (mm L X I J)) (fun v m' => runI call iLaw (513, [some (.ref 1000000), some (.ref 0), some (.ref 72), some (.ref 632), some (.int x4), u5, some (.long y6), none], v.toList ++ [.int s0], m')) := by
  refine Eq.trans (st1 dL_law__509 rfl rfl) ?_
  exact iv0 dL_law__510 rfl cp_13_143 rfl rfl (kd_ka ka_72) ka_72.1 (Nat.le_of_ble_eq_true rfl)
theorem q_L_law__522b {call : CALL} {L X : Nat} {I : Nat → Nat → Int32} {J : Nat → Nat → Int64} {x4 : Int32} {u5 : Option Value} {y6 : Int64} {s0 : Int32} : runI call iLaw (522, [some (.ref 1000000), some (.ref 0), some (.ref 72), some (.ref 632), some (.int x4), u5, some (.long y6), none], [.int s0], (mm L X I J)) = bnd (call nX12_undo [.ref 72] (mm L X I J)) (fun v m' => runI call iLaw (526, [some (.ref 1000000), some (.ref 0), some (.ref 72), some (.ref 632), some (.int x4), u5, some (.long y6), none], v.toList ++ [.int s0], m')) := by
  refine Eq.trans (st1 dL_law__522 rfl rfl) ?_
  exact iv0 dL_law__523 rfl cp_13_147 rfl rfl (kd_ka ka_72) ka_72.1 (Nat.le_of_ble_eq_true rfl)
theorem q_L_law__542b {call : CALL} {L X : Nat} {I : Nat → Nat → Int32} {J : Nat → Nat → Int64} {x4 : Int32} {u5 : Option Value} {y6 : Int64} {s0 : Int32} : runI call iLaw (542, [some (.ref 1000000), some (.ref 0), some (.ref 72), some (.ref 632), some (.int x4), u5, some (.long y6), none], [.int s0], (mm L X I J)) = gd (inb (x4 + (nI 1)) L) (bnd (call nX12_told [.ref 72, .int (I 1000000 ((x4 + (nI 1))).toNatClampNeg)] (mm L X I J)) (fun v m' => runI call iLaw (554, [some (.ref 1000000), some (.ref 0), some (.ref 72), some (.ref 632), some (.int x4), some (.int s0), some (.long y6), none], v.toList ++ [], m'))) := by
  refine Eq.trans (st1 dL_law__542 rfl rfl) ?_
  refine Eq.trans (st1 dL_law__544 rfl rfl) ?_
  refine Eq.trans (st1 dL_law__545 rfl rfl) ?_
  refine Eq.trans (st1 dL_law__546 rfl rfl) ?_
  refine Eq.trans (xiconst dL_law__548 ci_1) ?_
  refine Eq.trans (st1 dL_law__549 rfl rfl) ?_
  refine Eq.trans (al5 dL_law__550 kd_XB (by decide)) (gd_congr fun g1 => ?_)
  exact iv0 dL_law__551 rfl cp_13_150 rfl rfl (kd_ka ka_72) ka_72.1 (Nat.le_of_ble_eq_true rfl)
theorem q_L_law__604b {call : CALL} {L X : Nat} {I : Nat → Nat → Int32} {J : Nat → Nat → Int64} {x4 : Int32} {u5 : Option Value} {y6 : Int64} {s0 : Int32} : runI call iLaw (604, [some (.ref 1000000), some (.ref 0), some (.ref 72), some (.ref 632), some (.int x4), u5, some (.long y6), none], [.int s0], (mm L X I J)) = gd (inb (x4 + (nI 1)) L) (gd (inb (x4 + (nI 2)) L) (bnd (call nX12_piece [.ref 72, .int (I 1000000 ((x4 + (nI 1))).toNatClampNeg), .int (I 1000000 ((x4 + (nI 2))).toNatClampNeg)] (mm L X I J)) (fun v m' => runI call iLaw (622, [some (.ref 1000000), some (.ref 0), some (.ref 72), some (.ref 632), some (.int x4), some (.int s0), some (.long y6), none], v.toList ++ [], m')))) := by
  refine Eq.trans (st1 dL_law__604 rfl rfl) ?_
  refine Eq.trans (st1 dL_law__606 rfl rfl) ?_
  refine Eq.trans (st1 dL_law__607 rfl rfl) ?_
  refine Eq.trans (st1 dL_law__608 rfl rfl) ?_
  refine Eq.trans (xiconst dL_law__610 ci_1) ?_
  refine Eq.trans (st1 dL_law__611 rfl rfl) ?_
  refine Eq.trans (al5 dL_law__612 kd_XB (by decide)) (gd_congr fun g1 => ?_)
  refine Eq.trans (st1 dL_law__613 rfl rfl) ?_
  refine Eq.trans (st1 dL_law__614 rfl rfl) ?_
  refine Eq.trans (xiconst dL_law__616 ci_2) ?_
  refine Eq.trans (st1 dL_law__617 rfl rfl) ?_
  refine Eq.trans (al5 dL_law__618 kd_XB (by decide)) (gd_congr fun g2 => ?_)
  exact iv0 dL_law__619 rfl cp_13_154 rfl rfl (kd_ka ka_72) ka_72.1 (Nat.le_of_ble_eq_true rfl)
theorem q_L_law__672b {call : CALL} {L X : Nat} {I : Nat → Nat → Int32} {J : Nat → Nat → Int64} {x4 : Int32} {u5 : Option Value} {y6 : Int64} {s0 : Int32} : runI call iLaw (672, [some (.ref 1000000), some (.ref 0), some (.ref 72), some (.ref 632), some (.int x4), u5, some (.long y6), none], [.int s0], (mm L X I J)) = gd (inb (x4 + (nI 1)) L) (gd (inb (x4 + (nI 2)) L) (bnd (call nX12_collar [.ref 72, .int (I 1000000 ((x4 + (nI 1))).toNatClampNeg), .int (I 1000000 ((x4 + (nI 2))).toNatClampNeg)] (mm L X I J)) (fun v m' => runI call iLaw (690, [some (.ref 1000000), some (.ref 0), some (.ref 72), some (.ref 632), some (.int x4), some (.int s0), some (.long y6), none], v.toList ++ [], m')))) := by
  refine Eq.trans (st1 dL_law__672 rfl rfl) ?_
  refine Eq.trans (st1 dL_law__674 rfl rfl) ?_
  refine Eq.trans (st1 dL_law__675 rfl rfl) ?_
  refine Eq.trans (st1 dL_law__676 rfl rfl) ?_
  refine Eq.trans (xiconst dL_law__678 ci_1) ?_
  refine Eq.trans (st1 dL_law__679 rfl rfl) ?_
  refine Eq.trans (al5 dL_law__680 kd_XB (by decide)) (gd_congr fun g1 => ?_)
  refine Eq.trans (st1 dL_law__681 rfl rfl) ?_
  refine Eq.trans (st1 dL_law__682 rfl rfl) ?_
  refine Eq.trans (xiconst dL_law__684 ci_2) ?_
  refine Eq.trans (st1 dL_law__685 rfl rfl) ?_
  refine Eq.trans (al5 dL_law__686 kd_XB (by decide)) (gd_congr fun g2 => ?_)
  exact iv0 dL_law__687 rfl cp_13_157 rfl rfl (kd_ka ka_72) ka_72.1 (Nat.le_of_ble_eq_true rfl)
theorem q_L_law__740b {call : CALL} {L X : Nat} {I : Nat → Nat → Int32} {J : Nat → Nat → Int64} {x4 : Int32} {u5 : Option Value} {y6 : Int64} {s0 : Int32} : runI call iLaw (740, [some (.ref 1000000), some (.ref 0), some (.ref 72), some (.ref 632), some (.int x4), u5, some (.long y6), none], [.int s0], (mm L X I J)) = gd (inb (x4 + (nI 1)) L) (gd (inb (x4 + (nI 2)) L) (bnd (call nX12_fire [.ref 72, .int (I 1000000 ((x4 + (nI 1))).toNatClampNeg), .int (I 1000000 ((x4 + (nI 2))).toNatClampNeg)] (mm L X I J)) (fun v m' => runI call iLaw (758, [some (.ref 1000000), some (.ref 0), some (.ref 72), some (.ref 632), some (.int x4), some (.int s0), some (.long y6), none], v.toList ++ [], m')))) := by
  refine Eq.trans (st1 dL_law__740 rfl rfl) ?_
  refine Eq.trans (st1 dL_law__742 rfl rfl) ?_
  refine Eq.trans (st1 dL_law__743 rfl rfl) ?_
  refine Eq.trans (st1 dL_law__744 rfl rfl) ?_
  refine Eq.trans (xiconst dL_law__746 ci_1) ?_
  refine Eq.trans (st1 dL_law__747 rfl rfl) ?_
  refine Eq.trans (al5 dL_law__748 kd_XB (by decide)) (gd_congr fun g1 => ?_)
  refine Eq.trans (st1 dL_law__749 rfl rfl) ?_
  refine Eq.trans (st1 dL_law__750 rfl rfl) ?_
  refine Eq.trans (xiconst dL_law__752 ci_2) ?_
  refine Eq.trans (st1 dL_law__753 rfl rfl) ?_
  refine Eq.trans (al5 dL_law__754 kd_XB (by decide)) (gd_congr fun g2 => ?_)
  exact iv0 dL_law__755 rfl cp_13_160 rfl rfl (kd_ka ka_72) ka_72.1 (Nat.le_of_ble_eq_true rfl)
theorem q_L_law__802b {call : CALL} {L X : Nat} {I : Nat → Nat → Int32} {J : Nat → Nat → Int64} {x4 : Int32} {u5 : Option Value} {y6 : Int64} {s0 : Int32} : runI call iLaw (802, [some (.ref 1000000), some (.ref 0), some (.ref 72), some (.ref 632), some (.int x4), u5, some (.long y6), none], [.int s0], (mm L X I J)) = gd (inb (x4 + (nI 1)) L) (bnd (call nX12_row [.ref 72, .int (I 1000000 ((x4 + (nI 1))).toNatClampNeg)] (mm L X I J)) (fun v m' => runI call iLaw (814, [some (.ref 1000000), some (.ref 0), some (.ref 72), some (.ref 632), some (.int x4), some (.int s0), some (.long y6), none], v.toList ++ [], m'))) := by
  refine Eq.trans (st1 dL_law__802 rfl rfl) ?_
  refine Eq.trans (st1 dL_law__804 rfl rfl) ?_
  refine Eq.trans (st1 dL_law__805 rfl rfl) ?_
  refine Eq.trans (st1 dL_law__806 rfl rfl) ?_
  refine Eq.trans (xiconst dL_law__808 ci_1) ?_
  refine Eq.trans (st1 dL_law__809 rfl rfl) ?_
  refine Eq.trans (al5 dL_law__810 kd_XB (by decide)) (gd_congr fun g1 => ?_)
  exact iv0 dL_law__811 rfl cp_13_163 rfl rfl (kd_ka ka_72) ka_72.1 (Nat.le_of_ble_eq_true rfl)
theorem q_L_law__858b {call : CALL} {L X : Nat} {I : Nat → Nat → Int32} {J : Nat → Nat → Int64} {x4 : Int32} {u5 : Option Value} {y6 : Int64} {s0 : Int32} : runI call iLaw (858, [some (.ref 1000000), some (.ref 0), some (.ref 72), some (.ref 632), some (.int x4), u5, some (.long y6), none], [.int s0], (mm L X I J)) = gd (inb (x4 + (nI 1)) L) (bnd (call nX12_behind [.ref 72, .int (I 1000000 ((x4 + (nI 1))).toNatClampNeg)] (mm L X I J)) (fun v m' => runI call iLaw (870, [some (.ref 1000000), some (.ref 0), some (.ref 72), some (.ref 632), some (.int x4), some (.int s0), some (.long y6), none], v.toList ++ [], m'))) := by
  refine Eq.trans (st1 dL_law__858 rfl rfl) ?_
  refine Eq.trans (st1 dL_law__860 rfl rfl) ?_
  refine Eq.trans (st1 dL_law__861 rfl rfl) ?_
  refine Eq.trans (st1 dL_law__862 rfl rfl) ?_
  refine Eq.trans (xiconst dL_law__864 ci_1) ?_
  refine Eq.trans (st1 dL_law__865 rfl rfl) ?_
  refine Eq.trans (al5 dL_law__866 kd_XB (by decide)) (gd_congr fun g1 => ?_)
  exact iv0 dL_law__867 rfl cp_13_166 rfl rfl (kd_ka ka_72) ka_72.1 (Nat.le_of_ble_eq_true rfl)
theorem q_L_law__966b {call : CALL} {L X : Nat} {I : Nat → Nat → Int32} {J : Nat → Nat → Int64} {x4 : Int32} {u5 : Option Value} {y6 : Int64} {s0 : Int32} : runI call iLaw (966, [some (.ref 1000000), some (.ref 0), some (.ref 72), some (.ref 632), some (.int x4), u5, some (.long y6), none], [.int s0], (mm L X I J)) = gd (inb (x4 + (nI 1)) L) (gd (inb (x4 + (nI 2)) L) (gd (inb (x4 + (nI 3)) L) (gd (inb (x4 + (nI 4)) L) (gd (inb (x4 + (nI 5)) L) (gd (inb (x4 + (nI 6)) L) (gd (inb (x4 + (nI 7)) L) (gd (inb (x4 + (nI 8)) L) (gd (inb (x4 + (nI 9)) L) (bnd (call nX12_would [.ref 72, .int (I 1000000 ((x4 + (nI 1))).toNatClampNeg), .int (I 1000000 ((x4 + (nI 2))).toNatClampNeg), .int (I 1000000 ((x4 + (nI 3))).toNatClampNeg), .int (I 1000000 ((x4 + (nI 4))).toNatClampNeg), .int (I 1000000 ((x4 + (nI 5))).toNatClampNeg), .int (I 1000000 ((x4 + (nI 6))).toNatClampNeg), .int (I 1000000 ((x4 + (nI 7))).toNatClampNeg), .int (I 1000000 ((x4 + (nI 8))).toNatClampNeg), .int (I 1000000 ((x4 + (nI 9))).toNatClampNeg)] (mm L X I J)) (fun v m' => runI call iLaw (1030, [some (.ref 1000000), some (.ref 0), some (.ref 72), some (.ref 632), some (.int x4), some (.int s0), some (.long y6), none], v.toList ++ [], m'))))))))))) := by
  refine Eq.trans (st1 dL_law__966 rfl rfl) ?_
  refine Eq.trans (st1 dL_law__968 rfl rfl) ?_
  refine Eq.trans (st1 dL_law__969 rfl rfl) ?_
  refine Eq.trans (st1 dL_law__970 rfl rfl) ?_
  refine Eq.trans (xiconst dL_law__972 ci_1) ?_
  refine Eq.trans (st1 dL_law__973 rfl rfl) ?_
  refine Eq.trans (al5 dL_law__974 kd_XB (by decide)) (gd_congr fun g1 => ?_)
  refine Eq.trans (st1 dL_law__975 rfl rfl) ?_
  refine Eq.trans (st1 dL_law__976 rfl rfl) ?_
  refine Eq.trans (xiconst dL_law__978 ci_2) ?_
  refine Eq.trans (st1 dL_law__979 rfl rfl) ?_
  refine Eq.trans (al5 dL_law__980 kd_XB (by decide)) (gd_congr fun g2 => ?_)
  refine Eq.trans (st1 dL_law__981 rfl rfl) ?_
  refine Eq.trans (st1 dL_law__982 rfl rfl) ?_
  refine Eq.trans (xiconst dL_law__984 ci_3) ?_
  refine Eq.trans (st1 dL_law__985 rfl rfl) ?_
  refine Eq.trans (al5 dL_law__986 kd_XB (by decide)) (gd_congr fun g3 => ?_)
  refine Eq.trans (st1 dL_law__987 rfl rfl) ?_
  refine Eq.trans (st1 dL_law__988 rfl rfl) ?_
  refine Eq.trans (xiconst dL_law__990 ci_4) ?_
  refine Eq.trans (st1 dL_law__991 rfl rfl) ?_
  refine Eq.trans (al5 dL_law__992 kd_XB (by decide)) (gd_congr fun g4 => ?_)
  refine Eq.trans (st1 dL_law__993 rfl rfl) ?_
  refine Eq.trans (st1 dL_law__994 rfl rfl) ?_
  refine Eq.trans (xiconst dL_law__996 ci_5) ?_
  refine Eq.trans (st1 dL_law__997 rfl rfl) ?_
  refine Eq.trans (al5 dL_law__998 kd_XB (by decide)) (gd_congr fun g5 => ?_)
  refine Eq.trans (st1 dL_law__999 rfl rfl) ?_
  refine Eq.trans (st1 dL_law__1000 rfl rfl) ?_
  refine Eq.trans (xbipush dL_law__1002 cb_6) ?_
  refine Eq.trans (st1 dL_law__1004 rfl rfl) ?_
  refine Eq.trans (al5 dL_law__1005 kd_XB (by decide)) (gd_congr fun g6 => ?_)
  refine Eq.trans (st1 dL_law__1006 rfl rfl) ?_
  refine Eq.trans (st1 dL_law__1007 rfl rfl) ?_
  refine Eq.trans (xbipush dL_law__1009 cb_7) ?_
  refine Eq.trans (st1 dL_law__1011 rfl rfl) ?_
  refine Eq.trans (al5 dL_law__1012 kd_XB (by decide)) (gd_congr fun g7 => ?_)
  refine Eq.trans (st1 dL_law__1013 rfl rfl) ?_
  refine Eq.trans (st1 dL_law__1014 rfl rfl) ?_
  refine Eq.trans (xbipush dL_law__1016 cb_8) ?_
  refine Eq.trans (st1 dL_law__1018 rfl rfl) ?_
  refine Eq.trans (al5 dL_law__1019 kd_XB (by decide)) (gd_congr fun g8 => ?_)
  refine Eq.trans (st1 dL_law__1020 rfl rfl) ?_
  refine Eq.trans (st1 dL_law__1021 rfl rfl) ?_
  refine Eq.trans (xbipush dL_law__1023 cb_9) ?_
  refine Eq.trans (st1 dL_law__1025 rfl rfl) ?_
  refine Eq.trans (al5 dL_law__1026 kd_XB (by decide)) (gd_congr fun g9 => ?_)
  exact iv0 dL_law__1027 rfl cp_13_170 rfl rfl (kd_ka ka_72) ka_72.1 (Nat.le_of_ble_eq_true rfl)
theorem q_L_law__1080b {call : CALL} {L X : Nat} {I : Nat → Nat → Int32} {J : Nat → Nat → Int64} {x4 : Int32} {u5 : Option Value} {y6 : Int64} {s0 : Int32} : runI call iLaw (1080, [some (.ref 1000000), some (.ref 0), some (.ref 72), some (.ref 632), some (.int x4), u5, some (.long y6), none], [.int s0], (mm L X I J)) = gd (inb (x4 + (nI 1)) L) (gd (inb (x4 + (nI 2)) L) (bnd (call nX12_fits [.ref 72, .int (I 1000000 ((x4 + (nI 1))).toNatClampNeg), .int (I 1000000 ((x4 + (nI 2))).toNatClampNeg)] (mm L X I J)) (fun v m' => runI call iLaw (1098, [some (.ref 1000000), some (.ref 0), some (.ref 72), some (.ref 632), some (.int x4), some (.int s0), some (.long y6), none], v.toList ++ [], m')))) := by
  refine Eq.trans (st1 dL_law__1080 rfl rfl) ?_
  refine Eq.trans (st1 dL_law__1082 rfl rfl) ?_
  refine Eq.trans (st1 dL_law__1083 rfl rfl) ?_
  refine Eq.trans (st1 dL_law__1084 rfl rfl) ?_
  refine Eq.trans (xiconst dL_law__1086 ci_1) ?_
  refine Eq.trans (st1 dL_law__1087 rfl rfl) ?_
  refine Eq.trans (al5 dL_law__1088 kd_XB (by decide)) (gd_congr fun g1 => ?_)
  refine Eq.trans (st1 dL_law__1089 rfl rfl) ?_
  refine Eq.trans (st1 dL_law__1090 rfl rfl) ?_
  refine Eq.trans (xiconst dL_law__1092 ci_2) ?_
  refine Eq.trans (st1 dL_law__1093 rfl rfl) ?_
  refine Eq.trans (al5 dL_law__1094 kd_XB (by decide)) (gd_congr fun g2 => ?_)
  exact iv0 dL_law__1095 rfl cp_13_173 rfl rfl (kd_ka ka_72) ka_72.1 (Nat.le_of_ble_eq_true rfl)
theorem q_L_law__1149b {call : CALL} {L X : Nat} {I : Nat → Nat → Int32} {J : Nat → Nat → Int64} {x4 : Int32} {u5 : Option Value} {y6 : Int64} {s0 : Int32} : runI call iLaw (1149, [some (.ref 1000000), some (.ref 0), some (.ref 72), some (.ref 632), some (.int x4), u5, some (.long y6), none], [.int s0], (mm L X I J)) = gd (inb (x4 + (nI 1)) L) (bnd (call nX12_can [.ref 72, .int (I 1000000 ((x4 + (nI 1))).toNatClampNeg)] (mm L X I J)) (fun v m' => runI call iLaw (1161, [some (.ref 1000000), some (.ref 0), some (.ref 72), some (.ref 632), some (.int x4), some (.int s0), some (.long y6), none], v.toList ++ [], m'))) := by
  refine Eq.trans (st1 dL_law__1149 rfl rfl) ?_
  refine Eq.trans (st1 dL_law__1151 rfl rfl) ?_
  refine Eq.trans (st1 dL_law__1152 rfl rfl) ?_
  refine Eq.trans (st1 dL_law__1153 rfl rfl) ?_
  refine Eq.trans (xiconst dL_law__1155 ci_1) ?_
  refine Eq.trans (st1 dL_law__1156 rfl rfl) ?_
  refine Eq.trans (al5 dL_law__1157 kd_XB (by decide)) (gd_congr fun g1 => ?_)
  exact iv0 dL_law__1158 rfl cp_13_176 rfl rfl (kd_ka ka_72) ka_72.1 (Nat.le_of_ble_eq_true rfl)
theorem q_L_law__1212b {call : CALL} {L X : Nat} {I : Nat → Nat → Int32} {J : Nat → Nat → Int64} {x4 : Int32} {u5 : Option Value} {y6 : Int64} {s0 : Int32} : runI call iLaw (1212, [some (.ref 1000000), some (.ref 0), some (.ref 72), some (.ref 632), some (.int x4), u5, some (.long y6), none], [.int s0], (mm L X I J)) = gd (inb (x4 + (nI 1)) L) (bnd (call nX12_ahead [.ref 72, .int (I 1000000 ((x4 + (nI 1))).toNatClampNeg)] (mm L X I J)) (fun v m' => runI call iLaw (1224, [some (.ref 1000000), some (.ref 0), some (.ref 72), some (.ref 632), some (.int x4), some (.int s0), some (.long y6), none], v.toList ++ [], m'))) := by
  refine Eq.trans (st1 dL_law__1212 rfl rfl) ?_
  refine Eq.trans (st1 dL_law__1214 rfl rfl) ?_
  refine Eq.trans (st1 dL_law__1215 rfl rfl) ?_
  refine Eq.trans (st1 dL_law__1216 rfl rfl) ?_
  refine Eq.trans (xiconst dL_law__1218 ci_1) ?_
  refine Eq.trans (st1 dL_law__1219 rfl rfl) ?_
  refine Eq.trans (al5 dL_law__1220 kd_XB (by decide)) (gd_congr fun g1 => ?_)
  exact iv0 dL_law__1221 rfl cp_13_179 rfl rfl (kd_ka ka_72) ka_72.1 (Nat.le_of_ble_eq_true rfl)
theorem q_L_law__1268b {call : CALL} {L X : Nat} {I : Nat → Nat → Int32} {J : Nat → Nat → Int64} {x4 : Int32} {u5 : Option Value} {y6 : Int64} {s0 : Int32} : runI call iLaw (1268, [some (.ref 1000000), some (.ref 0), some (.ref 72), some (.ref 632), some (.int x4), u5, some (.long y6), none], [.int s0], (mm L X I J)) = gd (inb (x4 + (nI 1)) L) (bnd (call nX12_chain [.ref 72, .int (I 1000000 ((x4 + (nI 1))).toNatClampNeg)] (mm L X I J)) (fun v m' => runI call iLaw (1280, [some (.ref 1000000), some (.ref 0), some (.ref 72), some (.ref 632), some (.int x4), some (.int s0), some (.long y6), none], v.toList ++ [], m'))) := by
  refine Eq.trans (st1 dL_law__1268 rfl rfl) ?_
  refine Eq.trans (st1 dL_law__1270 rfl rfl) ?_
  refine Eq.trans (st1 dL_law__1271 rfl rfl) ?_
  refine Eq.trans (st1 dL_law__1272 rfl rfl) ?_
  refine Eq.trans (xiconst dL_law__1274 ci_1) ?_
  refine Eq.trans (st1 dL_law__1275 rfl rfl) ?_
  refine Eq.trans (al5 dL_law__1276 kd_XB (by decide)) (gd_congr fun g1 => ?_)
  exact iv0 dL_law__1277 rfl cp_13_182 rfl rfl (kd_ka ka_72) ka_72.1 (Nat.le_of_ble_eq_true rfl)
theorem q_L_law__1324b {call : CALL} {L X : Nat} {I : Nat → Nat → Int32} {J : Nat → Nat → Int64} {x4 : Int32} {u5 : Option Value} {y6 : Int64} {s0 : Int32} : runI call iLaw (1324, [some (.ref 1000000), some (.ref 0), some (.ref 72), some (.ref 632), some (.int x4), u5, some (.long y6), none], [.int s0], (mm L X I J)) = gd (inb (x4 + (nI 1)) L) (bnd (call nX12_chained [.ref 72, .int (I 1000000 ((x4 + (nI 1))).toNatClampNeg)] (mm L X I J)) (fun v m' => runI call iLaw (1336, [some (.ref 1000000), some (.ref 0), some (.ref 72), some (.ref 632), some (.int x4), some (.int s0), some (.long y6), none], v.toList ++ [], m'))) := by
  refine Eq.trans (st1 dL_law__1324 rfl rfl) ?_
  refine Eq.trans (st1 dL_law__1326 rfl rfl) ?_
  refine Eq.trans (st1 dL_law__1327 rfl rfl) ?_
  refine Eq.trans (st1 dL_law__1328 rfl rfl) ?_
  refine Eq.trans (xiconst dL_law__1330 ci_1) ?_
  refine Eq.trans (st1 dL_law__1331 rfl rfl) ?_
  refine Eq.trans (al5 dL_law__1332 kd_XB (by decide)) (gd_congr fun g1 => ?_)
  exact iv0 dL_law__1333 rfl cp_13_185 rfl rfl (kd_ka ka_72) ka_72.1 (Nat.le_of_ble_eq_true rfl)
theorem q_L_law__1380b {call : CALL} {L X : Nat} {I : Nat → Nat → Int32} {J : Nat → Nat → Int64} {x4 : Int32} {u5 : Option Value} {y6 : Int64} {s0 : Int32} : runI call iLaw (1380, [some (.ref 1000000), some (.ref 0), some (.ref 72), some (.ref 632), some (.int x4), u5, some (.long y6), none], [.int s0], (mm L X I J)) = gd (inb (x4 + (nI 1)) L) (bnd (call nX12_brief [.ref 72, .int (I 1000000 ((x4 + (nI 1))).toNatClampNeg)] (mm L X I J)) (fun v m' => runI call iLaw (1392, [some (.ref 1000000), some (.ref 0), some (.ref 72), some (.ref 632), some (.int x4), some (.int s0), some (.long y6), none], v.toList ++ [], m'))) := by
  refine Eq.trans (st1 dL_law__1380 rfl rfl) ?_
  refine Eq.trans (st1 dL_law__1382 rfl rfl) ?_
  refine Eq.trans (st1 dL_law__1383 rfl rfl) ?_
  refine Eq.trans (st1 dL_law__1384 rfl rfl) ?_
  refine Eq.trans (xiconst dL_law__1386 ci_1) ?_
  refine Eq.trans (st1 dL_law__1387 rfl rfl) ?_
  refine Eq.trans (al5 dL_law__1388 kd_XB (by decide)) (gd_congr fun g1 => ?_)
  exact iv0 dL_law__1389 rfl cp_13_188 rfl rfl (kd_ka ka_72) ka_72.1 (Nat.le_of_ble_eq_true rfl)
theorem q_L_law__1442b {call : CALL} {L X : Nat} {I : Nat → Nat → Int32} {J : Nat → Nat → Int64} {x4 : Int32} {u5 : Option Value} {y6 : Int64} {s0 : Int32} : runI call iLaw (1442, [some (.ref 1000000), some (.ref 0), some (.ref 72), some (.ref 632), some (.int x4), u5, some (.long y6), none], [.int s0], (mm L X I J)) = gd (inb (x4 + (nI 1)) L) (gd (inb (x4 + (nI 2)) L) (bnd (call nX12_briefly [.ref 72, .int (I 1000000 ((x4 + (nI 1))).toNatClampNeg), .int (I 1000000 ((x4 + (nI 2))).toNatClampNeg)] (mm L X I J)) (fun v m' => runI call iLaw (1460, [some (.ref 1000000), some (.ref 0), some (.ref 72), some (.ref 632), some (.int x4), some (.int s0), some (.long y6), none], v.toList ++ [], m')))) := by
  refine Eq.trans (st1 dL_law__1442 rfl rfl) ?_
  refine Eq.trans (st1 dL_law__1444 rfl rfl) ?_
  refine Eq.trans (st1 dL_law__1445 rfl rfl) ?_
  refine Eq.trans (st1 dL_law__1446 rfl rfl) ?_
  refine Eq.trans (xiconst dL_law__1448 ci_1) ?_
  refine Eq.trans (st1 dL_law__1449 rfl rfl) ?_
  refine Eq.trans (al5 dL_law__1450 kd_XB (by decide)) (gd_congr fun g1 => ?_)
  refine Eq.trans (st1 dL_law__1451 rfl rfl) ?_
  refine Eq.trans (st1 dL_law__1452 rfl rfl) ?_
  refine Eq.trans (xiconst dL_law__1454 ci_2) ?_
  refine Eq.trans (st1 dL_law__1455 rfl rfl) ?_
  refine Eq.trans (al5 dL_law__1456 kd_XB (by decide)) (gd_congr fun g2 => ?_)
  exact iv0 dL_law__1457 rfl cp_13_191 rfl rfl (kd_ka ka_72) ka_72.1 (Nat.le_of_ble_eq_true rfl)
theorem q_L_law__1504b {call : CALL} {L X : Nat} {I : Nat → Nat → Int32} {J : Nat → Nat → Int64} {x4 : Int32} {u5 : Option Value} {y6 : Int64} {s0 : Int32} : runI call iLaw (1504, [some (.ref 1000000), some (.ref 0), some (.ref 72), some (.ref 632), some (.int x4), u5, some (.long y6), none], [.int s0], (mm L X I J)) = gd (inb (x4 + (nI 1)) L) (bnd (call nX12_joiner [.ref 72, .int (I 1000000 ((x4 + (nI 1))).toNatClampNeg)] (mm L X I J)) (fun v m' => runI call iLaw (1516, [some (.ref 1000000), some (.ref 0), some (.ref 72), some (.ref 632), some (.int x4), some (.int s0), some (.long y6), none], v.toList ++ [], m'))) := by
  refine Eq.trans (st1 dL_law__1504 rfl rfl) ?_
  refine Eq.trans (st1 dL_law__1506 rfl rfl) ?_
  refine Eq.trans (st1 dL_law__1507 rfl rfl) ?_
  refine Eq.trans (st1 dL_law__1508 rfl rfl) ?_
  refine Eq.trans (xiconst dL_law__1510 ci_1) ?_
  refine Eq.trans (st1 dL_law__1511 rfl rfl) ?_
  refine Eq.trans (al5 dL_law__1512 kd_XB (by decide)) (gd_congr fun g1 => ?_)
  exact iv0 dL_law__1513 rfl cp_13_194 rfl rfl (kd_ka ka_72) ka_72.1 (Nat.le_of_ble_eq_true rfl)
theorem q_L_law__1560b {call : CALL} {L X : Nat} {I : Nat → Nat → Int32} {J : Nat → Nat → Int64} {x4 : Int32} {u5 : Option Value} {y6 : Int64} {s0 : Int32} : runI call iLaw (1560, [some (.ref 1000000), some (.ref 0), some (.ref 72), some (.ref 632), some (.int x4), u5, some (.long y6), none], [.int s0], (mm L X I J)) = gd (inb (x4 + (nI 1)) L) (bnd (call nX12_leaks [.ref 72, .int (I 1000000 ((x4 + (nI 1))).toNatClampNeg)] (mm L X I J)) (fun v m' => runI call iLaw (1572, [some (.ref 1000000), some (.ref 0), some (.ref 72), some (.ref 632), some (.int x4), some (.int s0), some (.long y6), none], v.toList ++ [], m'))) := by
  refine Eq.trans (st1 dL_law__1560 rfl rfl) ?_
  refine Eq.trans (st1 dL_law__1562 rfl rfl) ?_
  refine Eq.trans (st1 dL_law__1563 rfl rfl) ?_
  refine Eq.trans (st1 dL_law__1564 rfl rfl) ?_
  refine Eq.trans (xiconst dL_law__1566 ci_1) ?_
  refine Eq.trans (st1 dL_law__1567 rfl rfl) ?_
  refine Eq.trans (al5 dL_law__1568 kd_XB (by decide)) (gd_congr fun g1 => ?_)
  exact iv0 dL_law__1569 rfl cp_13_197 rfl rfl (kd_ka ka_72) ka_72.1 (Nat.le_of_ble_eq_true rfl)
theorem q_L_law__1616b {call : CALL} {L X : Nat} {I : Nat → Nat → Int32} {J : Nat → Nat → Int64} {x4 : Int32} {u5 : Option Value} {y6 : Int64} {s0 : Int32} : runI call iLaw (1616, [some (.ref 1000000), some (.ref 0), some (.ref 72), some (.ref 632), some (.int x4), u5, some (.long y6), none], [.int s0], (mm L X I J)) = gd (inb (x4 + (nI 1)) L) (bnd (call nX12_look [.ref 72, .int (I 1000000 ((x4 + (nI 1))).toNatClampNeg)] (mm L X I J)) (fun v m' => runI call iLaw (1628, [some (.ref 1000000), some (.ref 0), some (.ref 72), some (.ref 632), some (.int x4), some (.int s0), some (.long y6), none], v.toList ++ [], m'))) := by
  refine Eq.trans (st1 dL_law__1616 rfl rfl) ?_
  refine Eq.trans (st1 dL_law__1618 rfl rfl) ?_
  refine Eq.trans (st1 dL_law__1619 rfl rfl) ?_
  refine Eq.trans (st1 dL_law__1620 rfl rfl) ?_
  refine Eq.trans (xiconst dL_law__1622 ci_1) ?_
  refine Eq.trans (st1 dL_law__1623 rfl rfl) ?_
  refine Eq.trans (al5 dL_law__1624 kd_XB (by decide)) (gd_congr fun g1 => ?_)
  exact iv0 dL_law__1625 rfl cp_13_200 rfl rfl (kd_ka ka_72) ka_72.1 (Nat.le_of_ble_eq_true rfl)
theorem q_L_law__1665b {call : CALL} {L X : Nat} {I : Nat → Nat → Int32} {J : Nat → Nat → Int64} {x4 : Int32} {u5 : Option Value} {y6 : Int64} {s0 : Int32} : runI call iLaw (1665, [some (.ref 1000000), some (.ref 0), some (.ref 72), some (.ref 632), some (.int x4), u5, some (.long y6), none], [.int s0], (mm L X I J)) = bnd (call nX12_wed [.ref 72] (mm L X I J)) (fun v m' => runI call iLaw (1669, [some (.ref 1000000), some (.ref 0), some (.ref 72), some (.ref 632), some (.int x4), u5, some (.long y6), none], v.toList ++ [.int s0], m')) := by
  refine Eq.trans (st1 dL_law__1665 rfl rfl) ?_
  exact iv0 dL_law__1666 rfl cp_13_204 rfl rfl (kd_ka ka_72) ka_72.1 (Nat.le_of_ble_eq_true rfl)
theorem q_L_law__1697b {call : CALL} {L X : Nat} {I : Nat → Nat → Int32} {J : Nat → Nat → Int64} {x4 : Int32} {u5 : Option Value} {y6 : Int64} {s0 : Int32} : runI call iLaw (1697, [some (.ref 1000000), some (.ref 0), some (.ref 72), some (.ref 632), some (.int x4), u5, some (.long y6), none], [.int s0], (mm L X I J)) = gd (inb (x4 + (nI 1)) L) (gd (inb (x4 + (nI 2)) L) (gd (inb (x4 + (nI 3)) L) (bnd (call nX12_sure [.ref 72, .int (I 1000000 ((x4 + (nI 1))).toNatClampNeg), .int (I 1000000 ((x4 + (nI 2))).toNatClampNeg), .int (I 1000000 ((x4 + (nI 3))).toNatClampNeg)] (mm L X I J)) (fun v m' => runI call iLaw (1721, [some (.ref 1000000), some (.ref 0), some (.ref 72), some (.ref 632), some (.int x4), some (.int s0), some (.long y6), none], v.toList ++ [], m'))))) := by
  refine Eq.trans (st1 dL_law__1697 rfl rfl) ?_
  refine Eq.trans (st1 dL_law__1699 rfl rfl) ?_
  refine Eq.trans (st1 dL_law__1700 rfl rfl) ?_
  refine Eq.trans (st1 dL_law__1701 rfl rfl) ?_
  refine Eq.trans (xiconst dL_law__1703 ci_1) ?_
  refine Eq.trans (st1 dL_law__1704 rfl rfl) ?_
  refine Eq.trans (al5 dL_law__1705 kd_XB (by decide)) (gd_congr fun g1 => ?_)
  refine Eq.trans (st1 dL_law__1706 rfl rfl) ?_
  refine Eq.trans (st1 dL_law__1707 rfl rfl) ?_
  refine Eq.trans (xiconst dL_law__1709 ci_2) ?_
  refine Eq.trans (st1 dL_law__1710 rfl rfl) ?_
  refine Eq.trans (al5 dL_law__1711 kd_XB (by decide)) (gd_congr fun g2 => ?_)
  refine Eq.trans (st1 dL_law__1712 rfl rfl) ?_
  refine Eq.trans (st1 dL_law__1713 rfl rfl) ?_
  refine Eq.trans (xiconst dL_law__1715 ci_3) ?_
  refine Eq.trans (st1 dL_law__1716 rfl rfl) ?_
  refine Eq.trans (al5 dL_law__1717 kd_XB (by decide)) (gd_congr fun g3 => ?_)
  exact iv0 dL_law__1718 rfl cp_13_208 rfl rfl (kd_ka ka_72) ka_72.1 (Nat.le_of_ble_eq_true rfl)
theorem q_L_law__1776b {call : CALL} {L X : Nat} {I : Nat → Nat → Int32} {J : Nat → Nat → Int64} {x4 : Int32} {u5 : Option Value} {y6 : Int64} {s0 : Int32} : runI call iLaw (1776, [some (.ref 1000000), some (.ref 0), some (.ref 72), some (.ref 632), some (.int x4), u5, some (.long y6), none], [.int s0], (mm L X I J)) = gd (inb (x4 + (nI 1)) L) (gd (inb (x4 + (nI 2)) L) (gd (inb (x4 + (nI 3)) L) (bnd (call nX12_street [.ref 72, .int (I 1000000 ((x4 + (nI 1))).toNatClampNeg), .int (I 1000000 ((x4 + (nI 2))).toNatClampNeg), .int (I 1000000 ((x4 + (nI 3))).toNatClampNeg)] (mm L X I J)) (fun v m' => runI call iLaw (1800, [some (.ref 1000000), some (.ref 0), some (.ref 72), some (.ref 632), some (.int x4), some (.int s0), some (.long y6), none], v.toList ++ [], m'))))) := by
  refine Eq.trans (st1 dL_law__1776 rfl rfl) ?_
  refine Eq.trans (st1 dL_law__1778 rfl rfl) ?_
  refine Eq.trans (st1 dL_law__1779 rfl rfl) ?_
  refine Eq.trans (st1 dL_law__1780 rfl rfl) ?_
  refine Eq.trans (xiconst dL_law__1782 ci_1) ?_
  refine Eq.trans (st1 dL_law__1783 rfl rfl) ?_
  refine Eq.trans (al5 dL_law__1784 kd_XB (by decide)) (gd_congr fun g1 => ?_)
  refine Eq.trans (st1 dL_law__1785 rfl rfl) ?_
  refine Eq.trans (st1 dL_law__1786 rfl rfl) ?_
  refine Eq.trans (xiconst dL_law__1788 ci_2) ?_
  refine Eq.trans (st1 dL_law__1789 rfl rfl) ?_
  refine Eq.trans (al5 dL_law__1790 kd_XB (by decide)) (gd_congr fun g2 => ?_)
  refine Eq.trans (st1 dL_law__1791 rfl rfl) ?_
  refine Eq.trans (st1 dL_law__1792 rfl rfl) ?_
  refine Eq.trans (xiconst dL_law__1794 ci_3) ?_
  refine Eq.trans (st1 dL_law__1795 rfl rfl) ?_
  refine Eq.trans (al5 dL_law__1796 kd_XB (by decide)) (gd_congr fun g3 => ?_)
  exact iv0 dL_law__1797 rfl cp_13_211 rfl rfl (kd_ka ka_72) ka_72.1 (Nat.le_of_ble_eq_true rfl)
theorem q_L_law__1856b {call : CALL} {L X : Nat} {I : Nat → Nat → Int32} {J : Nat → Nat → Int64} {x4 : Int32} {u5 : Option Value} {y6 : Int64} {s0 : Int32} : runI call iLaw (1856, [some (.ref 1000000), some (.ref 0), some (.ref 72), some (.ref 632), some (.int x4), u5, some (.long y6), none], [.int s0], (mm L X I J)) = gd (inb (x4 + (nI 1)) L) (gd (inb (x4 + (nI 2)) L) (gd (inb (x4 + (nI 3)) L) (bnd (call nX12_share [.ref 72, .int (I 1000000 ((x4 + (nI 1))).toNatClampNeg), .int (I 1000000 ((x4 + (nI 2))).toNatClampNeg), .int (I 1000000 ((x4 + (nI 3))).toNatClampNeg)] (mm L X I J)) (fun v m' => runI call iLaw (1880, [some (.ref 1000000), some (.ref 0), some (.ref 72), some (.ref 632), some (.int x4), some (.int s0), some (.long y6), none], v.toList ++ [], m'))))) := by
  refine Eq.trans (st1 dL_law__1856 rfl rfl) ?_
  refine Eq.trans (st1 dL_law__1858 rfl rfl) ?_
  refine Eq.trans (st1 dL_law__1859 rfl rfl) ?_
  refine Eq.trans (st1 dL_law__1860 rfl rfl) ?_
  refine Eq.trans (xiconst dL_law__1862 ci_1) ?_
  refine Eq.trans (st1 dL_law__1863 rfl rfl) ?_
  refine Eq.trans (al5 dL_law__1864 kd_XB (by decide)) (gd_congr fun g1 => ?_)
  refine Eq.trans (st1 dL_law__1865 rfl rfl) ?_
  refine Eq.trans (st1 dL_law__1866 rfl rfl) ?_
  refine Eq.trans (xiconst dL_law__1868 ci_2) ?_
  refine Eq.trans (st1 dL_law__1869 rfl rfl) ?_
  refine Eq.trans (al5 dL_law__1870 kd_XB (by decide)) (gd_congr fun g2 => ?_)
  refine Eq.trans (st1 dL_law__1871 rfl rfl) ?_
  refine Eq.trans (st1 dL_law__1872 rfl rfl) ?_
  refine Eq.trans (xiconst dL_law__1874 ci_3) ?_
  refine Eq.trans (st1 dL_law__1875 rfl rfl) ?_
  refine Eq.trans (al5 dL_law__1876 kd_XB (by decide)) (gd_congr fun g3 => ?_)
  exact iv0 dL_law__1877 rfl cp_13_214 rfl rfl (kd_ka ka_72) ka_72.1 (Nat.le_of_ble_eq_true rfl)
theorem q_L_law__1924b {call : CALL} {L X : Nat} {I : Nat → Nat → Int32} {J : Nat → Nat → Int64} {x4 : Int32} {u5 : Option Value} {y6 : Int64} {s0 : Int32} : runI call iLaw (1924, [some (.ref 1000000), some (.ref 0), some (.ref 72), some (.ref 632), some (.int x4), u5, some (.long y6), none], [.int s0], (mm L X I J)) = gd (inb (x4 + (nI 1)) L) (bnd (call nX12_next [.ref 72, .int (I 1000000 ((x4 + (nI 1))).toNatClampNeg)] (mm L X I J)) (fun v m' => runI call iLaw (1936, [some (.ref 1000000), some (.ref 0), some (.ref 72), some (.ref 632), some (.int x4), some (.int s0), some (.long y6), none], v.toList ++ [], m'))) := by
  refine Eq.trans (st1 dL_law__1924 rfl rfl) ?_
  refine Eq.trans (st1 dL_law__1926 rfl rfl) ?_
  refine Eq.trans (st1 dL_law__1927 rfl rfl) ?_
  refine Eq.trans (st1 dL_law__1928 rfl rfl) ?_
  refine Eq.trans (xiconst dL_law__1930 ci_1) ?_
  refine Eq.trans (st1 dL_law__1931 rfl rfl) ?_
  refine Eq.trans (al5 dL_law__1932 kd_XB (by decide)) (gd_congr fun g1 => ?_)
  exact iv0 dL_law__1933 rfl cp_13_217 rfl rfl (kd_ka ka_72) ka_72.1 (Nat.le_of_ble_eq_true rfl)
theorem q_L_law__1980b {call : CALL} {L X : Nat} {I : Nat → Nat → Int32} {J : Nat → Nat → Int64} {x4 : Int32} {u5 : Option Value} {y6 : Int64} {s0 : Int32} : runI call iLaw (1980, [some (.ref 1000000), some (.ref 0), some (.ref 72), some (.ref 632), some (.int x4), u5, some (.long y6), none], [.int s0], (mm L X I J)) = gd (inb (x4 + (nI 1)) L) (bnd (call nX12_worst [.ref 72, .int (I 1000000 ((x4 + (nI 1))).toNatClampNeg)] (mm L X I J)) (fun v m' => runI call iLaw (1992, [some (.ref 1000000), some (.ref 0), some (.ref 72), some (.ref 632), some (.int x4), some (.int s0), some (.long y6), none], v.toList ++ [], m'))) := by
  refine Eq.trans (st1 dL_law__1980 rfl rfl) ?_
  refine Eq.trans (st1 dL_law__1982 rfl rfl) ?_
  refine Eq.trans (st1 dL_law__1983 rfl rfl) ?_
  refine Eq.trans (st1 dL_law__1984 rfl rfl) ?_
  refine Eq.trans (xiconst dL_law__1986 ci_1) ?_
  refine Eq.trans (st1 dL_law__1987 rfl rfl) ?_
  refine Eq.trans (al5 dL_law__1988 kd_XB (by decide)) (gd_congr fun g1 => ?_)
  exact iv0 dL_law__1989 rfl cp_13_220 rfl rfl (kd_ka ka_72) ka_72.1 (Nat.le_of_ble_eq_true rfl)
theorem q_L_law__2036b {call : CALL} {L X : Nat} {I : Nat → Nat → Int32} {J : Nat → Nat → Int64} {x4 : Int32} {u5 : Option Value} {y6 : Int64} {s0 : Int32} : runI call iLaw (2036, [some (.ref 1000000), some (.ref 0), some (.ref 72), some (.ref 632), some (.int x4), u5, some (.long y6), none], [.int s0], (mm L X I J)) = gd (inb (x4 + (nI 1)) L) (bnd (call nX12_needed [.ref 72, .int (I 1000000 ((x4 + (nI 1))).toNatClampNeg)] (mm L X I J)) (fun v m' => runI call iLaw (2048, [some (.ref 1000000), some (.ref 0), some (.ref 72), some (.ref 632), some (.int x4), some (.int s0), some (.long y6), none], v.toList ++ [], m'))) := by
  refine Eq.trans (st1 dL_law__2036 rfl rfl) ?_
  refine Eq.trans (st1 dL_law__2038 rfl rfl) ?_
  refine Eq.trans (st1 dL_law__2039 rfl rfl) ?_
  refine Eq.trans (st1 dL_law__2040 rfl rfl) ?_
  refine Eq.trans (xiconst dL_law__2042 ci_1) ?_
  refine Eq.trans (st1 dL_law__2043 rfl rfl) ?_
  refine Eq.trans (al5 dL_law__2044 kd_XB (by decide)) (gd_congr fun g1 => ?_)
  exact iv0 dL_law__2045 rfl cp_13_223 rfl rfl (kd_ka ka_72) ka_72.1 (Nat.le_of_ble_eq_true rfl)
theorem q_L_law__2092b {call : CALL} {L X : Nat} {I : Nat → Nat → Int32} {J : Nat → Nat → Int64} {x4 : Int32} {u5 : Option Value} {y6 : Int64} {s0 : Int32} : runI call iLaw (2092, [some (.ref 1000000), some (.ref 0), some (.ref 72), some (.ref 632), some (.int x4), u5, some (.long y6), none], [.int s0], (mm L X I J)) = gd (inb (x4 + (nI 1)) L) (bnd (call nX12_kin [.ref 72, .int (I 1000000 ((x4 + (nI 1))).toNatClampNeg)] (mm L X I J)) (fun v m' => runI call iLaw (2104, [some (.ref 1000000), some (.ref 0), some (.ref 72), some (.ref 632), some (.int x4), some (.int s0), some (.long y6), none], v.toList ++ [], m'))) := by
  refine Eq.trans (st1 dL_law__2092 rfl rfl) ?_
  refine Eq.trans (st1 dL_law__2094 rfl rfl) ?_
  refine Eq.trans (st1 dL_law__2095 rfl rfl) ?_
  refine Eq.trans (st1 dL_law__2096 rfl rfl) ?_
  refine Eq.trans (xiconst dL_law__2098 ci_1) ?_
  refine Eq.trans (st1 dL_law__2099 rfl rfl) ?_
  refine Eq.trans (al5 dL_law__2100 kd_XB (by decide)) (gd_congr fun g1 => ?_)
  exact iv0 dL_law__2101 rfl cp_13_226 rfl rfl (kd_ka ka_72) ka_72.1 (Nat.le_of_ble_eq_true rfl)
theorem q_L_law__2166b {call : CALL} {L X : Nat} {I : Nat → Nat → Int32} {J : Nat → Nat → Int64} {x4 : Int32} {u5 : Option Value} {y6 : Int64} {s0 : Int32} : runI call iLaw (2166, [some (.ref 1000000), some (.ref 0), some (.ref 72), some (.ref 632), some (.int x4), u5, some (.long y6), none], [.int s0], (mm L X I J)) = gd (inb (x4 + (nI 1)) L) (gd (inb (x4 + (nI 2)) L) (gd (inb (x4 + (nI 3)) L) (gd (inb (x4 + (nI 4)) L) (bnd (call nX12_year [.ref 72, .int (I 1000000 ((x4 + (nI 1))).toNatClampNeg), .int (I 1000000 ((x4 + (nI 2))).toNatClampNeg), .int (I 1000000 ((x4 + (nI 3))).toNatClampNeg), .int (I 1000000 ((x4 + (nI 4))).toNatClampNeg)] (mm L X I J)) (fun v m' => runI call iLaw (2196, [some (.ref 1000000), some (.ref 0), some (.ref 72), some (.ref 632), some (.int x4), some (.int s0), some (.long y6), none], v.toList ++ [], m')))))) := by
  refine Eq.trans (st1 dL_law__2166 rfl rfl) ?_
  refine Eq.trans (st1 dL_law__2168 rfl rfl) ?_
  refine Eq.trans (st1 dL_law__2169 rfl rfl) ?_
  refine Eq.trans (st1 dL_law__2170 rfl rfl) ?_
  refine Eq.trans (xiconst dL_law__2172 ci_1) ?_
  refine Eq.trans (st1 dL_law__2173 rfl rfl) ?_
  refine Eq.trans (al5 dL_law__2174 kd_XB (by decide)) (gd_congr fun g1 => ?_)
  refine Eq.trans (st1 dL_law__2175 rfl rfl) ?_
  refine Eq.trans (st1 dL_law__2176 rfl rfl) ?_
  refine Eq.trans (xiconst dL_law__2178 ci_2) ?_
  refine Eq.trans (st1 dL_law__2179 rfl rfl) ?_
  refine Eq.trans (al5 dL_law__2180 kd_XB (by decide)) (gd_congr fun g2 => ?_)
  refine Eq.trans (st1 dL_law__2181 rfl rfl) ?_
  refine Eq.trans (st1 dL_law__2182 rfl rfl) ?_
  refine Eq.trans (xiconst dL_law__2184 ci_3) ?_
  refine Eq.trans (st1 dL_law__2185 rfl rfl) ?_
  refine Eq.trans (al5 dL_law__2186 kd_XB (by decide)) (gd_congr fun g3 => ?_)
  refine Eq.trans (st1 dL_law__2187 rfl rfl) ?_
  refine Eq.trans (st1 dL_law__2188 rfl rfl) ?_
  refine Eq.trans (xiconst dL_law__2190 ci_4) ?_
  refine Eq.trans (st1 dL_law__2191 rfl rfl) ?_
  refine Eq.trans (al5 dL_law__2192 kd_XB (by decide)) (gd_congr fun g4 => ?_)
  exact iv0 dL_law__2193 rfl cp_13_230 rfl rfl (kd_ka ka_72) ka_72.1 (Nat.le_of_ble_eq_true rfl)
theorem q_L_law__2271b {call : CALL} {L X : Nat} {I : Nat → Nat → Int32} {J : Nat → Nat → Int64} {x4 : Int32} {u5 : Option Value} {y6 : Int64} {s0 : Int32} : runI call iLaw (2271, [some (.ref 1000000), some (.ref 0), some (.ref 72), some (.ref 632), some (.int x4), u5, some (.long y6), none], [.int s0], (mm L X I J)) = gd (inb (x4 + (nI 1)) L) (gd (inb (x4 + (nI 2)) L) (gd (inb (x4 + (nI 3)) L) (gd (inb (x4 + (nI 4)) L) (gd (inb (x4 + (nI 5)) L) (gd (inb (x4 + (nI 6)) L) (bnd (call nX12_span [.ref 72, .int (I 1000000 ((x4 + (nI 1))).toNatClampNeg), .int (I 1000000 ((x4 + (nI 2))).toNatClampNeg), .int (I 1000000 ((x4 + (nI 3))).toNatClampNeg), .int (I 1000000 ((x4 + (nI 4))).toNatClampNeg), .int (I 1000000 ((x4 + (nI 5))).toNatClampNeg), .int (I 1000000 ((x4 + (nI 6))).toNatClampNeg)] (mm L X I J)) (fun v m' => runI call iLaw (2314, [some (.ref 1000000), some (.ref 0), some (.ref 72), some (.ref 632), some (.int x4), some (.int s0), some (.long y6), none], v.toList ++ [], m')))))))) := by
  refine Eq.trans (st1 dL_law__2271 rfl rfl) ?_
  refine Eq.trans (st1 dL_law__2273 rfl rfl) ?_
  refine Eq.trans (st1 dL_law__2274 rfl rfl) ?_
  refine Eq.trans (st1 dL_law__2275 rfl rfl) ?_
  refine Eq.trans (xiconst dL_law__2277 ci_1) ?_
  refine Eq.trans (st1 dL_law__2278 rfl rfl) ?_
  refine Eq.trans (al5 dL_law__2279 kd_XB (by decide)) (gd_congr fun g1 => ?_)
  refine Eq.trans (st1 dL_law__2280 rfl rfl) ?_
  refine Eq.trans (st1 dL_law__2281 rfl rfl) ?_
  refine Eq.trans (xiconst dL_law__2283 ci_2) ?_
  refine Eq.trans (st1 dL_law__2284 rfl rfl) ?_
  refine Eq.trans (al5 dL_law__2285 kd_XB (by decide)) (gd_congr fun g2 => ?_)
  refine Eq.trans (st1 dL_law__2286 rfl rfl) ?_
  refine Eq.trans (st1 dL_law__2287 rfl rfl) ?_
  refine Eq.trans (xiconst dL_law__2289 ci_3) ?_
  refine Eq.trans (st1 dL_law__2290 rfl rfl) ?_
  refine Eq.trans (al5 dL_law__2291 kd_XB (by decide)) (gd_congr fun g3 => ?_)
  refine Eq.trans (st1 dL_law__2292 rfl rfl) ?_
  refine Eq.trans (st1 dL_law__2293 rfl rfl) ?_
  refine Eq.trans (xiconst dL_law__2295 ci_4) ?_
  refine Eq.trans (st1 dL_law__2296 rfl rfl) ?_
  refine Eq.trans (al5 dL_law__2297 kd_XB (by decide)) (gd_congr fun g4 => ?_)
  refine Eq.trans (st1 dL_law__2298 rfl rfl) ?_
  refine Eq.trans (st1 dL_law__2299 rfl rfl) ?_
  refine Eq.trans (xiconst dL_law__2301 ci_5) ?_
  refine Eq.trans (st1 dL_law__2302 rfl rfl) ?_
  refine Eq.trans (al5 dL_law__2303 kd_XB (by decide)) (gd_congr fun g5 => ?_)
  refine Eq.trans (st1 dL_law__2304 rfl rfl) ?_
  refine Eq.trans (st1 dL_law__2305 rfl rfl) ?_
  refine Eq.trans (xbipush dL_law__2307 cb_6) ?_
  refine Eq.trans (st1 dL_law__2309 rfl rfl) ?_
  refine Eq.trans (al5 dL_law__2310 kd_XB (by decide)) (gd_congr fun g6 => ?_)
  exact iv0 dL_law__2311 rfl cp_13_234 rfl rfl (kd_ka ka_72) ka_72.1 (Nat.le_of_ble_eq_true rfl)
theorem q_L_law__2351b {call : CALL} {L X : Nat} {I : Nat → Nat → Int32} {J : Nat → Nat → Int64} {x4 : Int32} {u5 : Option Value} {y6 : Int64} {s0 : Int32} : runI call iLaw (2351, [some (.ref 1000000), some (.ref 0), some (.ref 72), some (.ref 632), some (.int x4), u5, some (.long y6), none], [.int s0], (mm L X I J)) = bnd (call nX12_image [.ref 72] (mm L X I J)) (fun v m' => runI call iLaw (2355, [some (.ref 1000000), some (.ref 0), some (.ref 72), some (.ref 632), some (.int x4), u5, some (.long y6), none], v.toList ++ [.int s0], m')) := by
  refine Eq.trans (st1 dL_law__2351 rfl rfl) ?_
  exact iv0 dL_law__2352 rfl cp_13_238 rfl rfl (kd_ka ka_72) ka_72.1 (Nat.le_of_ble_eq_true rfl)
theorem q_L_law__2364b {call : CALL} {L X : Nat} {I : Nat → Nat → Int32} {J : Nat → Nat → Int64} {x4 : Int32} {u5 : Option Value} {y6 : Int64} {s0 : Int32} : runI call iLaw (2364, [some (.ref 1000000), some (.ref 0), some (.ref 72), some (.ref 632), some (.int x4), u5, some (.long y6), none], [.int s0], (mm L X I J)) = bnd (call nX12_restore [.ref 72] (mm L X I J)) (fun v m' => runI call iLaw (2368, [some (.ref 1000000), some (.ref 0), some (.ref 72), some (.ref 632), some (.int x4), u5, some (.long y6), none], v.toList ++ [.int s0], m')) := by
  refine Eq.trans (st1 dL_law__2364 rfl rfl) ?_
  exact iv0 dL_law__2365 rfl cp_13_242 rfl rfl (kd_ka ka_72) ka_72.1 (Nat.le_of_ble_eq_true rfl)
theorem q_L_law__2383b {call : CALL} {L X : Nat} {I : Nat → Nat → Int32} {J : Nat → Nat → Int64} {x4 : Int32} {u5 : Option Value} {y6 : Int64} {s0 : Int32} : runI call iLaw (2383, [some (.ref 1000000), some (.ref 0), some (.ref 72), some (.ref 632), some (.int x4), u5, some (.long y6), none], [.int s0], (mm L X I J)) = gd (inb (x4 + (nI 1)) L) (bnd (call nX12_status [.ref 72, .int (I 1000000 ((x4 + (nI 1))).toNatClampNeg)] (mm L X I J)) (fun v m' => runI call iLaw (2393, [some (.ref 1000000), some (.ref 0), some (.ref 72), some (.ref 632), some (.int x4), u5, some (.long y6), none], v.toList ++ [.int s0], m'))) := by
  refine Eq.trans (st1 dL_law__2383 rfl rfl) ?_
  refine Eq.trans (st1 dL_law__2384 rfl rfl) ?_
  refine Eq.trans (st1 dL_law__2385 rfl rfl) ?_
  refine Eq.trans (xiconst dL_law__2387 ci_1) ?_
  refine Eq.trans (st1 dL_law__2388 rfl rfl) ?_
  refine Eq.trans (al5 dL_law__2389 kd_XB (by decide)) (gd_congr fun g1 => ?_)
  exact iv0 dL_law__2390 rfl cp_13_246 rfl rfl (kd_ka ka_72) ka_72.1 (Nat.le_of_ble_eq_true rfl)
theorem q_L_law__2408b {call : CALL} {L X : Nat} {I : Nat → Nat → Int32} {J : Nat → Nat → Int64} {x4 : Int32} {u5 : Option Value} {y6 : Int64} {s0 : Int32} : runI call iLaw (2408, [some (.ref 1000000), some (.ref 0), some (.ref 72), some (.ref 632), some (.int x4), u5, some (.long y6), none], [.int s0], (mm L X I J)) = gd (inb (x4 + (nI 1)) L) (bnd (call nX12_count [.ref 72, .int (I 1000000 ((x4 + (nI 1))).toNatClampNeg)] (mm L X I J)) (fun v m' => runI call iLaw (2418, [some (.ref 1000000), some (.ref 0), some (.ref 72), some (.ref 632), some (.int x4), u5, some (.long y6), none], v.toList ++ [.int s0], m'))) := by
  refine Eq.trans (st1 dL_law__2408 rfl rfl) ?_
  refine Eq.trans (st1 dL_law__2409 rfl rfl) ?_
  refine Eq.trans (st1 dL_law__2410 rfl rfl) ?_
  refine Eq.trans (xiconst dL_law__2412 ci_1) ?_
  refine Eq.trans (st1 dL_law__2413 rfl rfl) ?_
  refine Eq.trans (al5 dL_law__2414 kd_XB (by decide)) (gd_congr fun g1 => ?_)
  exact iv0 dL_law__2415 rfl cp_13_250 rfl rfl (kd_ka ka_72) ka_72.1 (Nat.le_of_ble_eq_true rfl)
theorem q_L_law__276b {call : CALL} {L X : Nat} {I : Nat → Nat → Int32} {J : Nat → Nat → Int64} {x4 : Int32} {u5 : Option Value} {y6 : Int64} {s0 : Int32} {s1 : Int32} : runI call iLaw (276, [some (.ref 1000000), some (.ref 0), some (.ref 72), some (.ref 632), some (.int x4), u5, some (.long y6), none], [.int s1, .int s0], (mm L X I J)) = if s0 = s1 then runI call iLaw (2423, [some (.ref 1000000), some (.ref 0), some (.ref 72), some (.ref 632), some (.int x4), u5, some (.long y6), none], [], (mm L X I J)) else some (.inl (some (.int (nI 0))), (mm L X I J)) := by
  refine Eq.trans (ic_eq (tgt := 2423) dL_law__276 (by decide +kernel)) (ite_cong (fun _ => ?_) (fun _ => ?_))
  · rfl
  · refine Eq.trans (xiconst dL_law__279 ci_0) ?_
    exact ret1 dL_law__280 rfl (.inl rfl)
theorem q_L_law__304b {call : CALL} {L X : Nat} {I : Nat → Nat → Int32} {J : Nat → Nat → Int64} {x4 : Int32} {x5 : Int32} {y6 : Int64} {s0 : Int32} : runI call iLaw (304, [some (.ref 1000000), some (.ref 0), some (.ref 72), some (.ref 632), some (.int x4), some (.int x5), some (.long y6), none], [.int s0], (mm L X I J)) = bnd (call nX12_thrown [.ref 72] (mm L X I J)) (fun v m' => runI call iLaw (310, [some (.ref 1000000), some (.ref 0), some (.ref 72), some (.ref 632), some (.int x4), some (.int x5), some (.int s0), none], v.toList ++ [], m')) := by
  refine Eq.trans (st1 dL_law__304 rfl rfl) ?_
  refine Eq.trans (st1 dL_law__306 rfl rfl) ?_
  exact iv0 dL_law__307 rfl cp_13_127 rfl rfl (kd_ka ka_72) ka_72.1 (Nat.le_of_ble_eq_true rfl)
theorem q_L_law__360b {call : CALL} {L X : Nat} {I : Nat → Nat → Int32} {J : Nat → Nat → Int64} {x4 : Int32} {x5 : Int32} {y6 : Int64} {s0 : Int32} : runI call iLaw (360, [some (.ref 1000000), some (.ref 0), some (.ref 72), some (.ref 632), some (.int x4), some (.int x5), some (.long y6), none], [.int s0], (mm L X I J)) = bnd (call nX12_thrown [.ref 72] (mm L X I J)) (fun v m' => runI call iLaw (366, [some (.ref 1000000), some (.ref 0), some (.ref 72), some (.ref 632), some (.int x4), some (.int x5), some (.int s0), none], v.toList ++ [], m')) := by
  refine Eq.trans (st1 dL_law__360 rfl rfl) ?_
  refine Eq.trans (st1 dL_law__362 rfl rfl) ?_
  exact iv0 dL_law__363 rfl cp_13_127 rfl rfl (kd_ka ka_72) ka_72.1 (Nat.le_of_ble_eq_true rfl)
theorem q_L_law__416b {call : CALL} {L X : Nat} {I : Nat → Nat → Int32} {J : Nat → Nat → Int64} {x4 : Int32} {x5 : Int32} {y6 : Int64} {s0 : Int32} : runI call iLaw (416, [some (.ref 1000000), some (.ref 0), some (.ref 72), some (.ref 632), some (.int x4), some (.int x5), some (.long y6), none], [.int s0], (mm L X I J)) = bnd (call nX12_thrown [.ref 72] (mm L X I J)) (fun v m' => runI call iLaw (422, [some (.ref 1000000), some (.ref 0), some (.ref 72), some (.ref 632), some (.int x4), some (.int x5), some (.int s0), none], v.toList ++ [], m')) := by
  refine Eq.trans (st1 dL_law__416 rfl rfl) ?_
  refine Eq.trans (st1 dL_law__418 rfl rfl) ?_
  exact iv0 dL_law__419 rfl cp_13_127 rfl rfl (kd_ka ka_72) ka_72.1 (Nat.le_of_ble_eq_true rfl)
theorem q_L_law__472b {call : CALL} {L X : Nat} {I : Nat → Nat → Int32} {J : Nat → Nat → Int64} {x4 : Int32} {x5 : Int32} {y6 : Int64} {s0 : Int32} : runI call iLaw (472, [some (.ref 1000000), some (.ref 0), some (.ref 72), some (.ref 632), some (.int x4), some (.int x5), some (.long y6), none], [.int s0], (mm L X I J)) = bnd (call nX12_thrown [.ref 72] (mm L X I J)) (fun v m' => runI call iLaw (478, [some (.ref 1000000), some (.ref 0), some (.ref 72), some (.ref 632), some (.int x4), some (.int x5), some (.int s0), none], v.toList ++ [], m')) := by
  refine Eq.trans (st1 dL_law__472 rfl rfl) ?_
  refine Eq.trans (st1 dL_law__474 rfl rfl) ?_
  exact iv0 dL_law__475 rfl cp_13_127 rfl rfl (kd_ka ka_72) ka_72.1 (Nat.le_of_ble_eq_true rfl)
theorem q_L_law__513b {call : CALL} {L X : Nat} {I : Nat → Nat → Int32} {J : Nat → Nat → Int64} {x4 : Int32} {u5 : Option Value} {y6 : Int64} {s0 : Int32} {s1 : Int32} : runI call iLaw (513, [some (.ref 1000000), some (.ref 0), some (.ref 72), some (.ref 632), some (.int x4), u5, some (.long y6), none], [.int s1, .int s0], (mm L X I J)) = if s0 = s1 then runI call iLaw (2423, [some (.ref 1000000), some (.ref 0), some (.ref 72), some (.ref 632), some (.int x4), u5, some (.long y6), none], [], (mm L X I J)) else some (.inl (some (.int (nI 0))), (mm L X I J)) := by
  refine Eq.trans (ic_eq (tgt := 2423) dL_law__513 (by decide +kernel)) (ite_cong (fun _ => ?_) (fun _ => ?_))
  · rfl
  · refine Eq.trans (xiconst dL_law__516 ci_0) ?_
    exact ret1 dL_law__517 rfl (.inl rfl)
theorem q_L_law__526b {call : CALL} {L X : Nat} {I : Nat → Nat → Int32} {J : Nat → Nat → Int64} {x4 : Int32} {u5 : Option Value} {y6 : Int64} {s0 : Int32} {s1 : Int32} : runI call iLaw (526, [some (.ref 1000000), some (.ref 0), some (.ref 72), some (.ref 632), some (.int x4), u5, some (.long y6), none], [.int s1, .int s0], (mm L X I J)) = if s0 = s1 then runI call iLaw (2423, [some (.ref 1000000), some (.ref 0), some (.ref 72), some (.ref 632), some (.int x4), u5, some (.long y6), none], [], (mm L X I J)) else some (.inl (some (.int (nI 0))), (mm L X I J)) := by
  refine Eq.trans (ic_eq (tgt := 2423) dL_law__526 (by decide +kernel)) (ite_cong (fun _ => ?_) (fun _ => ?_))
  · rfl
  · refine Eq.trans (xiconst dL_law__529 ci_0) ?_
    exact ret1 dL_law__530 rfl (.inl rfl)
theorem q_L_law__554b {call : CALL} {L X : Nat} {I : Nat → Nat → Int32} {J : Nat → Nat → Int64} {x4 : Int32} {x5 : Int32} {y6 : Int64} {s0 : Int32} : runI call iLaw (554, [some (.ref 1000000), some (.ref 0), some (.ref 72), some (.ref 632), some (.int x4), some (.int x5), some (.long y6), none], [.int s0], (mm L X I J)) = bnd (call nX12_thrown [.ref 72] (mm L X I J)) (fun v m' => runI call iLaw (560, [some (.ref 1000000), some (.ref 0), some (.ref 72), some (.ref 632), some (.int x4), some (.int x5), some (.int s0), none], v.toList ++ [], m')) := by
  refine Eq.trans (st1 dL_law__554 rfl rfl) ?_
  refine Eq.trans (st1 dL_law__556 rfl rfl) ?_
  exact iv0 dL_law__557 rfl cp_13_127 rfl rfl (kd_ka ka_72) ka_72.1 (Nat.le_of_ble_eq_true rfl)
theorem q_L_law__622b {call : CALL} {L X : Nat} {I : Nat → Nat → Int32} {J : Nat → Nat → Int64} {x4 : Int32} {x5 : Int32} {y6 : Int64} {s0 : Int32} : runI call iLaw (622, [some (.ref 1000000), some (.ref 0), some (.ref 72), some (.ref 632), some (.int x4), some (.int x5), some (.long y6), none], [.int s0], (mm L X I J)) = bnd (call nX12_thrown [.ref 72] (mm L X I J)) (fun v m' => runI call iLaw (628, [some (.ref 1000000), some (.ref 0), some (.ref 72), some (.ref 632), some (.int x4), some (.int x5), some (.int s0), none], v.toList ++ [], m')) := by
  refine Eq.trans (st1 dL_law__622 rfl rfl) ?_
  refine Eq.trans (st1 dL_law__624 rfl rfl) ?_
  exact iv0 dL_law__625 rfl cp_13_127 rfl rfl (kd_ka ka_72) ka_72.1 (Nat.le_of_ble_eq_true rfl)
theorem q_L_law__690b {call : CALL} {L X : Nat} {I : Nat → Nat → Int32} {J : Nat → Nat → Int64} {x4 : Int32} {x5 : Int32} {y6 : Int64} {s0 : Int32} : runI call iLaw (690, [some (.ref 1000000), some (.ref 0), some (.ref 72), some (.ref 632), some (.int x4), some (.int x5), some (.long y6), none], [.int s0], (mm L X I J)) = bnd (call nX12_thrown [.ref 72] (mm L X I J)) (fun v m' => runI call iLaw (696, [some (.ref 1000000), some (.ref 0), some (.ref 72), some (.ref 632), some (.int x4), some (.int x5), some (.int s0), none], v.toList ++ [], m')) := by
  refine Eq.trans (st1 dL_law__690 rfl rfl) ?_
  refine Eq.trans (st1 dL_law__692 rfl rfl) ?_
  exact iv0 dL_law__693 rfl cp_13_127 rfl rfl (kd_ka ka_72) ka_72.1 (Nat.le_of_ble_eq_true rfl)
theorem q_L_law__758b {call : CALL} {L X : Nat} {I : Nat → Nat → Int32} {J : Nat → Nat → Int64} {x4 : Int32} {x5 : Int32} {y6 : Int64} {s0 : Int32} : runI call iLaw (758, [some (.ref 1000000), some (.ref 0), some (.ref 72), some (.ref 632), some (.int x4), some (.int x5), some (.long y6), none], [.int s0], (mm L X I J)) = bnd (call nX12_thrown [.ref 72] (mm L X I J)) (fun v m' => runI call iLaw (764, [some (.ref 1000000), some (.ref 0), some (.ref 72), some (.ref 632), some (.int x4), some (.int x5), some (.int s0), none], v.toList ++ [], m')) := by
  refine Eq.trans (st1 dL_law__758 rfl rfl) ?_
  refine Eq.trans (st1 dL_law__760 rfl rfl) ?_
  exact iv0 dL_law__761 rfl cp_13_127 rfl rfl (kd_ka ka_72) ka_72.1 (Nat.le_of_ble_eq_true rfl)
theorem q_L_law__814b {call : CALL} {L X : Nat} {I : Nat → Nat → Int32} {J : Nat → Nat → Int64} {x4 : Int32} {x5 : Int32} {y6 : Int64} {s0 : Int32} : runI call iLaw (814, [some (.ref 1000000), some (.ref 0), some (.ref 72), some (.ref 632), some (.int x4), some (.int x5), some (.long y6), none], [.int s0], (mm L X I J)) = bnd (call nX12_thrown [.ref 72] (mm L X I J)) (fun v m' => runI call iLaw (820, [some (.ref 1000000), some (.ref 0), some (.ref 72), some (.ref 632), some (.int x4), some (.int x5), some (.int s0), none], v.toList ++ [], m')) := by
  refine Eq.trans (st1 dL_law__814 rfl rfl) ?_
  refine Eq.trans (st1 dL_law__816 rfl rfl) ?_
  exact iv0 dL_law__817 rfl cp_13_127 rfl rfl (kd_ka ka_72) ka_72.1 (Nat.le_of_ble_eq_true rfl)
theorem q_L_law__870b {call : CALL} {L X : Nat} {I : Nat → Nat → Int32} {J : Nat → Nat → Int64} {x4 : Int32} {x5 : Int32} {y6 : Int64} {s0 : Int32} : runI call iLaw (870, [some (.ref 1000000), some (.ref 0), some (.ref 72), some (.ref 632), some (.int x4), some (.int x5), some (.long y6), none], [.int s0], (mm L X I J)) = bnd (call nX12_thrown [.ref 72] (mm L X I J)) (fun v m' => runI call iLaw (876, [some (.ref 1000000), some (.ref 0), some (.ref 72), some (.ref 632), some (.int x4), some (.int x5), some (.int s0), none], v.toList ++ [], m')) := by
  refine Eq.trans (st1 dL_law__870 rfl rfl) ?_
  refine Eq.trans (st1 dL_law__872 rfl rfl) ?_
  exact iv0 dL_law__873 rfl cp_13_127 rfl rfl (kd_ka ka_72) ka_72.1 (Nat.le_of_ble_eq_true rfl)
theorem q_L_law__1030b {call : CALL} {L X : Nat} {I : Nat → Nat → Int32} {J : Nat → Nat → Int64} {x4 : Int32} {x5 : Int32} {y6 : Int64} {s0 : Int32} : runI call iLaw (1030, [some (.ref 1000000), some (.ref 0), some (.ref 72), some (.ref 632), some (.int x4), some (.int x5), some (.long y6), none], [.int s0], (mm L X I J)) = bnd (call nX12_thrown [.ref 72] (mm L X I J)) (fun v m' => runI call iLaw (1036, [some (.ref 1000000), some (.ref 0), some (.ref 72), some (.ref 632), some (.int x4), some (.int x5), some (.int s0), none], v.toList ++ [], m')) := by
  refine Eq.trans (st1 dL_law__1030 rfl rfl) ?_
  refine Eq.trans (st1 dL_law__1032 rfl rfl) ?_
  exact iv0 dL_law__1033 rfl cp_13_127 rfl rfl (kd_ka ka_72) ka_72.1 (Nat.le_of_ble_eq_true rfl)
theorem q_L_law__1098b {call : CALL} {L X : Nat} {I : Nat → Nat → Int32} {J : Nat → Nat → Int64} {x4 : Int32} {x5 : Int32} {y6 : Int64} {s0 : Int32} : runI call iLaw (1098, [some (.ref 1000000), some (.ref 0), some (.ref 72), some (.ref 632), some (.int x4), some (.int x5), some (.long y6), none], [.int s0], (mm L X I J)) = bnd (call nX12_thrown [.ref 72] (mm L X I J)) (fun v m' => runI call iLaw (1104, [some (.ref 1000000), some (.ref 0), some (.ref 72), some (.ref 632), some (.int x4), some (.int x5), some (.int s0), none], v.toList ++ [], m')) := by
  refine Eq.trans (st1 dL_law__1098 rfl rfl) ?_
  refine Eq.trans (st1 dL_law__1100 rfl rfl) ?_
  exact iv0 dL_law__1101 rfl cp_13_127 rfl rfl (kd_ka ka_72) ka_72.1 (Nat.le_of_ble_eq_true rfl)
theorem q_L_law__1161b {call : CALL} {L X : Nat} {I : Nat → Nat → Int32} {J : Nat → Nat → Int64} {x4 : Int32} {x5 : Int32} {y6 : Int64} {s0 : Int32} : runI call iLaw (1161, [some (.ref 1000000), some (.ref 0), some (.ref 72), some (.ref 632), some (.int x4), some (.int x5), some (.long y6), none], [.int s0], (mm L X I J)) = bnd (call nX12_thrown [.ref 72] (mm L X I J)) (fun v m' => runI call iLaw (1167, [some (.ref 1000000), some (.ref 0), some (.ref 72), some (.ref 632), some (.int x4), some (.int x5), some (.int s0), none], v.toList ++ [], m')) := by
  refine Eq.trans (st1 dL_law__1161 rfl rfl) ?_
  refine Eq.trans (st1 dL_law__1163 rfl rfl) ?_
  exact iv0 dL_law__1164 rfl cp_13_127 rfl rfl (kd_ka ka_72) ka_72.1 (Nat.le_of_ble_eq_true rfl)
theorem q_L_law__1224b {call : CALL} {L X : Nat} {I : Nat → Nat → Int32} {J : Nat → Nat → Int64} {x4 : Int32} {x5 : Int32} {y6 : Int64} {s0 : Int32} : runI call iLaw (1224, [some (.ref 1000000), some (.ref 0), some (.ref 72), some (.ref 632), some (.int x4), some (.int x5), some (.long y6), none], [.int s0], (mm L X I J)) = bnd (call nX12_thrown [.ref 72] (mm L X I J)) (fun v m' => runI call iLaw (1230, [some (.ref 1000000), some (.ref 0), some (.ref 72), some (.ref 632), some (.int x4), some (.int x5), some (.int s0), none], v.toList ++ [], m')) := by
  refine Eq.trans (st1 dL_law__1224 rfl rfl) ?_
  refine Eq.trans (st1 dL_law__1226 rfl rfl) ?_
  exact iv0 dL_law__1227 rfl cp_13_127 rfl rfl (kd_ka ka_72) ka_72.1 (Nat.le_of_ble_eq_true rfl)
theorem q_L_law__1280b {call : CALL} {L X : Nat} {I : Nat → Nat → Int32} {J : Nat → Nat → Int64} {x4 : Int32} {x5 : Int32} {y6 : Int64} {s0 : Int32} : runI call iLaw (1280, [some (.ref 1000000), some (.ref 0), some (.ref 72), some (.ref 632), some (.int x4), some (.int x5), some (.long y6), none], [.int s0], (mm L X I J)) = bnd (call nX12_thrown [.ref 72] (mm L X I J)) (fun v m' => runI call iLaw (1286, [some (.ref 1000000), some (.ref 0), some (.ref 72), some (.ref 632), some (.int x4), some (.int x5), some (.int s0), none], v.toList ++ [], m')) := by
  refine Eq.trans (st1 dL_law__1280 rfl rfl) ?_
  refine Eq.trans (st1 dL_law__1282 rfl rfl) ?_
  exact iv0 dL_law__1283 rfl cp_13_127 rfl rfl (kd_ka ka_72) ka_72.1 (Nat.le_of_ble_eq_true rfl)
theorem q_L_law__1336b {call : CALL} {L X : Nat} {I : Nat → Nat → Int32} {J : Nat → Nat → Int64} {x4 : Int32} {x5 : Int32} {y6 : Int64} {s0 : Int32} : runI call iLaw (1336, [some (.ref 1000000), some (.ref 0), some (.ref 72), some (.ref 632), some (.int x4), some (.int x5), some (.long y6), none], [.int s0], (mm L X I J)) = bnd (call nX12_thrown [.ref 72] (mm L X I J)) (fun v m' => runI call iLaw (1342, [some (.ref 1000000), some (.ref 0), some (.ref 72), some (.ref 632), some (.int x4), some (.int x5), some (.int s0), none], v.toList ++ [], m')) := by
  refine Eq.trans (st1 dL_law__1336 rfl rfl) ?_
  refine Eq.trans (st1 dL_law__1338 rfl rfl) ?_
  exact iv0 dL_law__1339 rfl cp_13_127 rfl rfl (kd_ka ka_72) ka_72.1 (Nat.le_of_ble_eq_true rfl)
theorem q_L_law__1392b {call : CALL} {L X : Nat} {I : Nat → Nat → Int32} {J : Nat → Nat → Int64} {x4 : Int32} {x5 : Int32} {y6 : Int64} {s0 : Int32} : runI call iLaw (1392, [some (.ref 1000000), some (.ref 0), some (.ref 72), some (.ref 632), some (.int x4), some (.int x5), some (.long y6), none], [.int s0], (mm L X I J)) = bnd (call nX12_thrown [.ref 72] (mm L X I J)) (fun v m' => runI call iLaw (1398, [some (.ref 1000000), some (.ref 0), some (.ref 72), some (.ref 632), some (.int x4), some (.int x5), some (.int s0), none], v.toList ++ [], m')) := by
  refine Eq.trans (st1 dL_law__1392 rfl rfl) ?_
  refine Eq.trans (st1 dL_law__1394 rfl rfl) ?_
  exact iv0 dL_law__1395 rfl cp_13_127 rfl rfl (kd_ka ka_72) ka_72.1 (Nat.le_of_ble_eq_true rfl)
theorem q_L_law__1460b {call : CALL} {L X : Nat} {I : Nat → Nat → Int32} {J : Nat → Nat → Int64} {x4 : Int32} {x5 : Int32} {y6 : Int64} {s0 : Int32} : runI call iLaw (1460, [some (.ref 1000000), some (.ref 0), some (.ref 72), some (.ref 632), some (.int x4), some (.int x5), some (.long y6), none], [.int s0], (mm L X I J)) = bnd (call nX12_thrown [.ref 72] (mm L X I J)) (fun v m' => runI call iLaw (1466, [some (.ref 1000000), some (.ref 0), some (.ref 72), some (.ref 632), some (.int x4), some (.int x5), some (.int s0), none], v.toList ++ [], m')) := by
  refine Eq.trans (st1 dL_law__1460 rfl rfl) ?_
  refine Eq.trans (st1 dL_law__1462 rfl rfl) ?_
  exact iv0 dL_law__1463 rfl cp_13_127 rfl rfl (kd_ka ka_72) ka_72.1 (Nat.le_of_ble_eq_true rfl)
theorem q_L_law__1516b {call : CALL} {L X : Nat} {I : Nat → Nat → Int32} {J : Nat → Nat → Int64} {x4 : Int32} {x5 : Int32} {y6 : Int64} {s0 : Int32} : runI call iLaw (1516, [some (.ref 1000000), some (.ref 0), some (.ref 72), some (.ref 632), some (.int x4), some (.int x5), some (.long y6), none], [.int s0], (mm L X I J)) = bnd (call nX12_thrown [.ref 72] (mm L X I J)) (fun v m' => runI call iLaw (1522, [some (.ref 1000000), some (.ref 0), some (.ref 72), some (.ref 632), some (.int x4), some (.int x5), some (.int s0), none], v.toList ++ [], m')) := by
  refine Eq.trans (st1 dL_law__1516 rfl rfl) ?_
  refine Eq.trans (st1 dL_law__1518 rfl rfl) ?_
  exact iv0 dL_law__1519 rfl cp_13_127 rfl rfl (kd_ka ka_72) ka_72.1 (Nat.le_of_ble_eq_true rfl)
theorem q_L_law__1572b {call : CALL} {L X : Nat} {I : Nat → Nat → Int32} {J : Nat → Nat → Int64} {x4 : Int32} {x5 : Int32} {y6 : Int64} {s0 : Int32} : runI call iLaw (1572, [some (.ref 1000000), some (.ref 0), some (.ref 72), some (.ref 632), some (.int x4), some (.int x5), some (.long y6), none], [.int s0], (mm L X I J)) = bnd (call nX12_thrown [.ref 72] (mm L X I J)) (fun v m' => runI call iLaw (1578, [some (.ref 1000000), some (.ref 0), some (.ref 72), some (.ref 632), some (.int x4), some (.int x5), some (.int s0), none], v.toList ++ [], m')) := by
  refine Eq.trans (st1 dL_law__1572 rfl rfl) ?_
  refine Eq.trans (st1 dL_law__1574 rfl rfl) ?_
  exact iv0 dL_law__1575 rfl cp_13_127 rfl rfl (kd_ka ka_72) ka_72.1 (Nat.le_of_ble_eq_true rfl)
theorem q_L_law__1628b {call : CALL} {L X : Nat} {I : Nat → Nat → Int32} {J : Nat → Nat → Int64} {x4 : Int32} {x5 : Int32} {y6 : Int64} {s0 : Int32} : runI call iLaw (1628, [some (.ref 1000000), some (.ref 0), some (.ref 72), some (.ref 632), some (.int x4), some (.int x5), some (.long y6), none], [.int s0], (mm L X I J)) = bnd (call nX12_thrown [.ref 72] (mm L X I J)) (fun v m' => runI call iLaw (1634, [some (.ref 1000000), some (.ref 0), some (.ref 72), some (.ref 632), some (.int x4), some (.int x5), some (.int s0), none], v.toList ++ [], m')) := by
  refine Eq.trans (st1 dL_law__1628 rfl rfl) ?_
  refine Eq.trans (st1 dL_law__1630 rfl rfl) ?_
  exact iv0 dL_law__1631 rfl cp_13_127 rfl rfl (kd_ka ka_72) ka_72.1 (Nat.le_of_ble_eq_true rfl)
theorem q_L_law__1669b {call : CALL} {L X : Nat} {I : Nat → Nat → Int32} {J : Nat → Nat → Int64} {x4 : Int32} {u5 : Option Value} {y6 : Int64} {s0 : Int32} {s1 : Int32} : runI call iLaw (1669, [some (.ref 1000000), some (.ref 0), some (.ref 72), some (.ref 632), some (.int x4), u5, some (.long y6), none], [.int s1, .int s0], (mm L X I J)) = if s0 = s1 then runI call iLaw (2423, [some (.ref 1000000), some (.ref 0), some (.ref 72), some (.ref 632), some (.int x4), u5, some (.long y6), none], [], (mm L X I J)) else some (.inl (some (.int (nI 0))), (mm L X I J)) := by
  refine Eq.trans (ic_eq (tgt := 2423) dL_law__1669 (by decide +kernel)) (ite_cong (fun _ => ?_) (fun _ => ?_))
  · rfl
  · refine Eq.trans (xiconst dL_law__1672 ci_0) ?_
    exact ret1 dL_law__1673 rfl (.inl rfl)
theorem q_L_law__1721b {call : CALL} {L X : Nat} {I : Nat → Nat → Int32} {J : Nat → Nat → Int64} {x4 : Int32} {x5 : Int32} {y6 : Int64} {z0 : Int64} : runI call iLaw (1721, [some (.ref 1000000), some (.ref 0), some (.ref 72), some (.ref 632), some (.int x4), some (.int x5), some (.long y6), none], [.long z0], (mm L X I J)) = bnd (call nX12_thrown [.ref 72] (mm L X I J)) (fun v m' => runI call iLaw (1727, [some (.ref 1000000), some (.ref 0), some (.ref 72), some (.ref 632), some (.int x4), some (.int x5), some (.long z0), none], v.toList ++ [], m')) := by
  refine Eq.trans (st1 dL_law__1721 rfl rfl) ?_
  refine Eq.trans (st1 dL_law__1723 rfl rfl) ?_
  exact iv0 dL_law__1724 rfl cp_13_127 rfl rfl (kd_ka ka_72) ka_72.1 (Nat.le_of_ble_eq_true rfl)
theorem q_L_law__1800b {call : CALL} {L X : Nat} {I : Nat → Nat → Int32} {J : Nat → Nat → Int64} {x4 : Int32} {x5 : Int32} {y6 : Int64} {s0 : Int32} : runI call iLaw (1800, [some (.ref 1000000), some (.ref 0), some (.ref 72), some (.ref 632), some (.int x4), some (.int x5), some (.long y6), none], [.int s0], (mm L X I J)) = bnd (call nX12_thrown [.ref 72] (mm L X I J)) (fun v m' => runI call iLaw (1806, [some (.ref 1000000), some (.ref 0), some (.ref 72), some (.ref 632), some (.int x4), some (.int x5), some (.int s0), none], v.toList ++ [], m')) := by
  refine Eq.trans (st1 dL_law__1800 rfl rfl) ?_
  refine Eq.trans (st1 dL_law__1802 rfl rfl) ?_
  exact iv0 dL_law__1803 rfl cp_13_127 rfl rfl (kd_ka ka_72) ka_72.1 (Nat.le_of_ble_eq_true rfl)
theorem q_L_law__1880b {call : CALL} {L X : Nat} {I : Nat → Nat → Int32} {J : Nat → Nat → Int64} {x4 : Int32} {x5 : Int32} {y6 : Int64} {s0 : Int32} : runI call iLaw (1880, [some (.ref 1000000), some (.ref 0), some (.ref 72), some (.ref 632), some (.int x4), some (.int x5), some (.long y6), none], [.int s0], (mm L X I J)) = bnd (call nX12_thrown [.ref 72] (mm L X I J)) (fun v m' => runI call iLaw (1886, [some (.ref 1000000), some (.ref 0), some (.ref 72), some (.ref 632), some (.int x4), some (.int x5), some (.int s0), none], v.toList ++ [], m')) := by
  refine Eq.trans (st1 dL_law__1880 rfl rfl) ?_
  refine Eq.trans (st1 dL_law__1882 rfl rfl) ?_
  exact iv0 dL_law__1883 rfl cp_13_127 rfl rfl (kd_ka ka_72) ka_72.1 (Nat.le_of_ble_eq_true rfl)
theorem q_L_law__1936b {call : CALL} {L X : Nat} {I : Nat → Nat → Int32} {J : Nat → Nat → Int64} {x4 : Int32} {x5 : Int32} {y6 : Int64} {s0 : Int32} : runI call iLaw (1936, [some (.ref 1000000), some (.ref 0), some (.ref 72), some (.ref 632), some (.int x4), some (.int x5), some (.long y6), none], [.int s0], (mm L X I J)) = bnd (call nX12_thrown [.ref 72] (mm L X I J)) (fun v m' => runI call iLaw (1942, [some (.ref 1000000), some (.ref 0), some (.ref 72), some (.ref 632), some (.int x4), some (.int x5), some (.int s0), none], v.toList ++ [], m')) := by
  refine Eq.trans (st1 dL_law__1936 rfl rfl) ?_
  refine Eq.trans (st1 dL_law__1938 rfl rfl) ?_
  exact iv0 dL_law__1939 rfl cp_13_127 rfl rfl (kd_ka ka_72) ka_72.1 (Nat.le_of_ble_eq_true rfl)
theorem q_L_law__1992b {call : CALL} {L X : Nat} {I : Nat → Nat → Int32} {J : Nat → Nat → Int64} {x4 : Int32} {x5 : Int32} {y6 : Int64} {s0 : Int32} : runI call iLaw (1992, [some (.ref 1000000), some (.ref 0), some (.ref 72), some (.ref 632), some (.int x4), some (.int x5), some (.long y6), none], [.int s0], (mm L X I J)) = bnd (call nX12_thrown [.ref 72] (mm L X I J)) (fun v m' => runI call iLaw (1998, [some (.ref 1000000), some (.ref 0), some (.ref 72), some (.ref 632), some (.int x4), some (.int x5), some (.int s0), none], v.toList ++ [], m')) := by
  refine Eq.trans (st1 dL_law__1992 rfl rfl) ?_
  refine Eq.trans (st1 dL_law__1994 rfl rfl) ?_
  exact iv0 dL_law__1995 rfl cp_13_127 rfl rfl (kd_ka ka_72) ka_72.1 (Nat.le_of_ble_eq_true rfl)
theorem q_L_law__2048b {call : CALL} {L X : Nat} {I : Nat → Nat → Int32} {J : Nat → Nat → Int64} {x4 : Int32} {x5 : Int32} {y6 : Int64} {s0 : Int32} : runI call iLaw (2048, [some (.ref 1000000), some (.ref 0), some (.ref 72), some (.ref 632), some (.int x4), some (.int x5), some (.long y6), none], [.int s0], (mm L X I J)) = bnd (call nX12_thrown [.ref 72] (mm L X I J)) (fun v m' => runI call iLaw (2054, [some (.ref 1000000), some (.ref 0), some (.ref 72), some (.ref 632), some (.int x4), some (.int x5), some (.int s0), none], v.toList ++ [], m')) := by
  refine Eq.trans (st1 dL_law__2048 rfl rfl) ?_
  refine Eq.trans (st1 dL_law__2050 rfl rfl) ?_
  exact iv0 dL_law__2051 rfl cp_13_127 rfl rfl (kd_ka ka_72) ka_72.1 (Nat.le_of_ble_eq_true rfl)
theorem q_L_law__2104b {call : CALL} {L X : Nat} {I : Nat → Nat → Int32} {J : Nat → Nat → Int64} {x4 : Int32} {x5 : Int32} {y6 : Int64} {s0 : Int32} : runI call iLaw (2104, [some (.ref 1000000), some (.ref 0), some (.ref 72), some (.ref 632), some (.int x4), some (.int x5), some (.long y6), none], [.int s0], (mm L X I J)) = bnd (call nX12_thrown [.ref 72] (mm L X I J)) (fun v m' => runI call iLaw (2110, [some (.ref 1000000), some (.ref 0), some (.ref 72), some (.ref 632), some (.int x4), some (.int x5), some (.int s0), none], v.toList ++ [], m')) := by
  refine Eq.trans (st1 dL_law__2104 rfl rfl) ?_
  refine Eq.trans (st1 dL_law__2106 rfl rfl) ?_
  exact iv0 dL_law__2107 rfl cp_13_127 rfl rfl (kd_ka ka_72) ka_72.1 (Nat.le_of_ble_eq_true rfl)
theorem q_L_law__2196b {call : CALL} {L X : Nat} {I : Nat → Nat → Int32} {J : Nat → Nat → Int64} {x4 : Int32} {x5 : Int32} {y6 : Int64} {s0 : Int32} : runI call iLaw (2196, [some (.ref 1000000), some (.ref 0), some (.ref 72), some (.ref 632), some (.int x4), some (.int x5), some (.long y6), none], [.int s0], (mm L X I J)) = bnd (call nX12_thrown [.ref 72] (mm L X I J)) (fun v m' => runI call iLaw (2202, [some (.ref 1000000), some (.ref 0), some (.ref 72), some (.ref 632), some (.int x4), some (.int x5), some (.int s0), none], v.toList ++ [], m')) := by
  refine Eq.trans (st1 dL_law__2196 rfl rfl) ?_
  refine Eq.trans (st1 dL_law__2198 rfl rfl) ?_
  exact iv0 dL_law__2199 rfl cp_13_127 rfl rfl (kd_ka ka_72) ka_72.1 (Nat.le_of_ble_eq_true rfl)
theorem q_L_law__2314b {call : CALL} {L X : Nat} {I : Nat → Nat → Int32} {J : Nat → Nat → Int64} {x4 : Int32} {x5 : Int32} {y6 : Int64} {s0 : Int32} : runI call iLaw (2314, [some (.ref 1000000), some (.ref 0), some (.ref 72), some (.ref 632), some (.int x4), some (.int x5), some (.long y6), none], [.int s0], (mm L X I J)) = bnd (call nX12_thrown [.ref 72] (mm L X I J)) (fun v m' => runI call iLaw (2320, [some (.ref 1000000), some (.ref 0), some (.ref 72), some (.ref 632), some (.int x4), some (.int x5), some (.int s0), none], v.toList ++ [], m')) := by
  refine Eq.trans (st1 dL_law__2314 rfl rfl) ?_
  refine Eq.trans (st1 dL_law__2316 rfl rfl) ?_
  exact iv0 dL_law__2317 rfl cp_13_127 rfl rfl (kd_ka ka_72) ka_72.1 (Nat.le_of_ble_eq_true rfl)
theorem q_L_law__2355b {call : CALL} {L X : Nat} {I : Nat → Nat → Int32} {J : Nat → Nat → Int64} {x4 : Int32} {u5 : Option Value} {y6 : Int64} {s0 : Int32} {s1 : Int32} : runI call iLaw (2355, [some (.ref 1000000), some (.ref 0), some (.ref 72), some (.ref 632), some (.int x4), u5, some (.long y6), none], [.int s1, .int s0], (mm L X I J)) = if s0 = s1 then runI call iLaw (2423, [some (.ref 1000000), some (.ref 0), some (.ref 72), some (.ref 632), some (.int x4), u5, some (.long y6), none], [], (mm L X I J)) else some (.inl (some (.int (nI 0))), (mm L X I J)) := by
  refine Eq.trans (ic_eq (tgt := 2423) dL_law__2355 (by decide +kernel)) (ite_cong (fun _ => ?_) (fun _ => ?_))
  · rfl
  · refine Eq.trans (xiconst dL_law__2358 ci_0) ?_
    exact ret1 dL_law__2359 rfl (.inl rfl)
theorem q_L_law__2368b {call : CALL} {L X : Nat} {I : Nat → Nat → Int32} {J : Nat → Nat → Int64} {x4 : Int32} {u5 : Option Value} {y6 : Int64} {s0 : Int32} {s1 : Int32} : runI call iLaw (2368, [some (.ref 1000000), some (.ref 0), some (.ref 72), some (.ref 632), some (.int x4), u5, some (.long y6), none], [.int s1, .int s0], (mm L X I J)) = if s0 = s1 then runI call iLaw (2423, [some (.ref 1000000), some (.ref 0), some (.ref 72), some (.ref 632), some (.int x4), u5, some (.long y6), none], [], (mm L X I J)) else some (.inl (some (.int (nI 0))), (mm L X I J)) := by
  refine Eq.trans (ic_eq (tgt := 2423) dL_law__2368 (by decide +kernel)) (ite_cong (fun _ => ?_) (fun _ => ?_))
  · rfl
  · refine Eq.trans (xiconst dL_law__2371 ci_0) ?_
    exact ret1 dL_law__2372 rfl (.inl rfl)
theorem q_L_law__2393b {call : CALL} {L X : Nat} {I : Nat → Nat → Int32} {J : Nat → Nat → Int64} {x4 : Int32} {u5 : Option Value} {y6 : Int64} {s0 : Int32} {s1 : Int32} : runI call iLaw (2393, [some (.ref 1000000), some (.ref 0), some (.ref 72), some (.ref 632), some (.int x4), u5, some (.long y6), none], [.int s1, .int s0], (mm L X I J)) = if s0 = s1 then runI call iLaw (2423, [some (.ref 1000000), some (.ref 0), some (.ref 72), some (.ref 632), some (.int x4), u5, some (.long y6), none], [], (mm L X I J)) else some (.inl (some (.int (nI 0))), (mm L X I J)) := by
  refine Eq.trans (ic_eq (tgt := 2423) dL_law__2393 (by decide +kernel)) (ite_cong (fun _ => ?_) (fun _ => ?_))
  · rfl
  · refine Eq.trans (xiconst dL_law__2396 ci_0) ?_
    exact ret1 dL_law__2397 rfl (.inl rfl)
theorem q_L_law__2418b {call : CALL} {L X : Nat} {I : Nat → Nat → Int32} {J : Nat → Nat → Int64} {x4 : Int32} {u5 : Option Value} {y6 : Int64} {s0 : Int32} {s1 : Int32} : runI call iLaw (2418, [some (.ref 1000000), some (.ref 0), some (.ref 72), some (.ref 632), some (.int x4), u5, some (.long y6), none], [.int s1, .int s0], (mm L X I J)) = if s0 = s1 then runI call iLaw (2423, [some (.ref 1000000), some (.ref 0), some (.ref 72), some (.ref 632), some (.int x4), u5, some (.long y6), none], [], (mm L X I J)) else some (.inl (some (.int (nI 0))), (mm L X I J)) := by
  refine Eq.trans (ic_eq (tgt := 2423) dL_law__2418 (by decide +kernel)) (ite_cong (fun _ => ?_) (fun _ => ?_))
  · rfl
  · refine Eq.trans (xiconst dL_law__2421 ci_0) ?_
    exact ret1 dL_law__2422 rfl (.inl rfl)
