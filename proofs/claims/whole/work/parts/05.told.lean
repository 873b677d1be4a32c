/-! THE TABLES ARE TOLD BY THE STATEMENT'S WORDS -/
def strS : List (Nat × Nat × String) := [(1, 67, "piece collar fire hope "), (2, 78, "flow loss length bends burst place turned hope piece least most "), (9, 64, "turn lay lift bend burst patch hope hour again ")]
theorem ta (i : Nat) {w : Cond} (h : tables_1[i]? = some w) : w ∈ lw_tbl := List.mem_append_right _ (List.mem_of_getElem? h)
theorem ta_1 (i : Nat) {w : Cond} (h : tables_1_1[i]? = some w) : w ∈ lw_tbl := List.mem_append_right _ (by unfold tables_1; exact List.mem_append_left _ (List.mem_of_getElem? h))
theorem ta_2 (i : Nat) {w : Cond} (h : tables_1_2[i]? = some w) : w ∈ lw_tbl := List.mem_append_right _ (by unfold tables_1; exact List.mem_append_right _ (List.mem_append_left _ (List.mem_of_getElem? h)))
theorem ta_3 (i : Nat) {w : Cond} (h : tables_1_3[i]? = some w) : w ∈ lw_tbl := List.mem_append_right _ (by unfold tables_1; exact List.mem_append_right _ (List.mem_append_right _ (List.mem_append_left _ (List.mem_of_getElem? h))))
theorem ta_4 (i : Nat) {w : Cond} (h : tables_1_4[i]? = some w) : w ∈ lw_tbl := List.mem_append_right _ (by unfold tables_1; exact List.mem_append_right _ (List.mem_append_right _ (List.mem_append_right _ (List.mem_append_left _ (List.mem_of_getElem? h)))))
theorem ta_5 (i : Nat) {w : Cond} (h : tables_1_5[i]? = some w) : w ∈ lw_tbl := List.mem_append_right _ (by unfold tables_1; exact List.mem_append_right _ (List.mem_append_right _ (List.mem_append_right _ (List.mem_append_right _ (List.mem_append_left _ (List.mem_of_getElem? h))))))
theorem ta_6 (i : Nat) {w : Cond} (h : tables_1_6[i]? = some w) : w ∈ lw_tbl := List.mem_append_right _ (by unfold tables_1; exact List.mem_append_right _ (List.mem_append_right _ (List.mem_append_right _ (List.mem_append_right _ (List.mem_append_right _ (List.mem_append_left _ (List.mem_of_getElem? h)))))))
theorem ta_7 (i : Nat) {w : Cond} (h : tables_1_7[i]? = some w) : w ∈ lw_tbl := List.mem_append_right _ (by unfold tables_1; exact List.mem_append_right _ (List.mem_append_right _ (List.mem_append_right _ (List.mem_append_right _ (List.mem_append_right _ (List.mem_append_right _ (List.mem_append_left _ (List.mem_of_getElem? h))))))))
theorem ta_8 (i : Nat) {w : Cond} (h : tables_1_8[i]? = some w) : w ∈ lw_tbl := List.mem_append_right _ (by unfold tables_1; exact List.mem_append_right _ (List.mem_append_right _ (List.mem_append_right _ (List.mem_append_right _ (List.mem_append_right _ (List.mem_append_right _ (List.mem_append_right _ (List.mem_append_left _ (List.mem_of_getElem? h)))))))))
theorem ta_9 (i : Nat) {w : Cond} (h : tables_1_9[i]? = some w) : w ∈ lw_tbl := List.mem_append_right _ (by unfold tables_1; exact List.mem_append_right _ (List.mem_append_right _ (List.mem_append_right _ (List.mem_append_right _ (List.mem_append_right _ (List.mem_append_right _ (List.mem_append_right _ (List.mem_append_right _ (List.mem_append_left _ (List.mem_of_getElem? h))))))))))
theorem ta_10 (i : Nat) {w : Cond} (h : tables_1_10[i]? = some w) : w ∈ lw_tbl := List.mem_append_right _ (by unfold tables_1; exact List.mem_append_right _ (List.mem_append_right _ (List.mem_append_right _ (List.mem_append_right _ (List.mem_append_right _ (List.mem_append_right _ (List.mem_append_right _ (List.mem_append_right _ (List.mem_append_right _ (List.mem_of_getElem? h))))))))))
theorem tp (i : Nat) {w : Cond} (h : (k2_sels lw_privs)[i]? = some w) : w ∈ lw_tbl := List.mem_append_left _ (List.mem_of_getElem? h)
def nestW : List Cond := [.methodLinkNest (rn 11) 9 yX7_init "HoseDynasty", .methodLinkNest (rn 11) 48 yX9_init "HoseDynasty", .methodLinkNest (rn 11) 55 yX3_init "HoseDynasty", .methodLinkNest (rn 11) 62 yX4_init "HoseDynasty", .methodLinkNest (rn 10) 9 yX3_init "HoseDynasty", .methodLinkNest (rn 5) 89 yX11_bit "HoseDynasty", .methodLinkNest (rn 5) 75 yX11_pick "HoseDynasty", .methodLinkNest (rn 1) 106 yX11_pick "HoseDynasty", .methodLinkNest (rn 1) 128 yX11_bit "HoseDynasty", .methodLinkNest (rn 7) 59 yX11_within "HoseDynasty", .methodLinkNest (rn 1) 124 yX11_put "HoseDynasty", .methodLinkNest (rn 2) 84 yX11_put "HoseDynasty", .methodLinkNest (rn 9) 48 yX11_pick "HoseDynasty", .methodLinkNest (rn 9) 52 yX11_put "HoseDynasty", .methodLinkNest (rn 3) 49 yX11_bit "HoseDynasty", .methodLinkNest (rn 3) 58 yX11_pick "HoseDynasty", .methodLinkNest (rn 3) 77 yX11_put "HoseDynasty", .methodLinkNest (rn 8) 61 yX11_pick "HoseDynasty", .methodLinkNest (rn 2) 94 yX11_pick "HoseDynasty", .methodLinkNest (rn 0) 54 yX11_pick "HoseDynasty", .methodLinkNest (rn 0) 62 yX11_put "HoseDynasty", .methodLinkNest (rn 5) 96 yX11_put "HoseDynasty", .methodLinkNest (rn 8) 110 yX11_bit "HoseDynasty", .methodLinkNest (rn 6) 72 yX11_pick "HoseDynasty", .methodLinkNest (rn 6) 65 yX11_put "HoseDynasty"]
theorem nest_form : nestW.all (fun w => match w with | .methodLinkNest _ _ _ _ => true | _ => false) = true := rfl
set_option maxRecDepth 100000 in
theorem nestW_in : ∀ w ∈ nestW, w ∈ lw_tbl := by
  simp only [nestW, List.forall_mem_cons]
  exact ⟨ta_1 36 rfl, ta_1 209 rfl, ta_2 1 rfl, ta_2 53 rfl, ta_2 212 rfl, ta_3 91 rfl, ta_3 94 rfl, ta_3 109 rfl, ta_3 118 rfl, ta_4 19 rfl, ta_4 108 rfl, ta_4 181 rfl, ta_4 216 rfl, ta_4 217 rfl, ta_5 32 rfl, ta_5 37 rfl, ta_5 39 rfl, ta_5 73 rfl, ta_5 86 rfl, ta_5 120 rfl, ta_5 122 rfl, ta_6 57 rfl, ta_6 171 rfl, ta_6 192 rfl, ta_6 197 rfl, fun _ h => absurd h List.not_mem_nil⟩
def nArg (y : MethodName) (n : Nat) : Prop := plainName y.cls = true ∧ (y.cls ≠ "java/lang/invoke/MethodHandle" ∧ y.cls ≠ "java/lang/invoke/VarHandle") ∧ (parseMethodDescriptor y.desc).map (fun d => d.parameters.length) = some n
def Val (ow idx : Nat) : Nat × Nat × Nat × Nat → Prop
  | (0, ci, k, _) => ∃ q, vwCl[ci]? = some q ∧ k < q.2.2 ∧ Cond.fieldLink (rn ow) idx (q.2.1 k).1 (q.2.1 k).2.1 (q.2.1 k).2.2.1 ∈ lw_tbl
  | (1, id, n, ci) => ∃ pe : MethodName × MI × Nat, PG[id]? = some pe ∧ pe.1.cls = rn ci ∧ Cond.methodLink (rn ow) idx pe.1 ∈ lw_tbl ∧ Cond.instanceMethod pe.1 ∈ lw_tbl ∧ Cond.selects pe.1.cls pe.1 pe.1 ∈ lw_tbl ∧ Cond.initialized pe.1.cls ∈ lw_tbl ∧ (parseMethodDescriptor pe.1.desc).map (fun d => d.parameters.length) = some n ∧ pe.2.1.2.2.2 = []
  | (2, id, n, _) => ∃ pe : MethodName × MI × Nat, PG[id]? = some pe ∧ Cond.methodLink (rn ow) idx pe.1 ∈ lw_tbl ∧ Cond.static pe.1 ∈ lw_tbl ∧ Cond.initialized pe.1.cls ∈ lw_tbl ∧ (parseMethodDescriptor pe.1.desc).map (fun d => d.parameters.length) = some n
  | (3, id, n, _) => ∃ (pe : MethodName × MI × Nat) (j : Nat), PG[id]? = some pe ∧ nestW[j]? = some (Cond.methodLinkNest (rn ow) idx pe.1 "HoseDynasty") ∧ Cond.static pe.1 ∈ lw_tbl ∧ Cond.initialized pe.1.cls ∈ lw_tbl ∧ (parseMethodDescriptor pe.1.desc).map (fun d => d.parameters.length) = some n ∧ pe.2.1.2.2.2 = []
  | (4, id, n, _) => ∃ (pe : MethodName × MI × Nat) (j : Nat), PG[id]? = some pe ∧ nestW[j]? = some (Cond.methodLinkNest (rn ow) idx pe.1 "HoseDynasty") ∧ Cond.instanceMethod pe.1 ∈ lw_tbl ∧ Cond.initialized pe.1.cls ∈ lw_tbl ∧ pe.1.name = "<init>" ∧ (parseMethodDescriptor pe.1.desc).map (fun d => d.parameters.length) = some n ∧ pe.2.1.2.2.2 = [] ∧ pe.2.1.2.2.1 = 6
  | (5, id, n, _) => ∃ pe : MethodName × MI × Nat, PG[id]? = some pe ∧ Cond.methodLink (rn ow) idx pe.1 ∈ lw_tbl ∧ Cond.instanceMethod pe.1 ∈ lw_tbl ∧ Cond.initialized pe.1.cls ∈ lw_tbl ∧ pe.1.name = "<init>" ∧ (parseMethodDescriptor pe.1.desc).map (fun d => d.parameters.length) = some n ∧ pe.2.1.2.2.2 = [] ∧ pe.2.1.2.2.1 = 6
  | (6, _, _, _) => Cond.methodLink (rn ow) idx Lib.objectInit ∈ lw_tbl
  | (7, _, _, _) => Cond.methodLink (rn ow) idx arraycopyName ∈ lw_tbl
  | (8, _, _, _) => Cond.methodLink (rn ow) idx Lib.Math.max.name ∈ lw_tbl
  | (9, _, _, _) => Cond.methodLink (rn ow) idx Lib.Math.min.name ∈ lw_tbl
  | (10, id, n, _) => ∃ pe : MethodName × MI × Nat, PG[id]? = some pe ∧ Cond.methodLink (rn ow) idx pe.1 ∈ lw_tbl ∧ Cond.instanceMethod pe.1 ∈ lw_tbl ∧ Cond.selects pe.1.cls pe.1 pe.1 ∈ lw_tbl ∧ Cond.initialized pe.1.cls ∈ lw_tbl ∧ (parseMethodDescriptor pe.1.desc).map (fun d => d.parameters.length) = some n ∧ pe.2.1.2.2.2 = [] ∧ pe.1.cls = RJ0
  | (12, ci, n, _) => ∃ q, vwCl[ci]? = some q ∧ q.2.2 = n ∧ Cond.classLink (rn ow) idx q.1 ∈ lw_tbl ∧ Cond.instantiable q.1 n ∈ lw_tbl ∧ Cond.initialized q.1 ∈ lw_tbl
  | (13, e, _, _) => e < 2 ∧ Cond.classLink (rn ow) idx (exN e) ∈ lw_tbl
  | (14, v, _, _) => Cond.constant (rn ow) idx (Int32.ofNat v) ∈ lw_tbl
  | (15, j, _, _) => (strS[j]?).map (fun z => (z.1, z.2.1)) = some (ow, idx)
  | (16, _, _, _) => Cond.fieldLink (rn ow) idx RX2 "UNTOLD" "[I" ∈ lw_tbl
  | (17, _, _, _) => Cond.classLink (rn ow) idx "[[I" ∈ lw_tbl
  | (18, e, _, _) => e < 2 ∧ Cond.classLink (rn ow) idx (exN e) ∈ lw_tbl
  | (19, _, _, _) => Cond.fieldLink (rn ow) idx RJ0 "COMPACT_STRINGS" "Z" ∈ lw_tbl
  | (20, z, _, _) => Cond.fieldLink (rn ow) idx RJ0 (if z = 0 then "coder" else "value") (if z = 0 then "B" else "[B") ∈ lw_tbl
  | (21, _, _, _) => Cond.fieldLink (rn ow) idx RJ3 "SIOOBE_FORMATTER" "Ljava/util/function/BiFunction;" ∈ lw_tbl
  | _ => False
set_option maxRecDepth 100000 in
theorem cv_0_3 : Val 0 3 (6, 0, 0, 0) := show Cond.methodLink (rn 0) 3 Lib.objectInit ∈ lw_tbl from ta_1 172 rfl
set_option maxRecDepth 100000 in
theorem cv_0_9 : Val 0 9 (0, 0, 1, 0) := ⟨_, rfl, by decide, ta_1 182 rfl⟩
set_option maxRecDepth 100000 in
theorem cv_0_15 : Val 0 15 (0, 0, 2, 0) := ⟨_, rfl, by decide, ta_1 183 rfl⟩
set_option maxRecDepth 100000 in
theorem cv_0_18 : Val 0 18 (1, nX0_clear, 0, 0) := ⟨pe_X0_clear, rfl, rfl, ta_1 173 rfl, ta_1 174 rfl, ta_1 175 rfl, ta_1 5 rfl, by decide +kernel, rfl⟩
set_option maxRecDepth 100000 in
theorem cv_0_21 : Val 0 21 (0, 0, 0, 0) := ⟨_, rfl, by decide, ta_1 180 rfl⟩
set_option maxRecDepth 100000 in
theorem cv_0_25 : Val 0 25 (2, nJ7_fill_53178, 2, 16) := ⟨pe_J7_fill_53178, rfl, ta_1 177 rfl, ta_1 178 rfl, ta_1 6 rfl, by decide +kernel⟩
set_option maxRecDepth 100000 in
theorem cv_0_31 : Val 0 31 (7, 0, 0, 0) := show Cond.methodLink (rn 0) 31 arraycopyName ∈ lw_tbl from ta_5 128 rfl
set_option maxRecDepth 100000 in
theorem cv_0_37 : Val 0 37 (1, nX7_peek, 0, 7) := ⟨pe_X7_peek, rfl, rfl, ta_5 114 rfl, ta_4 6 rfl, ta_4 7 rfl, ta_1 2 rfl, by decide +kernel, rfl⟩
set_option maxRecDepth 100000 in
theorem cv_0_43 : Val 0 43 (1, nX0_readLine, 1, 0) := ⟨pe_X0_readLine, rfl, rfl, ta_5 115 rfl, ta_5 117 rfl, tp 25 rfl, ta_1 5 rfl, by decide +kernel, rfl⟩
set_option maxRecDepth 100000 in
theorem cv_0_47 : Val 0 47 (1, nX7_numeral, 2, 7) := ⟨pe_X7_numeral, rfl, rfl, ta_5 119 rfl, ta_4 98 rfl, ta_4 99 rfl, ta_1 2 rfl, by decide +kernel, rfl⟩
set_option maxRecDepth 100000 in
theorem cv_0_51 : Val 0 51 (0, 7, 4, 0) := ⟨_, rfl, by decide, ta_1 48 rfl⟩
set_option maxRecDepth 100000 in
theorem cv_0_54 : Val 0 54 (3, nX11_pick, 2, 11) := ⟨pe_X11_pick, 19, rfl, by decide +kernel, ta_3 95 rfl, ta_1 1 rfl, by decide +kernel, rfl⟩
set_option maxRecDepth 100000 in
theorem cv_0_58 : Val 0 58 (1, nX7_noneSuch, 0, 7) := ⟨pe_X7_noneSuch, rfl, rfl, ta_5 121 rfl, ta_4 116 rfl, ta_4 117 rfl, ta_1 2 rfl, by decide +kernel, rfl⟩
set_option maxRecDepth 100000 in
theorem cv_0_62 : Val 0 62 (3, nX11_put, 3, 11) := ⟨pe_X11_put, 20, rfl, by decide +kernel, ta_4 109 rfl, ta_1 1 rfl, by decide +kernel, rfl⟩
set_option maxRecDepth 100000 in
theorem cv_0_66 : Val 0 66 (1, nX7_sign, 1, 7) := ⟨pe_X7_sign, rfl, rfl, ta_5 123 rfl, ta_4 132 rfl, ta_4 133 rfl, ta_1 2 rfl, by decide +kernel, rfl⟩
set_option maxRecDepth 100000 in
theorem cv_0_70 : Val 0 70 (0, 0, 3, 0) := ⟨_, rfl, by decide, ta_1 184 rfl⟩
set_option maxRecDepth 100000 in
theorem cv_0_73 : Val 0 73 (0, 0, 4, 0) := ⟨_, rfl, by decide, ta_1 186 rfl⟩
set_option maxRecDepth 100000 in
theorem cv_0_76 : Val 0 76 (0, 3, 5, 0) := ⟨_, rfl, by decide, ta_2 23 rfl⟩
set_option maxRecDepth 100000 in
theorem cv_0_81 : Val 0 81 (0, 8, 5, 0) := ⟨_, rfl, by decide, ta_2 90 rfl⟩
set_option maxRecDepth 100000 in
theorem cv_0_86 : Val 0 86 (0, 8, 6, 0) := ⟨_, rfl, by decide, ta_2 92 rfl⟩
set_option maxRecDepth 100000 in
theorem cv_0_89 : Val 0 89 (0, 3, 7, 0) := ⟨_, rfl, by decide, ta_2 31 rfl⟩
set_option maxRecDepth 100000 in
theorem cv_0_92 : Val 0 92 (1, nX8_arriving, 2, 8) := ⟨pe_X8_arriving, rfl, rfl, ta_6 134 rfl, ta_5 65 rfl, ta_5 66 rfl, ta_1 10 rfl, by decide +kernel, rfl⟩
set_option maxRecDepth 100000 in
theorem cv_0_96 : Val 0 96 (1, nX0_isRight, 2, 0) := ⟨pe_X0_isRight, rfl, rfl, ta_6 135 rfl, ta_6 137 rfl, tp 39 rfl, ta_1 5 rfl, by decide +kernel, rfl⟩
set_option maxRecDepth 100000 in
theorem cv_0_100 : Val 0 100 (1, nX0_tallyUp, 2, 0) := ⟨pe_X0_tallyUp, rfl, rfl, ta_6 139 rfl, ta_6 141 rfl, tp 40 rfl, ta_1 5 rfl, by decide +kernel, rfl⟩
set_option maxRecDepth 100000 in
theorem cv_0_104 : Val 0 104 (0, 8, 2, 0) := ⟨_, rfl, by decide, ta_2 84 rfl⟩
set_option maxRecDepth 100000 in
theorem cv_0_107 : Val 0 107 (1, nX0_findLeaks, 2, 0) := ⟨pe_X0_findLeaks, rfl, rfl, ta_6 154 rfl, ta_6 131 rfl, ta_6 132 rfl, ta_1 5 rfl, by decide +kernel, rfl⟩
set_option maxRecDepth 100000 in
theorem cv_0_110 : Val 0 110 (0, 0, 5, 0) := ⟨_, rfl, by decide, ta_1 188 rfl⟩
set_option maxRecDepth 100000 in
theorem cv_0_113 : Val 0 113 (0, 0, 6, 0) := ⟨_, rfl, by decide, ta_1 190 rfl⟩
set_option maxRecDepth 100000 in
theorem cv_0_116 : Val 0 116 (1, nX0_worstAt, 1, 0) := ⟨pe_X0_worstAt, rfl, rfl, ta_6 155 rfl, ta_6 157 rfl, tp 41 rfl, ta_1 5 rfl, by decide +kernel, rfl⟩
set_option maxRecDepth 100000 in
theorem cv_0_120 : Val 0 120 (8, 0, 0, 0) := show Cond.methodLink (rn 0) 120 Lib.Math.max.name ∈ lw_tbl from ta_6 159 rfl
set_option maxRecDepth 100000 in
theorem cv_1_3 : Val 1 3 (6, 0, 0, 0) := show Cond.methodLink (rn 1) 3 Lib.objectInit ∈ lw_tbl from ta_1 78 rfl
set_option maxRecDepth 100000 in
theorem cv_1_9 : Val 1 9 (0, 1, 4, 0) := ⟨_, rfl, by decide, ta_1 94 rfl⟩
set_option maxRecDepth 100000 in
theorem cv_1_15 : Val 1 15 (0, 1, 5, 0) := ⟨_, rfl, by decide, ta_1 99 rfl⟩
set_option maxRecDepth 100000 in
theorem cv_1_18 : Val 1 18 (0, 1, 6, 0) := ⟨_, rfl, by decide, ta_1 102 rfl⟩
set_option maxRecDepth 100000 in
theorem cv_1_21 : Val 1 21 (0, 1, 7, 0) := ⟨_, rfl, by decide, ta_1 103 rfl⟩
set_option maxRecDepth 100000 in
theorem cv_1_24 : Val 1 24 (0, 1, 8, 0) := ⟨_, rfl, by decide, ta_1 104 rfl⟩
set_option maxRecDepth 100000 in
theorem cv_1_27 : Val 1 27 (0, 1, 9, 0) := ⟨_, rfl, by decide, ta_1 106 rfl⟩
set_option maxRecDepth 100000 in
theorem cv_1_30 : Val 1 30 (0, 1, 10, 0) := ⟨_, rfl, by decide, ta_1 108 rfl⟩
set_option maxRecDepth 100000 in
theorem cv_1_33 : Val 1 33 (0, 1, 11, 0) := ⟨_, rfl, by decide, ta_1 110 rfl⟩
set_option maxRecDepth 100000 in
theorem cv_1_36 : Val 1 36 (0, 1, 12, 0) := ⟨_, rfl, by decide, ta_1 112 rfl⟩
set_option maxRecDepth 100000 in
theorem cv_1_39 : Val 1 39 (1, nX1_clear, 0, 1) := ⟨pe_X1_clear, rfl, rfl, ta_1 79 rfl, ta_1 81 rfl, tp 0 rfl, ta_1 3 rfl, by decide +kernel, rfl⟩
set_option maxRecDepth 100000 in
theorem cv_1_42 : Val 1 42 (0, 1, 0, 0) := ⟨_, rfl, by decide, ta_1 83 rfl⟩
set_option maxRecDepth 100000 in
theorem cv_1_46 : Val 1 46 (0, 1, 1, 0) := ⟨_, rfl, by decide, ta_1 87 rfl⟩
set_option maxRecDepth 100000 in
theorem cv_1_49 : Val 1 49 (0, 1, 2, 0) := ⟨_, rfl, by decide, ta_1 89 rfl⟩
set_option maxRecDepth 100000 in
theorem cv_1_52 : Val 1 52 (0, 1, 3, 0) := ⟨_, rfl, by decide, ta_1 93 rfl⟩
set_option maxRecDepth 100000 in
theorem cv_1_55 : Val 1 55 (7, 0, 0, 0) := show Cond.methodLink (rn 1) 55 arraycopyName ∈ lw_tbl from ta_4 139 rfl
set_option maxRecDepth 100000 in
theorem cv_1_61 : Val 1 61 (1, nX7_peek, 0, 7) := ⟨pe_X7_peek, rfl, rfl, ta_4 5 rfl, ta_4 6 rfl, ta_4 7 rfl, ta_1 2 rfl, by decide +kernel, rfl⟩
set_option maxRecDepth 100000 in
theorem cv_1_67 : Val 1 67 (15, 0, 0, 0) := rfl
set_option maxRecDepth 100000 in
theorem cv_1_69 : Val 1 69 (1, nX7_named, 1, 7) := ⟨pe_X7_named, rfl, rfl, ta_4 14 rfl, ta_4 15 rfl, ta_4 16 rfl, ta_1 2 rfl, by decide +kernel, rfl⟩
set_option maxRecDepth 100000 in
theorem cv_1_73 : Val 1 73 (1, nX1_isFull, 1, 1) := ⟨pe_X1_isFull, rfl, rfl, ta_4 78 rfl, ta_4 80 rfl, tp 8 rfl, ta_1 3 rfl, by decide +kernel, rfl⟩
set_option maxRecDepth 100000 in
theorem cv_1_77 : Val 1 77 (1, nX7_tooMany, 0, 7) := ⟨pe_X7_tooMany, rfl, rfl, ta_4 82 rfl, ta_4 83 rfl, ta_4 84 rfl, ta_1 2 rfl, by decide +kernel, rfl⟩
set_option maxRecDepth 100000 in
theorem cv_1_81 : Val 1 81 (1, nX1_readClause, 2, 1) := ⟨pe_X1_readClause, rfl, rfl, ta_4 86 rfl, ta_4 88 rfl, tp 9 rfl, ta_1 3 rfl, by decide +kernel, rfl⟩
set_option maxRecDepth 100000 in
theorem cv_1_85 : Val 1 85 (1, nX7_sign, 1, 7) := ⟨pe_X7_sign, rfl, rfl, ta_4 131 rfl, ta_4 132 rfl, ta_4 133 rfl, ta_1 2 rfl, by decide +kernel, rfl⟩
set_option maxRecDepth 100000 in
theorem cv_1_89 : Val 1 89 (1, nX1_readPiece, 1, 1) := ⟨pe_X1_readPiece, rfl, rfl, ta_4 90 rfl, ta_4 92 rfl, tp 10 rfl, ta_1 3 rfl, by decide +kernel, rfl⟩
set_option maxRecDepth 100000 in
theorem cv_1_93 : Val 1 93 (1, nX1_readCollar, 1, 1) := ⟨pe_X1_readCollar, rfl, rfl, ta_4 111 rfl, ta_4 113 rfl, tp 11 rfl, ta_1 3 rfl, by decide +kernel, rfl⟩
set_option maxRecDepth 100000 in
theorem cv_1_96 : Val 1 96 (1, nX1_readFire, 1, 1) := ⟨pe_X1_readFire, rfl, rfl, ta_4 123 rfl, ta_4 125 rfl, tp 12 rfl, ta_1 3 rfl, by decide +kernel, rfl⟩
set_option maxRecDepth 100000 in
theorem cv_1_99 : Val 1 99 (1, nX1_readHope, 1, 1) := ⟨pe_X1_readHope, rfl, rfl, ta_4 127 rfl, ta_4 129 rfl, tp 13 rfl, ta_1 3 rfl, by decide +kernel, rfl⟩
set_option maxRecDepth 100000 in
theorem cv_1_102 : Val 1 102 (2, nX1_readTo, 5, 1) := ⟨pe_X1_readTo, rfl, ta_4 94 rfl, ta_4 95 rfl, ta_1 3 rfl, by decide +kernel⟩
set_option maxRecDepth 100000 in
theorem cv_1_106 : Val 1 106 (3, nX11_pick, 2, 11) := ⟨pe_X11_pick, 7, rfl, by decide +kernel, ta_3 95 rfl, ta_1 1 rfl, by decide +kernel, rfl⟩
set_option maxRecDepth 100000 in
theorem cv_1_110 : Val 1 110 (1, nX7_noneSuch, 0, 7) := ⟨pe_X7_noneSuch, rfl, rfl, ta_4 115 rfl, ta_4 116 rfl, ta_4 117 rfl, ta_1 2 rfl, by decide +kernel, rfl⟩
set_option maxRecDepth 100000 in
theorem cv_1_113 : Val 1 113 (1, nX1_join, 2, 1) := ⟨pe_X1_join, rfl, rfl, ta_4 119 rfl, ta_4 120 rfl, ta_4 121 rfl, ta_1 3 rfl, by decide +kernel, rfl⟩
set_option maxRecDepth 100000 in
theorem cv_1_117 : Val 1 117 (1, nX7_numeral, 2, 7) := ⟨pe_X7_numeral, rfl, rfl, ta_4 97 rfl, ta_4 98 rfl, ta_4 99 rfl, ta_1 2 rfl, by decide +kernel, rfl⟩
set_option maxRecDepth 100000 in
theorem cv_1_121 : Val 1 121 (0, 7, 4, 0) := ⟨_, rfl, by decide, ta_1 51 rfl⟩
set_option maxRecDepth 100000 in
theorem cv_1_124 : Val 1 124 (3, nX11_put, 3, 11) := ⟨pe_X11_put, 10, rfl, by decide +kernel, ta_4 109 rfl, ta_1 1 rfl, by decide +kernel, rfl⟩
set_option maxRecDepth 100000 in
theorem cv_1_128 : Val 1 128 (3, nX11_bit, 2, 11) := ⟨pe_X11_bit, 8, rfl, by decide +kernel, ta_3 92 rfl, ta_1 1 rfl, by decide +kernel, rfl⟩
set_option maxRecDepth 100000 in
theorem cv_1_132 : Val 1 132 (1, nX1_footOf, 1, 1) := ⟨pe_X1_footOf, rfl, rfl, ta_3 105 rfl, ta_3 106 rfl, ta_3 107 rfl, ta_1 3 rfl, by decide +kernel, rfl⟩
set_option maxRecDepth 100000 in
theorem cv_1_136 : Val 1 136 (1, nX1_headOf, 1, 1) := ⟨pe_X1_headOf, rfl, rfl, ta_3 110 rfl, ta_3 111 rfl, ta_3 112 rfl, ta_1 3 rfl, by decide +kernel, rfl⟩
set_option maxRecDepth 100000 in
theorem cv_1_139 : Val 1 139 (1, nX1_joins, 2, 1) := ⟨pe_X1_joins, rfl, rfl, ta_3 114 rfl, ta_3 115 rfl, ta_3 116 rfl, ta_1 3 rfl, by decide +kernel, rfl⟩
set_option maxRecDepth 100000 in
theorem cv_1_142 : Val 1 142 (9, 0, 0, 0) := show Cond.methodLink (rn 1) 142 Lib.Math.min.name ∈ lw_tbl from ta_6 234 rfl
set_option maxRecDepth 100000 in
theorem cv_2_3 : Val 2 3 (6, 0, 0, 0) := show Cond.methodLink (rn 2) 3 Lib.objectInit ∈ lw_tbl from ta_1 147 rfl
set_option maxRecDepth 100000 in
theorem cv_2_9 : Val 2 9 (0, 2, 0, 0) := ⟨_, rfl, by decide, ta_1 154 rfl⟩
set_option maxRecDepth 100000 in
theorem cv_2_15 : Val 2 15 (0, 2, 2, 0) := ⟨_, rfl, by decide, ta_1 156 rfl⟩
set_option maxRecDepth 100000 in
theorem cv_2_18 : Val 2 18 (0, 2, 3, 0) := ⟨_, rfl, by decide, ta_1 157 rfl⟩
set_option maxRecDepth 100000 in
theorem cv_2_21 : Val 2 21 (1, nX2_beUntold, 0, 2) := ⟨pe_X2_beUntold, rfl, rfl, ta_1 148 rfl, ta_1 149 rfl, ta_1 150 rfl, ta_1 4 rfl, by decide +kernel, rfl⟩
set_option maxRecDepth 100000 in
theorem cv_2_24 : Val 2 24 (16, 0, 0, 0) := show Cond.fieldLink (rn 2) 24 RX2 "UNTOLD" "[I" ∈ lw_tbl from ta_1 152 rfl
set_option maxRecDepth 100000 in
theorem cv_2_27 : Val 2 27 (0, 2, 1, 0) := ⟨_, rfl, by decide, ta_1 155 rfl⟩
set_option maxRecDepth 100000 in
theorem cv_2_31 : Val 2 31 (7, 0, 0, 0) := show Cond.methodLink (rn 2) 31 arraycopyName ∈ lw_tbl from ta_4 195 rfl
set_option maxRecDepth 100000 in
theorem cv_2_37 : Val 2 37 (1, nX2_readSum, 2, 2) := ⟨pe_X2_readSum, rfl, rfl, ta_4 162 rfl, ta_4 164 rfl, tp 14 rfl, ta_1 4 rfl, by decide +kernel, rfl⟩
set_option maxRecDepth 100000 in
theorem cv_2_41 : Val 2 41 (1, nX7_ended, 0, 7) := ⟨pe_X7_ended, rfl, rfl, ta_4 187 rfl, ta_4 188 rfl, ta_4 189 rfl, ta_1 2 rfl, by decide +kernel, rfl⟩
set_option maxRecDepth 100000 in
theorem cv_2_47 : Val 2 47 (1, nX2_readProduct, 2, 2) := ⟨pe_X2_readProduct, rfl, rfl, ta_4 166 rfl, ta_4 168 rfl, tp 15 rfl, ta_1 4 rfl, by decide +kernel, rfl⟩
set_option maxRecDepth 100000 in
theorem cv_2_50 : Val 2 50 (1, nX7_peek, 0, 7) := ⟨pe_X7_peek, rfl, rfl, ta_4 174 rfl, ta_4 6 rfl, ta_4 7 rfl, ta_1 2 rfl, by decide +kernel, rfl⟩
set_option maxRecDepth 100000 in
theorem cv_2_54 : Val 2 54 (1, nX7_sign, 1, 7) := ⟨pe_X7_sign, rfl, rfl, ta_4 184 rfl, ta_4 132 rfl, ta_4 133 rfl, ta_1 2 rfl, by decide +kernel, rfl⟩
set_option maxRecDepth 100000 in
theorem cv_2_58 : Val 2 58 (1, nX2_add, 1, 2) := ⟨pe_X2_add, rfl, rfl, ta_4 177 rfl, ta_4 179 rfl, tp 17 rfl, ta_1 4 rfl, by decide +kernel, rfl⟩
set_option maxRecDepth 100000 in
theorem cv_2_62 : Val 2 62 (1, nX2_readUnit, 2, 2) := ⟨pe_X2_readUnit, rfl, rfl, ta_4 170 rfl, ta_4 172 rfl, tp 16 rfl, ta_1 4 rfl, by decide +kernel, rfl⟩
set_option maxRecDepth 100000 in
theorem cv_2_65 : Val 2 65 (2, nX7_isDigit, 1, 7) := ⟨pe_X7_isDigit, rfl, ta_4 175 rfl, ta_4 102 rfl, ta_1 2 rfl, by decide +kernel⟩
set_option maxRecDepth 100000 in
theorem cv_2_68 : Val 2 68 (1, nX7_numeral, 2, 7) := ⟨pe_X7_numeral, rfl, rfl, ta_4 176 rfl, ta_4 98 rfl, ta_4 99 rfl, ta_1 2 rfl, by decide +kernel, rfl⟩
set_option maxRecDepth 100000 in
theorem cv_2_72 : Val 2 72 (0, 7, 4, 0) := ⟨_, rfl, by decide, ta_1 49 rfl⟩
set_option maxRecDepth 100000 in
theorem cv_2_75 : Val 2 75 (1, nX7_tooMany, 0, 7) := ⟨pe_X7_tooMany, rfl, rfl, ta_4 183 rfl, ta_4 83 rfl, ta_4 84 rfl, ta_1 2 rfl, by decide +kernel, rfl⟩
set_option maxRecDepth 100000 in
theorem cv_2_78 : Val 2 78 (15, 1, 0, 0) := rfl
set_option maxRecDepth 100000 in
theorem cv_2_80 : Val 2 80 (1, nX7_named, 1, 7) := ⟨pe_X7_named, rfl, rfl, ta_4 186 rfl, ta_4 15 rfl, ta_4 16 rfl, ta_1 2 rfl, by decide +kernel, rfl⟩
set_option maxRecDepth 100000 in
theorem cv_2_84 : Val 2 84 (3, nX11_put, 3, 11) := ⟨pe_X11_put, 11, rfl, by decide +kernel, ta_4 109 rfl, ta_1 1 rfl, by decide +kernel, rfl⟩
set_option maxRecDepth 100000 in
theorem cv_2_88 : Val 2 88 (9, 0, 0, 0) := show Cond.methodLink (rn 2) 88 Lib.Math.min.name ∈ lw_tbl from ta_4 182 rfl
set_option maxRecDepth 100000 in
theorem cv_2_94 : Val 2 94 (3, nX11_pick, 2, 11) := ⟨pe_X11_pick, 18, rfl, by decide +kernel, ta_3 95 rfl, ta_1 1 rfl, by decide +kernel, rfl⟩
set_option maxRecDepth 100000 in
theorem cv_2_98 : Val 2 98 (2, nX2_reckon, 3, 2) := ⟨pe_X2_reckon, rfl, ta_5 87 rfl, ta_5 88 rfl, ta_1 4 rfl, by decide +kernel⟩
set_option maxRecDepth 100000 in
theorem cv_3_3 : Val 3 3 (6, 0, 0, 0) := show Cond.methodLink (rn 3) 3 Lib.objectInit ∈ lw_tbl from ta_2 4 rfl
set_option maxRecDepth 100000 in
theorem cv_3_9 : Val 3 9 (0, 3, 0, 0) := ⟨_, rfl, by decide, ta_2 5 rfl⟩
set_option maxRecDepth 100000 in
theorem cv_3_15 : Val 3 15 (0, 3, 1, 0) := ⟨_, rfl, by decide, ta_2 9 rfl⟩
set_option maxRecDepth 100000 in
theorem cv_3_18 : Val 3 18 (0, 3, 2, 0) := ⟨_, rfl, by decide, ta_2 13 rfl⟩
set_option maxRecDepth 100000 in
theorem cv_3_21 : Val 3 21 (0, 3, 3, 0) := ⟨_, rfl, by decide, ta_2 16 rfl⟩
set_option maxRecDepth 100000 in
theorem cv_3_24 : Val 3 24 (2, nJ7_fill_53178, 2, 16) := ⟨pe_J7_fill_53178, rfl, ta_2 235 rfl, ta_1 178 rfl, ta_1 6 rfl, by decide +kernel⟩
set_option maxRecDepth 100000 in
theorem cv_3_30 : Val 3 30 (0, 3, 4, 0) := ⟨_, rfl, by decide, ta_2 18 rfl⟩
set_option maxRecDepth 100000 in
theorem cv_3_34 : Val 3 34 (0, 3, 5, 0) := ⟨_, rfl, by decide, ta_2 22 rfl⟩
set_option maxRecDepth 100000 in
theorem cv_3_37 : Val 3 37 (0, 3, 6, 0) := ⟨_, rfl, by decide, ta_2 25 rfl⟩
set_option maxRecDepth 100000 in
theorem cv_3_40 : Val 3 40 (0, 3, 7, 0) := ⟨_, rfl, by decide, ta_2 28 rfl⟩
set_option maxRecDepth 100000 in
theorem cv_3_43 : Val 3 43 (7, 0, 0, 0) := show Cond.methodLink (rn 3) 43 arraycopyName ∈ lw_tbl from ta_3 73 rfl
set_option maxRecDepth 100000 in
theorem cv_3_49 : Val 3 49 (3, nX11_bit, 2, 11) := ⟨pe_X11_bit, 14, rfl, by decide +kernel, ta_3 92 rfl, ta_1 1 rfl, by decide +kernel, rfl⟩
set_option maxRecDepth 100000 in
theorem cv_3_53 : Val 3 53 (0, 1, 4, 0) := ⟨_, rfl, by decide, ta_1 97 rfl⟩
set_option maxRecDepth 100000 in
theorem cv_3_58 : Val 3 58 (3, nX11_pick, 2, 11) := ⟨pe_X11_pick, 15, rfl, by decide +kernel, ta_3 95 rfl, ta_1 1 rfl, by decide +kernel, rfl⟩
set_option maxRecDepth 100000 in
theorem cv_3_62 : Val 3 62 (1, nX3_placeOf, 1, 3) := ⟨pe_X3_placeOf, rfl, rfl, ta_5 20 rfl, ta_5 21 rfl, ta_5 22 rfl, ta_1 8 rfl, by decide +kernel, rfl⟩
set_option maxRecDepth 100000 in
theorem cv_3_66 : Val 3 66 (1, nX3_wayOf, 1, 3) := ⟨pe_X3_wayOf, rfl, rfl, ta_5 28 rfl, ta_5 29 rfl, ta_5 30 rfl, ta_1 8 rfl, by decide +kernel, rfl⟩
set_option maxRecDepth 100000 in
theorem cv_3_69 : Val 3 69 (1, nX1_follows, 2, 1) := ⟨pe_X1_follows, rfl, rfl, ta_5 38 rfl, ta_3 102 rfl, ta_3 103 rfl, ta_1 3 rfl, by decide +kernel, rfl⟩
set_option maxRecDepth 100000 in
theorem cv_3_73 : Val 3 73 (1, nX3_canLay, 2, 3) := ⟨pe_X3_canLay, rfl, rfl, ta_5 33 rfl, ta_5 34 rfl, ta_5 35 rfl, ta_1 8 rfl, by decide +kernel, rfl⟩
set_option maxRecDepth 100000 in
theorem cv_3_77 : Val 3 77 (3, nX11_put, 3, 11) := ⟨pe_X11_put, 16, rfl, by decide +kernel, ta_4 109 rfl, ta_1 1 rfl, by decide +kernel, rfl⟩
set_option maxRecDepth 100000 in
theorem cv_4_5 : Val 4 5 (6, 0, 0, 0) := show Cond.methodLink (rn 4) 5 Lib.objectInit ∈ lw_tbl from ta_2 56 rfl
set_option maxRecDepth 100000 in
theorem cv_4_11 : Val 4 11 (0, 4, 0, 0) := ⟨_, rfl, by decide, ta_2 57 rfl⟩
set_option maxRecDepth 100000 in
theorem cv_4_15 : Val 4 15 (0, 4, 1, 0) := ⟨_, rfl, by decide, ta_2 58 rfl⟩
set_option maxRecDepth 100000 in
theorem cv_4_18 : Val 4 18 (0, 4, 2, 0) := ⟨_, rfl, by decide, ta_2 59 rfl⟩
set_option maxRecDepth 100000 in
theorem cv_4_21 : Val 4 21 (0, 4, 3, 0) := ⟨_, rfl, by decide, ta_2 60 rfl⟩
set_option maxRecDepth 100000 in
theorem cv_4_25 : Val 4 25 (0, 4, 4, 0) := ⟨_, rfl, by decide, ta_2 62 rfl⟩
set_option maxRecDepth 100000 in
theorem cv_4_28 : Val 4 28 (1, nX3_writeTo, 2, 3) := ⟨pe_X3_writeTo, rfl, rfl, ta_3 134 rfl, ta_3 135 rfl, ta_3 136 rfl, ta_1 8 rfl, by decide +kernel, rfl⟩
set_option maxRecDepth 100000 in
theorem cv_4_32 : Val 4 32 (1, nX3_readFrom, 2, 3) := ⟨pe_X3_readFrom, rfl, rfl, ta_3 69 rfl, ta_3 70 rfl, ta_3 71 rfl, ta_1 8 rfl, by decide +kernel, rfl⟩
set_option maxRecDepth 100000 in
theorem cv_4_35 : Val 4 35 (7, 0, 0, 0) := show Cond.methodLink (rn 4) 35 arraycopyName ∈ lw_tbl from ta_3 138 rfl
set_option maxRecDepth 100000 in
theorem cv_5_5 : Val 5 5 (6, 0, 0, 0) := show Cond.methodLink (rn 5) 5 Lib.objectInit ∈ lw_tbl from ta_2 113 rfl
set_option maxRecDepth 100000 in
theorem cv_5_11 : Val 5 11 (0, 5, 2, 0) := ⟨_, rfl, by decide, ta_2 116 rfl⟩
set_option maxRecDepth 100000 in
theorem cv_5_15 : Val 5 15 (0, 5, 3, 0) := ⟨_, rfl, by decide, ta_2 117 rfl⟩
set_option maxRecDepth 100000 in
theorem cv_5_18 : Val 5 18 (0, 5, 5, 0) := ⟨_, rfl, by decide, ta_2 119 rfl⟩
set_option maxRecDepth 100000 in
theorem cv_5_21 : Val 5 21 (0, 5, 11, 0) := ⟨_, rfl, by decide, ta_2 130 rfl⟩
set_option maxRecDepth 100000 in
theorem cv_5_25 : Val 5 25 (0, 5, 12, 0) := ⟨_, rfl, by decide, ta_2 131 rfl⟩
set_option maxRecDepth 100000 in
theorem cv_5_28 : Val 5 28 (0, 5, 14, 0) := ⟨_, rfl, by decide, ta_2 135 rfl⟩
set_option maxRecDepth 100000 in
theorem cv_5_31 : Val 5 31 (0, 5, 15, 0) := ⟨_, rfl, by decide, ta_2 136 rfl⟩
set_option maxRecDepth 100000 in
theorem cv_5_35 : Val 5 35 (0, 5, 16, 0) := ⟨_, rfl, by decide, ta_2 137 rfl⟩
set_option maxRecDepth 100000 in
theorem cv_5_38 : Val 5 38 (0, 5, 0, 0) := ⟨_, rfl, by decide, ta_2 114 rfl⟩
set_option maxRecDepth 100000 in
theorem cv_5_42 : Val 5 42 (0, 5, 1, 0) := ⟨_, rfl, by decide, ta_2 115 rfl⟩
set_option maxRecDepth 100000 in
theorem cv_5_46 : Val 5 46 (0, 5, 4, 0) := ⟨_, rfl, by decide, ta_2 118 rfl⟩
set_option maxRecDepth 100000 in
theorem cv_5_50 : Val 5 50 (0, 5, 8, 0) := ⟨_, rfl, by decide, ta_2 125 rfl⟩
set_option maxRecDepth 100000 in
theorem cv_5_53 : Val 5 53 (1, nX5_forgetShort, 0, 5) := ⟨pe_X5_forgetShort, rfl, rfl, ta_4 150 rfl, ta_3 77 rfl, ta_3 78 rfl, ta_1 11 rfl, by decide +kernel, rfl⟩
set_option maxRecDepth 100000 in
theorem cv_5_56 : Val 5 56 (1, nX5_longestNow, 0, 5) := ⟨pe_X5_longestNow, rfl, rfl, ta_6 37 rfl, ta_6 39 rfl, tp 30 rfl, ta_1 11 rfl, by decide +kernel, rfl⟩
set_option maxRecDepth 100000 in
theorem cv_5_60 : Val 5 60 (0, 5, 7, 0) := ⟨_, rfl, by decide, ta_2 123 rfl⟩
set_option maxRecDepth 100000 in
theorem cv_5_63 : Val 5 63 (0, 5, 6, 0) := ⟨_, rfl, by decide, ta_2 121 rfl⟩
set_option maxRecDepth 100000 in
theorem cv_5_66 : Val 5 66 (1, nX5_firstLeaving, 3, 5) := ⟨pe_X5_firstLeaving, rfl, rfl, ta_6 58 rfl, ta_6 60 rfl, tp 35 rfl, ta_1 11 rfl, by decide +kernel, rfl⟩
set_option maxRecDepth 100000 in
theorem cv_5_70 : Val 5 70 (0, 1, 4, 0) := ⟨_, rfl, by decide, ta_1 96 rfl⟩
set_option maxRecDepth 100000 in
theorem cv_5_75 : Val 5 75 (3, nX11_pick, 2, 11) := ⟨pe_X11_pick, 6, rfl, by decide +kernel, ta_3 95 rfl, ta_1 1 rfl, by decide +kernel, rfl⟩
set_option maxRecDepth 100000 in
theorem cv_5_79 : Val 5 79 (0, 1, 0, 0) := ⟨_, rfl, by decide, ta_1 86 rfl⟩
set_option maxRecDepth 100000 in
theorem cv_5_82 : Val 5 82 (1, nX1_follows, 2, 1) := ⟨pe_X1_follows, rfl, rfl, ta_3 101 rfl, ta_3 102 rfl, ta_3 103 rfl, ta_1 3 rfl, by decide +kernel, rfl⟩
set_option maxRecDepth 100000 in
theorem cv_5_86 : Val 5 86 (1, nX5_fillFollowers, 0, 5) := ⟨pe_X5_fillFollowers, rfl, rfl, ta_6 41 rfl, ta_6 43 rfl, tp 31 rfl, ta_1 11 rfl, by decide +kernel, rfl⟩
set_option maxRecDepth 100000 in
theorem cv_5_89 : Val 5 89 (3, nX11_bit, 2, 11) := ⟨pe_X11_bit, 5, rfl, by decide +kernel, ta_3 92 rfl, ta_1 1 rfl, by decide +kernel, rfl⟩
set_option maxRecDepth 100000 in
theorem cv_5_93 : Val 5 93 (1, nX5_longestBehind, 2, 5) := ⟨pe_X5_longestBehind, rfl, rfl, ta_6 45 rfl, ta_6 47 rfl, tp 32 rfl, ta_1 11 rfl, by decide +kernel, rfl⟩
set_option maxRecDepth 100000 in
theorem cv_5_96 : Val 5 96 (3, nX11_put, 3, 11) := ⟨pe_X11_put, 21, rfl, by decide +kernel, ta_4 109 rfl, ta_1 1 rfl, by decide +kernel, rfl⟩
set_option maxRecDepth 100000 in
theorem cv_5_100 : Val 5 100 (1, nX5_canFollow, 3, 5) := ⟨pe_X5_canFollow, rfl, rfl, ta_6 49 rfl, ta_6 51 rfl, tp 33 rfl, ta_1 11 rfl, by decide +kernel, rfl⟩
set_option maxRecDepth 100000 in
theorem cv_5_104 : Val 5 104 (1, nX5_longWith, 2, 5) := ⟨pe_X5_longWith, rfl, rfl, ta_6 53 rfl, ta_6 55 rfl, tp 34 rfl, ta_1 11 rfl, by decide +kernel, rfl⟩
set_option maxRecDepth 100000 in
theorem cv_5_107 : Val 5 107 (8, 0, 0, 0) := show Cond.methodLink (rn 5) 107 Lib.Math.max.name ∈ lw_tbl from ta_3 119 rfl
set_option maxRecDepth 100000 in
theorem cv_5_112 : Val 5 112 (0, 5, 9, 0) := ⟨_, rfl, by decide, ta_2 126 rfl⟩
set_option maxRecDepth 100000 in
theorem cv_5_115 : Val 5 115 (0, 5, 10, 0) := ⟨_, rfl, by decide, ta_2 128 rfl⟩
set_option maxRecDepth 100000 in
theorem cv_5_118 : Val 5 118 (1, nX1_joins, 2, 1) := ⟨pe_X1_joins, rfl, rfl, ta_6 113 rfl, ta_3 115 rfl, ta_3 116 rfl, ta_1 3 rfl, by decide +kernel, rfl⟩
set_option maxRecDepth 100000 in
theorem cv_5_121 : Val 5 121 (1, nX5_tryCollar, 2, 5) := ⟨pe_X5_tryCollar, rfl, rfl, ta_6 114 rfl, ta_6 116 rfl, tp 38 rfl, ta_1 11 rfl, by decide +kernel, rfl⟩
set_option maxRecDepth 100000 in
theorem cv_5_125 : Val 5 125 (1, nX1_join, 2, 1) := ⟨pe_X1_join, rfl, rfl, ta_6 118 rfl, ta_4 120 rfl, ta_4 121 rfl, ta_1 3 rfl, by decide +kernel, rfl⟩
set_option maxRecDepth 100000 in
theorem cv_5_128 : Val 5 128 (1, nX1_part, 2, 1) := ⟨pe_X1_part, rfl, rfl, ta_6 119 rfl, ta_6 120 rfl, ta_6 121 rfl, ta_1 3 rfl, by decide +kernel, rfl⟩
set_option maxRecDepth 100000 in
theorem cv_5_131 : Val 5 131 (0, 5, 13, 0) := ⟨_, rfl, by decide, ta_2 133 rfl⟩
set_option maxRecDepth 100000 in
theorem cv_5_134 : Val 5 134 (2, nJ7_fill_d0a16, 2, 16) := ⟨pe_J7_fill_d0a16, rfl, ta_6 80 rfl, ta_6 81 rfl, ta_1 6 rfl, by decide +kernel⟩
set_option maxRecDepth 100000 in
theorem cv_5_140 : Val 5 140 (0, 3, 7, 0) := ⟨_, rfl, by decide, ta_2 33 rfl⟩
set_option maxRecDepth 100000 in
theorem cv_5_145 : Val 5 145 (1, nX5_searchShort, 6, 5) := ⟨pe_X5_searchShort, rfl, rfl, ta_6 83 rfl, ta_6 85 rfl, tp 36 rfl, ta_1 11 rfl, by decide +kernel, rfl⟩
set_option maxRecDepth 100000 in
theorem cv_5_149 : Val 5 149 (1, nX1_reaches, 3, 1) := ⟨pe_X1_reaches, rfl, rfl, ta_6 87 rfl, ta_5 96 rfl, ta_5 97 rfl, ta_1 3 rfl, by decide +kernel, rfl⟩
set_option maxRecDepth 100000 in
theorem cv_5_152 : Val 5 152 (7, 0, 0, 0) := show Cond.methodLink (rn 5) 152 arraycopyName ∈ lw_tbl from ta_6 88 rfl
set_option maxRecDepth 100000 in
theorem cv_5_158 : Val 5 158 (1, nX8_behindPiece, 5, 8) := ⟨pe_X8_behindPiece, rfl, rfl, ta_6 89 rfl, ta_5 70 rfl, ta_5 71 rfl, ta_1 10 rfl, by decide +kernel, rfl⟩
set_option maxRecDepth 100000 in
theorem cv_5_164 : Val 5 164 (1, nX5_isNew, 1, 5) := ⟨pe_X5_isNew, rfl, rfl, ta_6 90 rfl, ta_6 92 rfl, tp 37 rfl, ta_1 11 rfl, by decide +kernel, rfl⟩
set_option maxRecDepth 100000 in
theorem cv_5_168 : Val 5 168 (14, 76800, 0, 0) := show Cond.constant (rn 5) 168 (Int32.ofNat 76800) ∈ lw_tbl from ta_6 94 rfl
set_option maxRecDepth 100000 in
theorem cv_5_169 : Val 5 169 (2, nX5_leastOf, 1, 5) := ⟨pe_X5_leastOf, rfl, ta_3 88 rfl, ta_3 89 rfl, ta_1 11 rfl, by decide +kernel⟩
set_option maxRecDepth 100000 in
theorem cv_5_173 : Val 5 173 (1, nX5_areFit, 2, 5) := ⟨pe_X5_areFit, rfl, rfl, ta_3 97 rfl, ta_3 99 rfl, tp 1 rfl, ta_1 11 rfl, by decide +kernel, rfl⟩
set_option maxRecDepth 100000 in
theorem cv_6_3 : Val 6 3 (6, 0, 0, 0) := show Cond.methodLink (rn 6) 3 Lib.objectInit ∈ lw_tbl from ta_2 179 rfl
set_option maxRecDepth 100000 in
theorem cv_6_11 : Val 6 11 (0, 6, 1, 0) := ⟨_, rfl, by decide, ta_2 181 rfl⟩
set_option maxRecDepth 100000 in
theorem cv_6_15 : Val 6 15 (0, 6, 0, 0) := ⟨_, rfl, by decide, ta_2 180 rfl⟩
set_option maxRecDepth 100000 in
theorem cv_6_19 : Val 6 19 (0, 3, 5, 0) := ⟨_, rfl, by decide, ta_2 20 rfl⟩
set_option maxRecDepth 100000 in
theorem cv_6_25 : Val 6 25 (0, 6, 2, 0) := ⟨_, rfl, by decide, ta_2 182 rfl⟩
set_option maxRecDepth 100000 in
theorem cv_6_28 : Val 6 28 (0, 6, 3, 0) := ⟨_, rfl, by decide, ta_2 183 rfl⟩
set_option maxRecDepth 100000 in
theorem cv_6_31 : Val 6 31 (0, 6, 4, 0) := ⟨_, rfl, by decide, ta_2 184 rfl⟩
set_option maxRecDepth 100000 in
theorem cv_6_34 : Val 6 34 (0, 6, 5, 0) := ⟨_, rfl, by decide, ta_2 186 rfl⟩
set_option maxRecDepth 100000 in
theorem cv_6_37 : Val 6 37 (1, nX6_fillArrives, 1, 6) := ⟨pe_X6_fillArrives, rfl, rfl, ta_6 184 rfl, ta_6 186 rfl, tp 42 rfl, ta_1 12 rfl, by decide +kernel, rfl⟩
set_option maxRecDepth 100000 in
theorem cv_6_41 : Val 6 41 (1, nX6_canTake, 2, 6) := ⟨pe_X6_canTake, rfl, rfl, ta_6 188 rfl, ta_6 190 rfl, tp 43 rfl, ta_1 12 rfl, by decide +kernel, rfl⟩
set_option maxRecDepth 100000 in
theorem cv_6_45 : Val 6 45 (1, nX6_isRest, 3, 6) := ⟨pe_X6_isRest, rfl, rfl, ta_6 199 rfl, ta_6 201 rfl, tp 45 rfl, ta_1 12 rfl, by decide +kernel, rfl⟩
set_option maxRecDepth 100000 in
theorem cv_6_49 : Val 6 49 (1, nX6_noteRest, 2, 6) := ⟨pe_X6_noteRest, rfl, rfl, ta_6 215 rfl, ta_6 217 rfl, tp 49 rfl, ta_1 12 rfl, by decide +kernel, rfl⟩
set_option maxRecDepth 100000 in
theorem cv_6_53 : Val 6 53 (1, nX6_bendMore, 2, 6) := ⟨pe_X6_bendMore, rfl, rfl, ta_6 193 rfl, ta_6 195 rfl, tp 44 rfl, ta_1 12 rfl, by decide +kernel, rfl⟩
set_option maxRecDepth 100000 in
theorem cv_6_56 : Val 6 56 (0, 3, 7, 0) := ⟨_, rfl, by decide, ta_2 29 rfl⟩
set_option maxRecDepth 100000 in
theorem cv_6_59 : Val 6 59 (1, nX8_arriving, 2, 8) := ⟨pe_X8_arriving, rfl, rfl, ta_6 198 rfl, ta_5 65 rfl, ta_5 66 rfl, ta_1 10 rfl, by decide +kernel, rfl⟩
set_option maxRecDepth 100000 in
theorem cv_6_65 : Val 6 65 (3, nX11_put, 3, 11) := ⟨pe_X11_put, 24, rfl, by decide +kernel, ta_4 109 rfl, ta_1 1 rfl, by decide +kernel, rfl⟩
set_option maxRecDepth 100000 in
theorem cv_6_69 : Val 6 69 (0, 8, 3, 0) := ⟨_, rfl, by decide, ta_2 87 rfl⟩
set_option maxRecDepth 100000 in
theorem cv_6_72 : Val 6 72 (3, nX11_pick, 2, 11) := ⟨pe_X11_pick, 23, rfl, by decide +kernel, ta_3 95 rfl, ta_1 1 rfl, by decide +kernel, rfl⟩
set_option maxRecDepth 100000 in
theorem cv_6_76 : Val 6 76 (0, 3, 1, 0) := ⟨_, rfl, by decide, ta_2 11 rfl⟩
set_option maxRecDepth 100000 in
theorem cv_6_79 : Val 6 79 (0, 3, 0, 0) := ⟨_, rfl, by decide, ta_2 7 rfl⟩
set_option maxRecDepth 100000 in
theorem cv_6_82 : Val 6 82 (1, nX6_streetHas, 2, 6) := ⟨pe_X6_streetHas, rfl, rfl, ta_6 203 rfl, ta_6 205 rfl, tp 46 rfl, ta_1 12 rfl, by decide +kernel, rfl⟩
set_option maxRecDepth 100000 in
theorem cv_6_86 : Val 6 86 (1, nX6_houseHas, 2, 6) := ⟨pe_X6_houseHas, rfl, rfl, ta_6 211 rfl, ta_6 213 rfl, tp 48 rfl, ta_1 12 rfl, by decide +kernel, rfl⟩
set_option maxRecDepth 100000 in
theorem cv_6_89 : Val 6 89 (1, nX6_paid, 1, 6) := ⟨pe_X6_paid, rfl, rfl, ta_6 207 rfl, ta_6 209 rfl, tp 47 rfl, ta_1 12 rfl, by decide +kernel, rfl⟩
set_option maxRecDepth 100000 in
theorem cv_6_93 : Val 6 93 (1, nX6_asTold, 1, 6) := ⟨pe_X6_asTold, rfl, rfl, ta_6 219 rfl, ta_6 221 rfl, tp 50 rfl, ta_1 12 rfl, by decide +kernel, rfl⟩
set_option maxRecDepth 100000 in
theorem cv_6_96 : Val 6 96 (0, 6, 6, 0) := ⟨_, rfl, by decide, ta_2 188 rfl⟩
set_option maxRecDepth 100000 in
theorem cv_7_3 : Val 7 3 (6, 0, 0, 0) := show Cond.methodLink (rn 7) 3 Lib.objectInit ∈ lw_tbl from ta_1 39 rfl
set_option maxRecDepth 100000 in
theorem cv_7_11 : Val 7 11 (0, 7, 0, 0) := ⟨_, rfl, by decide, ta_1 40 rfl⟩
set_option maxRecDepth 100000 in
theorem cv_7_15 : Val 7 15 (0, 7, 3, 0) := ⟨_, rfl, by decide, ta_1 45 rfl⟩
set_option maxRecDepth 100000 in
theorem cv_7_19 : Val 7 19 (0, 7, 1, 0) := ⟨_, rfl, by decide, ta_1 41 rfl⟩
set_option maxRecDepth 100000 in
theorem cv_7_22 : Val 7 22 (0, 7, 5, 0) := ⟨_, rfl, by decide, ta_1 52 rfl⟩
set_option maxRecDepth 100000 in
theorem cv_7_25 : Val 7 25 (0, 7, 6, 0) := ⟨_, rfl, by decide, ta_1 53 rfl⟩
set_option maxRecDepth 100000 in
theorem cv_7_28 : Val 7 28 (0, 7, 2, 0) := ⟨_, rfl, by decide, ta_1 44 rfl⟩
set_option maxRecDepth 100000 in
theorem cv_7_31 : Val 7 31 (1, nX7_byteAt, 1, 7) := ⟨pe_X7_byteAt, rfl, rfl, ta_4 9 rfl, ta_4 11 rfl, tp 5 rfl, ta_1 2 rfl, by decide +kernel, rfl⟩
set_option maxRecDepth 100000 in
theorem cv_7_35 : Val 7 35 (0, 7, 7, 0) := ⟨_, rfl, by decide, ta_1 54 rfl⟩
set_option maxRecDepth 100000 in
theorem cv_7_38 : Val 7 38 (1, nX7_peek, 0, 7) := ⟨pe_X7_peek, rfl, rfl, ta_4 18 rfl, ta_4 6 rfl, ta_4 7 rfl, ta_1 2 rfl, by decide +kernel, rfl⟩
set_option maxRecDepth 100000 in
theorem cv_7_42 : Val 7 42 (1, nX7_blame, 1, 7) := ⟨pe_X7_blame, rfl, rfl, ta_4 74 rfl, ta_4 76 rfl, tp 7 rfl, ta_1 2 rfl, by decide +kernel, rfl⟩
set_option maxRecDepth 100000 in
theorem cv_7_46 : Val 7 46 (2, nX7_isDigit, 1, 7) := ⟨pe_X7_isDigit, rfl, ta_4 101 rfl, ta_4 102 rfl, ta_1 2 rfl, by decide +kernel⟩
set_option maxRecDepth 100000 in
theorem cv_7_49 : Val 7 49 (14, 100000, 0, 0) := show Cond.constant (rn 7) 49 (Int32.ofNat 100000) ∈ lw_tbl from ta_4 104 rfl
set_option maxRecDepth 100000 in
theorem cv_7_50 : Val 7 50 (9, 0, 0, 0) := show Cond.methodLink (rn 7) 50 Lib.Math.min.name ∈ lw_tbl from ta_4 105 rfl
set_option maxRecDepth 100000 in
theorem cv_7_56 : Val 7 56 (0, 7, 4, 0) := ⟨_, rfl, by decide, ta_1 50 rfl⟩
set_option maxRecDepth 100000 in
theorem cv_7_59 : Val 7 59 (3, nX11_within, 3, 11) := ⟨pe_X11_within, 9, rfl, by decide +kernel, ta_4 20 rfl, ta_1 1 rfl, by decide +kernel, rfl⟩
set_option maxRecDepth 100000 in
theorem cv_7_63 : Val 7 63 (1, nX7_placeAmong, 1, 7) := ⟨pe_X7_placeAmong, rfl, rfl, ta_4 22 rfl, ta_4 24 rfl, tp 6 rfl, ta_1 2 rfl, by decide +kernel, rfl⟩
set_option maxRecDepth 100000 in
theorem cv_7_67 : Val 7 67 (10, nJ0_length_8abf5, 0, 14) := ⟨pe_J0_length_8abf5, rfl, ta_4 26 rfl, ta_4 27 rfl, ta_4 28 rfl, ta_1 19 rfl, by decide +kernel, rfl, rfl⟩
set_option maxRecDepth 100000 in
theorem cv_7_72 : Val 7 72 (10, nJ0_charAt_5068e, 1, 14) := ⟨pe_J0_charAt_5068e, rfl, ta_4 36 rfl, ta_4 37 rfl, ta_4 38 rfl, ta_1 19 rfl, by decide +kernel, rfl, rfl⟩
set_option maxRecDepth 100000 in
theorem cv_8_3 : Val 8 3 (6, 0, 0, 0) := show Cond.methodLink (rn 8) 3 Lib.objectInit ∈ lw_tbl from ta_2 80 rfl
set_option maxRecDepth 100000 in
theorem cv_8_9 : Val 8 9 (0, 8, 2, 0) := ⟨_, rfl, by decide, ta_2 83 rfl⟩
set_option maxRecDepth 100000 in
theorem cv_8_15 : Val 8 15 (0, 8, 3, 0) := ⟨_, rfl, by decide, ta_2 86 rfl⟩
set_option maxRecDepth 100000 in
theorem cv_8_18 : Val 8 18 (0, 8, 4, 0) := ⟨_, rfl, by decide, ta_2 88 rfl⟩
set_option maxRecDepth 100000 in
theorem cv_8_21 : Val 8 21 (0, 8, 5, 0) := ⟨_, rfl, by decide, ta_2 89 rfl⟩
set_option maxRecDepth 100000 in
theorem cv_8_25 : Val 8 25 (0, 8, 0, 0) := ⟨_, rfl, by decide, ta_2 81 rfl⟩
set_option maxRecDepth 100000 in
theorem cv_8_29 : Val 8 29 (0, 8, 1, 0) := ⟨_, rfl, by decide, ta_2 82 rfl⟩
set_option maxRecDepth 100000 in
theorem cv_8_33 : Val 8 33 (0, 3, 5, 0) := ⟨_, rfl, by decide, ta_2 21 rfl⟩
set_option maxRecDepth 100000 in
theorem cv_8_38 : Val 8 38 (0, 3, 0, 0) := ⟨_, rfl, by decide, ta_2 6 rfl⟩
set_option maxRecDepth 100000 in
theorem cv_8_41 : Val 8 41 (1, nX3_wayOf, 1, 3) := ⟨pe_X3_wayOf, rfl, rfl, ta_5 68 rfl, ta_5 29 rfl, ta_5 30 rfl, ta_1 8 rfl, by decide +kernel, rfl⟩
set_option maxRecDepth 100000 in
theorem cv_8_45 : Val 8 45 (1, nX8_behindPiece, 5, 8) := ⟨pe_X8_behindPiece, rfl, rfl, ta_5 69 rfl, ta_5 70 rfl, ta_5 71 rfl, ta_1 10 rfl, by decide +kernel, rfl⟩
set_option maxRecDepth 100000 in
theorem cv_8_49 : Val 8 49 (0, 8, 6, 0) := ⟨_, rfl, by decide, ta_2 91 rfl⟩
set_option maxRecDepth 100000 in
theorem cv_8_52 : Val 8 52 (8, 0, 0, 0) := show Cond.methodLink (rn 8) 52 Lib.Math.max.name ∈ lw_tbl from ta_5 90 rfl
set_option maxRecDepth 100000 in
theorem cv_8_58 : Val 8 58 (0, 3, 1, 0) := ⟨_, rfl, by decide, ta_2 10 rfl⟩
set_option maxRecDepth 100000 in
theorem cv_8_61 : Val 8 61 (3, nX11_pick, 2, 11) := ⟨pe_X11_pick, 17, rfl, by decide +kernel, ta_3 95 rfl, ta_1 1 rfl, by decide +kernel, rfl⟩
set_option maxRecDepth 100000 in
theorem cv_8_65 : Val 8 65 (0, 3, 2, 0) := ⟨_, rfl, by decide, ta_2 14 rfl⟩
set_option maxRecDepth 100000 in
theorem cv_8_68 : Val 8 68 (0, 1, 5, 0) := ⟨_, rfl, by decide, ta_1 100 rfl⟩
set_option maxRecDepth 100000 in
theorem cv_8_73 : Val 8 73 (0, 1, 4, 0) := ⟨_, rfl, by decide, ta_1 95 rfl⟩
set_option maxRecDepth 100000 in
theorem cv_8_76 : Val 8 76 (1, nX2_tellPiece, 4, 2) := ⟨pe_X2_tellPiece, rfl, rfl, ta_5 74 rfl, ta_5 75 rfl, ta_5 76 rfl, ta_1 4 rfl, by decide +kernel, rfl⟩
set_option maxRecDepth 100000 in
theorem cv_8_82 : Val 8 82 (1, nX2_tellNow, 5, 2) := ⟨pe_X2_tellNow, rfl, rfl, ta_5 78 rfl, ta_5 79 rfl, ta_5 80 rfl, ta_1 4 rfl, by decide +kernel, rfl⟩
set_option maxRecDepth 100000 in
theorem cv_8_86 : Val 8 86 (1, nX2_left, 0, 2) := ⟨pe_X2_left, rfl, rfl, ta_5 82 rfl, ta_5 83 rfl, ta_5 84 rfl, ta_1 4 rfl, by decide +kernel, rfl⟩
set_option maxRecDepth 100000 in
theorem cv_8_89 : Val 8 89 (0, 1, 2, 0) := ⟨_, rfl, by decide, ta_1 90 rfl⟩
set_option maxRecDepth 100000 in
theorem cv_8_92 : Val 8 92 (0, 3, 7, 0) := ⟨_, rfl, by decide, ta_2 30 rfl⟩
set_option maxRecDepth 100000 in
theorem cv_8_95 : Val 8 95 (1, nX8_arriving, 2, 8) := ⟨pe_X8_arriving, rfl, rfl, ta_5 64 rfl, ta_5 65 rfl, ta_5 66 rfl, ta_1 10 rfl, by decide +kernel, rfl⟩
set_option maxRecDepth 100000 in
theorem cv_8_99 : Val 8 99 (1, nX3_longNow, 1, 3) := ⟨pe_X3_longNow, rfl, rfl, ta_5 91 rfl, ta_5 92 rfl, ta_5 93 rfl, ta_1 8 rfl, by decide +kernel, rfl⟩
set_option maxRecDepth 100000 in
theorem cv_8_103 : Val 8 103 (1, nX1_reaches, 3, 1) := ⟨pe_X1_reaches, rfl, rfl, ta_5 95 rfl, ta_5 96 rfl, ta_5 97 rfl, ta_1 3 rfl, by decide +kernel, rfl⟩
set_option maxRecDepth 100000 in
theorem cv_8_107 : Val 8 107 (1, nX8_lostAt, 2, 8) := ⟨pe_X8_lostAt, rfl, rfl, ta_7 14 rfl, ta_7 15 rfl, ta_7 16 rfl, ta_1 10 rfl, by decide +kernel, rfl⟩
set_option maxRecDepth 100000 in
theorem cv_8_110 : Val 8 110 (3, nX11_bit, 2, 11) := ⟨pe_X11_bit, 22, rfl, by decide +kernel, ta_3 92 rfl, ta_1 1 rfl, by decide +kernel, rfl⟩
set_option maxRecDepth 100000 in
theorem cv_8_113 : Val 8 113 (2, nJ7_fill_53178, 2, 16) := ⟨pe_J7_fill_53178, rfl, ta_6 172 rfl, ta_1 178 rfl, ta_1 6 rfl, by decide +kernel⟩
set_option maxRecDepth 100000 in
theorem cv_9_5 : Val 9 5 (6, 0, 0, 0) := show Cond.methodLink (rn 9) 5 Lib.objectInit ∈ lw_tbl from ta_1 212 rfl
set_option maxRecDepth 100000 in
theorem cv_9_11 : Val 9 11 (0, 9, 0, 0) := ⟨_, rfl, by decide, ta_1 213 rfl⟩
set_option maxRecDepth 100000 in
theorem cv_9_15 : Val 9 15 (0, 9, 1, 0) := ⟨_, rfl, by decide, ta_1 214 rfl⟩
set_option maxRecDepth 100000 in
theorem cv_9_18 : Val 9 18 (0, 9, 2, 0) := ⟨_, rfl, by decide, ta_1 215 rfl⟩
set_option maxRecDepth 100000 in
theorem cv_9_21 : Val 9 21 (0, 9, 4, 0) := ⟨_, rfl, by decide, ta_1 217 rfl⟩
set_option maxRecDepth 100000 in
theorem cv_9_24 : Val 9 24 (0, 9, 5, 0) := ⟨_, rfl, by decide, ta_1 218 rfl⟩
set_option maxRecDepth 100000 in
theorem cv_9_27 : Val 9 27 (0, 9, 3, 0) := ⟨_, rfl, by decide, ta_1 216 rfl⟩
set_option maxRecDepth 100000 in
theorem cv_9_31 : Val 9 31 (0, 9, 6, 0) := ⟨_, rfl, by decide, ta_1 219 rfl⟩
set_option maxRecDepth 100000 in
theorem cv_9_34 : Val 9 34 (1, nX7_peek, 0, 7) := ⟨pe_X7_peek, rfl, rfl, ta_4 211 rfl, ta_4 6 rfl, ta_4 7 rfl, ta_1 2 rfl, by decide +kernel, rfl⟩
set_option maxRecDepth 100000 in
theorem cv_9_40 : Val 9 40 (1, nX9_readClose, 1, 9) := ⟨pe_X9_readClose, rfl, rfl, ta_4 212 rfl, ta_4 214 rfl, tp 18 rfl, ta_1 7 rfl, by decide +kernel, rfl⟩
set_option maxRecDepth 100000 in
theorem cv_9_44 : Val 9 44 (1, nX9_readStep, 2, 9) := ⟨pe_X9_readStep, rfl, rfl, ta_4 224 rfl, ta_4 226 rfl, tp 20 rfl, ta_1 7 rfl, by decide +kernel, rfl⟩
set_option maxRecDepth 100000 in
theorem cv_9_48 : Val 9 48 (3, nX11_pick, 2, 11) := ⟨pe_X11_pick, 12, rfl, by decide +kernel, ta_3 95 rfl, ta_1 1 rfl, by decide +kernel, rfl⟩
set_option maxRecDepth 100000 in
theorem cv_9_52 : Val 9 52 (3, nX11_put, 3, 11) := ⟨pe_X11_put, 13, rfl, by decide +kernel, ta_4 109 rfl, ta_1 1 rfl, by decide +kernel, rfl⟩
set_option maxRecDepth 100000 in
theorem cv_9_56 : Val 9 56 (1, nX9_add, 3, 9) := ⟨pe_X9_add, rfl, rfl, ta_4 218 rfl, ta_4 220 rfl, tp 19 rfl, ta_1 7 rfl, by decide +kernel, rfl⟩
set_option maxRecDepth 100000 in
theorem cv_9_60 : Val 9 60 (1, nX7_sign, 1, 7) := ⟨pe_X7_sign, rfl, rfl, ta_4 223 rfl, ta_4 132 rfl, ta_4 133 rfl, ta_1 2 rfl, by decide +kernel, rfl⟩
set_option maxRecDepth 100000 in
theorem cv_9_64 : Val 9 64 (15, 2, 0, 0) := rfl
set_option maxRecDepth 100000 in
theorem cv_9_66 : Val 9 66 (1, nX7_named, 1, 7) := ⟨pe_X7_named, rfl, rfl, ta_4 229 rfl, ta_4 15 rfl, ta_4 16 rfl, ta_1 2 rfl, by decide +kernel, rfl⟩
set_option maxRecDepth 100000 in
theorem cv_9_70 : Val 9 70 (1, nX9_readAgain, 1, 9) := ⟨pe_X9_readAgain, rfl, rfl, ta_4 230 rfl, ta_4 232 rfl, tp 21 rfl, ta_1 7 rfl, by decide +kernel, rfl⟩
set_option maxRecDepth 100000 in
theorem cv_9_73 : Val 9 73 (1, nX7_numeral, 2, 7) := ⟨pe_X7_numeral, rfl, rfl, ta_4 235 rfl, ta_4 98 rfl, ta_4 99 rfl, ta_1 2 rfl, by decide +kernel, rfl⟩
set_option maxRecDepth 100000 in
theorem cv_9_77 : Val 9 77 (0, 7, 4, 0) := ⟨_, rfl, by decide, ta_1 47 rfl⟩
set_option maxRecDepth 100000 in
theorem cv_9_80 : Val 9 80 (1, nX7_tooMany, 0, 7) := ⟨pe_X7_tooMany, rfl, rfl, ta_4 234 rfl, ta_4 83 rfl, ta_4 84 rfl, ta_1 2 rfl, by decide +kernel, rfl⟩
set_option maxRecDepth 100000 in
theorem cv_9_84 : Val 9 84 (9, 0, 0, 0) := show Cond.methodLink (rn 9) 84 Lib.Math.min.name ∈ lw_tbl from ta_4 222 rfl
set_option maxRecDepth 100000 in
theorem cv_9_90 : Val 9 90 (0, 9, 7, 0) := ⟨_, rfl, by decide, ta_1 221 rfl⟩
set_option maxRecDepth 100000 in
theorem cv_9_93 : Val 9 93 (1, nX9_behindClose, 1, 9) := ⟨pe_X9_behindClose, rfl, rfl, ta_5 4 rfl, ta_5 6 rfl, tp 22 rfl, ta_1 7 rfl, by decide +kernel, rfl⟩
set_option maxRecDepth 100000 in
theorem cv_9_97 : Val 9 97 (1, nX9_behindAgain, 1, 9) := ⟨pe_X9_behindAgain, rfl, rfl, ta_5 8 rfl, ta_5 10 rfl, tp 23 rfl, ta_1 7 rfl, by decide +kernel, rfl⟩
set_option maxRecDepth 100000 in
theorem cv_9_100 : Val 9 100 (1, nX9_isDone, 4, 9) := ⟨pe_X9_isDone, rfl, rfl, ta_5 12 rfl, ta_5 14 rfl, tp 24 rfl, ta_1 7 rfl, by decide +kernel, rfl⟩
set_option maxRecDepth 100000 in
theorem cv_9_104 : Val 9 104 (1, nX3_turnRound, 1, 3) := ⟨pe_X3_turnRound, rfl, rfl, ta_5 16 rfl, ta_5 17 rfl, ta_5 18 rfl, ta_1 8 rfl, by decide +kernel, rfl⟩
set_option maxRecDepth 100000 in
theorem cv_9_110 : Val 9 110 (1, nX3_layDown, 2, 3) := ⟨pe_X3_layDown, rfl, rfl, ta_5 24 rfl, ta_5 25 rfl, ta_5 26 rfl, ta_1 8 rfl, by decide +kernel, rfl⟩
set_option maxRecDepth 100000 in
theorem cv_9_114 : Val 9 114 (1, nX3_liftLast, 0, 3) := ⟨pe_X3_liftLast, rfl, rfl, ta_5 40 rfl, ta_5 41 rfl, ta_5 42 rfl, ta_1 8 rfl, by decide +kernel, rfl⟩
set_option maxRecDepth 100000 in
theorem cv_9_117 : Val 9 117 (1, nX3_bendTo, 2, 3) := ⟨pe_X3_bendTo, rfl, rfl, ta_5 44 rfl, ta_5 45 rfl, ta_5 46 rfl, ta_1 8 rfl, by decide +kernel, rfl⟩
set_option maxRecDepth 100000 in
theorem cv_9_120 : Val 9 120 (1, nX3_burstOnce, 1, 3) := ⟨pe_X3_burstOnce, rfl, rfl, ta_5 48 rfl, ta_5 49 rfl, ta_5 50 rfl, ta_1 8 rfl, by decide +kernel, rfl⟩
set_option maxRecDepth 100000 in
theorem cv_9_123 : Val 9 123 (1, nX3_patchOnce, 1, 3) := ⟨pe_X3_patchOnce, rfl, rfl, ta_5 52 rfl, ta_5 53 rfl, ta_5 54 rfl, ta_1 8 rfl, by decide +kernel, rfl⟩
set_option maxRecDepth 100000 in
theorem cv_9_126 : Val 9 126 (1, nX3_hopeFor, 1, 3) := ⟨pe_X3_hopeFor, rfl, rfl, ta_5 56 rfl, ta_5 57 rfl, ta_5 58 rfl, ta_1 8 rfl, by decide +kernel, rfl⟩
set_option maxRecDepth 100000 in
theorem cv_9_129 : Val 9 129 (0, 3, 6, 0) := ⟨_, rfl, by decide, ta_2 27 rfl⟩
set_option maxRecDepth 100000 in
theorem cv_9_132 : Val 9 132 (1, nX8_reachedBits, 1, 8) := ⟨pe_X8_reachedBits, rfl, rfl, ta_5 60 rfl, ta_5 61 rfl, ta_5 62 rfl, ta_1 10 rfl, by decide +kernel, rfl⟩
set_option maxRecDepth 100000 in
theorem cv_9_138 : Val 9 138 (1, nX3_passHour, 1, 3) := ⟨pe_X3_passHour, rfl, rfl, ta_5 99 rfl, ta_5 100 rfl, ta_5 101 rfl, ta_1 8 rfl, by decide +kernel, rfl⟩
set_option maxRecDepth 100000 in
theorem cv_10_1 : Val 10 1 (6, 0, 0, 0) := show Cond.methodLink (rn 10) 1 Lib.objectInit ∈ lw_tbl from ta_2 210 rfl
set_option maxRecDepth 100000 in
theorem cv_10_7 : Val 10 7 (12, 3, 8, 0) := ⟨_, rfl, rfl, ta_2 211 rfl, ta_2 0 rfl, ta_1 8 rfl⟩
set_option maxRecDepth 100000 in
theorem cv_10_9 : Val 10 9 (4, nX3_init, 0, 3) := ⟨pe_X3_init, 4, rfl, by decide +kernel, ta_2 2 rfl, ta_1 8 rfl, rfl, by decide +kernel, rfl, rfl⟩
set_option maxRecDepth 100000 in
theorem cv_10_10 : Val 10 10 (0, 10, 2, 0) := ⟨_, rfl, by decide, ta_2 215 rfl⟩
set_option maxRecDepth 100000 in
theorem cv_10_16 : Val 10 16 (0, 10, 0, 0) := ⟨_, rfl, by decide, ta_2 213 rfl⟩
set_option maxRecDepth 100000 in
theorem cv_10_20 : Val 10 20 (0, 10, 1, 0) := ⟨_, rfl, by decide, ta_2 214 rfl⟩
set_option maxRecDepth 100000 in
theorem cv_10_24 : Val 10 24 (1, nX3_become, 1, 3) := ⟨pe_X3_become, rfl, rfl, ta_6 19 rfl, ta_6 20 rfl, ta_6 21 rfl, ta_1 8 rfl, by decide +kernel, rfl⟩
set_option maxRecDepth 100000 in
theorem cv_10_28 : Val 10 28 (1, nX8_reachedBits, 1, 8) := ⟨pe_X8_reachedBits, rfl, rfl, ta_6 23 rfl, ta_5 61 rfl, ta_5 62 rfl, ta_1 10 rfl, by decide +kernel, rfl⟩
set_option maxRecDepth 100000 in
theorem cv_10_34 : Val 10 34 (1, nX3_passHour, 1, 3) := ⟨pe_X3_passHour, rfl, rfl, ta_6 24 rfl, ta_5 100 rfl, ta_5 101 rfl, ta_1 8 rfl, by decide +kernel, rfl⟩
set_option maxRecDepth 100000 in
theorem cv_10_38 : Val 10 38 (1, nX3_outBits, 0, 3) := ⟨pe_X3_outBits, rfl, rfl, ta_6 25 rfl, ta_5 144 rfl, ta_5 145 rfl, ta_1 8 rfl, by decide +kernel, rfl⟩
set_option maxRecDepth 100000 in
theorem cv_10_42 : Val 10 42 (0, 10, 4, 0) := ⟨_, rfl, by decide, ta_2 219 rfl⟩
set_option maxRecDepth 100000 in
theorem cv_10_46 : Val 10 46 (0, 10, 3, 0) := ⟨_, rfl, by decide, ta_2 217 rfl⟩
set_option maxRecDepth 100000 in
theorem cv_10_49 : Val 10 49 (0, 1, 0, 0) := ⟨_, rfl, by decide, ta_1 84 rfl⟩
set_option maxRecDepth 100000 in
theorem cv_10_54 : Val 10 54 (1, nX10_doDrawn, 1, 10) := ⟨pe_X10_doDrawn, rfl, rfl, ta_7 44 rfl, ta_7 46 rfl, tp 51 rfl, ta_1 13 rfl, by decide +kernel, rfl⟩
set_option maxRecDepth 100000 in
theorem cv_10_58 : Val 10 58 (1, nX10_drawn, 1, 10) := ⟨pe_X10_drawn, rfl, rfl, ta_7 48 rfl, ta_7 50 rfl, tp 52 rfl, ta_1 13 rfl, by decide +kernel, rfl⟩
set_option maxRecDepth 100000 in
theorem cv_10_61 : Val 10 61 (1, nX3_layDown, 2, 3) := ⟨pe_X3_layDown, rfl, rfl, ta_7 53 rfl, ta_5 25 rfl, ta_5 26 rfl, ta_1 8 rfl, by decide +kernel, rfl⟩
set_option maxRecDepth 100000 in
theorem cv_10_65 : Val 10 65 (1, nX3_turnRound, 1, 3) := ⟨pe_X3_turnRound, rfl, rfl, ta_7 54 rfl, ta_5 17 rfl, ta_5 18 rfl, ta_1 8 rfl, by decide +kernel, rfl⟩
set_option maxRecDepth 100000 in
theorem cv_10_69 : Val 10 69 (1, nX3_burstOnce, 1, 3) := ⟨pe_X3_burstOnce, rfl, rfl, ta_7 55 rfl, ta_5 49 rfl, ta_5 50 rfl, ta_1 8 rfl, by decide +kernel, rfl⟩
set_option maxRecDepth 100000 in
theorem cv_10_72 : Val 10 72 (1, nX3_patchOnce, 1, 3) := ⟨pe_X3_patchOnce, rfl, rfl, ta_7 56 rfl, ta_5 53 rfl, ta_5 54 rfl, ta_1 8 rfl, by decide +kernel, rfl⟩
set_option maxRecDepth 100000 in
theorem cv_10_75 : Val 10 75 (1, nX3_liftLast, 0, 3) := ⟨pe_X3_liftLast, rfl, rfl, ta_7 57 rfl, ta_5 41 rfl, ta_5 42 rfl, ta_1 8 rfl, by decide +kernel, rfl⟩
set_option maxRecDepth 100000 in
theorem cv_10_79 : Val 10 79 (14, 1103515245, 0, 0) := show Cond.constant (rn 10) 79 (Int32.ofNat 1103515245) ∈ lw_tbl from ta_7 52 rfl
set_option maxRecDepth 100000 in
theorem cv_11_1 : Val 11 1 (6, 0, 0, 0) := show Cond.methodLink (rn 11) 1 Lib.objectInit ∈ lw_tbl from ta_1 31 rfl
set_option maxRecDepth 100000 in
theorem cv_11_7 : Val 11 7 (12, 7, 8, 0) := ⟨_, rfl, rfl, ta_1 34 rfl, ta_1 35 rfl, ta_1 2 rfl⟩
set_option maxRecDepth 100000 in
theorem cv_11_9 : Val 11 9 (4, nX7_init, 0, 7) := ⟨pe_X7_init, 0, rfl, by decide +kernel, ta_1 37 rfl, ta_1 2 rfl, rfl, by decide +kernel, rfl, rfl⟩
set_option maxRecDepth 100000 in
theorem cv_11_10 : Val 11 10 (0, 11, 0, 0) := ⟨_, rfl, by decide, ta_2 236 rfl⟩
set_option maxRecDepth 100000 in
theorem cv_11_16 : Val 11 16 (12, 1, 13, 0) := ⟨_, rfl, rfl, ta_1 73 rfl, ta_1 74 rfl, ta_1 3 rfl⟩
set_option maxRecDepth 100000 in
theorem cv_11_18 : Val 11 18 (5, nX1_init, 0, 1) := ⟨pe_X1_init, rfl, ta_1 75 rfl, ta_1 76 rfl, ta_1 3 rfl, rfl, by decide +kernel, rfl, rfl⟩
set_option maxRecDepth 100000 in
theorem cv_11_19 : Val 11 19 (0, 11, 1, 0) := ⟨_, rfl, by decide, ta_2 237 rfl⟩
set_option maxRecDepth 100000 in
theorem cv_11_23 : Val 11 23 (0, 11, 2, 0) := ⟨_, rfl, by decide, ta_2 238 rfl⟩
set_option maxRecDepth 100000 in
theorem cv_11_26 : Val 11 26 (12, 2, 4, 0) := ⟨_, rfl, rfl, ta_1 142 rfl, ta_1 143 rfl, ta_1 4 rfl⟩
set_option maxRecDepth 100000 in
theorem cv_11_28 : Val 11 28 (5, nX2_init, 0, 2) := ⟨pe_X2_init, rfl, ta_1 144 rfl, ta_1 145 rfl, ta_1 4 rfl, rfl, by decide +kernel, rfl, rfl⟩
set_option maxRecDepth 100000 in
theorem cv_11_29 : Val 11 29 (0, 11, 3, 0) := ⟨_, rfl, by decide, ta_2 239 rfl⟩
set_option maxRecDepth 100000 in
theorem cv_11_33 : Val 11 33 (0, 11, 4, 0) := ⟨_, rfl, by decide, ta_3 0 rfl⟩
set_option maxRecDepth 100000 in
theorem cv_11_36 : Val 11 36 (12, 0, 7, 0) := ⟨_, rfl, rfl, ta_1 167 rfl, ta_1 168 rfl, ta_1 5 rfl⟩
set_option maxRecDepth 100000 in
theorem cv_11_38 : Val 11 38 (5, nX0_init, 0, 0) := ⟨pe_X0_init, rfl, ta_1 169 rfl, ta_1 170 rfl, ta_1 5 rfl, rfl, by decide +kernel, rfl, rfl⟩
set_option maxRecDepth 100000 in
theorem cv_11_39 : Val 11 39 (0, 11, 5, 0) := ⟨_, rfl, by decide, ta_3 1 rfl⟩
set_option maxRecDepth 100000 in
theorem cv_11_43 : Val 11 43 (0, 11, 6, 0) := ⟨_, rfl, by decide, ta_3 2 rfl⟩
set_option maxRecDepth 100000 in
theorem cv_11_46 : Val 11 46 (12, 9, 8, 0) := ⟨_, rfl, rfl, ta_1 207 rfl, ta_1 208 rfl, ta_1 7 rfl⟩
set_option maxRecDepth 100000 in
theorem cv_11_48 : Val 11 48 (4, nX9_init, 0, 9) := ⟨pe_X9_init, 1, rfl, by decide +kernel, ta_1 210 rfl, ta_1 7 rfl, rfl, by decide +kernel, rfl, rfl⟩
set_option maxRecDepth 100000 in
theorem cv_11_49 : Val 11 49 (0, 11, 7, 0) := ⟨_, rfl, by decide, ta_3 3 rfl⟩
set_option maxRecDepth 100000 in
theorem cv_11_53 : Val 11 53 (12, 3, 8, 0) := ⟨_, rfl, rfl, ta_1 239 rfl, ta_2 0 rfl, ta_1 8 rfl⟩
set_option maxRecDepth 100000 in
theorem cv_11_55 : Val 11 55 (4, nX3_init, 0, 3) := ⟨pe_X3_init, 2, rfl, by decide +kernel, ta_2 2 rfl, ta_1 8 rfl, rfl, by decide +kernel, rfl, rfl⟩
set_option maxRecDepth 100000 in
theorem cv_11_56 : Val 11 56 (0, 11, 8, 0) := ⟨_, rfl, by decide, ta_3 4 rfl⟩
set_option maxRecDepth 100000 in
theorem cv_11_60 : Val 11 60 (12, 4, 5, 0) := ⟨_, rfl, rfl, ta_2 51 rfl, ta_2 52 rfl, ta_1 9 rfl⟩
set_option maxRecDepth 100000 in
theorem cv_11_62 : Val 11 62 (4, nX4_init, 0, 4) := ⟨pe_X4_init, 3, rfl, by decide +kernel, ta_2 54 rfl, ta_1 9 rfl, rfl, by decide +kernel, rfl, rfl⟩
set_option maxRecDepth 100000 in
theorem cv_11_63 : Val 11 63 (0, 11, 9, 0) := ⟨_, rfl, by decide, ta_3 5 rfl⟩
set_option maxRecDepth 100000 in
theorem cv_11_67 : Val 11 67 (12, 8, 7, 0) := ⟨_, rfl, rfl, ta_2 75 rfl, ta_2 76 rfl, ta_1 10 rfl⟩
set_option maxRecDepth 100000 in
theorem cv_11_69 : Val 11 69 (5, nX8_init, 2, 8) := ⟨pe_X8_init, rfl, ta_2 77 rfl, ta_2 78 rfl, ta_1 10 rfl, rfl, by decide +kernel, rfl, rfl⟩
set_option maxRecDepth 100000 in
theorem cv_11_72 : Val 11 72 (0, 11, 10, 0) := ⟨_, rfl, by decide, ta_3 6 rfl⟩
set_option maxRecDepth 100000 in
theorem cv_11_76 : Val 11 76 (12, 5, 17, 0) := ⟨_, rfl, rfl, ta_2 108 rfl, ta_2 109 rfl, ta_1 11 rfl⟩
set_option maxRecDepth 100000 in
theorem cv_11_78 : Val 11 78 (5, nX5_init, 2, 5) := ⟨pe_X5_init, rfl, ta_2 110 rfl, ta_2 111 rfl, ta_1 11 rfl, rfl, by decide +kernel, rfl, rfl⟩
set_option maxRecDepth 100000 in
theorem cv_11_81 : Val 11 81 (0, 11, 11, 0) := ⟨_, rfl, by decide, ta_3 7 rfl⟩
set_option maxRecDepth 100000 in
theorem cv_11_85 : Val 11 85 (12, 6, 7, 0) := ⟨_, rfl, rfl, ta_2 174 rfl, ta_2 175 rfl, ta_1 12 rfl⟩
set_option maxRecDepth 100000 in
theorem cv_11_87 : Val 11 87 (5, nX6_init, 1, 6) := ⟨pe_X6_init, rfl, ta_2 176 rfl, ta_2 177 rfl, ta_1 12 rfl, rfl, by decide +kernel, rfl, rfl⟩
set_option maxRecDepth 100000 in
theorem cv_11_90 : Val 11 90 (0, 11, 12, 0) := ⟨_, rfl, by decide, ta_3 8 rfl⟩
set_option maxRecDepth 100000 in
theorem cv_11_94 : Val 11 94 (12, 10, 5, 0) := ⟨_, rfl, rfl, ta_2 205 rfl, ta_2 206 rfl, ta_1 13 rfl⟩
set_option maxRecDepth 100000 in
theorem cv_11_96 : Val 11 96 (5, nX10_init, 2, 10) := ⟨pe_X10_init, rfl, ta_2 207 rfl, ta_2 208 rfl, ta_1 13 rfl, rfl, by decide +kernel, rfl, rfl⟩
set_option maxRecDepth 100000 in
theorem cv_11_97 : Val 11 97 (0, 11, 13, 0) := ⟨_, rfl, by decide, ta_3 9 rfl⟩
set_option maxRecDepth 100000 in
theorem cv_11_101 : Val 11 101 (0, 1, 3, 0) := ⟨_, rfl, by decide, ta_1 92 rfl⟩
set_option maxRecDepth 100000 in
theorem cv_11_105 : Val 11 105 (1, nX3_begin, 1, 3) := ⟨pe_X3_begin, rfl, rfl, ta_2 231 rfl, ta_2 232 rfl, ta_2 233 rfl, ta_1 8 rfl, by decide +kernel, rfl⟩
set_option maxRecDepth 100000 in
theorem cv_11_109 : Val 11 109 (1, nX7_hasRoom, 0, 7) := ⟨pe_X7_hasRoom, rfl, rfl, ta_3 49 rfl, ta_3 50 rfl, ta_3 51 rfl, ta_1 2 rfl, by decide +kernel, rfl⟩
set_option maxRecDepth 100000 in
theorem cv_11_113 : Val 11 113 (1, nX7_append, 1, 7) := ⟨pe_X7_append, rfl, rfl, ta_3 53 rfl, ta_3 54 rfl, ta_3 55 rfl, ta_1 2 rfl, by decide +kernel, rfl⟩
set_option maxRecDepth 100000 in
theorem cv_11_116 : Val 11 116 (0, 7, 1, 0) := ⟨_, rfl, by decide, ta_1 42 rfl⟩
set_option maxRecDepth 100000 in
theorem cv_11_119 : Val 11 119 (1, nX11_open, 2, 11) := ⟨pe_X11_open, rfl, rfl, ta_3 163 rfl, ta_3 165 rfl, tp 2 rfl, ta_1 1 rfl, by decide +kernel, rfl⟩
set_option maxRecDepth 100000 in
theorem cv_11_123 : Val 11 123 (1, nX1_readFrom, 1, 1) := ⟨pe_X1_readFrom, rfl, rfl, ta_4 1 rfl, ta_4 2 rfl, ta_4 3 rfl, ta_1 3 rfl, by decide +kernel, rfl⟩
set_option maxRecDepth 100000 in
theorem cv_11_127 : Val 11 127 (0, 7, 2, 0) := ⟨_, rfl, by decide, ta_1 43 rfl⟩
set_option maxRecDepth 100000 in
theorem cv_11_130 : Val 11 130 (1, nX1_become, 1, 1) := ⟨pe_X1_become, rfl, rfl, ta_4 135 rfl, ta_4 136 rfl, ta_4 137 rfl, ta_1 3 rfl, by decide +kernel, rfl⟩
set_option maxRecDepth 100000 in
theorem cv_11_134 : Val 11 134 (1, nX2_beUntold, 0, 2) := ⟨pe_X2_beUntold, rfl, rfl, ta_4 140 rfl, ta_1 149 rfl, ta_1 150 rfl, ta_1 4 rfl, by decide +kernel, rfl⟩
set_option maxRecDepth 100000 in
theorem cv_11_137 : Val 11 137 (1, nX0_clear, 0, 0) := ⟨pe_X0_clear, rfl, rfl, ta_4 141 rfl, ta_1 174 rfl, ta_1 175 rfl, ta_1 5 rfl, by decide +kernel, rfl⟩
set_option maxRecDepth 100000 in
theorem cv_11_140 : Val 11 140 (1, nX4_forget, 0, 4) := ⟨pe_X4_forget, rfl, rfl, ta_4 142 rfl, ta_4 143 rfl, ta_4 144 rfl, ta_1 9 rfl, by decide +kernel, rfl⟩
set_option maxRecDepth 100000 in
theorem cv_11_143 : Val 11 143 (0, 9, 7, 0) := ⟨_, rfl, by decide, ta_1 220 rfl⟩
set_option maxRecDepth 100000 in
theorem cv_11_146 : Val 11 146 (1, nX5_forgetHouse, 0, 5) := ⟨pe_X5_forgetHouse, rfl, rfl, ta_4 146 rfl, ta_4 147 rfl, ta_4 148 rfl, ta_1 11 rfl, by decide +kernel, rfl⟩
set_option maxRecDepth 100000 in
theorem cv_11_149 : Val 11 149 (0, 1, 0, 0) := ⟨_, rfl, by decide, ta_1 85 rfl⟩
set_option maxRecDepth 100000 in
theorem cv_11_152 : Val 11 152 (1, nX2_readFrom, 1, 2) := ⟨pe_X2_readFrom, rfl, rfl, ta_4 158 rfl, ta_4 159 rfl, ta_4 160 rfl, ta_1 4 rfl, by decide +kernel, rfl⟩
set_option maxRecDepth 100000 in
theorem cv_11_153 : Val 11 153 (1, nX2_become, 1, 2) := ⟨pe_X2_become, rfl, rfl, ta_4 191 rfl, ta_4 192 rfl, ta_4 193 rfl, ta_1 4 rfl, by decide +kernel, rfl⟩
set_option maxRecDepth 100000 in
theorem cv_11_156 : Val 11 156 (1, nX5_forgetShort, 0, 5) := ⟨pe_X5_forgetShort, rfl, rfl, ta_3 76 rfl, ta_3 77 rfl, ta_3 78 rfl, ta_1 11 rfl, by decide +kernel, rfl⟩
set_option maxRecDepth 100000 in
theorem cv_11_159 : Val 11 159 (1, nX4_isFull, 0, 4) := ⟨pe_X4_isFull, rfl, rfl, ta_4 203 rfl, ta_4 204 rfl, ta_4 205 rfl, ta_1 9 rfl, by decide +kernel, rfl⟩
set_option maxRecDepth 100000 in
theorem cv_11_162 : Val 11 162 (1, nX9_readFrom, 2, 9) := ⟨pe_X9_readFrom, rfl, rfl, ta_4 207 rfl, ta_4 208 rfl, ta_4 209 rfl, ta_1 7 rfl, by decide +kernel, rfl⟩
set_option maxRecDepth 100000 in
theorem cv_11_165 : Val 11 165 (1, nX4_push, 1, 4) := ⟨pe_X4_push, rfl, rfl, ta_4 236 rfl, ta_4 237 rfl, ta_4 238 rfl, ta_1 9 rfl, by decide +kernel, rfl⟩
set_option maxRecDepth 100000 in
theorem cv_11_169 : Val 11 169 (1, nX9_doneOn, 3, 9) := ⟨pe_X9_doneOn, rfl, rfl, ta_5 0 rfl, ta_5 1 rfl, ta_5 2 rfl, ta_1 7 rfl, by decide +kernel, rfl⟩
set_option maxRecDepth 100000 in
theorem cv_11_173 : Val 11 173 (1, nX0_readFrom, 1, 0) := ⟨pe_X0_readFrom, rfl, rfl, ta_5 110 rfl, ta_5 111 rfl, ta_5 112 rfl, ta_1 5 rfl, by decide +kernel, rfl⟩
set_option maxRecDepth 100000 in
theorem cv_11_174 : Val 11 174 (1, nX0_become, 1, 0) := ⟨pe_X0_become, rfl, rfl, ta_5 124 rfl, ta_5 125 rfl, ta_5 126 rfl, ta_1 5 rfl, by decide +kernel, rfl⟩
set_option maxRecDepth 100000 in
theorem cv_11_177 : Val 11 177 (0, 0, 0, 0) := ⟨_, rfl, by decide, ta_1 181 rfl⟩
set_option maxRecDepth 100000 in
theorem cv_11_180 : Val 11 180 (0, 7, 3, 0) := ⟨_, rfl, by decide, ta_1 46 rfl⟩
set_option maxRecDepth 100000 in
theorem cv_11_183 : Val 11 183 (0, 4, 3, 0) := ⟨_, rfl, by decide, ta_2 61 rfl⟩
set_option maxRecDepth 100000 in
theorem cv_11_186 : Val 11 186 (1, nX4_pop, 1, 4) := ⟨pe_X4_pop, rfl, rfl, ta_3 65 rfl, ta_3 66 rfl, ta_3 67 rfl, ta_1 9 rfl, by decide +kernel, rfl⟩
set_option maxRecDepth 100000 in
theorem cv_11_189 : Val 11 189 (2, nX11_within, 3, 11) := ⟨pe_X11_within, rfl, ta_5 136 rfl, ta_4 20 rfl, ta_1 1 rfl, by decide +kernel⟩
set_option maxRecDepth 100000 in
theorem cv_11_193 : Val 11 193 (1, nX11_expect, 1, 11) := ⟨pe_X11_expect, rfl, rfl, ta_3 167 rfl, ta_3 169 rfl, tp 3 rfl, ta_1 1 rfl, by decide +kernel, rfl⟩
set_option maxRecDepth 100000 in
theorem cv_11_197 : Val 11 197 (0, 1, 1, 0) := ⟨_, rfl, by decide, ta_1 88 rfl⟩
set_option maxRecDepth 100000 in
theorem cv_11_200 : Val 11 200 (0, 1, 2, 0) := ⟨_, rfl, by decide, ta_1 91 rfl⟩
set_option maxRecDepth 100000 in
theorem cv_11_203 : Val 11 203 (0, 3, 6, 0) := ⟨_, rfl, by decide, ta_2 26 rfl⟩
set_option maxRecDepth 100000 in
theorem cv_11_206 : Val 11 206 (0, 3, 5, 0) := ⟨_, rfl, by decide, ta_2 24 rfl⟩
set_option maxRecDepth 100000 in
theorem cv_11_209 : Val 11 209 (1, nX3_rowBits, 0, 3) := ⟨pe_X3_rowBits, rfl, rfl, ta_5 137 rfl, ta_5 138 rfl, ta_5 139 rfl, ta_1 8 rfl, by decide +kernel, rfl⟩
set_option maxRecDepth 100000 in
theorem cv_11_213 : Val 11 213 (1, nX3_longNow, 1, 3) := ⟨pe_X3_longNow, rfl, rfl, ta_5 141 rfl, ta_5 92 rfl, ta_5 93 rfl, ta_1 8 rfl, by decide +kernel, rfl⟩
set_option maxRecDepth 100000 in
theorem cv_11_217 : Val 11 217 (0, 3, 7, 0) := ⟨_, rfl, by decide, ta_2 32 rfl⟩
set_option maxRecDepth 100000 in
theorem cv_11_218 : Val 11 218 (1, nX8_arriving, 2, 8) := ⟨pe_X8_arriving, rfl, rfl, ta_5 142 rfl, ta_5 65 rfl, ta_5 66 rfl, ta_1 10 rfl, by decide +kernel, rfl⟩
set_option maxRecDepth 100000 in
theorem cv_11_222 : Val 11 222 (1, nX3_outBits, 0, 3) := ⟨pe_X3_outBits, rfl, rfl, ta_5 143 rfl, ta_5 144 rfl, ta_5 145 rfl, ta_1 8 rfl, by decide +kernel, rfl⟩
set_option maxRecDepth 100000 in
theorem cv_11_225 : Val 11 225 (1, nX11_expectPiece, 1, 11) := ⟨pe_X11_expectPiece, rfl, rfl, ta_5 155 rfl, ta_5 157 rfl, tp 26 rfl, ta_1 1 rfl, by decide +kernel, rfl⟩
set_option maxRecDepth 100000 in
theorem cv_11_228 : Val 11 228 (0, 1, 4, 0) := ⟨_, rfl, by decide, ta_1 98 rfl⟩
set_option maxRecDepth 100000 in
theorem cv_11_232 : Val 11 232 (2, nX11_pick, 2, 11) := ⟨pe_X11_pick, rfl, ta_5 179 rfl, ta_3 95 rfl, ta_1 1 rfl, by decide +kernel⟩
set_option maxRecDepth 100000 in
theorem cv_11_236 : Val 11 236 (1, nX3_wayOf, 1, 3) := ⟨pe_X3_wayOf, rfl, rfl, ta_5 180 rfl, ta_5 29 rfl, ta_5 30 rfl, ta_1 8 rfl, by decide +kernel, rfl⟩
set_option maxRecDepth 100000 in
theorem cv_11_240 : Val 11 240 (1, nX1_headOf, 1, 1) := ⟨pe_X1_headOf, rfl, rfl, ta_5 181 rfl, ta_3 111 rfl, ta_3 112 rfl, ta_1 3 rfl, by decide +kernel, rfl⟩
set_option maxRecDepth 100000 in
theorem cv_11_243 : Val 11 243 (1, nX1_footOf, 1, 1) := ⟨pe_X1_footOf, rfl, rfl, ta_5 182 rfl, ta_3 106 rfl, ta_3 107 rfl, ta_1 3 rfl, by decide +kernel, rfl⟩
set_option maxRecDepth 100000 in
theorem cv_11_246 : Val 11 246 (0, 1, 5, 0) := ⟨_, rfl, by decide, ta_1 101 rfl⟩
set_option maxRecDepth 100000 in
theorem cv_11_249 : Val 11 249 (0, 3, 1, 0) := ⟨_, rfl, by decide, ta_2 12 rfl⟩
set_option maxRecDepth 100000 in
theorem cv_11_252 : Val 11 252 (0, 3, 2, 0) := ⟨_, rfl, by decide, ta_2 15 rfl⟩
set_option maxRecDepth 100000 in
theorem cv_11_255 : Val 11 255 (0, 3, 4, 0) := ⟨_, rfl, by decide, ta_2 19 rfl⟩
set_option maxRecDepth 100000 in
theorem cv_11_258 : Val 11 258 (2, nX11_bit, 2, 11) := ⟨pe_X11_bit, rfl, ta_5 183 rfl, ta_3 92 rfl, ta_1 1 rfl, by decide +kernel⟩
set_option maxRecDepth 100000 in
theorem cv_11_262 : Val 11 262 (1, nX3_placeOf, 1, 3) := ⟨pe_X3_placeOf, rfl, rfl, ta_5 184 rfl, ta_5 21 rfl, ta_5 22 rfl, ta_1 8 rfl, by decide +kernel, rfl⟩
set_option maxRecDepth 100000 in
theorem cv_11_265 : Val 11 265 (1, nX11_expectThere, 1, 11) := ⟨pe_X11_expectThere, rfl, rfl, ta_5 159 rfl, ta_5 161 rfl, tp 27 rfl, ta_1 1 rfl, by decide +kernel, rfl⟩
set_option maxRecDepth 100000 in
theorem cv_11_268 : Val 11 268 (0, 1, 8, 0) := ⟨_, rfl, by decide, ta_1 105 rfl⟩
set_option maxRecDepth 100000 in
theorem cv_11_271 : Val 11 271 (0, 1, 9, 0) := ⟨_, rfl, by decide, ta_1 107 rfl⟩
set_option maxRecDepth 100000 in
theorem cv_11_274 : Val 11 274 (1, nX11_expectFire, 1, 11) := ⟨pe_X11_expectFire, rfl, rfl, ta_5 199 rfl, ta_5 201 rfl, tp 28 rfl, ta_1 1 rfl, by decide +kernel, rfl⟩
set_option maxRecDepth 100000 in
theorem cv_11_277 : Val 11 277 (0, 1, 10, 0) := ⟨_, rfl, by decide, ta_1 109 rfl⟩
set_option maxRecDepth 100000 in
theorem cv_11_280 : Val 11 280 (0, 1, 11, 0) := ⟨_, rfl, by decide, ta_1 111 rfl⟩
set_option maxRecDepth 100000 in
theorem cv_11_283 : Val 11 283 (1, nX8_reachedBits, 1, 8) := ⟨pe_X8_reachedBits, rfl, rfl, ta_5 203 rfl, ta_5 61 rfl, ta_5 62 rfl, ta_1 10 rfl, by decide +kernel, rfl⟩
set_option maxRecDepth 100000 in
theorem cv_11_287 : Val 11 287 (0, 3, 3, 0) := ⟨_, rfl, by decide, ta_2 17 rfl⟩
set_option maxRecDepth 100000 in
theorem cv_11_290 : Val 11 290 (0, 3, 0, 0) := ⟨_, rfl, by decide, ta_2 8 rfl⟩
set_option maxRecDepth 100000 in
theorem cv_11_293 : Val 11 293 (0, 8, 2, 0) := ⟨_, rfl, by decide, ta_2 85 rfl⟩
set_option maxRecDepth 100000 in
theorem cv_11_296 : Val 11 296 (1, nX2_tellPiece, 4, 2) := ⟨pe_X2_tellPiece, rfl, rfl, ta_5 225 rfl, ta_5 75 rfl, ta_5 76 rfl, ta_1 4 rfl, by decide +kernel, rfl⟩
set_option maxRecDepth 100000 in
theorem cv_11_300 : Val 11 300 (1, nX2_tellNow, 5, 2) := ⟨pe_X2_tellNow, rfl, rfl, ta_5 226 rfl, ta_5 79 rfl, ta_5 80 rfl, ta_1 4 rfl, by decide +kernel, rfl⟩
set_option maxRecDepth 100000 in
theorem cv_11_304 : Val 11 304 (1, nX2_left, 0, 2) := ⟨pe_X2_left, rfl, rfl, ta_5 227 rfl, ta_5 83 rfl, ta_5 84 rfl, ta_1 4 rfl, by decide +kernel, rfl⟩
set_option maxRecDepth 100000 in
theorem cv_11_306 : Val 11 306 (1, nX11_expectThread, 1, 11) := ⟨pe_X11_expectThread, rfl, rfl, ta_5 235 rfl, ta_5 237 rfl, tp 29 rfl, ta_1 1 rfl, by decide +kernel, rfl⟩
set_option maxRecDepth 100000 in
theorem cv_11_309 : Val 11 309 (1, nX1_joins, 2, 1) := ⟨pe_X1_joins, rfl, rfl, ta_5 239 rfl, ta_3 115 rfl, ta_3 116 rfl, ta_1 3 rfl, by decide +kernel, rfl⟩
set_option maxRecDepth 100000 in
theorem cv_11_313 : Val 11 313 (1, nX3_canLay, 2, 3) := ⟨pe_X3_canLay, rfl, rfl, ta_6 7 rfl, ta_5 34 rfl, ta_5 35 rfl, ta_1 8 rfl, by decide +kernel, rfl⟩
set_option maxRecDepth 100000 in
theorem cv_11_317 : Val 11 317 (1, nX10_outAfter, 2, 10) := ⟨pe_X10_outAfter, rfl, rfl, ta_6 15 rfl, ta_6 16 rfl, ta_6 17 rfl, ta_1 13 rfl, by decide +kernel, rfl⟩
set_option maxRecDepth 100000 in
theorem cv_11_320 : Val 11 320 (1, nX5_findChain, 0, 5) := ⟨pe_X5_findChain, rfl, rfl, ta_6 33 rfl, ta_6 34 rfl, ta_6 35 rfl, ta_1 11 rfl, by decide +kernel, rfl⟩
set_option maxRecDepth 100000 in
theorem cv_11_323 : Val 11 323 (0, 5, 7, 0) := ⟨_, rfl, by decide, ta_2 124 rfl⟩
set_option maxRecDepth 100000 in
theorem cv_11_326 : Val 11 326 (0, 5, 6, 0) := ⟨_, rfl, by decide, ta_2 122 rfl⟩
set_option maxRecDepth 100000 in
theorem cv_11_329 : Val 11 329 (0, 5, 5, 0) := ⟨_, rfl, by decide, ta_2 120 rfl⟩
set_option maxRecDepth 100000 in
theorem cv_11_332 : Val 11 332 (1, nX5_findShort, 2, 5) := ⟨pe_X5_findShort, rfl, rfl, ta_6 76 rfl, ta_6 77 rfl, ta_6 78 rfl, ta_1 11 rfl, by decide +kernel, rfl⟩
set_option maxRecDepth 100000 in
theorem cv_11_336 : Val 11 336 (0, 5, 13, 0) := ⟨_, rfl, by decide, ta_2 134 rfl⟩
set_option maxRecDepth 100000 in
theorem cv_11_339 : Val 11 339 (0, 5, 12, 0) := ⟨_, rfl, by decide, ta_2 132 rfl⟩
set_option maxRecDepth 100000 in
theorem cv_11_342 : Val 11 342 (1, nX5_findCollar, 0, 5) := ⟨pe_X5_findCollar, rfl, rfl, ta_6 109 rfl, ta_6 110 rfl, ta_6 111 rfl, ta_1 11 rfl, by decide +kernel, rfl⟩
set_option maxRecDepth 100000 in
theorem cv_11_345 : Val 11 345 (0, 5, 9, 0) := ⟨_, rfl, by decide, ta_2 127 rfl⟩
set_option maxRecDepth 100000 in
theorem cv_11_348 : Val 11 348 (0, 5, 10, 0) := ⟨_, rfl, by decide, ta_2 129 rfl⟩
set_option maxRecDepth 100000 in
theorem cv_11_351 : Val 11 351 (1, nX0_findLeaks, 2, 0) := ⟨pe_X0_findLeaks, rfl, rfl, ta_6 130 rfl, ta_6 131 rfl, ta_6 132 rfl, ta_1 5 rfl, by decide +kernel, rfl⟩
set_option maxRecDepth 100000 in
theorem cv_11_355 : Val 11 355 (0, 0, 3, 0) := ⟨_, rfl, by decide, ta_1 185 rfl⟩
set_option maxRecDepth 100000 in
theorem cv_11_358 : Val 11 358 (0, 0, 4, 0) := ⟨_, rfl, by decide, ta_1 187 rfl⟩
set_option maxRecDepth 100000 in
theorem cv_11_361 : Val 11 361 (1, nX0_findLook, 2, 0) := ⟨pe_X0_findLook, rfl, rfl, ta_6 150 rfl, ta_6 151 rfl, ta_6 152 rfl, ta_1 5 rfl, by decide +kernel, rfl⟩
set_option maxRecDepth 100000 in
theorem cv_11_364 : Val 11 364 (0, 0, 5, 0) := ⟨_, rfl, by decide, ta_1 189 rfl⟩
set_option maxRecDepth 100000 in
theorem cv_11_367 : Val 11 367 (0, 0, 6, 0) := ⟨_, rfl, by decide, ta_1 191 rfl⟩
set_option maxRecDepth 100000 in
theorem cv_11_370 : Val 11 370 (1, nX5_mostPairs, 0, 5) := ⟨pe_X5_mostPairs, rfl, rfl, ta_3 84 rfl, ta_3 85 rfl, ta_3 86 rfl, ta_1 11 rfl, by decide +kernel, rfl⟩
set_option maxRecDepth 100000 in
theorem cv_11_373 : Val 11 373 (1, nX8_chanceOf, 3, 8) := ⟨pe_X8_chanceOf, rfl, rfl, ta_6 167 rfl, ta_6 168 rfl, ta_6 169 rfl, ta_1 10 rfl, by decide +kernel, rfl⟩
set_option maxRecDepth 100000 in
theorem cv_11_377 : Val 11 377 (1, nX6_findRests, 2, 6) := ⟨pe_X6_findRests, rfl, rfl, ta_6 180 rfl, ta_6 181 rfl, ta_6 182 rfl, ta_1 12 rfl, by decide +kernel, rfl⟩
set_option maxRecDepth 100000 in
theorem cv_11_380 : Val 11 380 (0, 6, 4, 0) := ⟨_, rfl, by decide, ta_2 185 rfl⟩
set_option maxRecDepth 100000 in
theorem cv_11_383 : Val 11 383 (0, 6, 5, 0) := ⟨_, rfl, by decide, ta_2 187 rfl⟩
set_option maxRecDepth 100000 in
theorem cv_11_386 : Val 11 386 (0, 6, 6, 0) := ⟨_, rfl, by decide, ta_2 189 rfl⟩
set_option maxRecDepth 100000 in
theorem cv_11_389 : Val 11 389 (1, nX1_level, 2, 1) := ⟨pe_X1_level, rfl, rfl, ta_6 230 rfl, ta_6 231 rfl, ta_6 232 rfl, ta_1 3 rfl, by decide +kernel, rfl⟩
set_option maxRecDepth 100000 in
theorem cv_11_392 : Val 11 392 (9, 0, 0, 0) := show Cond.methodLink (rn 11) 392 Lib.Math.min.name ∈ lw_tbl from ta_6 235 rfl
set_option maxRecDepth 100000 in
theorem cv_11_397 : Val 11 397 (1, nX8_worstPlace, 1, 8) := ⟨pe_X8_worstPlace, rfl, rfl, ta_7 10 rfl, ta_7 11 rfl, ta_7 12 rfl, ta_1 10 rfl, by decide +kernel, rfl⟩
set_option maxRecDepth 100000 in
theorem cv_11_400 : Val 11 400 (1, nX8_lostAt, 2, 8) := ⟨pe_X8_lostAt, rfl, rfl, ta_7 18 rfl, ta_7 15 rfl, ta_7 16 rfl, ta_1 10 rfl, by decide +kernel, rfl⟩
set_option maxRecDepth 100000 in
theorem cv_11_403 : Val 11 403 (0, 1, 12, 0) := ⟨_, rfl, by decide, ta_1 113 rfl⟩
set_option maxRecDepth 100000 in
theorem cv_11_406 : Val 11 406 (1, nX10_live, 4, 10) := ⟨pe_X10_live, rfl, rfl, ta_7 40 rfl, ta_7 41 rfl, ta_7 42 rfl, ta_1 13 rfl, by decide +kernel, rfl⟩
set_option maxRecDepth 100000 in
theorem cv_11_410 : Val 11 410 (0, 10, 3, 0) := ⟨_, rfl, by decide, ta_2 218 rfl⟩
set_option maxRecDepth 100000 in
theorem cv_11_413 : Val 11 413 (0, 10, 2, 0) := ⟨_, rfl, by decide, ta_2 216 rfl⟩
set_option maxRecDepth 100000 in
theorem cv_11_416 : Val 11 416 (1, nX3_allBursts, 0, 3) := ⟨pe_X3_allBursts, rfl, rfl, ta_7 58 rfl, ta_7 59 rfl, ta_7 60 rfl, ta_1 8 rfl, by decide +kernel, rfl⟩
set_option maxRecDepth 100000 in
theorem cv_11_419 : Val 11 419 (8, 0, 0, 0) := show Cond.methodLink (rn 11) 419 Lib.Math.max.name ∈ lw_tbl from ta_7 69 rfl
set_option maxRecDepth 100000 in
theorem cv_11_422 : Val 11 422 (1, nX4_canKeep, 0, 4) := ⟨pe_X4_canKeep, rfl, rfl, ta_3 126 rfl, ta_3 127 rfl, ta_3 128 rfl, ta_1 9 rfl, by decide +kernel, rfl⟩
set_option maxRecDepth 100000 in
theorem cv_11_425 : Val 11 425 (1, nX4_keep, 1, 4) := ⟨pe_X4_keep, rfl, rfl, ta_3 130 rfl, ta_3 131 rfl, ta_3 132 rfl, ta_1 9 rfl, by decide +kernel, rfl⟩
set_option maxRecDepth 100000 in
theorem cv_11_428 : Val 11 428 (0, 4, 4, 0) := ⟨_, rfl, by decide, ta_2 63 rfl⟩
set_option maxRecDepth 100000 in
theorem cv_11_431 : Val 11 431 (1, nX4_bringBack, 1, 4) := ⟨pe_X4_bringBack, rfl, rfl, ta_3 143 rfl, ta_3 144 rfl, ta_3 145 rfl, ta_1 9 rfl, by decide +kernel, rfl⟩
set_option maxRecDepth 100000 in
theorem cv_11_434 : Val 11 434 (0, 11, 14, 0) := ⟨_, rfl, by decide, ta_3 10 rfl⟩
set_option maxRecDepth 100000 in
theorem cv_11_437 : Val 11 437 (0, 11, 15, 0) := ⟨_, rfl, by decide, ta_3 11 rfl⟩
set_option maxRecDepth 100000 in
theorem cv_11_440 : Val 11 440 (1, nX7_begin, 1, 7) := ⟨pe_X7_begin, rfl, rfl, ta_3 237 rfl, ta_3 238 rfl, ta_3 239 rfl, ta_1 2 rfl, by decide +kernel, rfl⟩
set_option maxRecDepth 100000 in
theorem cv_11_441 : Val 11 441 (13, 1, 0, 0) := ⟨by decide, ta_3 171 rfl⟩
set_option maxRecDepth 100000 in
theorem cv_11_448 : Val 11 448 (13, 0, 0, 0) := ⟨by decide, ta_5 163 rfl⟩
set_option maxRecDepth 100000 in
theorem cv_12_1 : Val 12 1 (6, 0, 0, 0) := show Cond.methodLink (rn 12) 1 Lib.objectInit ∈ lw_tbl from ta_7 75 rfl
set_option maxRecDepth 100000 in
theorem cv_12_9 : Val 12 9 (0, 12, 3, 0) := ⟨_, rfl, by decide, ta_7 92 rfl⟩
set_option maxRecDepth 100000 in
theorem cv_12_13 : Val 12 13 (0, 12, 9, 0) := ⟨_, rfl, by decide, ta_7 98 rfl⟩
set_option maxRecDepth 100000 in
theorem cv_12_17 : Val 12 17 (0, 12, 10, 0) := ⟨_, rfl, by decide, ta_7 99 rfl⟩
set_option maxRecDepth 100000 in
theorem cv_12_20 : Val 12 20 (0, 12, 11, 0) := ⟨_, rfl, by decide, ta_7 100 rfl⟩
set_option maxRecDepth 100000 in
theorem cv_12_23 : Val 12 23 (0, 12, 12, 0) := ⟨_, rfl, by decide, ta_7 101 rfl⟩
set_option maxRecDepth 100000 in
theorem cv_12_26 : Val 12 26 (17, 0, 0, 0) := show Cond.classLink (rn 12) 26 "[[I" ∈ lw_tbl from ta_7 76 rfl
set_option maxRecDepth 100000 in
theorem cv_12_28 : Val 12 28 (0, 12, 13, 0) := ⟨_, rfl, by decide, ta_7 102 rfl⟩
set_option maxRecDepth 100000 in
theorem cv_12_31 : Val 12 31 (0, 12, 14, 0) := ⟨_, rfl, by decide, ta_7 103 rfl⟩
set_option maxRecDepth 100000 in
theorem cv_12_34 : Val 12 34 (0, 12, 15, 0) := ⟨_, rfl, by decide, ta_7 104 rfl⟩
set_option maxRecDepth 100000 in
theorem cv_12_37 : Val 12 37 (0, 12, 16, 0) := ⟨_, rfl, by decide, ta_7 105 rfl⟩
set_option maxRecDepth 100000 in
theorem cv_12_40 : Val 12 40 (0, 12, 17, 0) := ⟨_, rfl, by decide, ta_7 106 rfl⟩
set_option maxRecDepth 100000 in
theorem cv_12_43 : Val 12 43 (0, 12, 18, 0) := ⟨_, rfl, by decide, ta_7 107 rfl⟩
set_option maxRecDepth 100000 in
theorem cv_12_46 : Val 12 46 (0, 12, 21, 0) := ⟨_, rfl, by decide, ta_7 110 rfl⟩
set_option maxRecDepth 100000 in
theorem cv_12_49 : Val 12 49 (0, 12, 22, 0) := ⟨_, rfl, by decide, ta_7 111 rfl⟩
set_option maxRecDepth 100000 in
theorem cv_12_52 : Val 12 52 (0, 12, 23, 0) := ⟨_, rfl, by decide, ta_7 112 rfl⟩
set_option maxRecDepth 100000 in
theorem cv_12_55 : Val 12 55 (0, 12, 24, 0) := ⟨_, rfl, by decide, ta_7 113 rfl⟩
set_option maxRecDepth 100000 in
theorem cv_12_58 : Val 12 58 (0, 12, 25, 0) := ⟨_, rfl, by decide, ta_7 114 rfl⟩
set_option maxRecDepth 100000 in
theorem cv_12_61 : Val 12 61 (0, 12, 26, 0) := ⟨_, rfl, by decide, ta_7 115 rfl⟩
set_option maxRecDepth 100000 in
theorem cv_12_64 : Val 12 64 (0, 12, 27, 0) := ⟨_, rfl, by decide, ta_7 116 rfl⟩
set_option maxRecDepth 100000 in
theorem cv_12_67 : Val 12 67 (0, 12, 29, 0) := ⟨_, rfl, by decide, ta_7 118 rfl⟩
set_option maxRecDepth 100000 in
theorem cv_12_70 : Val 12 70 (0, 12, 30, 0) := ⟨_, rfl, by decide, ta_7 119 rfl⟩
set_option maxRecDepth 100000 in
theorem cv_12_73 : Val 12 73 (0, 12, 31, 0) := ⟨_, rfl, by decide, ta_7 120 rfl⟩
set_option maxRecDepth 100000 in
theorem cv_12_76 : Val 12 76 (0, 12, 32, 0) := ⟨_, rfl, by decide, ta_7 121 rfl⟩
set_option maxRecDepth 100000 in
theorem cv_12_79 : Val 12 79 (0, 12, 33, 0) := ⟨_, rfl, by decide, ta_7 122 rfl⟩
set_option maxRecDepth 100000 in
theorem cv_12_82 : Val 12 82 (0, 12, 43, 0) := ⟨_, rfl, by decide, ta_7 132 rfl⟩
set_option maxRecDepth 100000 in
theorem cv_12_85 : Val 12 85 (0, 12, 44, 0) := ⟨_, rfl, by decide, ta_7 133 rfl⟩
set_option maxRecDepth 100000 in
theorem cv_12_88 : Val 12 88 (0, 12, 47, 0) := ⟨_, rfl, by decide, ta_7 136 rfl⟩
set_option maxRecDepth 100000 in
theorem cv_12_91 : Val 12 91 (0, 12, 48, 0) := ⟨_, rfl, by decide, ta_7 137 rfl⟩
set_option maxRecDepth 100000 in
theorem cv_12_94 : Val 12 94 (0, 12, 49, 0) := ⟨_, rfl, by decide, ta_7 138 rfl⟩
set_option maxRecDepth 100000 in
theorem cv_12_97 : Val 12 97 (1, nX12_tellsNothing, 0, 12) := ⟨pe_X12_tellsNothing, rfl, rfl, ta_7 78 rfl, ta_7 80 rfl, tp 53 rfl, ta_1 14 rfl, by decide +kernel, rfl⟩
set_option maxRecDepth 100000 in
theorem cv_12_100 : Val 12 100 (1, nX12_beginsAnew, 0, 12) := ⟨pe_X12_beginsAnew, rfl, rfl, ta_7 82 rfl, ta_7 84 rfl, tp 54 rfl, ta_1 14 rfl, by decide +kernel, rfl⟩
set_option maxRecDepth 100000 in
theorem cv_12_103 : Val 12 103 (0, 12, 0, 0) := ⟨_, rfl, by decide, ta_7 89 rfl⟩
set_option maxRecDepth 100000 in
theorem cv_12_106 : Val 12 106 (0, 12, 1, 0) := ⟨_, rfl, by decide, ta_7 90 rfl⟩
set_option maxRecDepth 100000 in
theorem cv_12_109 : Val 12 109 (0, 12, 2, 0) := ⟨_, rfl, by decide, ta_7 91 rfl⟩
set_option maxRecDepth 100000 in
theorem cv_12_112 : Val 12 112 (0, 12, 4, 0) := ⟨_, rfl, by decide, ta_7 93 rfl⟩
set_option maxRecDepth 100000 in
theorem cv_12_115 : Val 12 115 (1, nX12_byteAt, 1, 12) := ⟨pe_X12_byteAt, rfl, rfl, ta_8 30 rfl, ta_8 32 rfl, tp 58 rfl, ta_1 14 rfl, by decide +kernel, rfl⟩
set_option maxRecDepth 100000 in
theorem cv_12_119 : Val 12 119 (0, 12, 5, 0) := ⟨_, rfl, by decide, ta_7 94 rfl⟩
set_option maxRecDepth 100000 in
theorem cv_12_122 : Val 12 122 (0, 12, 6, 0) := ⟨_, rfl, by decide, ta_7 95 rfl⟩
set_option maxRecDepth 100000 in
theorem cv_12_125 : Val 12 125 (1, nX12_blanks, 0, 12) := ⟨pe_X12_blanks, rfl, rfl, ta_8 26 rfl, ta_8 28 rfl, tp 57 rfl, ta_1 14 rfl, by decide +kernel, rfl⟩
set_option maxRecDepth 100000 in
theorem cv_12_128 : Val 12 128 (2, nX12_isDigit, 1, 12) := ⟨pe_X12_isDigit, rfl, ta_8 71 rfl, ta_8 72 rfl, ta_1 14 rfl, by decide +kernel⟩
set_option maxRecDepth 100000 in
theorem cv_12_132 : Val 12 132 (1, nX12_wrong, 2, 12) := ⟨pe_X12_wrong, rfl, rfl, ta_8 56 rfl, ta_8 58 rfl, tp 63 rfl, ta_1 14 rfl, by decide +kernel, rfl⟩
set_option maxRecDepth 100000 in
theorem cv_12_136 : Val 12 136 (14, 100000, 0, 0) := show Cond.constant (rn 12) 136 (Int32.ofNat 100000) ∈ lw_tbl from ta_8 74 rfl
set_option maxRecDepth 100000 in
theorem cv_12_137 : Val 12 137 (2, nX12_in, 3, 12) := ⟨pe_X12_in, rfl, ta_8 15 rfl, ta_8 16 rfl, ta_1 14 rfl, by decide +kernel⟩
set_option maxRecDepth 100000 in
theorem cv_12_141 : Val 12 141 (2, nX12_isSmall, 1, 12) := ⟨pe_X12_isSmall, rfl, ta_8 50 rfl, ta_8 51 rfl, ta_1 14 rfl, by decide +kernel⟩
set_option maxRecDepth 100000 in
theorem cv_12_144 : Val 12 144 (1, nX12_wordHere, 0, 12) := ⟨pe_X12_wordHere, rfl, rfl, ta_8 46 rfl, ta_8 48 rfl, tp 62 rfl, ta_1 14 rfl, by decide +kernel, rfl⟩
set_option maxRecDepth 100000 in
theorem cv_12_148 : Val 12 148 (2, nX12_six, 6, 12) := ⟨pe_X12_six, rfl, ta_8 53 rfl, ta_8 54 rfl, ta_1 14 rfl, by decide +kernel⟩
set_option maxRecDepth 100000 in
theorem cv_12_152 : Val 12 152 (1, nX12_isWord, 6, 12) := ⟨pe_X12_isWord, rfl, rfl, ta_8 42 rfl, ta_8 44 rfl, tp 61 rfl, ta_1 14 rfl, by decide +kernel, rfl⟩
set_option maxRecDepth 100000 in
theorem cv_12_156 : Val 12 156 (1, nX12_skipWord, 0, 12) := ⟨pe_X12_skipWord, rfl, rfl, ta_8 63 rfl, ta_8 65 rfl, tp 64 rfl, ta_1 14 rfl, by decide +kernel, rfl⟩
set_option maxRecDepth 100000 in
theorem cv_12_159 : Val 12 159 (0, 12, 7, 0) := ⟨_, rfl, by decide, ta_7 96 rfl⟩
set_option maxRecDepth 100000 in
theorem cv_12_162 : Val 12 162 (0, 12, 8, 0) := ⟨_, rfl, by decide, ta_7 97 rfl⟩
set_option maxRecDepth 100000 in
theorem cv_12_165 : Val 12 165 (1, nX12_number, 2, 12) := ⟨pe_X12_number, rfl, rfl, ta_8 67 rfl, ta_8 69 rfl, tp 65 rfl, ta_1 14 rfl, by decide +kernel, rfl⟩
set_option maxRecDepth 100000 in
theorem cv_12_169 : Val 12 169 (1, nX12_kindHere, 0, 12) := ⟨pe_X12_kindHere, rfl, rfl, ta_8 38 rfl, ta_8 40 rfl, tp 60 rfl, ta_1 14 rfl, by decide +kernel, rfl⟩
set_option maxRecDepth 100000 in
theorem cv_12_172 : Val 12 172 (2, nX12_mostOf, 1, 12) := ⟨pe_X12_mostOf, rfl, ta_8 60 rfl, ta_8 61 rfl, ta_1 14 rfl, by decide +kernel⟩
set_option maxRecDepth 100000 in
theorem cv_12_175 : Val 12 175 (1, nX12_readThread, 0, 12) := ⟨pe_X12_readThread, rfl, rfl, ta_8 75 rfl, ta_8 77 rfl, tp 66 rfl, ta_1 14 rfl, by decide +kernel, rfl⟩
set_option maxRecDepth 100000 in
theorem cv_12_178 : Val 12 178 (1, nX12_sign, 1, 12) := ⟨pe_X12_sign, rfl, rfl, ta_8 79 rfl, ta_8 81 rfl, tp 67 rfl, ta_1 14 rfl, by decide +kernel, rfl⟩
set_option maxRecDepth 100000 in
theorem cv_12_182 : Val 12 182 (1, nX12_bad, 3, 12) := ⟨pe_X12_bad, rfl, rfl, ta_8 18 rfl, ta_8 20 rfl, tp 55 rfl, ta_1 14 rfl, by decide +kernel, rfl⟩
set_option maxRecDepth 100000 in
theorem cv_12_186 : Val 12 186 (1, nX12_starts, 1, 12) := ⟨pe_X12_starts, rfl, rfl, ta_8 22 rfl, ta_8 24 rfl, tp 56 rfl, ta_1 14 rfl, by decide +kernel, rfl⟩
set_option maxRecDepth 100000 in
theorem cv_12_189 : Val 12 189 (1, nX12_clause, 0, 12) := ⟨pe_X12_clause, rfl, rfl, ta_8 34 rfl, ta_8 36 rfl, tp 59 rfl, ta_1 14 rfl, by decide +kernel, rfl⟩
set_option maxRecDepth 100000 in
theorem cv_12_192 : Val 12 192 (1, nX12_ends, 0, 12) := ⟨pe_X12_ends, rfl, rfl, ta_8 83 rfl, ta_8 85 rfl, tp 68 rfl, ta_1 14 rfl, by decide +kernel, rfl⟩
set_option maxRecDepth 100000 in
theorem cv_12_195 : Val 12 195 (2, nX12_lays, 3, 12) := ⟨pe_X12_lays, rfl, ta_7 86 rfl, ta_7 87 rfl, ta_1 14 rfl, by decide +kernel⟩
set_option maxRecDepth 100000 in
theorem cv_12_199 : Val 12 199 (0, 12, 39, 0) := ⟨_, rfl, by decide, ta_7 128 rfl⟩
set_option maxRecDepth 100000 in
theorem cv_12_202 : Val 12 202 (0, 12, 19, 0) := ⟨_, rfl, by decide, ta_7 108 rfl⟩
set_option maxRecDepth 100000 in
theorem cv_12_205 : Val 12 205 (0, 12, 34, 0) := ⟨_, rfl, by decide, ta_7 123 rfl⟩
set_option maxRecDepth 100000 in
theorem cv_12_208 : Val 12 208 (0, 12, 35, 0) := ⟨_, rfl, by decide, ta_7 124 rfl⟩
set_option maxRecDepth 100000 in
theorem cv_12_211 : Val 12 211 (0, 12, 36, 0) := ⟨_, rfl, by decide, ta_7 125 rfl⟩
set_option maxRecDepth 100000 in
theorem cv_12_214 : Val 12 214 (0, 12, 37, 0) := ⟨_, rfl, by decide, ta_7 126 rfl⟩
set_option maxRecDepth 100000 in
theorem cv_12_217 : Val 12 217 (0, 12, 20, 0) := ⟨_, rfl, by decide, ta_7 109 rfl⟩
set_option maxRecDepth 100000 in
theorem cv_12_220 : Val 12 220 (1, nX12_product, 0, 12) := ⟨pe_X12_product, rfl, rfl, ta_8 95 rfl, ta_8 97 rfl, tp 70 rfl, ta_1 14 rfl, by decide +kernel, rfl⟩
set_option maxRecDepth 100000 in
theorem cv_12_223 : Val 12 223 (1, nX12_takesSign, 1, 12) := ⟨pe_X12_takesSign, rfl, rfl, ta_8 119 rfl, ta_8 121 rfl, tp 76 rfl, ta_1 14 rfl, by decide +kernel, rfl⟩
set_option maxRecDepth 100000 in
theorem cv_12_226 : Val 12 226 (1, nX12_notes, 2, 12) := ⟨pe_X12_notes, rfl, rfl, ta_8 107 rfl, ta_8 109 rfl, tp 73 rfl, ta_1 14 rfl, by decide +kernel, rfl⟩
set_option maxRecDepth 100000 in
theorem cv_12_229 : Val 12 229 (1, nX12_one, 0, 12) := ⟨pe_X12_one, rfl, rfl, ta_8 99 rfl, ta_8 101 rfl, tp 71 rfl, ta_1 14 rfl, by decide +kernel, rfl⟩
set_option maxRecDepth 100000 in
theorem cv_12_232 : Val 12 232 (1, nX12_takes, 6, 12) := ⟨pe_X12_takes, rfl, rfl, ta_8 115 rfl, ta_8 117 rfl, tp 75 rfl, ta_1 14 rfl, by decide +kernel, rfl⟩
set_option maxRecDepth 100000 in
theorem cv_12_235 : Val 12 235 (1, nX12_opensOne, 0, 12) := ⟨pe_X12_opensOne, rfl, rfl, ta_8 103 rfl, ta_8 105 rfl, tp 72 rfl, ta_1 14 rfl, by decide +kernel, rfl⟩
set_option maxRecDepth 100000 in
theorem cv_12_239 : Val 12 239 (1, nX12_sum, 0, 12) := ⟨pe_X12_sum, rfl, rfl, ta_8 91 rfl, ta_8 93 rfl, tp 69 rfl, ta_1 14 rfl, by decide +kernel, rfl⟩
set_option maxRecDepth 100000 in
theorem cv_12_242 : Val 12 242 (1, nX12_knownHere, 0, 12) := ⟨pe_X12_knownHere, rfl, rfl, ta_8 111 rfl, ta_8 113 rfl, tp 74 rfl, ta_1 14 rfl, by decide +kernel, rfl⟩
set_option maxRecDepth 100000 in
theorem cv_12_245 : Val 12 245 (2, nX12_less, 2, 12) := ⟨pe_X12_less, rfl, ta_8 228 rfl, ta_8 229 rfl, ta_1 14 rfl, by decide +kernel⟩
set_option maxRecDepth 100000 in
theorem cv_12_248 : Val 12 248 (2, nX12_more, 2, 12) := ⟨pe_X12_more, rfl, ta_8 231 rfl, ta_8 232 rfl, ta_1 14 rfl, by decide +kernel⟩
set_option maxRecDepth 100000 in
theorem cv_12_251 : Val 12 251 (2, nX12_by, 3, 12) := ⟨pe_X12_by, rfl, ta_8 225 rfl, ta_8 226 rfl, ta_1 14 rfl, by decide +kernel⟩
set_option maxRecDepth 100000 in
theorem cv_12_255 : Val 12 255 (1, nX12_stepHere, 0, 12) := ⟨pe_X12_stepHere, rfl, rfl, ta_8 139 rfl, ta_8 141 rfl, tp 78 rfl, ta_1 14 rfl, by decide +kernel, rfl⟩
set_option maxRecDepth 100000 in
theorem cv_12_258 : Val 12 258 (0, 12, 28, 0) := ⟨_, rfl, by decide, ta_7 117 rfl⟩
set_option maxRecDepth 100000 in
theorem cv_12_261 : Val 12 261 (1, nX12_readsStep, 0, 12) := ⟨pe_X12_readsStep, rfl, rfl, ta_8 135 rfl, ta_8 137 rfl, tp 77 rfl, ta_1 14 rfl, by decide +kernel, rfl⟩
set_option maxRecDepth 100000 in
theorem cv_12_264 : Val 12 264 (2, nX12_manyIn, 1, 12) := ⟨pe_X12_manyIn, rfl, ta_8 169 rfl, ta_8 170 rfl, ta_1 14 rfl, by decide +kernel⟩
set_option maxRecDepth 100000 in
theorem cv_12_268 : Val 12 268 (2, nX12_placeOf, 2, 12) := ⟨pe_X12_placeOf, rfl, ta_8 158 rfl, ta_8 159 rfl, ta_1 14 rfl, by decide +kernel⟩
set_option maxRecDepth 100000 in
theorem cv_12_272 : Val 12 272 (1, nX12_footOf, 2, 12) := ⟨pe_X12_footOf, rfl, rfl, ta_8 172 rfl, ta_8 174 rfl, tp 84 rfl, ta_1 14 rfl, by decide +kernel, rfl⟩
set_option maxRecDepth 100000 in
theorem cv_12_275 : Val 12 275 (1, nX12_headOf, 2, 12) := ⟨pe_X12_headOf, rfl, rfl, ta_8 176 rfl, ta_8 178 rfl, tp 85 rfl, ta_1 14 rfl, by decide +kernel, rfl⟩
set_option maxRecDepth 100000 in
theorem cv_12_278 : Val 12 278 (1, nX12_isJoined, 2, 12) := ⟨pe_X12_isJoined, rfl, rfl, ta_8 180 rfl, ta_8 182 rfl, tp 86 rfl, ta_1 14 rfl, by decide +kernel, rfl⟩
set_option maxRecDepth 100000 in
theorem cv_12_282 : Val 12 282 (1, nX12_byLaw, 0, 12) := ⟨pe_X12_byLaw, rfl, rfl, ta_8 221 rfl, ta_8 223 rfl, tp 94 rfl, ta_1 14 rfl, by decide +kernel, rfl⟩
set_option maxRecDepth 100000 in
theorem cv_12_285 : Val 12 285 (1, nX12_leftBy, 9, 12) := ⟨pe_X12_leftBy, rfl, rfl, ta_8 217 rfl, ta_8 219 rfl, tp 93 rfl, ta_1 14 rfl, by decide +kernel, rfl⟩
set_option maxRecDepth 100000 in
theorem cv_12_289 : Val 12 289 (1, nX12_leftOf, 5, 12) := ⟨pe_X12_leftOf, rfl, rfl, ta_8 213 rfl, ta_8 215 rfl, tp 92 rfl, ta_1 14 rfl, by decide +kernel, rfl⟩
set_option maxRecDepth 100000 in
theorem cv_12_293 : Val 12 293 (1, nX12_runs, 3, 12) := ⟨pe_X12_runs, rfl, rfl, ta_8 209 rfl, ta_8 211 rfl, tp 91 rfl, ta_1 14 rfl, by decide +kernel, rfl⟩
set_option maxRecDepth 100000 in
theorem cv_12_297 : Val 12 297 (1, nX12_longOf, 1, 12) := ⟨pe_X12_longOf, rfl, rfl, ta_8 201 rfl, ta_8 203 rfl, tp 89 rfl, ta_1 14 rfl, by decide +kernel, rfl⟩
set_option maxRecDepth 100000 in
theorem cv_12_300 : Val 12 300 (1, nX12_arrives, 1, 12) := ⟨pe_X12_arrives, rfl, rfl, ta_8 205 rfl, ta_8 207 rfl, tp 90 rfl, ta_1 14 rfl, by decide +kernel, rfl⟩
set_option maxRecDepth 100000 in
theorem cv_12_303 : Val 12 303 (1, nX12_isReached, 2, 12) := ⟨pe_X12_isReached, rfl, rfl, ta_8 197 rfl, ta_8 199 rfl, tp 88 rfl, ta_1 14 rfl, by decide +kernel, rfl⟩
set_option maxRecDepth 100000 in
theorem cv_12_307 : Val 12 307 (0, 12, 40, 0) := ⟨_, rfl, by decide, ta_7 129 rfl⟩
set_option maxRecDepth 100000 in
theorem cv_12_310 : Val 12 310 (1, nX12_canLay, 3, 12) := ⟨pe_X12_canLay, rfl, rfl, ta_8 165 rfl, ta_8 167 rfl, tp 83 rfl, ta_1 14 rfl, by decide +kernel, rfl⟩
set_option maxRecDepth 100000 in
theorem cv_12_314 : Val 12 314 (1, nX12_turns, 2, 12) := ⟨pe_X12_turns, rfl, rfl, ta_8 154 rfl, ta_8 156 rfl, tp 81 rfl, ta_1 14 rfl, by decide +kernel, rfl⟩
set_option maxRecDepth 100000 in
theorem cv_12_317 : Val 12 317 (1, nX12_laysOne, 2, 12) := ⟨pe_X12_laysOne, rfl, rfl, ta_8 161 rfl, ta_8 163 rfl, tp 82 rfl, ta_1 14 rfl, by decide +kernel, rfl⟩
set_option maxRecDepth 100000 in
theorem cv_12_320 : Val 12 320 (2, nX12_lifts, 1, 12) := ⟨pe_X12_lifts, rfl, ta_8 184 rfl, ta_8 185 rfl, ta_1 14 rfl, by decide +kernel⟩
set_option maxRecDepth 100000 in
theorem cv_12_324 : Val 12 324 (2, nX12_becomes, 3, 12) := ⟨pe_X12_becomes, rfl, ta_8 187 rfl, ta_8 188 rfl, ta_1 14 rfl, by decide +kernel⟩
set_option maxRecDepth 100000 in
theorem cv_12_327 : Val 12 327 (2, nX12_bursts, 3, 12) := ⟨pe_X12_bursts, rfl, ta_8 190 rfl, ta_8 191 rfl, ta_1 14 rfl, by decide +kernel⟩
set_option maxRecDepth 100000 in
theorem cv_12_330 : Val 12 330 (1, nX12_hourEnds, 1, 12) := ⟨pe_X12_hourEnds, rfl, rfl, ta_8 193 rfl, ta_8 195 rfl, tp 87 rfl, ta_1 14 rfl, by decide +kernel, rfl⟩
set_option maxRecDepth 100000 in
theorem cv_12_334 : Val 12 334 (0, 12, 41, 0) := ⟨_, rfl, by decide, ta_7 130 rfl⟩
set_option maxRecDepth 100000 in
theorem cv_12_337 : Val 12 337 (1, nX12_goes, 2, 12) := ⟨pe_X12_goes, rfl, rfl, ta_8 146 rfl, ta_8 148 rfl, tp 79 rfl, ta_1 14 rfl, by decide +kernel, rfl⟩
set_option maxRecDepth 100000 in
theorem cv_12_340 : Val 12 340 (1, nX12_does, 2, 12) := ⟨pe_X12_does, rfl, rfl, ta_8 150 rfl, ta_8 152 rfl, tp 80 rfl, ta_1 14 rfl, by decide +kernel, rfl⟩
set_option maxRecDepth 100000 in
theorem cv_12_344 : Val 12 344 (0, 12, 42, 0) := ⟨_, rfl, by decide, ta_7 131 rfl⟩
set_option maxRecDepth 100000 in
theorem cv_12_347 : Val 12 347 (2, nX12_copies, 2, 12) := ⟨pe_X12_copies, rfl, ta_8 143 rfl, ta_8 144 rfl, ta_1 14 rfl, by decide +kernel⟩
set_option maxRecDepth 100000 in
theorem cv_12_351 : Val 12 351 (1, nX12_liesIn, 1, 12) := ⟨pe_X12_liesIn, rfl, rfl, ta_9 2 rfl, ta_9 4 rfl, tp 95 rfl, ta_1 14 rfl, by decide +kernel, rfl⟩
set_option maxRecDepth 100000 in
theorem cv_12_354 : Val 12 354 (1, nX12_outIn, 1, 12) := ⟨pe_X12_outIn, rfl, rfl, ta_9 6 rfl, ta_9 8 rfl, tp 96 rfl, ta_1 14 rfl, by decide +kernel, rfl⟩
set_option maxRecDepth 100000 in
theorem cv_12_357 : Val 12 357 (1, nX12_isPiece, 1, 12) := ⟨pe_X12_isPiece, rfl, rfl, ta_9 14 rfl, ta_9 16 rfl, tp 97 rfl, ta_1 14 rfl, by decide +kernel, rfl⟩
set_option maxRecDepth 100000 in
theorem cv_12_360 : Val 12 360 (1, nX12_isFire, 1, 12) := ⟨pe_X12_isFire, rfl, rfl, ta_9 26 rfl, ta_9 28 rfl, tp 98 rfl, ta_1 14 rfl, by decide +kernel, rfl⟩
set_option maxRecDepth 100000 in
theorem cv_12_363 : Val 12 363 (2, nX12_isThread, 1, 12) := ⟨pe_X12_isThread, rfl, ta_9 46 rfl, ta_9 47 rfl, ta_1 14 rfl, by decide +kernel⟩
set_option maxRecDepth 100000 in
theorem cv_12_366 : Val 12 366 (2, nX12_has, 2, 12) := ⟨pe_X12_has, rfl, ta_9 69 rfl, ta_9 70 rfl, ta_1 14 rfl, by decide +kernel⟩
set_option maxRecDepth 100000 in
theorem cv_12_369 : Val 12 369 (1, nX12_isNext, 2, 12) := ⟨pe_X12_isNext, rfl, rfl, ta_9 72 rfl, ta_9 74 rfl, tp 101 rfl, ta_1 14 rfl, by decide +kernel, rfl⟩
set_option maxRecDepth 100000 in
theorem cv_12_372 : Val 12 372 (1, nX12_laysLongest, 0, 12) := ⟨pe_X12_laysLongest, rfl, rfl, ta_9 65 rfl, ta_9 67 rfl, tp 100 rfl, ta_1 14 rfl, by decide +kernel, rfl⟩
set_option maxRecDepth 100000 in
theorem cv_12_375 : Val 12 375 (0, 12, 45, 0) := ⟨_, rfl, by decide, ta_7 134 rfl⟩
set_option maxRecDepth 100000 in
theorem cv_12_378 : Val 12 378 (0, 12, 46, 0) := ⟨_, rfl, by decide, ta_7 135 rfl⟩
set_option maxRecDepth 100000 in
theorem cv_12_381 : Val 12 381 (1, nX12_chains, 0, 12) := ⟨pe_X12_chains, rfl, rfl, ta_9 61 rfl, ta_9 63 rfl, tp 99 rfl, ta_1 14 rfl, by decide +kernel, rfl⟩
set_option maxRecDepth 100000 in
theorem cv_12_384 : Val 12 384 (1, nX12_isBrief, 7, 12) := ⟨pe_X12_isBrief, rfl, rfl, ta_9 92 rfl, ta_9 94 rfl, tp 103 rfl, ta_1 14 rfl, by decide +kernel, rfl⟩
set_option maxRecDepth 100000 in
theorem cv_12_388 : Val 12 388 (1, nX12_briefs, 1, 12) := ⟨pe_X12_briefs, rfl, rfl, ta_9 88 rfl, ta_9 90 rfl, tp 102 rfl, ta_1 14 rfl, by decide +kernel, rfl⟩
set_option maxRecDepth 100000 in
theorem cv_12_391 : Val 12 391 (1, nX12_isLeak, 2, 12) := ⟨pe_X12_isLeak, rfl, rfl, ta_9 104 rfl, ta_9 106 rfl, tp 104 rfl, ta_1 14 rfl, by decide +kernel, rfl⟩
set_option maxRecDepth 100000 in
theorem cv_12_394 : Val 12 394 (1, nX12_isTold, 1, 12) := ⟨pe_X12_isTold, rfl, rfl, ta_9 112 rfl, ta_9 114 rfl, tp 105 rfl, ta_1 14 rfl, by decide +kernel, rfl⟩
set_option maxRecDepth 100000 in
theorem cv_12_397 : Val 12 397 (1, nX12_weds, 1, 12) := ⟨pe_X12_weds, rfl, rfl, ta_9 120 rfl, ta_9 122 rfl, tp 106 rfl, ta_1 14 rfl, by decide +kernel, rfl⟩
set_option maxRecDepth 100000 in
theorem cv_12_400 : Val 12 400 (2, nX12_partOf, 3, 12) := ⟨pe_X12_partOf, rfl, ta_9 128 rfl, ta_9 129 rfl, ta_1 14 rfl, by decide +kernel⟩
set_option maxRecDepth 100000 in
theorem cv_12_404 : Val 12 404 (1, nX12_comes, 2, 12) := ⟨pe_X12_comes, rfl, rfl, ta_9 147 rfl, ta_9 149 rfl, tp 110 rfl, ta_1 14 rfl, by decide +kernel, rfl⟩
set_option maxRecDepth 100000 in
theorem cv_12_407 : Val 12 407 (1, nX12_isChoice, 2, 12) := ⟨pe_X12_isChoice, rfl, rfl, ta_9 135 rfl, ta_9 137 rfl, tp 107 rfl, ta_1 14 rfl, by decide +kernel, rfl⟩
set_option maxRecDepth 100000 in
theorem cv_12_411 : Val 12 411 (1, nX12_streetHas, 4, 12) := ⟨pe_X12_streetHas, rfl, rfl, ta_9 143 rfl, ta_9 145 rfl, tp 109 rfl, ta_1 14 rfl, by decide +kernel, rfl⟩
set_option maxRecDepth 100000 in
theorem cv_12_415 : Val 12 415 (1, nX12_houseHas, 3, 12) := ⟨pe_X12_houseHas, rfl, rfl, ta_9 151 rfl, ta_9 153 rfl, tp 111 rfl, ta_1 14 rfl, by decide +kernel, rfl⟩
set_option maxRecDepth 100000 in
theorem cv_12_418 : Val 12 418 (1, nX12_isRest, 4, 12) := ⟨pe_X12_isRest, rfl, rfl, ta_9 139 rfl, ta_9 141 rfl, tp 108 rfl, ta_1 14 rfl, by decide +kernel, rfl⟩
set_option maxRecDepth 100000 in
theorem cv_12_422 : Val 12 422 (1, nX12_givenBy, 2, 12) := ⟨pe_X12_givenBy, rfl, rfl, ta_9 159 rfl, ta_9 161 rfl, tp 112 rfl, ta_1 14 rfl, by decide +kernel, rfl⟩
set_option maxRecDepth 100000 in
theorem cv_12_425 : Val 12 425 (0, 12, 50, 0) := ⟨_, rfl, by decide, ta_7 139 rfl⟩
set_option maxRecDepth 100000 in
theorem cv_12_428 : Val 12 428 (14, 1103515245, 0, 0) := show Cond.constant (rn 12) 428 (Int32.ofNat 1103515245) ∈ lw_tbl from ta_9 194 rfl
set_option maxRecDepth 100000 in
theorem cv_12_429 : Val 12 429 (1, nX12_draw, 1, 12) := ⟨pe_X12_draw, rfl, rfl, ta_9 190 rfl, ta_9 192 rfl, tp 114 rfl, ta_1 14 rfl, by decide +kernel, rfl⟩
set_option maxRecDepth 100000 in
theorem cv_12_432 : Val 12 432 (1, nX12_acts, 3, 12) := ⟨pe_X12_acts, rfl, rfl, ta_9 195 rfl, ta_9 197 rfl, tp 115 rfl, ta_1 14 rfl, by decide +kernel, rfl⟩
set_option maxRecDepth 100000 in
theorem cv_12_436 : Val 12 436 (2, nX12_isYear, 2, 12) := ⟨pe_X12_isYear, rfl, ta_9 183 rfl, ta_9 184 rfl, ta_1 14 rfl, by decide +kernel⟩
set_option maxRecDepth 100000 in
theorem cv_12_439 : Val 12 439 (1, nX12_yearBy, 3, 12) := ⟨pe_X12_yearBy, rfl, rfl, ta_9 186 rfl, ta_9 188 rfl, tp 113 rfl, ta_1 14 rfl, by decide +kernel, rfl⟩
set_option maxRecDepth 100000 in
theorem cv_12_443 : Val 12 443 (0, 12, 38, 0) := ⟨_, rfl, by decide, ta_7 127 rfl⟩
set_option maxRecDepth 100000 in
theorem cv_12_446 : Val 12 446 (1, nX12_puts, 3, 12) := ⟨pe_X12_puts, rfl, rfl, ta_9 211 rfl, ta_9 213 rfl, tp 117 rfl, ta_1 14 rfl, by decide +kernel, rfl⟩
set_option maxRecDepth 100000 in
theorem cv_12_450 : Val 12 450 (1, nX12_putsAll, 2, 12) := ⟨pe_X12_putsAll, rfl, rfl, ta_9 207 rfl, ta_9 209 rfl, tp 116 rfl, ta_1 14 rfl, by decide +kernel, rfl⟩
set_option maxRecDepth 100000 in
theorem cv_13_7 : Val 13 7 (1, nX11_house, 1, 11) := ⟨pe_X11_house, rfl, rfl, ta_3 159 rfl, ta_3 160 rfl, ta_3 161 rfl, ta_1 1 rfl, by decide +kernel, rfl⟩
set_option maxRecDepth 100000 in
theorem cv_13_8 : Val 13 8 (12, 11, 16, 0) := ⟨_, rfl, rfl, ta_1 26 rfl, ta_1 27 rfl, ta_1 1 rfl⟩
set_option maxRecDepth 100000 in
theorem cv_13_13 : Val 13 13 (18, 1, 0, 0) := ⟨by decide, ta_3 158 rfl⟩
set_option maxRecDepth 100000 in
theorem cv_13_15 : Val 13 15 (1, nX11_law, 1, 11) := ⟨pe_X11_law, rfl, rfl, ta_4 154 rfl, ta_4 155 rfl, ta_4 156 rfl, ta_1 1 rfl, by decide +kernel, rfl⟩
set_option maxRecDepth 100000 in
theorem cv_13_18 : Val 13 18 (1, nX11_work, 1, 11) := ⟨pe_X11_work, rfl, rfl, ta_4 199 rfl, ta_4 200 rfl, ta_4 201 rfl, ta_1 1 rfl, by decide +kernel, rfl⟩
set_option maxRecDepth 100000 in
theorem cv_13_21 : Val 13 21 (1, nX11_book, 1, 11) := ⟨pe_X11_book, rfl, rfl, ta_5 106 rfl, ta_5 107 rfl, ta_5 108 rfl, ta_1 1 rfl, by decide +kernel, rfl⟩
set_option maxRecDepth 100000 in
theorem cv_13_24 : Val 13 24 (1, nX11_told, 1, 11) := ⟨pe_X11_told, rfl, rfl, ta_5 132 rfl, ta_5 133 rfl, ta_5 134 rfl, ta_1 1 rfl, by decide +kernel, rfl⟩
set_option maxRecDepth 100000 in
theorem cv_13_27 : Val 13 27 (1, nX11_piece, 2, 11) := ⟨pe_X11_piece, rfl, rfl, ta_5 151 rfl, ta_5 152 rfl, ta_5 153 rfl, ta_1 1 rfl, by decide +kernel, rfl⟩
set_option maxRecDepth 100000 in
theorem cv_13_31 : Val 13 31 (18, 0, 0, 0) := ⟨by decide, ta_5 150 rfl⟩
set_option maxRecDepth 100000 in
theorem cv_13_33 : Val 13 33 (1, nX11_collar, 2, 11) := ⟨pe_X11_collar, rfl, rfl, ta_5 188 rfl, ta_5 189 rfl, ta_5 190 rfl, ta_1 1 rfl, by decide +kernel, rfl⟩
set_option maxRecDepth 100000 in
theorem cv_13_36 : Val 13 36 (1, nX11_fire, 2, 11) := ⟨pe_X11_fire, rfl, rfl, ta_5 195 rfl, ta_5 196 rfl, ta_5 197 rfl, ta_1 1 rfl, by decide +kernel, rfl⟩
set_option maxRecDepth 100000 in
theorem cv_13_39 : Val 13 39 (1, nX11_row, 1, 11) := ⟨pe_X11_row, rfl, rfl, ta_5 207 rfl, ta_5 208 rfl, ta_5 209 rfl, ta_1 1 rfl, by decide +kernel, rfl⟩
set_option maxRecDepth 100000 in
theorem cv_13_42 : Val 13 42 (1, nX11_behind, 1, 11) := ⟨pe_X11_behind, rfl, rfl, ta_5 214 rfl, ta_5 215 rfl, ta_5 216 rfl, ta_1 1 rfl, by decide +kernel, rfl⟩
set_option maxRecDepth 100000 in
theorem cv_13_45 : Val 13 45 (1, nX11_would, 9, 11) := ⟨pe_X11_would, rfl, rfl, ta_5 221 rfl, ta_5 222 rfl, ta_5 223 rfl, ta_1 1 rfl, by decide +kernel, rfl⟩
set_option maxRecDepth 100000 in
theorem cv_13_49 : Val 13 49 (1, nX11_fits, 2, 11) := ⟨pe_X11_fits, rfl, rfl, ta_5 231 rfl, ta_5 232 rfl, ta_5 233 rfl, ta_1 1 rfl, by decide +kernel, rfl⟩
set_option maxRecDepth 100000 in
theorem cv_13_53 : Val 13 53 (1, nX11_can, 1, 11) := ⟨pe_X11_can, rfl, rfl, ta_6 3 rfl, ta_6 4 rfl, ta_6 5 rfl, ta_1 1 rfl, by decide +kernel, rfl⟩
set_option maxRecDepth 100000 in
theorem cv_13_57 : Val 13 57 (1, nX11_ahead, 1, 11) := ⟨pe_X11_ahead, rfl, rfl, ta_6 11 rfl, ta_6 12 rfl, ta_6 13 rfl, ta_1 1 rfl, by decide +kernel, rfl⟩
set_option maxRecDepth 100000 in
theorem cv_13_60 : Val 13 60 (1, nX11_chain, 1, 11) := ⟨pe_X11_chain, rfl, rfl, ta_6 29 rfl, ta_6 30 rfl, ta_6 31 rfl, ta_1 1 rfl, by decide +kernel, rfl⟩
set_option maxRecDepth 100000 in
theorem cv_13_63 : Val 13 63 (1, nX11_chained, 1, 11) := ⟨pe_X11_chained, rfl, rfl, ta_6 65 rfl, ta_6 66 rfl, ta_6 67 rfl, ta_1 1 rfl, by decide +kernel, rfl⟩
set_option maxRecDepth 100000 in
theorem cv_13_66 : Val 13 66 (1, nX11_brief, 1, 11) := ⟨pe_X11_brief, rfl, rfl, ta_6 72 rfl, ta_6 73 rfl, ta_6 74 rfl, ta_1 1 rfl, by decide +kernel, rfl⟩
set_option maxRecDepth 100000 in
theorem cv_13_69 : Val 13 69 (1, nX11_briefly, 2, 11) := ⟨pe_X11_briefly, rfl, rfl, ta_6 98 rfl, ta_6 99 rfl, ta_6 100 rfl, ta_1 1 rfl, by decide +kernel, rfl⟩
set_option maxRecDepth 100000 in
theorem cv_13_72 : Val 13 72 (1, nX11_joiner, 1, 11) := ⟨pe_X11_joiner, rfl, rfl, ta_6 105 rfl, ta_6 106 rfl, ta_6 107 rfl, ta_1 1 rfl, by decide +kernel, rfl⟩
set_option maxRecDepth 100000 in
theorem cv_13_75 : Val 13 75 (1, nX11_leaks, 1, 11) := ⟨pe_X11_leaks, rfl, rfl, ta_6 126 rfl, ta_6 127 rfl, ta_6 128 rfl, ta_1 1 rfl, by decide +kernel, rfl⟩
set_option maxRecDepth 100000 in
theorem cv_13_78 : Val 13 78 (1, nX11_look, 1, 11) := ⟨pe_X11_look, rfl, rfl, ta_6 146 rfl, ta_6 147 rfl, ta_6 148 rfl, ta_1 1 rfl, by decide +kernel, rfl⟩
set_option maxRecDepth 100000 in
theorem cv_13_81 : Val 13 81 (1, nX11_sure, 3, 11) := ⟨pe_X11_sure, rfl, rfl, ta_6 163 rfl, ta_6 164 rfl, ta_6 165 rfl, ta_1 1 rfl, by decide +kernel, rfl⟩
set_option maxRecDepth 100000 in
theorem cv_13_85 : Val 13 85 (1, nX11_street, 3, 11) := ⟨pe_X11_street, rfl, rfl, ta_6 176 rfl, ta_6 177 rfl, ta_6 178 rfl, ta_1 1 rfl, by decide +kernel, rfl⟩
set_option maxRecDepth 100000 in
theorem cv_13_89 : Val 13 89 (1, nX11_share, 3, 11) := ⟨pe_X11_share, rfl, rfl, ta_6 226 rfl, ta_6 227 rfl, ta_6 228 rfl, ta_1 1 rfl, by decide +kernel, rfl⟩
set_option maxRecDepth 100000 in
theorem cv_13_92 : Val 13 92 (1, nX11_next, 1, 11) := ⟨pe_X11_next, rfl, rfl, ta_6 239 rfl, ta_7 0 rfl, ta_7 1 rfl, ta_1 1 rfl, by decide +kernel, rfl⟩
set_option maxRecDepth 100000 in
theorem cv_13_95 : Val 13 95 (1, nX11_worst, 1, 11) := ⟨pe_X11_worst, rfl, rfl, ta_7 6 rfl, ta_7 7 rfl, ta_7 8 rfl, ta_1 1 rfl, by decide +kernel, rfl⟩
set_option maxRecDepth 100000 in
theorem cv_13_98 : Val 13 98 (1, nX11_needed, 1, 11) := ⟨pe_X11_needed, rfl, rfl, ta_7 22 rfl, ta_7 23 rfl, ta_7 24 rfl, ta_1 1 rfl, by decide +kernel, rfl⟩
set_option maxRecDepth 100000 in
theorem cv_13_101 : Val 13 101 (1, nX11_kin, 1, 11) := ⟨pe_X11_kin, rfl, rfl, ta_7 29 rfl, ta_7 30 rfl, ta_7 31 rfl, ta_1 1 rfl, by decide +kernel, rfl⟩
set_option maxRecDepth 100000 in
theorem cv_13_104 : Val 13 104 (1, nX11_year, 4, 11) := ⟨pe_X11_year, rfl, rfl, ta_7 36 rfl, ta_7 37 rfl, ta_7 38 rfl, ta_1 1 rfl, by decide +kernel, rfl⟩
set_option maxRecDepth 100000 in
theorem cv_13_108 : Val 13 108 (1, nX11_span, 6, 11) := ⟨pe_X11_span, rfl, rfl, ta_7 65 rfl, ta_7 66 rfl, ta_7 67 rfl, ta_1 1 rfl, by decide +kernel, rfl⟩
set_option maxRecDepth 100000 in
theorem cv_13_112 : Val 13 112 (5, nX11_init, 0, 11) := ⟨pe_X11_init, rfl, ta_1 28 rfl, ta_1 29 rfl, ta_1 1 rfl, rfl, by decide +kernel, rfl, rfl⟩
set_option maxRecDepth 100000 in
theorem cv_13_113 : Val 13 113 (12, 12, 51, 0) := ⟨_, rfl, rfl, ta_7 70 rfl, ta_7 71 rfl, ta_1 14 rfl⟩
set_option maxRecDepth 100000 in
theorem cv_13_115 : Val 13 115 (5, nX12_init, 0, 12) := ⟨pe_X12_init, rfl, ta_7 72 rfl, ta_7 73 rfl, ta_1 14 rfl, rfl, by decide +kernel, rfl, rfl⟩
set_option maxRecDepth 100000 in
theorem cv_13_116 : Val 13 116 (1, nX11_feed, 5, 11) := ⟨pe_X11_feed, rfl, rfl, ta_3 45 rfl, ta_3 46 rfl, ta_3 47 rfl, ta_1 1 rfl, by decide +kernel, rfl⟩
set_option maxRecDepth 100000 in
theorem cv_13_120 : Val 13 120 (1, nX12_feed, 5, 12) := ⟨pe_X12_feed, rfl, rfl, ta_8 7 rfl, ta_8 8 rfl, ta_8 9 rfl, ta_1 14 rfl, by decide +kernel, rfl⟩
set_option maxRecDepth 100000 in
theorem cv_13_121 : Val 13 121 (2, nL_house, 3, 13) := ⟨pe_L_house, rfl, ta_3 155 rfl, ta_3 156 rfl, ta_1 0 rfl, by decide +kernel⟩
set_option maxRecDepth 100000 in
theorem cv_13_126 : Val 13 126 (1, nX12_house, 1, 12) := ⟨pe_X12_house, rfl, rfl, ta_8 11 rfl, ta_8 12 rfl, ta_8 13 rfl, ta_1 14 rfl, by decide +kernel, rfl⟩
set_option maxRecDepth 100000 in
theorem cv_13_127 : Val 13 127 (1, nX12_thrown, 0, 12) := ⟨pe_X12_thrown, rfl, rfl, ta_8 3 rfl, ta_8 4 rfl, ta_8 5 rfl, ta_1 14 rfl, by decide +kernel, rfl⟩
set_option maxRecDepth 100000 in
theorem cv_13_131 : Val 13 131 (2, nL_law, 3, 13) := ⟨pe_L_law, rfl, ta_4 151 rfl, ta_4 152 rfl, ta_1 0 rfl, by decide +kernel⟩
set_option maxRecDepth 100000 in
theorem cv_13_133 : Val 13 133 (1, nX12_law, 1, 12) := ⟨pe_X12_law, rfl, rfl, ta_8 87 rfl, ta_8 88 rfl, ta_8 89 rfl, ta_1 14 rfl, by decide +kernel, rfl⟩
set_option maxRecDepth 100000 in
theorem cv_13_134 : Val 13 134 (2, nL_work, 3, 13) := ⟨pe_L_work, rfl, ta_4 196 rfl, ta_4 197 rfl, ta_1 0 rfl, by decide +kernel⟩
set_option maxRecDepth 100000 in
theorem cv_13_136 : Val 13 136 (1, nX12_work, 1, 12) := ⟨pe_X12_work, rfl, rfl, ta_8 131 rfl, ta_8 132 rfl, ta_8 133 rfl, ta_1 14 rfl, by decide +kernel, rfl⟩
set_option maxRecDepth 100000 in
theorem cv_13_137 : Val 13 137 (2, nL_book, 3, 13) := ⟨pe_L_book, rfl, ta_5 103 rfl, ta_5 104 rfl, ta_1 0 rfl, by decide +kernel⟩
set_option maxRecDepth 100000 in
theorem cv_13_139 : Val 13 139 (1, nX12_book, 1, 12) := ⟨pe_X12_book, rfl, rfl, ta_8 123 rfl, ta_8 124 rfl, ta_8 125 rfl, ta_1 14 rfl, by decide +kernel, rfl⟩
set_option maxRecDepth 100000 in
theorem cv_13_140 : Val 13 140 (1, nX11_fault, 0, 11) := ⟨pe_X11_fault, rfl, rfl, ta_3 57 rfl, ta_3 58 rfl, ta_3 59 rfl, ta_1 1 rfl, by decide +kernel, rfl⟩
set_option maxRecDepth 100000 in
theorem cv_13_143 : Val 13 143 (1, nX12_fault, 0, 12) := ⟨pe_X12_fault, rfl, rfl, ta_8 127 rfl, ta_8 128 rfl, ta_8 129 rfl, ta_1 14 rfl, by decide +kernel, rfl⟩
set_option maxRecDepth 100000 in
theorem cv_13_144 : Val 13 144 (1, nX11_undo, 0, 11) := ⟨pe_X11_undo, rfl, rfl, ta_3 61 rfl, ta_3 62 rfl, ta_3 63 rfl, ta_1 1 rfl, by decide +kernel, rfl⟩
set_option maxRecDepth 100000 in
theorem cv_13_147 : Val 13 147 (1, nX12_undo, 0, 12) := ⟨pe_X12_undo, rfl, rfl, ta_8 234 rfl, ta_8 235 rfl, ta_8 236 rfl, ta_1 14 rfl, by decide +kernel, rfl⟩
set_option maxRecDepth 100000 in
theorem cv_13_148 : Val 13 148 (2, nL_told, 3, 13) := ⟨pe_L_told, rfl, ta_5 129 rfl, ta_5 130 rfl, ta_1 0 rfl, by decide +kernel⟩
set_option maxRecDepth 100000 in
theorem cv_13_150 : Val 13 150 (1, nX12_told, 1, 12) := ⟨pe_X12_told, rfl, rfl, ta_8 238 rfl, ta_8 239 rfl, ta_9 0 rfl, ta_1 14 rfl, by decide +kernel, rfl⟩
set_option maxRecDepth 100000 in
theorem cv_13_151 : Val 13 151 (2, nL_piece, 4, 13) := ⟨pe_L_piece, rfl, ta_5 147 rfl, ta_5 148 rfl, ta_1 0 rfl, by decide +kernel⟩
set_option maxRecDepth 100000 in
theorem cv_13_154 : Val 13 154 (1, nX12_piece, 2, 12) := ⟨pe_X12_piece, rfl, rfl, ta_9 10 rfl, ta_9 11 rfl, ta_9 12 rfl, ta_1 14 rfl, by decide +kernel, rfl⟩
set_option maxRecDepth 100000 in
theorem cv_13_155 : Val 13 155 (2, nL_collar, 4, 13) := ⟨pe_L_collar, rfl, ta_5 185 rfl, ta_5 186 rfl, ta_1 0 rfl, by decide +kernel⟩
set_option maxRecDepth 100000 in
theorem cv_13_157 : Val 13 157 (1, nX12_collar, 2, 12) := ⟨pe_X12_collar, rfl, rfl, ta_9 18 rfl, ta_9 19 rfl, ta_9 20 rfl, ta_1 14 rfl, by decide +kernel, rfl⟩
set_option maxRecDepth 100000 in
theorem cv_13_158 : Val 13 158 (2, nL_fire, 4, 13) := ⟨pe_L_fire, rfl, ta_5 192 rfl, ta_5 193 rfl, ta_1 0 rfl, by decide +kernel⟩
set_option maxRecDepth 100000 in
theorem cv_13_160 : Val 13 160 (1, nX12_fire, 2, 12) := ⟨pe_X12_fire, rfl, rfl, ta_9 22 rfl, ta_9 23 rfl, ta_9 24 rfl, ta_1 14 rfl, by decide +kernel, rfl⟩
set_option maxRecDepth 100000 in
theorem cv_13_161 : Val 13 161 (2, nL_row, 3, 13) := ⟨pe_L_row, rfl, ta_5 204 rfl, ta_5 205 rfl, ta_1 0 rfl, by decide +kernel⟩
set_option maxRecDepth 100000 in
theorem cv_13_163 : Val 13 163 (1, nX12_row, 1, 12) := ⟨pe_X12_row, rfl, rfl, ta_9 30 rfl, ta_9 31 rfl, ta_9 32 rfl, ta_1 14 rfl, by decide +kernel, rfl⟩
set_option maxRecDepth 100000 in
theorem cv_13_164 : Val 13 164 (2, nL_behind, 3, 13) := ⟨pe_L_behind, rfl, ta_5 211 rfl, ta_5 212 rfl, ta_1 0 rfl, by decide +kernel⟩
set_option maxRecDepth 100000 in
theorem cv_13_166 : Val 13 166 (1, nX12_behind, 1, 12) := ⟨pe_X12_behind, rfl, rfl, ta_9 34 rfl, ta_9 35 rfl, ta_9 36 rfl, ta_1 14 rfl, by decide +kernel, rfl⟩
set_option maxRecDepth 100000 in
theorem cv_13_167 : Val 13 167 (2, nL_would, 11, 13) := ⟨pe_L_would, rfl, ta_5 218 rfl, ta_5 219 rfl, ta_1 0 rfl, by decide +kernel⟩
set_option maxRecDepth 100000 in
theorem cv_13_170 : Val 13 170 (1, nX12_would, 9, 12) := ⟨pe_X12_would, rfl, rfl, ta_9 38 rfl, ta_9 39 rfl, ta_9 40 rfl, ta_1 14 rfl, by decide +kernel, rfl⟩
set_option maxRecDepth 100000 in
theorem cv_13_171 : Val 13 171 (2, nL_fits, 4, 13) := ⟨pe_L_fits, rfl, ta_5 228 rfl, ta_5 229 rfl, ta_1 0 rfl, by decide +kernel⟩
set_option maxRecDepth 100000 in
theorem cv_13_173 : Val 13 173 (1, nX12_fits, 2, 12) := ⟨pe_X12_fits, rfl, rfl, ta_9 42 rfl, ta_9 43 rfl, ta_9 44 rfl, ta_1 14 rfl, by decide +kernel, rfl⟩
set_option maxRecDepth 100000 in
theorem cv_13_174 : Val 13 174 (2, nL_can, 3, 13) := ⟨pe_L_can, rfl, ta_6 0 rfl, ta_6 1 rfl, ta_1 0 rfl, by decide +kernel⟩
set_option maxRecDepth 100000 in
theorem cv_13_176 : Val 13 176 (1, nX12_can, 1, 12) := ⟨pe_X12_can, rfl, rfl, ta_9 49 rfl, ta_9 50 rfl, ta_9 51 rfl, ta_1 14 rfl, by decide +kernel, rfl⟩
set_option maxRecDepth 100000 in
theorem cv_13_177 : Val 13 177 (2, nL_ahead, 3, 13) := ⟨pe_L_ahead, rfl, ta_6 8 rfl, ta_6 9 rfl, ta_1 0 rfl, by decide +kernel⟩
set_option maxRecDepth 100000 in
theorem cv_13_179 : Val 13 179 (1, nX12_ahead, 1, 12) := ⟨pe_X12_ahead, rfl, rfl, ta_9 53 rfl, ta_9 54 rfl, ta_9 55 rfl, ta_1 14 rfl, by decide +kernel, rfl⟩
set_option maxRecDepth 100000 in
theorem cv_13_180 : Val 13 180 (2, nL_chain, 3, 13) := ⟨pe_L_chain, rfl, ta_6 26 rfl, ta_6 27 rfl, ta_1 0 rfl, by decide +kernel⟩
set_option maxRecDepth 100000 in
theorem cv_13_182 : Val 13 182 (1, nX12_chain, 1, 12) := ⟨pe_X12_chain, rfl, rfl, ta_9 57 rfl, ta_9 58 rfl, ta_9 59 rfl, ta_1 14 rfl, by decide +kernel, rfl⟩
set_option maxRecDepth 100000 in
theorem cv_13_183 : Val 13 183 (2, nL_chained, 3, 13) := ⟨pe_L_chained, rfl, ta_6 62 rfl, ta_6 63 rfl, ta_1 0 rfl, by decide +kernel⟩
set_option maxRecDepth 100000 in
theorem cv_13_185 : Val 13 185 (1, nX12_chained, 1, 12) := ⟨pe_X12_chained, rfl, rfl, ta_9 76 rfl, ta_9 77 rfl, ta_9 78 rfl, ta_1 14 rfl, by decide +kernel, rfl⟩
set_option maxRecDepth 100000 in
theorem cv_13_186 : Val 13 186 (2, nL_brief, 3, 13) := ⟨pe_L_brief, rfl, ta_6 69 rfl, ta_6 70 rfl, ta_1 0 rfl, by decide +kernel⟩
set_option maxRecDepth 100000 in
theorem cv_13_188 : Val 13 188 (1, nX12_brief, 1, 12) := ⟨pe_X12_brief, rfl, rfl, ta_9 84 rfl, ta_9 85 rfl, ta_9 86 rfl, ta_1 14 rfl, by decide +kernel, rfl⟩
set_option maxRecDepth 100000 in
theorem cv_13_189 : Val 13 189 (2, nL_briefly, 4, 13) := ⟨pe_L_briefly, rfl, ta_6 95 rfl, ta_6 96 rfl, ta_1 0 rfl, by decide +kernel⟩
set_option maxRecDepth 100000 in
theorem cv_13_191 : Val 13 191 (1, nX12_briefly, 2, 12) := ⟨pe_X12_briefly, rfl, rfl, ta_9 96 rfl, ta_9 97 rfl, ta_9 98 rfl, ta_1 14 rfl, by decide +kernel, rfl⟩
set_option maxRecDepth 100000 in
theorem cv_13_192 : Val 13 192 (2, nL_joiner, 3, 13) := ⟨pe_L_joiner, rfl, ta_6 102 rfl, ta_6 103 rfl, ta_1 0 rfl, by decide +kernel⟩
set_option maxRecDepth 100000 in
theorem cv_13_194 : Val 13 194 (1, nX12_joiner, 1, 12) := ⟨pe_X12_joiner, rfl, rfl, ta_9 80 rfl, ta_9 81 rfl, ta_9 82 rfl, ta_1 14 rfl, by decide +kernel, rfl⟩
set_option maxRecDepth 100000 in
theorem cv_13_195 : Val 13 195 (2, nL_leaks, 3, 13) := ⟨pe_L_leaks, rfl, ta_6 123 rfl, ta_6 124 rfl, ta_1 0 rfl, by decide +kernel⟩
set_option maxRecDepth 100000 in
theorem cv_13_197 : Val 13 197 (1, nX12_leaks, 1, 12) := ⟨pe_X12_leaks, rfl, rfl, ta_9 100 rfl, ta_9 101 rfl, ta_9 102 rfl, ta_1 14 rfl, by decide +kernel, rfl⟩
set_option maxRecDepth 100000 in
theorem cv_13_198 : Val 13 198 (2, nL_look, 3, 13) := ⟨pe_L_look, rfl, ta_6 143 rfl, ta_6 144 rfl, ta_1 0 rfl, by decide +kernel⟩
set_option maxRecDepth 100000 in
theorem cv_13_200 : Val 13 200 (1, nX12_look, 1, 12) := ⟨pe_X12_look, rfl, rfl, ta_9 108 rfl, ta_9 109 rfl, ta_9 110 rfl, ta_1 14 rfl, by decide +kernel, rfl⟩
set_option maxRecDepth 100000 in
theorem cv_13_201 : Val 13 201 (1, nX11_wed, 0, 11) := ⟨pe_X11_wed, rfl, rfl, ta_3 80 rfl, ta_3 81 rfl, ta_3 82 rfl, ta_1 1 rfl, by decide +kernel, rfl⟩
set_option maxRecDepth 100000 in
theorem cv_13_204 : Val 13 204 (1, nX12_wed, 0, 12) := ⟨pe_X12_wed, rfl, rfl, ta_9 116 rfl, ta_9 117 rfl, ta_9 118 rfl, ta_1 14 rfl, by decide +kernel, rfl⟩
set_option maxRecDepth 100000 in
theorem cv_13_205 : Val 13 205 (2, nL_sure, 5, 13) := ⟨pe_L_sure, rfl, ta_6 160 rfl, ta_6 161 rfl, ta_1 0 rfl, by decide +kernel⟩
set_option maxRecDepth 100000 in
theorem cv_13_208 : Val 13 208 (1, nX12_sure, 3, 12) := ⟨pe_X12_sure, rfl, rfl, ta_9 124 rfl, ta_9 125 rfl, ta_9 126 rfl, ta_1 14 rfl, by decide +kernel, rfl⟩
set_option maxRecDepth 100000 in
theorem cv_13_209 : Val 13 209 (2, nL_street, 5, 13) := ⟨pe_L_street, rfl, ta_6 173 rfl, ta_6 174 rfl, ta_1 0 rfl, by decide +kernel⟩
set_option maxRecDepth 100000 in
theorem cv_13_211 : Val 13 211 (1, nX12_street, 3, 12) := ⟨pe_X12_street, rfl, rfl, ta_9 131 rfl, ta_9 132 rfl, ta_9 133 rfl, ta_1 14 rfl, by decide +kernel, rfl⟩
set_option maxRecDepth 100000 in
theorem cv_13_212 : Val 13 212 (2, nL_share, 5, 13) := ⟨pe_L_share, rfl, ta_6 223 rfl, ta_6 224 rfl, ta_1 0 rfl, by decide +kernel⟩
set_option maxRecDepth 100000 in
theorem cv_13_214 : Val 13 214 (1, nX12_share, 3, 12) := ⟨pe_X12_share, rfl, rfl, ta_9 155 rfl, ta_9 156 rfl, ta_9 157 rfl, ta_1 14 rfl, by decide +kernel, rfl⟩
set_option maxRecDepth 100000 in
theorem cv_13_215 : Val 13 215 (2, nL_next, 3, 13) := ⟨pe_L_next, rfl, ta_6 236 rfl, ta_6 237 rfl, ta_1 0 rfl, by decide +kernel⟩
set_option maxRecDepth 100000 in
theorem cv_13_217 : Val 13 217 (1, nX12_next, 1, 12) := ⟨pe_X12_next, rfl, rfl, ta_9 163 rfl, ta_9 164 rfl, ta_9 165 rfl, ta_1 14 rfl, by decide +kernel, rfl⟩
set_option maxRecDepth 100000 in
theorem cv_13_218 : Val 13 218 (2, nL_worst, 3, 13) := ⟨pe_L_worst, rfl, ta_7 3 rfl, ta_7 4 rfl, ta_1 0 rfl, by decide +kernel⟩
set_option maxRecDepth 100000 in
theorem cv_13_220 : Val 13 220 (1, nX12_worst, 1, 12) := ⟨pe_X12_worst, rfl, rfl, ta_9 167 rfl, ta_9 168 rfl, ta_9 169 rfl, ta_1 14 rfl, by decide +kernel, rfl⟩
set_option maxRecDepth 100000 in
theorem cv_13_221 : Val 13 221 (2, nL_needed, 3, 13) := ⟨pe_L_needed, rfl, ta_7 19 rfl, ta_7 20 rfl, ta_1 0 rfl, by decide +kernel⟩
set_option maxRecDepth 100000 in
theorem cv_13_223 : Val 13 223 (1, nX12_needed, 1, 12) := ⟨pe_X12_needed, rfl, rfl, ta_9 171 rfl, ta_9 172 rfl, ta_9 173 rfl, ta_1 14 rfl, by decide +kernel, rfl⟩
set_option maxRecDepth 100000 in
theorem cv_13_224 : Val 13 224 (2, nL_kin, 3, 13) := ⟨pe_L_kin, rfl, ta_7 26 rfl, ta_7 27 rfl, ta_1 0 rfl, by decide +kernel⟩
set_option maxRecDepth 100000 in
theorem cv_13_226 : Val 13 226 (1, nX12_kin, 1, 12) := ⟨pe_X12_kin, rfl, rfl, ta_9 175 rfl, ta_9 176 rfl, ta_9 177 rfl, ta_1 14 rfl, by decide +kernel, rfl⟩
set_option maxRecDepth 100000 in
theorem cv_13_227 : Val 13 227 (2, nL_year, 6, 13) := ⟨pe_L_year, rfl, ta_7 33 rfl, ta_7 34 rfl, ta_1 0 rfl, by decide +kernel⟩
set_option maxRecDepth 100000 in
theorem cv_13_230 : Val 13 230 (1, nX12_year, 4, 12) := ⟨pe_X12_year, rfl, rfl, ta_9 179 rfl, ta_9 180 rfl, ta_9 181 rfl, ta_1 14 rfl, by decide +kernel, rfl⟩
set_option maxRecDepth 100000 in
theorem cv_13_231 : Val 13 231 (2, nL_span, 8, 13) := ⟨pe_L_span, rfl, ta_7 62 rfl, ta_7 63 rfl, ta_1 0 rfl, by decide +kernel⟩
set_option maxRecDepth 100000 in
theorem cv_13_234 : Val 13 234 (1, nX12_span, 6, 12) := ⟨pe_X12_span, rfl, rfl, ta_9 199 rfl, ta_9 200 rfl, ta_9 201 rfl, ta_1 14 rfl, by decide +kernel, rfl⟩
set_option maxRecDepth 100000 in
theorem cv_13_235 : Val 13 235 (1, nX11_image, 0, 11) := ⟨pe_X11_image, rfl, rfl, ta_3 122 rfl, ta_3 123 rfl, ta_3 124 rfl, ta_1 1 rfl, by decide +kernel, rfl⟩
set_option maxRecDepth 100000 in
theorem cv_13_238 : Val 13 238 (1, nX12_image, 0, 12) := ⟨pe_X12_image, rfl, rfl, ta_9 203 rfl, ta_9 204 rfl, ta_9 205 rfl, ta_1 14 rfl, by decide +kernel, rfl⟩
set_option maxRecDepth 100000 in
theorem cv_13_239 : Val 13 239 (1, nX11_restore, 0, 11) := ⟨pe_X11_restore, rfl, rfl, ta_3 139 rfl, ta_3 140 rfl, ta_3 141 rfl, ta_1 1 rfl, by decide +kernel, rfl⟩
set_option maxRecDepth 100000 in
theorem cv_13_242 : Val 13 242 (1, nX12_restore, 0, 12) := ⟨pe_X12_restore, rfl, rfl, ta_9 215 rfl, ta_9 216 rfl, ta_9 217 rfl, ta_1 14 rfl, by decide +kernel, rfl⟩
set_option maxRecDepth 100000 in
theorem cv_13_243 : Val 13 243 (1, nX11_status, 1, 11) := ⟨pe_X11_status, rfl, rfl, ta_3 147 rfl, ta_3 148 rfl, ta_3 149 rfl, ta_1 1 rfl, by decide +kernel, rfl⟩
set_option maxRecDepth 100000 in
theorem cv_13_246 : Val 13 246 (1, nX12_status, 1, 12) := ⟨pe_X12_status, rfl, rfl, ta_9 219 rfl, ta_9 220 rfl, ta_9 221 rfl, ta_1 14 rfl, by decide +kernel, rfl⟩
set_option maxRecDepth 100000 in
theorem cv_13_247 : Val 13 247 (1, nX11_count, 1, 11) := ⟨pe_X11_count, rfl, rfl, ta_3 151 rfl, ta_3 152 rfl, ta_3 153 rfl, ta_1 1 rfl, by decide +kernel, rfl⟩
set_option maxRecDepth 100000 in
theorem cv_13_250 : Val 13 250 (1, nX12_count, 1, 12) := ⟨pe_X12_count, rfl, rfl, ta_9 223 rfl, ta_9 224 rfl, ta_9 225 rfl, ta_1 14 rfl, by decide +kernel, rfl⟩
set_option maxRecDepth 100000 in
theorem cv_14_9 : Val 14 9 (20, 1, 0, 0) := show Cond.fieldLink (rn 14) 9 RJ0 "value" "[B" ∈ lw_tbl from ta_10 5 rfl
set_option maxRecDepth 100000 in
theorem cv_14_15 : Val 14 15 (20, 0, 0, 0) := show Cond.fieldLink (rn 14) 15 RJ0 "coder" "B" ∈ lw_tbl from ta_10 6 rfl
set_option maxRecDepth 100000 in
theorem cv_14_38 : Val 14 38 (19, 0, 0, 0) := show Cond.fieldLink (rn 14) 38 RJ0 "COMPACT_STRINGS" "Z" ∈ lw_tbl from ta_4 34 rfl
set_option maxRecDepth 100000 in
theorem cv_14_335 : Val 14 335 (10, nJ0_coder_7d493, 0, 14) := ⟨pe_J0_coder_7d493, rfl, ta_4 30 rfl, ta_4 31 rfl, ta_4 32 rfl, ta_1 19 rfl, by decide +kernel, rfl, rfl⟩
set_option maxRecDepth 100000 in
theorem cv_14_492 : Val 14 492 (10, nJ0_isLatin1_aae02, 0, 14) := ⟨pe_J0_isLatin1_aae02, rfl, ta_4 40 rfl, ta_4 41 rfl, ta_4 42 rfl, ta_1 19 rfl, by decide +kernel, rfl, rfl⟩
set_option maxRecDepth 100000 in
theorem cv_14_495 : Val 14 495 (2, nJ1_charAt_3b067, 2, 15) := ⟨pe_J1_charAt_3b067, rfl, ta_4 44 rfl, ta_4 45 rfl, ta_1 20 rfl, by decide +kernel⟩
set_option maxRecDepth 100000 in
theorem cv_14_1053 : Val 14 1053 (21, 0, 0, 0) := show Cond.fieldLink (rn 14) 1053 RJ3 "SIOOBE_FORMATTER" "Ljava/util/function/BiFunction;" ∈ lw_tbl from ta_4 50 rfl
set_option maxRecDepth 100000 in
theorem cv_14_1059 : Val 14 1059 (2, nJ3_checkIndex_8e157, 3, 17) := ⟨pe_J3_checkIndex_8e157, rfl, ta_4 52 rfl, ta_4 53 rfl, ta_1 21 rfl, by decide +kernel⟩
set_option maxRecDepth 100000 in
theorem cv_15_9 : Val 15 9 (2, nJ0_checkIndex_df160, 2, 14) := ⟨pe_J0_checkIndex_df160, rfl, ta_4 47 rfl, ta_4 48 rfl, ta_1 19 rfl, by decide +kernel⟩
def cpT0_0 : List (Nat × Nat × Nat × Nat × Nat) := [(3, 6, 0, 0, 0), (9, 0, 0, 1, 0), (15, 0, 0, 2, 0), (18, 1, nX0_clear, 0, 0), (21, 0, 0, 0, 0), (25, 2, nJ7_fill_53178, 2, 16), (31, 7, 0, 0, 0), (37, 1, nX7_peek, 0, 7), (43, 1, nX0_readLine, 1, 0), (47, 1, nX7_numeral, 2, 7), (51, 0, 7, 4, 0), (54, 3, nX11_pick, 2, 11), (58, 1, nX7_noneSuch, 0, 7), (62, 3, nX11_put, 3, 11), (66, 1, nX7_sign, 1, 7), (70, 0, 0, 3, 0), (73, 0, 0, 4, 0), (76, 0, 3, 5, 0), (81, 0, 8, 5, 0), (86, 0, 8, 6, 0), (89, 0, 3, 7, 0), (92, 1, nX8_arriving, 2, 8), (96, 1, nX0_isRight, 2, 0), (100, 1, nX0_tallyUp, 2, 0)]
theorem cvs0_0 : ∀ x ∈ cpT0_0, Val 0 x.1 x.2 := List.forall_mem_cons.mpr ⟨cv_0_3, List.forall_mem_cons.mpr ⟨cv_0_9, List.forall_mem_cons.mpr ⟨cv_0_15, List.forall_mem_cons.mpr ⟨cv_0_18, List.forall_mem_cons.mpr ⟨cv_0_21, List.forall_mem_cons.mpr ⟨cv_0_25, List.forall_mem_cons.mpr ⟨cv_0_31, List.forall_mem_cons.mpr ⟨cv_0_37, List.forall_mem_cons.mpr ⟨cv_0_43, List.forall_mem_cons.mpr ⟨cv_0_47, List.forall_mem_cons.mpr ⟨cv_0_51, List.forall_mem_cons.mpr ⟨cv_0_54, List.forall_mem_cons.mpr ⟨cv_0_58, List.forall_mem_cons.mpr ⟨cv_0_62, List.forall_mem_cons.mpr ⟨cv_0_66, List.forall_mem_cons.mpr ⟨cv_0_70, List.forall_mem_cons.mpr ⟨cv_0_73, List.forall_mem_cons.mpr ⟨cv_0_76, List.forall_mem_cons.mpr ⟨cv_0_81, List.forall_mem_cons.mpr ⟨cv_0_86, List.forall_mem_cons.mpr ⟨cv_0_89, List.forall_mem_cons.mpr ⟨cv_0_92, List.forall_mem_cons.mpr ⟨cv_0_96, List.forall_mem_cons.mpr ⟨cv_0_100, fun _ h => absurd h List.not_mem_nil⟩⟩⟩⟩⟩⟩⟩⟩⟩⟩⟩⟩⟩⟩⟩⟩⟩⟩⟩⟩⟩⟩⟩⟩
def cpT0_1 : List (Nat × Nat × Nat × Nat × Nat) := [(104, 0, 8, 2, 0), (107, 1, nX0_findLeaks, 2, 0), (110, 0, 0, 5, 0), (113, 0, 0, 6, 0), (116, 1, nX0_worstAt, 1, 0), (120, 8, 0, 0, 0)]
theorem cvs0_1 : ∀ x ∈ cpT0_1, Val 0 x.1 x.2 := List.forall_mem_cons.mpr ⟨cv_0_104, List.forall_mem_cons.mpr ⟨cv_0_107, List.forall_mem_cons.mpr ⟨cv_0_110, List.forall_mem_cons.mpr ⟨cv_0_113, List.forall_mem_cons.mpr ⟨cv_0_116, List.forall_mem_cons.mpr ⟨cv_0_120, fun _ h => absurd h List.not_mem_nil⟩⟩⟩⟩⟩⟩
theorem cvs0 : ∀ x ∈ cpT0, Val 0 x.1 x.2 := by
  show ∀ x ∈ cpT0_0 ++ (cpT0_1), Val 0 x.1 x.2
  exact List.forall_mem_append.mpr ⟨cvs0_0, cvs0_1⟩
def cpT1_0 : List (Nat × Nat × Nat × Nat × Nat) := [(3, 6, 0, 0, 0), (9, 0, 1, 4, 0), (15, 0, 1, 5, 0), (18, 0, 1, 6, 0), (21, 0, 1, 7, 0), (24, 0, 1, 8, 0), (27, 0, 1, 9, 0), (30, 0, 1, 10, 0), (33, 0, 1, 11, 0), (36, 0, 1, 12, 0), (39, 1, nX1_clear, 0, 1), (42, 0, 1, 0, 0), (46, 0, 1, 1, 0), (49, 0, 1, 2, 0), (52, 0, 1, 3, 0), (55, 7, 0, 0, 0), (61, 1, nX7_peek, 0, 7), (67, 15, 0, 0, 0), (69, 1, nX7_named, 1, 7), (73, 1, nX1_isFull, 1, 1), (77, 1, nX7_tooMany, 0, 7), (81, 1, nX1_readClause, 2, 1), (85, 1, nX7_sign, 1, 7), (89, 1, nX1_readPiece, 1, 1)]
theorem cvs1_0 : ∀ x ∈ cpT1_0, Val 1 x.1 x.2 := List.forall_mem_cons.mpr ⟨cv_1_3, List.forall_mem_cons.mpr ⟨cv_1_9, List.forall_mem_cons.mpr ⟨cv_1_15, List.forall_mem_cons.mpr ⟨cv_1_18, List.forall_mem_cons.mpr ⟨cv_1_21, List.forall_mem_cons.mpr ⟨cv_1_24, List.forall_mem_cons.mpr ⟨cv_1_27, List.forall_mem_cons.mpr ⟨cv_1_30, List.forall_mem_cons.mpr ⟨cv_1_33, List.forall_mem_cons.mpr ⟨cv_1_36, List.forall_mem_cons.mpr ⟨cv_1_39, List.forall_mem_cons.mpr ⟨cv_1_42, List.forall_mem_cons.mpr ⟨cv_1_46, List.forall_mem_cons.mpr ⟨cv_1_49, List.forall_mem_cons.mpr ⟨cv_1_52, List.forall_mem_cons.mpr ⟨cv_1_55, List.forall_mem_cons.mpr ⟨cv_1_61, List.forall_mem_cons.mpr ⟨cv_1_67, List.forall_mem_cons.mpr ⟨cv_1_69, List.forall_mem_cons.mpr ⟨cv_1_73, List.forall_mem_cons.mpr ⟨cv_1_77, List.forall_mem_cons.mpr ⟨cv_1_81, List.forall_mem_cons.mpr ⟨cv_1_85, List.forall_mem_cons.mpr ⟨cv_1_89, fun _ h => absurd h List.not_mem_nil⟩⟩⟩⟩⟩⟩⟩⟩⟩⟩⟩⟩⟩⟩⟩⟩⟩⟩⟩⟩⟩⟩⟩⟩
def cpT1_1 : List (Nat × Nat × Nat × Nat × Nat) := [(93, 1, nX1_readCollar, 1, 1), (96, 1, nX1_readFire, 1, 1), (99, 1, nX1_readHope, 1, 1), (102, 2, nX1_readTo, 5, 1), (106, 3, nX11_pick, 2, 11), (110, 1, nX7_noneSuch, 0, 7), (113, 1, nX1_join, 2, 1), (117, 1, nX7_numeral, 2, 7), (121, 0, 7, 4, 0), (124, 3, nX11_put, 3, 11), (128, 3, nX11_bit, 2, 11), (132, 1, nX1_footOf, 1, 1), (136, 1, nX1_headOf, 1, 1), (139, 1, nX1_joins, 2, 1), (142, 9, 0, 0, 0)]
theorem cvs1_1 : ∀ x ∈ cpT1_1, Val 1 x.1 x.2 := List.forall_mem_cons.mpr ⟨cv_1_93, List.forall_mem_cons.mpr ⟨cv_1_96, List.forall_mem_cons.mpr ⟨cv_1_99, List.forall_mem_cons.mpr ⟨cv_1_102, List.forall_mem_cons.mpr ⟨cv_1_106, List.forall_mem_cons.mpr ⟨cv_1_110, List.forall_mem_cons.mpr ⟨cv_1_113, List.forall_mem_cons.mpr ⟨cv_1_117, List.forall_mem_cons.mpr ⟨cv_1_121, List.forall_mem_cons.mpr ⟨cv_1_124, List.forall_mem_cons.mpr ⟨cv_1_128, List.forall_mem_cons.mpr ⟨cv_1_132, List.forall_mem_cons.mpr ⟨cv_1_136, List.forall_mem_cons.mpr ⟨cv_1_139, List.forall_mem_cons.mpr ⟨cv_1_142, fun _ h => absurd h List.not_mem_nil⟩⟩⟩⟩⟩⟩⟩⟩⟩⟩⟩⟩⟩⟩⟩
theorem cvs1 : ∀ x ∈ cpT1, Val 1 x.1 x.2 := by
  show ∀ x ∈ cpT1_0 ++ (cpT1_1), Val 1 x.1 x.2
  exact List.forall_mem_append.mpr ⟨cvs1_0, cvs1_1⟩
def cpT2_0 : List (Nat × Nat × Nat × Nat × Nat) := [(3, 6, 0, 0, 0), (9, 0, 2, 0, 0), (15, 0, 2, 2, 0), (18, 0, 2, 3, 0), (21, 1, nX2_beUntold, 0, 2), (24, 16, 0, 0, 0), (27, 0, 2, 1, 0), (31, 7, 0, 0, 0), (37, 1, nX2_readSum, 2, 2), (41, 1, nX7_ended, 0, 7), (47, 1, nX2_readProduct, 2, 2), (50, 1, nX7_peek, 0, 7), (54, 1, nX7_sign, 1, 7), (58, 1, nX2_add, 1, 2), (62, 1, nX2_readUnit, 2, 2), (65, 2, nX7_isDigit, 1, 7), (68, 1, nX7_numeral, 2, 7), (72, 0, 7, 4, 0), (75, 1, nX7_tooMany, 0, 7), (78, 15, 1, 0, 0), (80, 1, nX7_named, 1, 7), (84, 3, nX11_put, 3, 11), (88, 9, 0, 0, 0), (94, 3, nX11_pick, 2, 11)]
theorem cvs2_0 : ∀ x ∈ cpT2_0, Val 2 x.1 x.2 := List.forall_mem_cons.mpr ⟨cv_2_3, List.forall_mem_cons.mpr ⟨cv_2_9, List.forall_mem_cons.mpr ⟨cv_2_15, List.forall_mem_cons.mpr ⟨cv_2_18, List.forall_mem_cons.mpr ⟨cv_2_21, List.forall_mem_cons.mpr ⟨cv_2_24, List.forall_mem_cons.mpr ⟨cv_2_27, List.forall_mem_cons.mpr ⟨cv_2_31, List.forall_mem_cons.mpr ⟨cv_2_37, List.forall_mem_cons.mpr ⟨cv_2_41, List.forall_mem_cons.mpr ⟨cv_2_47, List.forall_mem_cons.mpr ⟨cv_2_50, List.forall_mem_cons.mpr ⟨cv_2_54, List.forall_mem_cons.mpr ⟨cv_2_58, List.forall_mem_cons.mpr ⟨cv_2_62, List.forall_mem_cons.mpr ⟨cv_2_65, List.forall_mem_cons.mpr ⟨cv_2_68, List.forall_mem_cons.mpr ⟨cv_2_72, List.forall_mem_cons.mpr ⟨cv_2_75, List.forall_mem_cons.mpr ⟨cv_2_78, List.forall_mem_cons.mpr ⟨cv_2_80, List.forall_mem_cons.mpr ⟨cv_2_84, List.forall_mem_cons.mpr ⟨cv_2_88, List.forall_mem_cons.mpr ⟨cv_2_94, fun _ h => absurd h List.not_mem_nil⟩⟩⟩⟩⟩⟩⟩⟩⟩⟩⟩⟩⟩⟩⟩⟩⟩⟩⟩⟩⟩⟩⟩⟩
def cpT2_1 : List (Nat × Nat × Nat × Nat × Nat) := [(98, 2, nX2_reckon, 3, 2)]
theorem cvs2_1 : ∀ x ∈ cpT2_1, Val 2 x.1 x.2 := List.forall_mem_cons.mpr ⟨cv_2_98, fun _ h => absurd h List.not_mem_nil⟩
theorem cvs2 : ∀ x ∈ cpT2, Val 2 x.1 x.2 := by
  show ∀ x ∈ cpT2_0 ++ (cpT2_1), Val 2 x.1 x.2
  exact List.forall_mem_append.mpr ⟨cvs2_0, cvs2_1⟩
def cpT3_0 : List (Nat × Nat × Nat × Nat × Nat) := [(3, 6, 0, 0, 0), (9, 0, 3, 0, 0), (15, 0, 3, 1, 0), (18, 0, 3, 2, 0), (21, 0, 3, 3, 0), (24, 2, nJ7_fill_53178, 2, 16), (30, 0, 3, 4, 0), (34, 0, 3, 5, 0), (37, 0, 3, 6, 0), (40, 0, 3, 7, 0), (43, 7, 0, 0, 0), (49, 3, nX11_bit, 2, 11), (53, 0, 1, 4, 0), (58, 3, nX11_pick, 2, 11), (62, 1, nX3_placeOf, 1, 3), (66, 1, nX3_wayOf, 1, 3), (69, 1, nX1_follows, 2, 1), (73, 1, nX3_canLay, 2, 3), (77, 3, nX11_put, 3, 11)]
theorem cvs3_0 : ∀ x ∈ cpT3_0, Val 3 x.1 x.2 := List.forall_mem_cons.mpr ⟨cv_3_3, List.forall_mem_cons.mpr ⟨cv_3_9, List.forall_mem_cons.mpr ⟨cv_3_15, List.forall_mem_cons.mpr ⟨cv_3_18, List.forall_mem_cons.mpr ⟨cv_3_21, List.forall_mem_cons.mpr ⟨cv_3_24, List.forall_mem_cons.mpr ⟨cv_3_30, List.forall_mem_cons.mpr ⟨cv_3_34, List.forall_mem_cons.mpr ⟨cv_3_37, List.forall_mem_cons.mpr ⟨cv_3_40, List.forall_mem_cons.mpr ⟨cv_3_43, List.forall_mem_cons.mpr ⟨cv_3_49, List.forall_mem_cons.mpr ⟨cv_3_53, List.forall_mem_cons.mpr ⟨cv_3_58, List.forall_mem_cons.mpr ⟨cv_3_62, List.forall_mem_cons.mpr ⟨cv_3_66, List.forall_mem_cons.mpr ⟨cv_3_69, List.forall_mem_cons.mpr ⟨cv_3_73, List.forall_mem_cons.mpr ⟨cv_3_77, fun _ h => absurd h List.not_mem_nil⟩⟩⟩⟩⟩⟩⟩⟩⟩⟩⟩⟩⟩⟩⟩⟩⟩⟩⟩
theorem cvs3 : ∀ x ∈ cpT3, Val 3 x.1 x.2 := by
  show ∀ x ∈ cpT3_0, Val 3 x.1 x.2
  exact cvs3_0
def cpT4_0 : List (Nat × Nat × Nat × Nat × Nat) := [(5, 6, 0, 0, 0), (11, 0, 4, 0, 0), (15, 0, 4, 1, 0), (18, 0, 4, 2, 0), (21, 0, 4, 3, 0), (25, 0, 4, 4, 0), (28, 1, nX3_writeTo, 2, 3), (32, 1, nX3_readFrom, 2, 3), (35, 7, 0, 0, 0)]
theorem cvs4_0 : ∀ x ∈ cpT4_0, Val 4 x.1 x.2 := List.forall_mem_cons.mpr ⟨cv_4_5, List.forall_mem_cons.mpr ⟨cv_4_11, List.forall_mem_cons.mpr ⟨cv_4_15, List.forall_mem_cons.mpr ⟨cv_4_18, List.forall_mem_cons.mpr ⟨cv_4_21, List.forall_mem_cons.mpr ⟨cv_4_25, List.forall_mem_cons.mpr ⟨cv_4_28, List.forall_mem_cons.mpr ⟨cv_4_32, List.forall_mem_cons.mpr ⟨cv_4_35, fun _ h => absurd h List.not_mem_nil⟩⟩⟩⟩⟩⟩⟩⟩⟩
theorem cvs4 : ∀ x ∈ cpT4, Val 4 x.1 x.2 := by
  show ∀ x ∈ cpT4_0, Val 4 x.1 x.2
  exact cvs4_0
def cpT5_0 : List (Nat × Nat × Nat × Nat × Nat) := [(5, 6, 0, 0, 0), (11, 0, 5, 2, 0), (15, 0, 5, 3, 0), (18, 0, 5, 5, 0), (21, 0, 5, 11, 0), (25, 0, 5, 12, 0), (28, 0, 5, 14, 0), (31, 0, 5, 15, 0), (35, 0, 5, 16, 0), (38, 0, 5, 0, 0), (42, 0, 5, 1, 0), (46, 0, 5, 4, 0), (50, 0, 5, 8, 0), (53, 1, nX5_forgetShort, 0, 5), (56, 1, nX5_longestNow, 0, 5), (60, 0, 5, 7, 0), (63, 0, 5, 6, 0), (66, 1, nX5_firstLeaving, 3, 5), (70, 0, 1, 4, 0), (75, 3, nX11_pick, 2, 11), (79, 0, 1, 0, 0), (82, 1, nX1_follows, 2, 1), (86, 1, nX5_fillFollowers, 0, 5), (89, 3, nX11_bit, 2, 11)]
theorem cvs5_0 : ∀ x ∈ cpT5_0, Val 5 x.1 x.2 := List.forall_mem_cons.mpr ⟨cv_5_5, List.forall_mem_cons.mpr ⟨cv_5_11, List.forall_mem_cons.mpr ⟨cv_5_15, List.forall_mem_cons.mpr ⟨cv_5_18, List.forall_mem_cons.mpr ⟨cv_5_21, List.forall_mem_cons.mpr ⟨cv_5_25, List.forall_mem_cons.mpr ⟨cv_5_28, List.forall_mem_cons.mpr ⟨cv_5_31, List.forall_mem_cons.mpr ⟨cv_5_35, List.forall_mem_cons.mpr ⟨cv_5_38, List.forall_mem_cons.mpr ⟨cv_5_42, List.forall_mem_cons.mpr ⟨cv_5_46, List.forall_mem_cons.mpr ⟨cv_5_50, List.forall_mem_cons.mpr ⟨cv_5_53, List.forall_mem_cons.mpr ⟨cv_5_56, List.forall_mem_cons.mpr ⟨cv_5_60, List.forall_mem_cons.mpr ⟨cv_5_63, List.forall_mem_cons.mpr ⟨cv_5_66, List.forall_mem_cons.mpr ⟨cv_5_70, List.forall_mem_cons.mpr ⟨cv_5_75, List.forall_mem_cons.mpr ⟨cv_5_79, List.forall_mem_cons.mpr ⟨cv_5_82, List.forall_mem_cons.mpr ⟨cv_5_86, List.forall_mem_cons.mpr ⟨cv_5_89, fun _ h => absurd h List.not_mem_nil⟩⟩⟩⟩⟩⟩⟩⟩⟩⟩⟩⟩⟩⟩⟩⟩⟩⟩⟩⟩⟩⟩⟩⟩
def cpT5_1 : List (Nat × Nat × Nat × Nat × Nat) := [(93, 1, nX5_longestBehind, 2, 5), (96, 3, nX11_put, 3, 11), (100, 1, nX5_canFollow, 3, 5), (104, 1, nX5_longWith, 2, 5), (107, 8, 0, 0, 0), (112, 0, 5, 9, 0), (115, 0, 5, 10, 0), (118, 1, nX1_joins, 2, 1), (121, 1, nX5_tryCollar, 2, 5), (125, 1, nX1_join, 2, 1), (128, 1, nX1_part, 2, 1), (131, 0, 5, 13, 0), (134, 2, nJ7_fill_d0a16, 2, 16), (140, 0, 3, 7, 0), (145, 1, nX5_searchShort, 6, 5), (149, 1, nX1_reaches, 3, 1), (152, 7, 0, 0, 0), (158, 1, nX8_behindPiece, 5, 8), (164, 1, nX5_isNew, 1, 5), (168, 14, 76800, 0, 0), (169, 2, nX5_leastOf, 1, 5), (173, 1, nX5_areFit, 2, 5)]
theorem cvs5_1 : ∀ x ∈ cpT5_1, Val 5 x.1 x.2 := List.forall_mem_cons.mpr ⟨cv_5_93, List.forall_mem_cons.mpr ⟨cv_5_96, List.forall_mem_cons.mpr ⟨cv_5_100, List.forall_mem_cons.mpr ⟨cv_5_104, List.forall_mem_cons.mpr ⟨cv_5_107, List.forall_mem_cons.mpr ⟨cv_5_112, List.forall_mem_cons.mpr ⟨cv_5_115, List.forall_mem_cons.mpr ⟨cv_5_118, List.forall_mem_cons.mpr ⟨cv_5_121, List.forall_mem_cons.mpr ⟨cv_5_125, List.forall_mem_cons.mpr ⟨cv_5_128, List.forall_mem_cons.mpr ⟨cv_5_131, List.forall_mem_cons.mpr ⟨cv_5_134, List.forall_mem_cons.mpr ⟨cv_5_140, List.forall_mem_cons.mpr ⟨cv_5_145, List.forall_mem_cons.mpr ⟨cv_5_149, List.forall_mem_cons.mpr ⟨cv_5_152, List.forall_mem_cons.mpr ⟨cv_5_158, List.forall_mem_cons.mpr ⟨cv_5_164, List.forall_mem_cons.mpr ⟨cv_5_168, List.forall_mem_cons.mpr ⟨cv_5_169, List.forall_mem_cons.mpr ⟨cv_5_173, fun _ h => absurd h List.not_mem_nil⟩⟩⟩⟩⟩⟩⟩⟩⟩⟩⟩⟩⟩⟩⟩⟩⟩⟩⟩⟩⟩⟩
theorem cvs5 : ∀ x ∈ cpT5, Val 5 x.1 x.2 := by
  show ∀ x ∈ cpT5_0 ++ (cpT5_1), Val 5 x.1 x.2
  exact List.forall_mem_append.mpr ⟨cvs5_0, cvs5_1⟩
def cpT6_0 : List (Nat × Nat × Nat × Nat × Nat) := [(3, 6, 0, 0, 0), (11, 0, 6, 1, 0), (15, 0, 6, 0, 0), (19, 0, 3, 5, 0), (25, 0, 6, 2, 0), (28, 0, 6, 3, 0), (31, 0, 6, 4, 0), (34, 0, 6, 5, 0), (37, 1, nX6_fillArrives, 1, 6), (41, 1, nX6_canTake, 2, 6), (45, 1, nX6_isRest, 3, 6), (49, 1, nX6_noteRest, 2, 6), (53, 1, nX6_bendMore, 2, 6), (56, 0, 3, 7, 0), (59, 1, nX8_arriving, 2, 8), (65, 3, nX11_put, 3, 11), (69, 0, 8, 3, 0), (72, 3, nX11_pick, 2, 11), (76, 0, 3, 1, 0), (79, 0, 3, 0, 0), (82, 1, nX6_streetHas, 2, 6), (86, 1, nX6_houseHas, 2, 6), (89, 1, nX6_paid, 1, 6), (93, 1, nX6_asTold, 1, 6)]
theorem cvs6_0 : ∀ x ∈ cpT6_0, Val 6 x.1 x.2 := List.forall_mem_cons.mpr ⟨cv_6_3, List.forall_mem_cons.mpr ⟨cv_6_11, List.forall_mem_cons.mpr ⟨cv_6_15, List.forall_mem_cons.mpr ⟨cv_6_19, List.forall_mem_cons.mpr ⟨cv_6_25, List.forall_mem_cons.mpr ⟨cv_6_28, List.forall_mem_cons.mpr ⟨cv_6_31, List.forall_mem_cons.mpr ⟨cv_6_34, List.forall_mem_cons.mpr ⟨cv_6_37, List.forall_mem_cons.mpr ⟨cv_6_41, List.forall_mem_cons.mpr ⟨cv_6_45, List.forall_mem_cons.mpr ⟨cv_6_49, List.forall_mem_cons.mpr ⟨cv_6_53, List.forall_mem_cons.mpr ⟨cv_6_56, List.forall_mem_cons.mpr ⟨cv_6_59, List.forall_mem_cons.mpr ⟨cv_6_65, List.forall_mem_cons.mpr ⟨cv_6_69, List.forall_mem_cons.mpr ⟨cv_6_72, List.forall_mem_cons.mpr ⟨cv_6_76, List.forall_mem_cons.mpr ⟨cv_6_79, List.forall_mem_cons.mpr ⟨cv_6_82, List.forall_mem_cons.mpr ⟨cv_6_86, List.forall_mem_cons.mpr ⟨cv_6_89, List.forall_mem_cons.mpr ⟨cv_6_93, fun _ h => absurd h List.not_mem_nil⟩⟩⟩⟩⟩⟩⟩⟩⟩⟩⟩⟩⟩⟩⟩⟩⟩⟩⟩⟩⟩⟩⟩⟩
def cpT6_1 : List (Nat × Nat × Nat × Nat × Nat) := [(96, 0, 6, 6, 0)]
theorem cvs6_1 : ∀ x ∈ cpT6_1, Val 6 x.1 x.2 := List.forall_mem_cons.mpr ⟨cv_6_96, fun _ h => absurd h List.not_mem_nil⟩
theorem cvs6 : ∀ x ∈ cpT6, Val 6 x.1 x.2 := by
  show ∀ x ∈ cpT6_0 ++ (cpT6_1), Val 6 x.1 x.2
  exact List.forall_mem_append.mpr ⟨cvs6_0, cvs6_1⟩
def cpT7_0 : List (Nat × Nat × Nat × Nat × Nat) := [(3, 6, 0, 0, 0), (11, 0, 7, 0, 0), (15, 0, 7, 3, 0), (19, 0, 7, 1, 0), (22, 0, 7, 5, 0), (25, 0, 7, 6, 0), (28, 0, 7, 2, 0), (31, 1, nX7_byteAt, 1, 7), (35, 0, 7, 7, 0), (38, 1, nX7_peek, 0, 7), (42, 1, nX7_blame, 1, 7), (46, 2, nX7_isDigit, 1, 7), (49, 14, 100000, 0, 0), (50, 9, 0, 0, 0), (56, 0, 7, 4, 0), (59, 3, nX11_within, 3, 11), (63, 1, nX7_placeAmong, 1, 7), (67, 10, nJ0_length_8abf5, 0, 14), (72, 10, nJ0_charAt_5068e, 1, 14)]
theorem cvs7_0 : ∀ x ∈ cpT7_0, Val 7 x.1 x.2 := List.forall_mem_cons.mpr ⟨cv_7_3, List.forall_mem_cons.mpr ⟨cv_7_11, List.forall_mem_cons.mpr ⟨cv_7_15, List.forall_mem_cons.mpr ⟨cv_7_19, List.forall_mem_cons.mpr ⟨cv_7_22, List.forall_mem_cons.mpr ⟨cv_7_25, List.forall_mem_cons.mpr ⟨cv_7_28, List.forall_mem_cons.mpr ⟨cv_7_31, List.forall_mem_cons.mpr ⟨cv_7_35, List.forall_mem_cons.mpr ⟨cv_7_38, List.forall_mem_cons.mpr ⟨cv_7_42, List.forall_mem_cons.mpr ⟨cv_7_46, List.forall_mem_cons.mpr ⟨cv_7_49, List.forall_mem_cons.mpr ⟨cv_7_50, List.forall_mem_cons.mpr ⟨cv_7_56, List.forall_mem_cons.mpr ⟨cv_7_59, List.forall_mem_cons.mpr ⟨cv_7_63, List.forall_mem_cons.mpr ⟨cv_7_67, List.forall_mem_cons.mpr ⟨cv_7_72, fun _ h => absurd h List.not_mem_nil⟩⟩⟩⟩⟩⟩⟩⟩⟩⟩⟩⟩⟩⟩⟩⟩⟩⟩⟩
theorem cvs7 : ∀ x ∈ cpT7, Val 7 x.1 x.2 := by
  show ∀ x ∈ cpT7_0, Val 7 x.1 x.2
  exact cvs7_0
def cpT8_0 : List (Nat × Nat × Nat × Nat × Nat) := [(3, 6, 0, 0, 0), (9, 0, 8, 2, 0), (15, 0, 8, 3, 0), (18, 0, 8, 4, 0), (21, 0, 8, 5, 0), (25, 0, 8, 0, 0), (29, 0, 8, 1, 0), (33, 0, 3, 5, 0), (38, 0, 3, 0, 0), (41, 1, nX3_wayOf, 1, 3), (45, 1, nX8_behindPiece, 5, 8), (49, 0, 8, 6, 0), (52, 8, 0, 0, 0), (58, 0, 3, 1, 0), (61, 3, nX11_pick, 2, 11), (65, 0, 3, 2, 0), (68, 0, 1, 5, 0), (73, 0, 1, 4, 0), (76, 1, nX2_tellPiece, 4, 2), (82, 1, nX2_tellNow, 5, 2), (86, 1, nX2_left, 0, 2), (89, 0, 1, 2, 0), (92, 0, 3, 7, 0), (95, 1, nX8_arriving, 2, 8)]
theorem cvs8_0 : ∀ x ∈ cpT8_0, Val 8 x.1 x.2 := List.forall_mem_cons.mpr ⟨cv_8_3, List.forall_mem_cons.mpr ⟨cv_8_9, List.forall_mem_cons.mpr ⟨cv_8_15, List.forall_mem_cons.mpr ⟨cv_8_18, List.forall_mem_cons.mpr ⟨cv_8_21, List.forall_mem_cons.mpr ⟨cv_8_25, List.forall_mem_cons.mpr ⟨cv_8_29, List.forall_mem_cons.mpr ⟨cv_8_33, List.forall_mem_cons.mpr ⟨cv_8_38, List.forall_mem_cons.mpr ⟨cv_8_41, List.forall_mem_cons.mpr ⟨cv_8_45, List.forall_mem_cons.mpr ⟨cv_8_49, List.forall_mem_cons.mpr ⟨cv_8_52, List.forall_mem_cons.mpr ⟨cv_8_58, List.forall_mem_cons.mpr ⟨cv_8_61, List.forall_mem_cons.mpr ⟨cv_8_65, List.forall_mem_cons.mpr ⟨cv_8_68, List.forall_mem_cons.mpr ⟨cv_8_73, List.forall_mem_cons.mpr ⟨cv_8_76, List.forall_mem_cons.mpr ⟨cv_8_82, List.forall_mem_cons.mpr ⟨cv_8_86, List.forall_mem_cons.mpr ⟨cv_8_89, List.forall_mem_cons.mpr ⟨cv_8_92, List.forall_mem_cons.mpr ⟨cv_8_95, fun _ h => absurd h List.not_mem_nil⟩⟩⟩⟩⟩⟩⟩⟩⟩⟩⟩⟩⟩⟩⟩⟩⟩⟩⟩⟩⟩⟩⟩⟩
def cpT8_1 : List (Nat × Nat × Nat × Nat × Nat) := [(99, 1, nX3_longNow, 1, 3), (103, 1, nX1_reaches, 3, 1), (107, 1, nX8_lostAt, 2, 8), (110, 3, nX11_bit, 2, 11), (113, 2, nJ7_fill_53178, 2, 16)]
theorem cvs8_1 : ∀ x ∈ cpT8_1, Val 8 x.1 x.2 := List.forall_mem_cons.mpr ⟨cv_8_99, List.forall_mem_cons.mpr ⟨cv_8_103, List.forall_mem_cons.mpr ⟨cv_8_107, List.forall_mem_cons.mpr ⟨cv_8_110, List.forall_mem_cons.mpr ⟨cv_8_113, fun _ h => absurd h List.not_mem_nil⟩⟩⟩⟩⟩
theorem cvs8 : ∀ x ∈ cpT8, Val 8 x.1 x.2 := by
  show ∀ x ∈ cpT8_0 ++ (cpT8_1), Val 8 x.1 x.2
  exact List.forall_mem_append.mpr ⟨cvs8_0, cvs8_1⟩
def cpT9_0 : List (Nat × Nat × Nat × Nat × Nat) := [(5, 6, 0, 0, 0), (11, 0, 9, 0, 0), (15, 0, 9, 1, 0), (18, 0, 9, 2, 0), (21, 0, 9, 4, 0), (24, 0, 9, 5, 0), (27, 0, 9, 3, 0), (31, 0, 9, 6, 0), (34, 1, nX7_peek, 0, 7), (40, 1, nX9_readClose, 1, 9), (44, 1, nX9_readStep, 2, 9), (48, 3, nX11_pick, 2, 11), (52, 3, nX11_put, 3, 11), (56, 1, nX9_add, 3, 9), (60, 1, nX7_sign, 1, 7), (64, 15, 2, 0, 0), (66, 1, nX7_named, 1, 7), (70, 1, nX9_readAgain, 1, 9), (73, 1, nX7_numeral, 2, 7), (77, 0, 7, 4, 0), (80, 1, nX7_tooMany, 0, 7), (84, 9, 0, 0, 0), (90, 0, 9, 7, 0), (93, 1, nX9_behindClose, 1, 9)]
theorem cvs9_0 : ∀ x ∈ cpT9_0, Val 9 x.1 x.2 := List.forall_mem_cons.mpr ⟨cv_9_5, List.forall_mem_cons.mpr ⟨cv_9_11, List.forall_mem_cons.mpr ⟨cv_9_15, List.forall_mem_cons.mpr ⟨cv_9_18, List.forall_mem_cons.mpr ⟨cv_9_21, List.forall_mem_cons.mpr ⟨cv_9_24, List.forall_mem_cons.mpr ⟨cv_9_27, List.forall_mem_cons.mpr ⟨cv_9_31, List.forall_mem_cons.mpr ⟨cv_9_34, List.forall_mem_cons.mpr ⟨cv_9_40, List.forall_mem_cons.mpr ⟨cv_9_44, List.forall_mem_cons.mpr ⟨cv_9_48, List.forall_mem_cons.mpr ⟨cv_9_52, List.forall_mem_cons.mpr ⟨cv_9_56, List.forall_mem_cons.mpr ⟨cv_9_60, List.forall_mem_cons.mpr ⟨cv_9_64, List.forall_mem_cons.mpr ⟨cv_9_66, List.forall_mem_cons.mpr ⟨cv_9_70, List.forall_mem_cons.mpr ⟨cv_9_73, List.forall_mem_cons.mpr ⟨cv_9_77, List.forall_mem_cons.mpr ⟨cv_9_80, List.forall_mem_cons.mpr ⟨cv_9_84, List.forall_mem_cons.mpr ⟨cv_9_90, List.forall_mem_cons.mpr ⟨cv_9_93, fun _ h => absurd h List.not_mem_nil⟩⟩⟩⟩⟩⟩⟩⟩⟩⟩⟩⟩⟩⟩⟩⟩⟩⟩⟩⟩⟩⟩⟩⟩
def cpT9_1 : List (Nat × Nat × Nat × Nat × Nat) := [(97, 1, nX9_behindAgain, 1, 9), (100, 1, nX9_isDone, 4, 9), (104, 1, nX3_turnRound, 1, 3), (110, 1, nX3_layDown, 2, 3), (114, 1, nX3_liftLast, 0, 3), (117, 1, nX3_bendTo, 2, 3), (120, 1, nX3_burstOnce, 1, 3), (123, 1, nX3_patchOnce, 1, 3), (126, 1, nX3_hopeFor, 1, 3), (129, 0, 3, 6, 0), (132, 1, nX8_reachedBits, 1, 8), (138, 1, nX3_passHour, 1, 3)]
theorem cvs9_1 : ∀ x ∈ cpT9_1, Val 9 x.1 x.2 := List.forall_mem_cons.mpr ⟨cv_9_97, List.forall_mem_cons.mpr ⟨cv_9_100, List.forall_mem_cons.mpr ⟨cv_9_104, List.forall_mem_cons.mpr ⟨cv_9_110, List.forall_mem_cons.mpr ⟨cv_9_114, List.forall_mem_cons.mpr ⟨cv_9_117, List.forall_mem_cons.mpr ⟨cv_9_120, List.forall_mem_cons.mpr ⟨cv_9_123, List.forall_mem_cons.mpr ⟨cv_9_126, List.forall_mem_cons.mpr ⟨cv_9_129, List.forall_mem_cons.mpr ⟨cv_9_132, List.forall_mem_cons.mpr ⟨cv_9_138, fun _ h => absurd h List.not_mem_nil⟩⟩⟩⟩⟩⟩⟩⟩⟩⟩⟩⟩
theorem cvs9 : ∀ x ∈ cpT9, Val 9 x.1 x.2 := by
  show ∀ x ∈ cpT9_0 ++ (cpT9_1), Val 9 x.1 x.2
  exact List.forall_mem_append.mpr ⟨cvs9_0, cvs9_1⟩
def cpT10_0 : List (Nat × Nat × Nat × Nat × Nat) := [(1, 6, 0, 0, 0), (7, 12, 3, 8, 0), (9, 4, nX3_init, 0, 3), (10, 0, 10, 2, 0), (16, 0, 10, 0, 0), (20, 0, 10, 1, 0), (24, 1, nX3_become, 1, 3), (28, 1, nX8_reachedBits, 1, 8), (34, 1, nX3_passHour, 1, 3), (38, 1, nX3_outBits, 0, 3), (42, 0, 10, 4, 0), (46, 0, 10, 3, 0), (49, 0, 1, 0, 0), (54, 1, nX10_doDrawn, 1, 10), (58, 1, nX10_drawn, 1, 10), (61, 1, nX3_layDown, 2, 3), (65, 1, nX3_turnRound, 1, 3), (69, 1, nX3_burstOnce, 1, 3), (72, 1, nX3_patchOnce, 1, 3), (75, 1, nX3_liftLast, 0, 3), (79, 14, 1103515245, 0, 0)]
theorem cvs10_0 : ∀ x ∈ cpT10_0, Val 10 x.1 x.2 := List.forall_mem_cons.mpr ⟨cv_10_1, List.forall_mem_cons.mpr ⟨cv_10_7, List.forall_mem_cons.mpr ⟨cv_10_9, List.forall_mem_cons.mpr ⟨cv_10_10, List.forall_mem_cons.mpr ⟨cv_10_16, List.forall_mem_cons.mpr ⟨cv_10_20, List.forall_mem_cons.mpr ⟨cv_10_24, List.forall_mem_cons.mpr ⟨cv_10_28, List.forall_mem_cons.mpr ⟨cv_10_34, List.forall_mem_cons.mpr ⟨cv_10_38, List.forall_mem_cons.mpr ⟨cv_10_42, List.forall_mem_cons.mpr ⟨cv_10_46, List.forall_mem_cons.mpr ⟨cv_10_49, List.forall_mem_cons.mpr ⟨cv_10_54, List.forall_mem_cons.mpr ⟨cv_10_58, List.forall_mem_cons.mpr ⟨cv_10_61, List.forall_mem_cons.mpr ⟨cv_10_65, List.forall_mem_cons.mpr ⟨cv_10_69, List.forall_mem_cons.mpr ⟨cv_10_72, List.forall_mem_cons.mpr ⟨cv_10_75, List.forall_mem_cons.mpr ⟨cv_10_79, fun _ h => absurd h List.not_mem_nil⟩⟩⟩⟩⟩⟩⟩⟩⟩⟩⟩⟩⟩⟩⟩⟩⟩⟩⟩⟩⟩
theorem cvs10 : ∀ x ∈ cpT10, Val 10 x.1 x.2 := by
  show ∀ x ∈ cpT10_0, Val 10 x.1 x.2
  exact cvs10_0
def cpT11_0 : List (Nat × Nat × Nat × Nat × Nat) := [(1, 6, 0, 0, 0), (7, 12, 7, 8, 0), (9, 4, nX7_init, 0, 7), (10, 0, 11, 0, 0), (16, 12, 1, 13, 0), (18, 5, nX1_init, 0, 1), (19, 0, 11, 1, 0), (23, 0, 11, 2, 0), (26, 12, 2, 4, 0), (28, 5, nX2_init, 0, 2), (29, 0, 11, 3, 0), (33, 0, 11, 4, 0), (36, 12, 0, 7, 0), (38, 5, nX0_init, 0, 0), (39, 0, 11, 5, 0), (43, 0, 11, 6, 0), (46, 12, 9, 8, 0), (48, 4, nX9_init, 0, 9), (49, 0, 11, 7, 0), (53, 12, 3, 8, 0), (55, 4, nX3_init, 0, 3), (56, 0, 11, 8, 0), (60, 12, 4, 5, 0), (62, 4, nX4_init, 0, 4)]
theorem cvs11_0 : ∀ x ∈ cpT11_0, Val 11 x.1 x.2 := List.forall_mem_cons.mpr ⟨cv_11_1, List.forall_mem_cons.mpr ⟨cv_11_7, List.forall_mem_cons.mpr ⟨cv_11_9, List.forall_mem_cons.mpr ⟨cv_11_10, List.forall_mem_cons.mpr ⟨cv_11_16, List.forall_mem_cons.mpr ⟨cv_11_18, List.forall_mem_cons.mpr ⟨cv_11_19, List.forall_mem_cons.mpr ⟨cv_11_23, List.forall_mem_cons.mpr ⟨cv_11_26, List.forall_mem_cons.mpr ⟨cv_11_28, List.forall_mem_cons.mpr ⟨cv_11_29, List.forall_mem_cons.mpr ⟨cv_11_33, List.forall_mem_cons.mpr ⟨cv_11_36, List.forall_mem_cons.mpr ⟨cv_11_38, List.forall_mem_cons.mpr ⟨cv_11_39, List.forall_mem_cons.mpr ⟨cv_11_43, List.forall_mem_cons.mpr ⟨cv_11_46, List.forall_mem_cons.mpr ⟨cv_11_48, List.forall_mem_cons.mpr ⟨cv_11_49, List.forall_mem_cons.mpr ⟨cv_11_53, List.forall_mem_cons.mpr ⟨cv_11_55, List.forall_mem_cons.mpr ⟨cv_11_56, List.forall_mem_cons.mpr ⟨cv_11_60, List.forall_mem_cons.mpr ⟨cv_11_62, fun _ h => absurd h List.not_mem_nil⟩⟩⟩⟩⟩⟩⟩⟩⟩⟩⟩⟩⟩⟩⟩⟩⟩⟩⟩⟩⟩⟩⟩⟩
def cpT11_1 : List (Nat × Nat × Nat × Nat × Nat) := [(63, 0, 11, 9, 0), (67, 12, 8, 7, 0), (69, 5, nX8_init, 2, 8), (72, 0, 11, 10, 0), (76, 12, 5, 17, 0), (78, 5, nX5_init, 2, 5), (81, 0, 11, 11, 0), (85, 12, 6, 7, 0), (87, 5, nX6_init, 1, 6), (90, 0, 11, 12, 0), (94, 12, 10, 5, 0), (96, 5, nX10_init, 2, 10), (97, 0, 11, 13, 0), (101, 0, 1, 3, 0), (105, 1, nX3_begin, 1, 3), (109, 1, nX7_hasRoom, 0, 7), (113, 1, nX7_append, 1, 7), (116, 0, 7, 1, 0), (119, 1, nX11_open, 2, 11), (123, 1, nX1_readFrom, 1, 1), (127, 0, 7, 2, 0), (130, 1, nX1_become, 1, 1), (134, 1, nX2_beUntold, 0, 2), (137, 1, nX0_clear, 0, 0)]
theorem cvs11_1 : ∀ x ∈ cpT11_1, Val 11 x.1 x.2 := List.forall_mem_cons.mpr ⟨cv_11_63, List.forall_mem_cons.mpr ⟨cv_11_67, List.forall_mem_cons.mpr ⟨cv_11_69, List.forall_mem_cons.mpr ⟨cv_11_72, List.forall_mem_cons.mpr ⟨cv_11_76, List.forall_mem_cons.mpr ⟨cv_11_78, List.forall_mem_cons.mpr ⟨cv_11_81, List.forall_mem_cons.mpr ⟨cv_11_85, List.forall_mem_cons.mpr ⟨cv_11_87, List.forall_mem_cons.mpr ⟨cv_11_90, List.forall_mem_cons.mpr ⟨cv_11_94, List.forall_mem_cons.mpr ⟨cv_11_96, List.forall_mem_cons.mpr ⟨cv_11_97, List.forall_mem_cons.mpr ⟨cv_11_101, List.forall_mem_cons.mpr ⟨cv_11_105, List.forall_mem_cons.mpr ⟨cv_11_109, List.forall_mem_cons.mpr ⟨cv_11_113, List.forall_mem_cons.mpr ⟨cv_11_116, List.forall_mem_cons.mpr ⟨cv_11_119, List.forall_mem_cons.mpr ⟨cv_11_123, List.forall_mem_cons.mpr ⟨cv_11_127, List.forall_mem_cons.mpr ⟨cv_11_130, List.forall_mem_cons.mpr ⟨cv_11_134, List.forall_mem_cons.mpr ⟨cv_11_137, fun _ h => absurd h List.not_mem_nil⟩⟩⟩⟩⟩⟩⟩⟩⟩⟩⟩⟩⟩⟩⟩⟩⟩⟩⟩⟩⟩⟩⟩⟩
def cpT11_2 : List (Nat × Nat × Nat × Nat × Nat) := [(140, 1, nX4_forget, 0, 4), (143, 0, 9, 7, 0), (146, 1, nX5_forgetHouse, 0, 5), (149, 0, 1, 0, 0), (152, 1, nX2_readFrom, 1, 2), (153, 1, nX2_become, 1, 2), (156, 1, nX5_forgetShort, 0, 5), (159, 1, nX4_isFull, 0, 4), (162, 1, nX9_readFrom, 2, 9), (165, 1, nX4_push, 1, 4), (169, 1, nX9_doneOn, 3, 9), (173, 1, nX0_readFrom, 1, 0), (174, 1, nX0_become, 1, 0), (177, 0, 0, 0, 0), (180, 0, 7, 3, 0), (183, 0, 4, 3, 0), (186, 1, nX4_pop, 1, 4), (189, 2, nX11_within, 3, 11), (193, 1, nX11_expect, 1, 11), (197, 0, 1, 1, 0), (200, 0, 1, 2, 0), (203, 0, 3, 6, 0), (206, 0, 3, 5, 0), (209, 1, nX3_rowBits, 0, 3)]
theorem cvs11_2 : ∀ x ∈ cpT11_2, Val 11 x.1 x.2 := List.forall_mem_cons.mpr ⟨cv_11_140, List.forall_mem_cons.mpr ⟨cv_11_143, List.forall_mem_cons.mpr ⟨cv_11_146, List.forall_mem_cons.mpr ⟨cv_11_149, List.forall_mem_cons.mpr ⟨cv_11_152, List.forall_mem_cons.mpr ⟨cv_11_153, List.forall_mem_cons.mpr ⟨cv_11_156, List.forall_mem_cons.mpr ⟨cv_11_159, List.forall_mem_cons.mpr ⟨cv_11_162, List.forall_mem_cons.mpr ⟨cv_11_165, List.forall_mem_cons.mpr ⟨cv_11_169, List.forall_mem_cons.mpr ⟨cv_11_173, List.forall_mem_cons.mpr ⟨cv_11_174, List.forall_mem_cons.mpr ⟨cv_11_177, List.forall_mem_cons.mpr ⟨cv_11_180, List.forall_mem_cons.mpr ⟨cv_11_183, List.forall_mem_cons.mpr ⟨cv_11_186, List.forall_mem_cons.mpr ⟨cv_11_189, List.forall_mem_cons.mpr ⟨cv_11_193, List.forall_mem_cons.mpr ⟨cv_11_197, List.forall_mem_cons.mpr ⟨cv_11_200, List.forall_mem_cons.mpr ⟨cv_11_203, List.forall_mem_cons.mpr ⟨cv_11_206, List.forall_mem_cons.mpr ⟨cv_11_209, fun _ h => absurd h List.not_mem_nil⟩⟩⟩⟩⟩⟩⟩⟩⟩⟩⟩⟩⟩⟩⟩⟩⟩⟩⟩⟩⟩⟩⟩⟩
def cpT11_3 : List (Nat × Nat × Nat × Nat × Nat) := [(213, 1, nX3_longNow, 1, 3), (217, 0, 3, 7, 0), (218, 1, nX8_arriving, 2, 8), (222, 1, nX3_outBits, 0, 3), (225, 1, nX11_expectPiece, 1, 11), (228, 0, 1, 4, 0), (232, 2, nX11_pick, 2, 11), (236, 1, nX3_wayOf, 1, 3), (240, 1, nX1_headOf, 1, 1), (243, 1, nX1_footOf, 1, 1), (246, 0, 1, 5, 0), (249, 0, 3, 1, 0), (252, 0, 3, 2, 0), (255, 0, 3, 4, 0), (258, 2, nX11_bit, 2, 11), (262, 1, nX3_placeOf, 1, 3), (265, 1, nX11_expectThere, 1, 11), (268, 0, 1, 8, 0), (271, 0, 1, 9, 0), (274, 1, nX11_expectFire, 1, 11), (277, 0, 1, 10, 0), (280, 0, 1, 11, 0), (283, 1, nX8_reachedBits, 1, 8), (287, 0, 3, 3, 0)]
theorem cvs11_3 : ∀ x ∈ cpT11_3, Val 11 x.1 x.2 := List.forall_mem_cons.mpr ⟨cv_11_213, List.forall_mem_cons.mpr ⟨cv_11_217, List.forall_mem_cons.mpr ⟨cv_11_218, List.forall_mem_cons.mpr ⟨cv_11_222, List.forall_mem_cons.mpr ⟨cv_11_225, List.forall_mem_cons.mpr ⟨cv_11_228, List.forall_mem_cons.mpr ⟨cv_11_232, List.forall_mem_cons.mpr ⟨cv_11_236, List.forall_mem_cons.mpr ⟨cv_11_240, List.forall_mem_cons.mpr ⟨cv_11_243, List.forall_mem_cons.mpr ⟨cv_11_246, List.forall_mem_cons.mpr ⟨cv_11_249, List.forall_mem_cons.mpr ⟨cv_11_252, List.forall_mem_cons.mpr ⟨cv_11_255, List.forall_mem_cons.mpr ⟨cv_11_258, List.forall_mem_cons.mpr ⟨cv_11_262, List.forall_mem_cons.mpr ⟨cv_11_265, List.forall_mem_cons.mpr ⟨cv_11_268, List.forall_mem_cons.mpr ⟨cv_11_271, List.forall_mem_cons.mpr ⟨cv_11_274, List.forall_mem_cons.mpr ⟨cv_11_277, List.forall_mem_cons.mpr ⟨cv_11_280, List.forall_mem_cons.mpr ⟨cv_11_283, List.forall_mem_cons.mpr ⟨cv_11_287, fun _ h => absurd h List.not_mem_nil⟩⟩⟩⟩⟩⟩⟩⟩⟩⟩⟩⟩⟩⟩⟩⟩⟩⟩⟩⟩⟩⟩⟩⟩
def cpT11_4 : List (Nat × Nat × Nat × Nat × Nat) := [(290, 0, 3, 0, 0), (293, 0, 8, 2, 0), (296, 1, nX2_tellPiece, 4, 2), (300, 1, nX2_tellNow, 5, 2), (304, 1, nX2_left, 0, 2), (306, 1, nX11_expectThread, 1, 11), (309, 1, nX1_joins, 2, 1), (313, 1, nX3_canLay, 2, 3), (317, 1, nX10_outAfter, 2, 10), (320, 1, nX5_findChain, 0, 5), (323, 0, 5, 7, 0), (326, 0, 5, 6, 0), (329, 0, 5, 5, 0), (332, 1, nX5_findShort, 2, 5), (336, 0, 5, 13, 0), (339, 0, 5, 12, 0), (342, 1, nX5_findCollar, 0, 5), (345, 0, 5, 9, 0), (348, 0, 5, 10, 0), (351, 1, nX0_findLeaks, 2, 0), (355, 0, 0, 3, 0), (358, 0, 0, 4, 0), (361, 1, nX0_findLook, 2, 0), (364, 0, 0, 5, 0)]
theorem cvs11_4 : ∀ x ∈ cpT11_4, Val 11 x.1 x.2 := List.forall_mem_cons.mpr ⟨cv_11_290, List.forall_mem_cons.mpr ⟨cv_11_293, List.forall_mem_cons.mpr ⟨cv_11_296, List.forall_mem_cons.mpr ⟨cv_11_300, List.forall_mem_cons.mpr ⟨cv_11_304, List.forall_mem_cons.mpr ⟨cv_11_306, List.forall_mem_cons.mpr ⟨cv_11_309, List.forall_mem_cons.mpr ⟨cv_11_313, List.forall_mem_cons.mpr ⟨cv_11_317, List.forall_mem_cons.mpr ⟨cv_11_320, List.forall_mem_cons.mpr ⟨cv_11_323, List.forall_mem_cons.mpr ⟨cv_11_326, List.forall_mem_cons.mpr ⟨cv_11_329, List.forall_mem_cons.mpr ⟨cv_11_332, List.forall_mem_cons.mpr ⟨cv_11_336, List.forall_mem_cons.mpr ⟨cv_11_339, List.forall_mem_cons.mpr ⟨cv_11_342, List.forall_mem_cons.mpr ⟨cv_11_345, List.forall_mem_cons.mpr ⟨cv_11_348, List.forall_mem_cons.mpr ⟨cv_11_351, List.forall_mem_cons.mpr ⟨cv_11_355, List.forall_mem_cons.mpr ⟨cv_11_358, List.forall_mem_cons.mpr ⟨cv_11_361, List.forall_mem_cons.mpr ⟨cv_11_364, fun _ h => absurd h List.not_mem_nil⟩⟩⟩⟩⟩⟩⟩⟩⟩⟩⟩⟩⟩⟩⟩⟩⟩⟩⟩⟩⟩⟩⟩⟩
def cpT11_5 : List (Nat × Nat × Nat × Nat × Nat) := [(367, 0, 0, 6, 0), (370, 1, nX5_mostPairs, 0, 5), (373, 1, nX8_chanceOf, 3, 8), (377, 1, nX6_findRests, 2, 6), (380, 0, 6, 4, 0), (383, 0, 6, 5, 0), (386, 0, 6, 6, 0), (389, 1, nX1_level, 2, 1), (392, 9, 0, 0, 0), (397, 1, nX8_worstPlace, 1, 8), (400, 1, nX8_lostAt, 2, 8), (403, 0, 1, 12, 0), (406, 1, nX10_live, 4, 10), (410, 0, 10, 3, 0), (413, 0, 10, 2, 0), (416, 1, nX3_allBursts, 0, 3), (419, 8, 0, 0, 0), (422, 1, nX4_canKeep, 0, 4), (425, 1, nX4_keep, 1, 4), (428, 0, 4, 4, 0), (431, 1, nX4_bringBack, 1, 4), (434, 0, 11, 14, 0), (437, 0, 11, 15, 0), (440, 1, nX7_begin, 1, 7)]
theorem cvs11_5 : ∀ x ∈ cpT11_5, Val 11 x.1 x.2 := List.forall_mem_cons.mpr ⟨cv_11_367, List.forall_mem_cons.mpr ⟨cv_11_370, List.forall_mem_cons.mpr ⟨cv_11_373, List.forall_mem_cons.mpr ⟨cv_11_377, List.forall_mem_cons.mpr ⟨cv_11_380, List.forall_mem_cons.mpr ⟨cv_11_383, List.forall_mem_cons.mpr ⟨cv_11_386, List.forall_mem_cons.mpr ⟨cv_11_389, List.forall_mem_cons.mpr ⟨cv_11_392, List.forall_mem_cons.mpr ⟨cv_11_397, List.forall_mem_cons.mpr ⟨cv_11_400, List.forall_mem_cons.mpr ⟨cv_11_403, List.forall_mem_cons.mpr ⟨cv_11_406, List.forall_mem_cons.mpr ⟨cv_11_410, List.forall_mem_cons.mpr ⟨cv_11_413, List.forall_mem_cons.mpr ⟨cv_11_416, List.forall_mem_cons.mpr ⟨cv_11_419, List.forall_mem_cons.mpr ⟨cv_11_422, List.forall_mem_cons.mpr ⟨cv_11_425, List.forall_mem_cons.mpr ⟨cv_11_428, List.forall_mem_cons.mpr ⟨cv_11_431, List.forall_mem_cons.mpr ⟨cv_11_434, List.forall_mem_cons.mpr ⟨cv_11_437, List.forall_mem_cons.mpr ⟨cv_11_440, fun _ h => absurd h List.not_mem_nil⟩⟩⟩⟩⟩⟩⟩⟩⟩⟩⟩⟩⟩⟩⟩⟩⟩⟩⟩⟩⟩⟩⟩⟩
def cpT11_6 : List (Nat × Nat × Nat × Nat × Nat) := [(441, 13, 1, 0, 0), (448, 13, 0, 0, 0)]
theorem cvs11_6 : ∀ x ∈ cpT11_6, Val 11 x.1 x.2 := List.forall_mem_cons.mpr ⟨cv_11_441, List.forall_mem_cons.mpr ⟨cv_11_448, fun _ h => absurd h List.not_mem_nil⟩⟩
theorem cvs11 : ∀ x ∈ cpT11, Val 11 x.1 x.2 := by
  show ∀ x ∈ cpT11_0 ++ (cpT11_1 ++ (cpT11_2 ++ (cpT11_3 ++ (cpT11_4 ++ (cpT11_5 ++ (cpT11_6)))))), Val 11 x.1 x.2
  exact List.forall_mem_append.mpr ⟨cvs11_0, List.forall_mem_append.mpr ⟨cvs11_1, List.forall_mem_append.mpr ⟨cvs11_2, List.forall_mem_append.mpr ⟨cvs11_3, List.forall_mem_append.mpr ⟨cvs11_4, List.forall_mem_append.mpr ⟨cvs11_5, cvs11_6⟩⟩⟩⟩⟩⟩
def cpT12_0 : List (Nat × Nat × Nat × Nat × Nat) := [(1, 6, 0, 0, 0), (9, 0, 12, 3, 0), (13, 0, 12, 9, 0), (17, 0, 12, 10, 0), (20, 0, 12, 11, 0), (23, 0, 12, 12, 0), (26, 17, 0, 0, 0), (28, 0, 12, 13, 0), (31, 0, 12, 14, 0), (34, 0, 12, 15, 0), (37, 0, 12, 16, 0), (40, 0, 12, 17, 0), (43, 0, 12, 18, 0), (46, 0, 12, 21, 0), (49, 0, 12, 22, 0), (52, 0, 12, 23, 0), (55, 0, 12, 24, 0), (58, 0, 12, 25, 0), (61, 0, 12, 26, 0), (64, 0, 12, 27, 0), (67, 0, 12, 29, 0), (70, 0, 12, 30, 0), (73, 0, 12, 31, 0), (76, 0, 12, 32, 0)]
theorem cvs12_0 : ∀ x ∈ cpT12_0, Val 12 x.1 x.2 := List.forall_mem_cons.mpr ⟨cv_12_1, List.forall_mem_cons.mpr ⟨cv_12_9, List.forall_mem_cons.mpr ⟨cv_12_13, List.forall_mem_cons.mpr ⟨cv_12_17, List.forall_mem_cons.mpr ⟨cv_12_20, List.forall_mem_cons.mpr ⟨cv_12_23, List.forall_mem_cons.mpr ⟨cv_12_26, List.forall_mem_cons.mpr ⟨cv_12_28, List.forall_mem_cons.mpr ⟨cv_12_31, List.forall_mem_cons.mpr ⟨cv_12_34, List.forall_mem_cons.mpr ⟨cv_12_37, List.forall_mem_cons.mpr ⟨cv_12_40, List.forall_mem_cons.mpr ⟨cv_12_43, List.forall_mem_cons.mpr ⟨cv_12_46, List.forall_mem_cons.mpr ⟨cv_12_49, List.forall_mem_cons.mpr ⟨cv_12_52, List.forall_mem_cons.mpr ⟨cv_12_55, List.forall_mem_cons.mpr ⟨cv_12_58, List.forall_mem_cons.mpr ⟨cv_12_61, List.forall_mem_cons.mpr ⟨cv_12_64, List.forall_mem_cons.mpr ⟨cv_12_67, List.forall_mem_cons.mpr ⟨cv_12_70, List.forall_mem_cons.mpr ⟨cv_12_73, List.forall_mem_cons.mpr ⟨cv_12_76, fun _ h => absurd h List.not_mem_nil⟩⟩⟩⟩⟩⟩⟩⟩⟩⟩⟩⟩⟩⟩⟩⟩⟩⟩⟩⟩⟩⟩⟩⟩
def cpT12_1 : List (Nat × Nat × Nat × Nat × Nat) := [(79, 0, 12, 33, 0), (82, 0, 12, 43, 0), (85, 0, 12, 44, 0), (88, 0, 12, 47, 0), (91, 0, 12, 48, 0), (94, 0, 12, 49, 0), (97, 1, nX12_tellsNothing, 0, 12), (100, 1, nX12_beginsAnew, 0, 12), (103, 0, 12, 0, 0), (106, 0, 12, 1, 0), (109, 0, 12, 2, 0), (112, 0, 12, 4, 0), (115, 1, nX12_byteAt, 1, 12), (119, 0, 12, 5, 0), (122, 0, 12, 6, 0), (125, 1, nX12_blanks, 0, 12), (128, 2, nX12_isDigit, 1, 12), (132, 1, nX12_wrong, 2, 12), (136, 14, 100000, 0, 0), (137, 2, nX12_in, 3, 12), (141, 2, nX12_isSmall, 1, 12), (144, 1, nX12_wordHere, 0, 12), (148, 2, nX12_six, 6, 12), (152, 1, nX12_isWord, 6, 12)]
theorem cvs12_1 : ∀ x ∈ cpT12_1, Val 12 x.1 x.2 := List.forall_mem_cons.mpr ⟨cv_12_79, List.forall_mem_cons.mpr ⟨cv_12_82, List.forall_mem_cons.mpr ⟨cv_12_85, List.forall_mem_cons.mpr ⟨cv_12_88, List.forall_mem_cons.mpr ⟨cv_12_91, List.forall_mem_cons.mpr ⟨cv_12_94, List.forall_mem_cons.mpr ⟨cv_12_97, List.forall_mem_cons.mpr ⟨cv_12_100, List.forall_mem_cons.mpr ⟨cv_12_103, List.forall_mem_cons.mpr ⟨cv_12_106, List.forall_mem_cons.mpr ⟨cv_12_109, List.forall_mem_cons.mpr ⟨cv_12_112, List.forall_mem_cons.mpr ⟨cv_12_115, List.forall_mem_cons.mpr ⟨cv_12_119, List.forall_mem_cons.mpr ⟨cv_12_122, List.forall_mem_cons.mpr ⟨cv_12_125, List.forall_mem_cons.mpr ⟨cv_12_128, List.forall_mem_cons.mpr ⟨cv_12_132, List.forall_mem_cons.mpr ⟨cv_12_136, List.forall_mem_cons.mpr ⟨cv_12_137, List.forall_mem_cons.mpr ⟨cv_12_141, List.forall_mem_cons.mpr ⟨cv_12_144, List.forall_mem_cons.mpr ⟨cv_12_148, List.forall_mem_cons.mpr ⟨cv_12_152, fun _ h => absurd h List.not_mem_nil⟩⟩⟩⟩⟩⟩⟩⟩⟩⟩⟩⟩⟩⟩⟩⟩⟩⟩⟩⟩⟩⟩⟩⟩
def cpT12_2 : List (Nat × Nat × Nat × Nat × Nat) := [(156, 1, nX12_skipWord, 0, 12), (159, 0, 12, 7, 0), (162, 0, 12, 8, 0), (165, 1, nX12_number, 2, 12), (169, 1, nX12_kindHere, 0, 12), (172, 2, nX12_mostOf, 1, 12), (175, 1, nX12_readThread, 0, 12), (178, 1, nX12_sign, 1, 12), (182, 1, nX12_bad, 3, 12), (186, 1, nX12_starts, 1, 12), (189, 1, nX12_clause, 0, 12), (192, 1, nX12_ends, 0, 12), (195, 2, nX12_lays, 3, 12), (199, 0, 12, 39, 0), (202, 0, 12, 19, 0), (205, 0, 12, 34, 0), (208, 0, 12, 35, 0), (211, 0, 12, 36, 0), (214, 0, 12, 37, 0), (217, 0, 12, 20, 0), (220, 1, nX12_product, 0, 12), (223, 1, nX12_takesSign, 1, 12), (226, 1, nX12_notes, 2, 12), (229, 1, nX12_one, 0, 12)]
theorem cvs12_2 : ∀ x ∈ cpT12_2, Val 12 x.1 x.2 := List.forall_mem_cons.mpr ⟨cv_12_156, List.forall_mem_cons.mpr ⟨cv_12_159, List.forall_mem_cons.mpr ⟨cv_12_162, List.forall_mem_cons.mpr ⟨cv_12_165, List.forall_mem_cons.mpr ⟨cv_12_169, List.forall_mem_cons.mpr ⟨cv_12_172, List.forall_mem_cons.mpr ⟨cv_12_175, List.forall_mem_cons.mpr ⟨cv_12_178, List.forall_mem_cons.mpr ⟨cv_12_182, List.forall_mem_cons.mpr ⟨cv_12_186, List.forall_mem_cons.mpr ⟨cv_12_189, List.forall_mem_cons.mpr ⟨cv_12_192, List.forall_mem_cons.mpr ⟨cv_12_195, List.forall_mem_cons.mpr ⟨cv_12_199, List.forall_mem_cons.mpr ⟨cv_12_202, List.forall_mem_cons.mpr ⟨cv_12_205, List.forall_mem_cons.mpr ⟨cv_12_208, List.forall_mem_cons.mpr ⟨cv_12_211, List.forall_mem_cons.mpr ⟨cv_12_214, List.forall_mem_cons.mpr ⟨cv_12_217, List.forall_mem_cons.mpr ⟨cv_12_220, List.forall_mem_cons.mpr ⟨cv_12_223, List.forall_mem_cons.mpr ⟨cv_12_226, List.forall_mem_cons.mpr ⟨cv_12_229, fun _ h => absurd h List.not_mem_nil⟩⟩⟩⟩⟩⟩⟩⟩⟩⟩⟩⟩⟩⟩⟩⟩⟩⟩⟩⟩⟩⟩⟩⟩
def cpT12_3 : List (Nat × Nat × Nat × Nat × Nat) := [(232, 1, nX12_takes, 6, 12), (235, 1, nX12_opensOne, 0, 12), (239, 1, nX12_sum, 0, 12), (242, 1, nX12_knownHere, 0, 12), (245, 2, nX12_less, 2, 12), (248, 2, nX12_more, 2, 12), (251, 2, nX12_by, 3, 12), (255, 1, nX12_stepHere, 0, 12), (258, 0, 12, 28, 0), (261, 1, nX12_readsStep, 0, 12), (264, 2, nX12_manyIn, 1, 12), (268, 2, nX12_placeOf, 2, 12), (272, 1, nX12_footOf, 2, 12), (275, 1, nX12_headOf, 2, 12), (278, 1, nX12_isJoined, 2, 12), (282, 1, nX12_byLaw, 0, 12), (285, 1, nX12_leftBy, 9, 12), (289, 1, nX12_leftOf, 5, 12), (293, 1, nX12_runs, 3, 12), (297, 1, nX12_longOf, 1, 12), (300, 1, nX12_arrives, 1, 12), (303, 1, nX12_isReached, 2, 12), (307, 0, 12, 40, 0), (310, 1, nX12_canLay, 3, 12)]
theorem cvs12_3 : ∀ x ∈ cpT12_3, Val 12 x.1 x.2 := List.forall_mem_cons.mpr ⟨cv_12_232, List.forall_mem_cons.mpr ⟨cv_12_235, List.forall_mem_cons.mpr ⟨cv_12_239, List.forall_mem_cons.mpr ⟨cv_12_242, List.forall_mem_cons.mpr ⟨cv_12_245, List.forall_mem_cons.mpr ⟨cv_12_248, List.forall_mem_cons.mpr ⟨cv_12_251, List.forall_mem_cons.mpr ⟨cv_12_255, List.forall_mem_cons.mpr ⟨cv_12_258, List.forall_mem_cons.mpr ⟨cv_12_261, List.forall_mem_cons.mpr ⟨cv_12_264, List.forall_mem_cons.mpr ⟨cv_12_268, List.forall_mem_cons.mpr ⟨cv_12_272, List.forall_mem_cons.mpr ⟨cv_12_275, List.forall_mem_cons.mpr ⟨cv_12_278, List.forall_mem_cons.mpr ⟨cv_12_282, List.forall_mem_cons.mpr ⟨cv_12_285, List.forall_mem_cons.mpr ⟨cv_12_289, List.forall_mem_cons.mpr ⟨cv_12_293, List.forall_mem_cons.mpr ⟨cv_12_297, List.forall_mem_cons.mpr ⟨cv_12_300, List.forall_mem_cons.mpr ⟨cv_12_303, List.forall_mem_cons.mpr ⟨cv_12_307, List.forall_mem_cons.mpr ⟨cv_12_310, fun _ h => absurd h List.not_mem_nil⟩⟩⟩⟩⟩⟩⟩⟩⟩⟩⟩⟩⟩⟩⟩⟩⟩⟩⟩⟩⟩⟩⟩⟩
def cpT12_4 : List (Nat × Nat × Nat × Nat × Nat) := [(314, 1, nX12_turns, 2, 12), (317, 1, nX12_laysOne, 2, 12), (320, 2, nX12_lifts, 1, 12), (324, 2, nX12_becomes, 3, 12), (327, 2, nX12_bursts, 3, 12), (330, 1, nX12_hourEnds, 1, 12), (334, 0, 12, 41, 0), (337, 1, nX12_goes, 2, 12), (340, 1, nX12_does, 2, 12), (344, 0, 12, 42, 0), (347, 2, nX12_copies, 2, 12), (351, 1, nX12_liesIn, 1, 12), (354, 1, nX12_outIn, 1, 12), (357, 1, nX12_isPiece, 1, 12), (360, 1, nX12_isFire, 1, 12), (363, 2, nX12_isThread, 1, 12), (366, 2, nX12_has, 2, 12), (369, 1, nX12_isNext, 2, 12), (372, 1, nX12_laysLongest, 0, 12), (375, 0, 12, 45, 0), (378, 0, 12, 46, 0), (381, 1, nX12_chains, 0, 12), (384, 1, nX12_isBrief, 7, 12), (388, 1, nX12_briefs, 1, 12)]
theorem cvs12_4 : ∀ x ∈ cpT12_4, Val 12 x.1 x.2 := List.forall_mem_cons.mpr ⟨cv_12_314, List.forall_mem_cons.mpr ⟨cv_12_317, List.forall_mem_cons.mpr ⟨cv_12_320, List.forall_mem_cons.mpr ⟨cv_12_324, List.forall_mem_cons.mpr ⟨cv_12_327, List.forall_mem_cons.mpr ⟨cv_12_330, List.forall_mem_cons.mpr ⟨cv_12_334, List.forall_mem_cons.mpr ⟨cv_12_337, List.forall_mem_cons.mpr ⟨cv_12_340, List.forall_mem_cons.mpr ⟨cv_12_344, List.forall_mem_cons.mpr ⟨cv_12_347, List.forall_mem_cons.mpr ⟨cv_12_351, List.forall_mem_cons.mpr ⟨cv_12_354, List.forall_mem_cons.mpr ⟨cv_12_357, List.forall_mem_cons.mpr ⟨cv_12_360, List.forall_mem_cons.mpr ⟨cv_12_363, List.forall_mem_cons.mpr ⟨cv_12_366, List.forall_mem_cons.mpr ⟨cv_12_369, List.forall_mem_cons.mpr ⟨cv_12_372, List.forall_mem_cons.mpr ⟨cv_12_375, List.forall_mem_cons.mpr ⟨cv_12_378, List.forall_mem_cons.mpr ⟨cv_12_381, List.forall_mem_cons.mpr ⟨cv_12_384, List.forall_mem_cons.mpr ⟨cv_12_388, fun _ h => absurd h List.not_mem_nil⟩⟩⟩⟩⟩⟩⟩⟩⟩⟩⟩⟩⟩⟩⟩⟩⟩⟩⟩⟩⟩⟩⟩⟩
def cpT12_5 : List (Nat × Nat × Nat × Nat × Nat) := [(391, 1, nX12_isLeak, 2, 12), (394, 1, nX12_isTold, 1, 12), (397, 1, nX12_weds, 1, 12), (400, 2, nX12_partOf, 3, 12), (404, 1, nX12_comes, 2, 12), (407, 1, nX12_isChoice, 2, 12), (411, 1, nX12_streetHas, 4, 12), (415, 1, nX12_houseHas, 3, 12), (418, 1, nX12_isRest, 4, 12), (422, 1, nX12_givenBy, 2, 12), (425, 0, 12, 50, 0), (428, 14, 1103515245, 0, 0), (429, 1, nX12_draw, 1, 12), (432, 1, nX12_acts, 3, 12), (436, 2, nX12_isYear, 2, 12), (439, 1, nX12_yearBy, 3, 12), (443, 0, 12, 38, 0), (446, 1, nX12_puts, 3, 12), (450, 1, nX12_putsAll, 2, 12)]
theorem cvs12_5 : ∀ x ∈ cpT12_5, Val 12 x.1 x.2 := List.forall_mem_cons.mpr ⟨cv_12_391, List.forall_mem_cons.mpr ⟨cv_12_394, List.forall_mem_cons.mpr ⟨cv_12_397, List.forall_mem_cons.mpr ⟨cv_12_400, List.forall_mem_cons.mpr ⟨cv_12_404, List.forall_mem_cons.mpr ⟨cv_12_407, List.forall_mem_cons.mpr ⟨cv_12_411, List.forall_mem_cons.mpr ⟨cv_12_415, List.forall_mem_cons.mpr ⟨cv_12_418, List.forall_mem_cons.mpr ⟨cv_12_422, List.forall_mem_cons.mpr ⟨cv_12_425, List.forall_mem_cons.mpr ⟨cv_12_428, List.forall_mem_cons.mpr ⟨cv_12_429, List.forall_mem_cons.mpr ⟨cv_12_432, List.forall_mem_cons.mpr ⟨cv_12_436, List.forall_mem_cons.mpr ⟨cv_12_439, List.forall_mem_cons.mpr ⟨cv_12_443, List.forall_mem_cons.mpr ⟨cv_12_446, List.forall_mem_cons.mpr ⟨cv_12_450, fun _ h => absurd h List.not_mem_nil⟩⟩⟩⟩⟩⟩⟩⟩⟩⟩⟩⟩⟩⟩⟩⟩⟩⟩⟩
theorem cvs12 : ∀ x ∈ cpT12, Val 12 x.1 x.2 := by
  show ∀ x ∈ cpT12_0 ++ (cpT12_1 ++ (cpT12_2 ++ (cpT12_3 ++ (cpT12_4 ++ (cpT12_5))))), Val 12 x.1 x.2
  exact List.forall_mem_append.mpr ⟨cvs12_0, List.forall_mem_append.mpr ⟨cvs12_1, List.forall_mem_append.mpr ⟨cvs12_2, List.forall_mem_append.mpr ⟨cvs12_3, List.forall_mem_append.mpr ⟨cvs12_4, cvs12_5⟩⟩⟩⟩⟩
def cpT13_0 : List (Nat × Nat × Nat × Nat × Nat) := [(7, 1, nX11_house, 1, 11), (8, 12, 11, 16, 0), (13, 18, 1, 0, 0), (15, 1, nX11_law, 1, 11), (18, 1, nX11_work, 1, 11), (21, 1, nX11_book, 1, 11), (24, 1, nX11_told, 1, 11), (27, 1, nX11_piece, 2, 11), (31, 18, 0, 0, 0), (33, 1, nX11_collar, 2, 11), (36, 1, nX11_fire, 2, 11), (39, 1, nX11_row, 1, 11), (42, 1, nX11_behind, 1, 11), (45, 1, nX11_would, 9, 11), (49, 1, nX11_fits, 2, 11), (53, 1, nX11_can, 1, 11), (57, 1, nX11_ahead, 1, 11), (60, 1, nX11_chain, 1, 11), (63, 1, nX11_chained, 1, 11), (66, 1, nX11_brief, 1, 11), (69, 1, nX11_briefly, 2, 11), (72, 1, nX11_joiner, 1, 11), (75, 1, nX11_leaks, 1, 11), (78, 1, nX11_look, 1, 11)]
theorem cvs13_0 : ∀ x ∈ cpT13_0, Val 13 x.1 x.2 := List.forall_mem_cons.mpr ⟨cv_13_7, List.forall_mem_cons.mpr ⟨cv_13_8, List.forall_mem_cons.mpr ⟨cv_13_13, List.forall_mem_cons.mpr ⟨cv_13_15, List.forall_mem_cons.mpr ⟨cv_13_18, List.forall_mem_cons.mpr ⟨cv_13_21, List.forall_mem_cons.mpr ⟨cv_13_24, List.forall_mem_cons.mpr ⟨cv_13_27, List.forall_mem_cons.mpr ⟨cv_13_31, List.forall_mem_cons.mpr ⟨cv_13_33, List.forall_mem_cons.mpr ⟨cv_13_36, List.forall_mem_cons.mpr ⟨cv_13_39, List.forall_mem_cons.mpr ⟨cv_13_42, List.forall_mem_cons.mpr ⟨cv_13_45, List.forall_mem_cons.mpr ⟨cv_13_49, List.forall_mem_cons.mpr ⟨cv_13_53, List.forall_mem_cons.mpr ⟨cv_13_57, List.forall_mem_cons.mpr ⟨cv_13_60, List.forall_mem_cons.mpr ⟨cv_13_63, List.forall_mem_cons.mpr ⟨cv_13_66, List.forall_mem_cons.mpr ⟨cv_13_69, List.forall_mem_cons.mpr ⟨cv_13_72, List.forall_mem_cons.mpr ⟨cv_13_75, List.forall_mem_cons.mpr ⟨cv_13_78, fun _ h => absurd h List.not_mem_nil⟩⟩⟩⟩⟩⟩⟩⟩⟩⟩⟩⟩⟩⟩⟩⟩⟩⟩⟩⟩⟩⟩⟩⟩
def cpT13_1 : List (Nat × Nat × Nat × Nat × Nat) := [(81, 1, nX11_sure, 3, 11), (85, 1, nX11_street, 3, 11), (89, 1, nX11_share, 3, 11), (92, 1, nX11_next, 1, 11), (95, 1, nX11_worst, 1, 11), (98, 1, nX11_needed, 1, 11), (101, 1, nX11_kin, 1, 11), (104, 1, nX11_year, 4, 11), (108, 1, nX11_span, 6, 11), (112, 5, nX11_init, 0, 11), (113, 12, 12, 51, 0), (115, 5, nX12_init, 0, 12), (116, 1, nX11_feed, 5, 11), (120, 1, nX12_feed, 5, 12), (121, 2, nL_house, 3, 13), (126, 1, nX12_house, 1, 12), (127, 1, nX12_thrown, 0, 12), (131, 2, nL_law, 3, 13), (133, 1, nX12_law, 1, 12), (134, 2, nL_work, 3, 13), (136, 1, nX12_work, 1, 12), (137, 2, nL_book, 3, 13), (139, 1, nX12_book, 1, 12), (140, 1, nX11_fault, 0, 11)]
theorem cvs13_1 : ∀ x ∈ cpT13_1, Val 13 x.1 x.2 := List.forall_mem_cons.mpr ⟨cv_13_81, List.forall_mem_cons.mpr ⟨cv_13_85, List.forall_mem_cons.mpr ⟨cv_13_89, List.forall_mem_cons.mpr ⟨cv_13_92, List.forall_mem_cons.mpr ⟨cv_13_95, List.forall_mem_cons.mpr ⟨cv_13_98, List.forall_mem_cons.mpr ⟨cv_13_101, List.forall_mem_cons.mpr ⟨cv_13_104, List.forall_mem_cons.mpr ⟨cv_13_108, List.forall_mem_cons.mpr ⟨cv_13_112, List.forall_mem_cons.mpr ⟨cv_13_113, List.forall_mem_cons.mpr ⟨cv_13_115, List.forall_mem_cons.mpr ⟨cv_13_116, List.forall_mem_cons.mpr ⟨cv_13_120, List.forall_mem_cons.mpr ⟨cv_13_121, List.forall_mem_cons.mpr ⟨cv_13_126, List.forall_mem_cons.mpr ⟨cv_13_127, List.forall_mem_cons.mpr ⟨cv_13_131, List.forall_mem_cons.mpr ⟨cv_13_133, List.forall_mem_cons.mpr ⟨cv_13_134, List.forall_mem_cons.mpr ⟨cv_13_136, List.forall_mem_cons.mpr ⟨cv_13_137, List.forall_mem_cons.mpr ⟨cv_13_139, List.forall_mem_cons.mpr ⟨cv_13_140, fun _ h => absurd h List.not_mem_nil⟩⟩⟩⟩⟩⟩⟩⟩⟩⟩⟩⟩⟩⟩⟩⟩⟩⟩⟩⟩⟩⟩⟩⟩
def cpT13_2 : List (Nat × Nat × Nat × Nat × Nat) := [(143, 1, nX12_fault, 0, 12), (144, 1, nX11_undo, 0, 11), (147, 1, nX12_undo, 0, 12), (148, 2, nL_told, 3, 13), (150, 1, nX12_told, 1, 12), (151, 2, nL_piece, 4, 13), (154, 1, nX12_piece, 2, 12), (155, 2, nL_collar, 4, 13), (157, 1, nX12_collar, 2, 12), (158, 2, nL_fire, 4, 13), (160, 1, nX12_fire, 2, 12), (161, 2, nL_row, 3, 13), (163, 1, nX12_row, 1, 12), (164, 2, nL_behind, 3, 13), (166, 1, nX12_behind, 1, 12), (167, 2, nL_would, 11, 13), (170, 1, nX12_would, 9, 12), (171, 2, nL_fits, 4, 13), (173, 1, nX12_fits, 2, 12), (174, 2, nL_can, 3, 13), (176, 1, nX12_can, 1, 12), (177, 2, nL_ahead, 3, 13), (179, 1, nX12_ahead, 1, 12), (180, 2, nL_chain, 3, 13)]
theorem cvs13_2 : ∀ x ∈ cpT13_2, Val 13 x.1 x.2 := List.forall_mem_cons.mpr ⟨cv_13_143, List.forall_mem_cons.mpr ⟨cv_13_144, List.forall_mem_cons.mpr ⟨cv_13_147, List.forall_mem_cons.mpr ⟨cv_13_148, List.forall_mem_cons.mpr ⟨cv_13_150, List.forall_mem_cons.mpr ⟨cv_13_151, List.forall_mem_cons.mpr ⟨cv_13_154, List.forall_mem_cons.mpr ⟨cv_13_155, List.forall_mem_cons.mpr ⟨cv_13_157, List.forall_mem_cons.mpr ⟨cv_13_158, List.forall_mem_cons.mpr ⟨cv_13_160, List.forall_mem_cons.mpr ⟨cv_13_161, List.forall_mem_cons.mpr ⟨cv_13_163, List.forall_mem_cons.mpr ⟨cv_13_164, List.forall_mem_cons.mpr ⟨cv_13_166, List.forall_mem_cons.mpr ⟨cv_13_167, List.forall_mem_cons.mpr ⟨cv_13_170, List.forall_mem_cons.mpr ⟨cv_13_171, List.forall_mem_cons.mpr ⟨cv_13_173, List.forall_mem_cons.mpr ⟨cv_13_174, List.forall_mem_cons.mpr ⟨cv_13_176, List.forall_mem_cons.mpr ⟨cv_13_177, List.forall_mem_cons.mpr ⟨cv_13_179, List.forall_mem_cons.mpr ⟨cv_13_180, fun _ h => absurd h List.not_mem_nil⟩⟩⟩⟩⟩⟩⟩⟩⟩⟩⟩⟩⟩⟩⟩⟩⟩⟩⟩⟩⟩⟩⟩⟩
def cpT13_3 : List (Nat × Nat × Nat × Nat × Nat) := [(182, 1, nX12_chain, 1, 12), (183, 2, nL_chained, 3, 13), (185, 1, nX12_chained, 1, 12), (186, 2, nL_brief, 3, 13), (188, 1, nX12_brief, 1, 12), (189, 2, nL_briefly, 4, 13), (191, 1, nX12_briefly, 2, 12), (192, 2, nL_joiner, 3, 13), (194, 1, nX12_joiner, 1, 12), (195, 2, nL_leaks, 3, 13), (197, 1, nX12_leaks, 1, 12), (198, 2, nL_look, 3, 13), (200, 1, nX12_look, 1, 12), (201, 1, nX11_wed, 0, 11), (204, 1, nX12_wed, 0, 12), (205, 2, nL_sure, 5, 13), (208, 1, nX12_sure, 3, 12), (209, 2, nL_street, 5, 13), (211, 1, nX12_street, 3, 12), (212, 2, nL_share, 5, 13), (214, 1, nX12_share, 3, 12), (215, 2, nL_next, 3, 13), (217, 1, nX12_next, 1, 12), (218, 2, nL_worst, 3, 13)]
theorem cvs13_3 : ∀ x ∈ cpT13_3, Val 13 x.1 x.2 := List.forall_mem_cons.mpr ⟨cv_13_182, List.forall_mem_cons.mpr ⟨cv_13_183, List.forall_mem_cons.mpr ⟨cv_13_185, List.forall_mem_cons.mpr ⟨cv_13_186, List.forall_mem_cons.mpr ⟨cv_13_188, List.forall_mem_cons.mpr ⟨cv_13_189, List.forall_mem_cons.mpr ⟨cv_13_191, List.forall_mem_cons.mpr ⟨cv_13_192, List.forall_mem_cons.mpr ⟨cv_13_194, List.forall_mem_cons.mpr ⟨cv_13_195, List.forall_mem_cons.mpr ⟨cv_13_197, List.forall_mem_cons.mpr ⟨cv_13_198, List.forall_mem_cons.mpr ⟨cv_13_200, List.forall_mem_cons.mpr ⟨cv_13_201, List.forall_mem_cons.mpr ⟨cv_13_204, List.forall_mem_cons.mpr ⟨cv_13_205, List.forall_mem_cons.mpr ⟨cv_13_208, List.forall_mem_cons.mpr ⟨cv_13_209, List.forall_mem_cons.mpr ⟨cv_13_211, List.forall_mem_cons.mpr ⟨cv_13_212, List.forall_mem_cons.mpr ⟨cv_13_214, List.forall_mem_cons.mpr ⟨cv_13_215, List.forall_mem_cons.mpr ⟨cv_13_217, List.forall_mem_cons.mpr ⟨cv_13_218, fun _ h => absurd h List.not_mem_nil⟩⟩⟩⟩⟩⟩⟩⟩⟩⟩⟩⟩⟩⟩⟩⟩⟩⟩⟩⟩⟩⟩⟩⟩
def cpT13_4 : List (Nat × Nat × Nat × Nat × Nat) := [(220, 1, nX12_worst, 1, 12), (221, 2, nL_needed, 3, 13), (223, 1, nX12_needed, 1, 12), (224, 2, nL_kin, 3, 13), (226, 1, nX12_kin, 1, 12), (227, 2, nL_year, 6, 13), (230, 1, nX12_year, 4, 12), (231, 2, nL_span, 8, 13), (234, 1, nX12_span, 6, 12), (235, 1, nX11_image, 0, 11), (238, 1, nX12_image, 0, 12), (239, 1, nX11_restore, 0, 11), (242, 1, nX12_restore, 0, 12), (243, 1, nX11_status, 1, 11), (246, 1, nX12_status, 1, 12), (247, 1, nX11_count, 1, 11), (250, 1, nX12_count, 1, 12)]
theorem cvs13_4 : ∀ x ∈ cpT13_4, Val 13 x.1 x.2 := List.forall_mem_cons.mpr ⟨cv_13_220, List.forall_mem_cons.mpr ⟨cv_13_221, List.forall_mem_cons.mpr ⟨cv_13_223, List.forall_mem_cons.mpr ⟨cv_13_224, List.forall_mem_cons.mpr ⟨cv_13_226, List.forall_mem_cons.mpr ⟨cv_13_227, List.forall_mem_cons.mpr ⟨cv_13_230, List.forall_mem_cons.mpr ⟨cv_13_231, List.forall_mem_cons.mpr ⟨cv_13_234, List.forall_mem_cons.mpr ⟨cv_13_235, List.forall_mem_cons.mpr ⟨cv_13_238, List.forall_mem_cons.mpr ⟨cv_13_239, List.forall_mem_cons.mpr ⟨cv_13_242, List.forall_mem_cons.mpr ⟨cv_13_243, List.forall_mem_cons.mpr ⟨cv_13_246, List.forall_mem_cons.mpr ⟨cv_13_247, List.forall_mem_cons.mpr ⟨cv_13_250, fun _ h => absurd h List.not_mem_nil⟩⟩⟩⟩⟩⟩⟩⟩⟩⟩⟩⟩⟩⟩⟩⟩⟩
theorem cvs13 : ∀ x ∈ cpT13, Val 13 x.1 x.2 := by
  show ∀ x ∈ cpT13_0 ++ (cpT13_1 ++ (cpT13_2 ++ (cpT13_3 ++ (cpT13_4)))), Val 13 x.1 x.2
  exact List.forall_mem_append.mpr ⟨cvs13_0, List.forall_mem_append.mpr ⟨cvs13_1, List.forall_mem_append.mpr ⟨cvs13_2, List.forall_mem_append.mpr ⟨cvs13_3, cvs13_4⟩⟩⟩⟩
def cpT14_0 : List (Nat × Nat × Nat × Nat × Nat) := [(9, 20, 1, 0, 0), (15, 20, 0, 0, 0), (38, 19, 0, 0, 0), (335, 10, nJ0_coder_7d493, 0, 14), (492, 10, nJ0_isLatin1_aae02, 0, 14), (495, 2, nJ1_charAt_3b067, 2, 15), (1053, 21, 0, 0, 0), (1059, 2, nJ3_checkIndex_8e157, 3, 17)]
theorem cvs14_0 : ∀ x ∈ cpT14_0, Val 14 x.1 x.2 := List.forall_mem_cons.mpr ⟨cv_14_9, List.forall_mem_cons.mpr ⟨cv_14_15, List.forall_mem_cons.mpr ⟨cv_14_38, List.forall_mem_cons.mpr ⟨cv_14_335, List.forall_mem_cons.mpr ⟨cv_14_492, List.forall_mem_cons.mpr ⟨cv_14_495, List.forall_mem_cons.mpr ⟨cv_14_1053, List.forall_mem_cons.mpr ⟨cv_14_1059, fun _ h => absurd h List.not_mem_nil⟩⟩⟩⟩⟩⟩⟩⟩
theorem cvs14 : ∀ x ∈ cpT14, Val 14 x.1 x.2 := by
  show ∀ x ∈ cpT14_0, Val 14 x.1 x.2
  exact cvs14_0
def cpT15_0 : List (Nat × Nat × Nat × Nat × Nat) := [(9, 2, nJ0_checkIndex_df160, 2, 14)]
theorem cvs15_0 : ∀ x ∈ cpT15_0, Val 15 x.1 x.2 := List.forall_mem_cons.mpr ⟨cv_15_9, fun _ h => absurd h List.not_mem_nil⟩
theorem cvs15 : ∀ x ∈ cpT15, Val 15 x.1 x.2 := by
  show ∀ x ∈ cpT15_0, Val 15 x.1 x.2
  exact cvs15_0
theorem cvs16 : ∀ x ∈ cpT16, Val 16 x.1 x.2 := fun _ h => absurd h List.not_mem_nil
theorem cvs17 : ∀ x ∈ cpT17, Val 17 x.1 x.2 := fun _ h => absurd h List.not_mem_nil
theorem cvs : ∀ (ow : Nat) (l : List (Nat × Nat × Nat × Nat × Nat)), cpT[ow]? = some l → ∀ x ∈ l, Val ow x.1 x.2 := by
  intro ow l h
  match ow, h with
  | 0, h => cases h; exact cvs0
  | 1, h => cases h; exact cvs1
  | 2, h => cases h; exact cvs2
  | 3, h => cases h; exact cvs3
  | 4, h => cases h; exact cvs4
  | 5, h => cases h; exact cvs5
  | 6, h => cases h; exact cvs6
  | 7, h => cases h; exact cvs7
  | 8, h => cases h; exact cvs8
  | 9, h => cases h; exact cvs9
  | 10, h => cases h; exact cvs10
  | 11, h => cases h; exact cvs11
  | 12, h => cases h; exact cvs12
  | 13, h => cases h; exact cvs13
  | 14, h => cases h; exact cvs14
  | 15, h => cases h; exact cvs15
  | 16, h => cases h; exact cvs16
  | 17, h => cases h; exact cvs17
  | n + 18, h => simp [cpT] at h
theorem cp_val {ow idx : Nat} {x : Nat × Nat × Nat × Nat} (h : cp ow idx = some x) : Val ow idx x := by
  unfold cp at h
  cases hl : cpT[ow]? with
  | none => simp [List.getD, hl] at h
  | some l =>
    rw [List.getD_eq_getElem?_getD, hl] at h
    obtain ⟨z, hz, rfl⟩ := Option.map_eq_some_iff.mp h
    have h1 := List.mem_of_find?_eq_some hz
    have h2 := List.find?_some hz
    have h3 : z.1 = idx := by simpa using h2
    subst h3
    exact cvs ow l hl z h1
def retT : Nat → Option FieldType | 0 => some .int | 1 => some .boolean | 2 => some .long | 4 => some .char | 5 => some .byte | _ => none
/-- what the words say of a method -/
def MV (x : MethodName × MI × Nat) : Prop := plainName x.1.cls = true ∧ (x.1.cls ≠ "java/lang/invoke/MethodHandle" ∧ x.1.cls ≠ "java/lang/invoke/VarHandle") ∧ x.1.cls = rn x.2.1.1 ∧ x.2.2 ≤ 24 ∧
  (match x.2.1.2.2.2 with
  | [] => Cond.code x.1 x.2.1.2.1 x.2.2 (retT x.2.1.2.2.1) ∈ lw_tbl
  | hh => Cond.codeWith x.1 x.2.1.2.1 x.2.2 (retT x.2.1.2.2.1) hh ∈ lw_tbl)
set_option maxRecDepth 100000 in
theorem mv_X0_init : MV pe_X0_init := ⟨by decide +kernel, ⟨by decide +kernel, by decide +kernel⟩, rfl, by decide, ta_1 171 rfl⟩
set_option maxRecDepth 100000 in
theorem mv_X0_clear : MV pe_X0_clear := ⟨by decide +kernel, ⟨by decide +kernel, by decide +kernel⟩, rfl, by decide, ta_1 176 rfl⟩
set_option maxRecDepth 100000 in
theorem mv_X0_readFrom : MV pe_X0_readFrom := ⟨by decide +kernel, ⟨by decide +kernel, by decide +kernel⟩, rfl, by decide, ta_5 113 rfl⟩
set_option maxRecDepth 100000 in
theorem mv_X0_readLine : MV pe_X0_readLine := ⟨by decide +kernel, ⟨by decide +kernel, by decide +kernel⟩, rfl, by decide, ta_5 118 rfl⟩
set_option maxRecDepth 100000 in
theorem mv_X0_become : MV pe_X0_become := ⟨by decide +kernel, ⟨by decide +kernel, by decide +kernel⟩, rfl, by decide, ta_5 127 rfl⟩
set_option maxRecDepth 100000 in
theorem mv_X0_findLeaks : MV pe_X0_findLeaks := ⟨by decide +kernel, ⟨by decide +kernel, by decide +kernel⟩, rfl, by decide, ta_6 133 rfl⟩
set_option maxRecDepth 100000 in
theorem mv_X0_isRight : MV pe_X0_isRight := ⟨by decide +kernel, ⟨by decide +kernel, by decide +kernel⟩, rfl, by decide, ta_6 138 rfl⟩
set_option maxRecDepth 100000 in
theorem mv_X0_tallyUp : MV pe_X0_tallyUp := ⟨by decide +kernel, ⟨by decide +kernel, by decide +kernel⟩, rfl, by decide, ta_6 142 rfl⟩
set_option maxRecDepth 100000 in
theorem mv_X0_findLook : MV pe_X0_findLook := ⟨by decide +kernel, ⟨by decide +kernel, by decide +kernel⟩, rfl, by decide, ta_6 153 rfl⟩
set_option maxRecDepth 100000 in
theorem mv_X0_worstAt : MV pe_X0_worstAt := ⟨by decide +kernel, ⟨by decide +kernel, by decide +kernel⟩, rfl, by decide, ta_6 158 rfl⟩
set_option maxRecDepth 100000 in
theorem mv_X1_init : MV pe_X1_init := ⟨by decide +kernel, ⟨by decide +kernel, by decide +kernel⟩, rfl, by decide, ta_1 77 rfl⟩
set_option maxRecDepth 100000 in
theorem mv_X1_clear : MV pe_X1_clear := ⟨by decide +kernel, ⟨by decide +kernel, by decide +kernel⟩, rfl, by decide, ta_1 82 rfl⟩
set_option maxRecDepth 100000 in
theorem mv_X1_follows : MV pe_X1_follows := ⟨by decide +kernel, ⟨by decide +kernel, by decide +kernel⟩, rfl, by decide, ta_3 104 rfl⟩
set_option maxRecDepth 100000 in
theorem mv_X1_footOf : MV pe_X1_footOf := ⟨by decide +kernel, ⟨by decide +kernel, by decide +kernel⟩, rfl, by decide, ta_3 108 rfl⟩
set_option maxRecDepth 100000 in
theorem mv_X1_headOf : MV pe_X1_headOf := ⟨by decide +kernel, ⟨by decide +kernel, by decide +kernel⟩, rfl, by decide, ta_3 113 rfl⟩
set_option maxRecDepth 100000 in
theorem mv_X1_joins : MV pe_X1_joins := ⟨by decide +kernel, ⟨by decide +kernel, by decide +kernel⟩, rfl, by decide, ta_3 117 rfl⟩
set_option maxRecDepth 100000 in
theorem mv_X1_readFrom : MV pe_X1_readFrom := ⟨by decide +kernel, ⟨by decide +kernel, by decide +kernel⟩, rfl, by decide, ta_4 4 rfl⟩
set_option maxRecDepth 100000 in
theorem mv_X1_isFull : MV pe_X1_isFull := ⟨by decide +kernel, ⟨by decide +kernel, by decide +kernel⟩, rfl, by decide, ta_4 81 rfl⟩
set_option maxRecDepth 100000 in
theorem mv_X1_readClause : MV pe_X1_readClause := ⟨by decide +kernel, ⟨by decide +kernel, by decide +kernel⟩, rfl, by decide, ta_4 89 rfl⟩
set_option maxRecDepth 100000 in
theorem mv_X1_readPiece : MV pe_X1_readPiece := ⟨by decide +kernel, ⟨by decide +kernel, by decide +kernel⟩, rfl, by decide, ta_4 93 rfl⟩
set_option maxRecDepth 100000 in
theorem mv_X1_readTo : MV pe_X1_readTo := ⟨by decide +kernel, ⟨by decide +kernel, by decide +kernel⟩, rfl, by decide, ta_4 96 rfl⟩
set_option maxRecDepth 100000 in
theorem mv_X1_readCollar : MV pe_X1_readCollar := ⟨by decide +kernel, ⟨by decide +kernel, by decide +kernel⟩, rfl, by decide, ta_4 114 rfl⟩
set_option maxRecDepth 100000 in
theorem mv_X1_join : MV pe_X1_join := ⟨by decide +kernel, ⟨by decide +kernel, by decide +kernel⟩, rfl, by decide, ta_4 122 rfl⟩
set_option maxRecDepth 100000 in
theorem mv_X1_readFire : MV pe_X1_readFire := ⟨by decide +kernel, ⟨by decide +kernel, by decide +kernel⟩, rfl, by decide, ta_4 126 rfl⟩
set_option maxRecDepth 100000 in
theorem mv_X1_readHope : MV pe_X1_readHope := ⟨by decide +kernel, ⟨by decide +kernel, by decide +kernel⟩, rfl, by decide, ta_4 130 rfl⟩
set_option maxRecDepth 100000 in
theorem mv_X1_become : MV pe_X1_become := ⟨by decide +kernel, ⟨by decide +kernel, by decide +kernel⟩, rfl, by decide, ta_4 138 rfl⟩
set_option maxRecDepth 100000 in
theorem mv_X1_reaches : MV pe_X1_reaches := ⟨by decide +kernel, ⟨by decide +kernel, by decide +kernel⟩, rfl, by decide, ta_5 98 rfl⟩
set_option maxRecDepth 100000 in
theorem mv_X1_part : MV pe_X1_part := ⟨by decide +kernel, ⟨by decide +kernel, by decide +kernel⟩, rfl, by decide, ta_6 122 rfl⟩
set_option maxRecDepth 100000 in
theorem mv_X1_level : MV pe_X1_level := ⟨by decide +kernel, ⟨by decide +kernel, by decide +kernel⟩, rfl, by decide, ta_6 233 rfl⟩
set_option maxRecDepth 100000 in
theorem mv_X2_init : MV pe_X2_init := ⟨by decide +kernel, ⟨by decide +kernel, by decide +kernel⟩, rfl, by decide, ta_1 146 rfl⟩
set_option maxRecDepth 100000 in
theorem mv_X2_beUntold : MV pe_X2_beUntold := ⟨by decide +kernel, ⟨by decide +kernel, by decide +kernel⟩, rfl, by decide, ta_1 151 rfl⟩
set_option maxRecDepth 100000 in
theorem mv_X2_readFrom : MV pe_X2_readFrom := ⟨by decide +kernel, ⟨by decide +kernel, by decide +kernel⟩, rfl, by decide, ta_4 161 rfl⟩
set_option maxRecDepth 100000 in
theorem mv_X2_readSum : MV pe_X2_readSum := ⟨by decide +kernel, ⟨by decide +kernel, by decide +kernel⟩, rfl, by decide, ta_4 165 rfl⟩
set_option maxRecDepth 100000 in
theorem mv_X2_readProduct : MV pe_X2_readProduct := ⟨by decide +kernel, ⟨by decide +kernel, by decide +kernel⟩, rfl, by decide, ta_4 169 rfl⟩
set_option maxRecDepth 100000 in
theorem mv_X2_readUnit : MV pe_X2_readUnit := ⟨by decide +kernel, ⟨by decide +kernel, by decide +kernel⟩, rfl, by decide, ta_4 173 rfl⟩
set_option maxRecDepth 100000 in
theorem mv_X2_add : MV pe_X2_add := ⟨by decide +kernel, ⟨by decide +kernel, by decide +kernel⟩, rfl, by decide, ta_4 180 rfl⟩
set_option maxRecDepth 100000 in
theorem mv_X2_become : MV pe_X2_become := ⟨by decide +kernel, ⟨by decide +kernel, by decide +kernel⟩, rfl, by decide, ta_4 194 rfl⟩
set_option maxRecDepth 100000 in
theorem mv_X2_tellPiece : MV pe_X2_tellPiece := ⟨by decide +kernel, ⟨by decide +kernel, by decide +kernel⟩, rfl, by decide, ta_5 77 rfl⟩
set_option maxRecDepth 100000 in
theorem mv_X2_tellNow : MV pe_X2_tellNow := ⟨by decide +kernel, ⟨by decide +kernel, by decide +kernel⟩, rfl, by decide, ta_5 81 rfl⟩
set_option maxRecDepth 100000 in
theorem mv_X2_left : MV pe_X2_left := ⟨by decide +kernel, ⟨by decide +kernel, by decide +kernel⟩, rfl, by decide, ta_5 85 rfl⟩
set_option maxRecDepth 100000 in
theorem mv_X2_reckon : MV pe_X2_reckon := ⟨by decide +kernel, ⟨by decide +kernel, by decide +kernel⟩, rfl, by decide, ta_5 89 rfl⟩
set_option maxRecDepth 100000 in
theorem mv_X3_init : MV pe_X3_init := ⟨by decide +kernel, ⟨by decide +kernel, by decide +kernel⟩, rfl, by decide, ta_2 3 rfl⟩
set_option maxRecDepth 100000 in
theorem mv_X3_begin : MV pe_X3_begin := ⟨by decide +kernel, ⟨by decide +kernel, by decide +kernel⟩, rfl, by decide, ta_2 234 rfl⟩
set_option maxRecDepth 100000 in
theorem mv_X3_readFrom : MV pe_X3_readFrom := ⟨by decide +kernel, ⟨by decide +kernel, by decide +kernel⟩, rfl, by decide, ta_3 72 rfl⟩
set_option maxRecDepth 100000 in
theorem mv_X3_writeTo : MV pe_X3_writeTo := ⟨by decide +kernel, ⟨by decide +kernel, by decide +kernel⟩, rfl, by decide, ta_3 137 rfl⟩
set_option maxRecDepth 100000 in
theorem mv_X3_turnRound : MV pe_X3_turnRound := ⟨by decide +kernel, ⟨by decide +kernel, by decide +kernel⟩, rfl, by decide, ta_5 19 rfl⟩
set_option maxRecDepth 100000 in
theorem mv_X3_placeOf : MV pe_X3_placeOf := ⟨by decide +kernel, ⟨by decide +kernel, by decide +kernel⟩, rfl, by decide, ta_5 23 rfl⟩
set_option maxRecDepth 100000 in
theorem mv_X3_layDown : MV pe_X3_layDown := ⟨by decide +kernel, ⟨by decide +kernel, by decide +kernel⟩, rfl, by decide, ta_5 27 rfl⟩
set_option maxRecDepth 100000 in
theorem mv_X3_wayOf : MV pe_X3_wayOf := ⟨by decide +kernel, ⟨by decide +kernel, by decide +kernel⟩, rfl, by decide, ta_5 31 rfl⟩
set_option maxRecDepth 100000 in
theorem mv_X3_canLay : MV pe_X3_canLay := ⟨by decide +kernel, ⟨by decide +kernel, by decide +kernel⟩, rfl, by decide, ta_5 36 rfl⟩
set_option maxRecDepth 100000 in
theorem mv_X3_liftLast : MV pe_X3_liftLast := ⟨by decide +kernel, ⟨by decide +kernel, by decide +kernel⟩, rfl, by decide, ta_5 43 rfl⟩
set_option maxRecDepth 100000 in
theorem mv_X3_bendTo : MV pe_X3_bendTo := ⟨by decide +kernel, ⟨by decide +kernel, by decide +kernel⟩, rfl, by decide, ta_5 47 rfl⟩
set_option maxRecDepth 100000 in
theorem mv_X3_burstOnce : MV pe_X3_burstOnce := ⟨by decide +kernel, ⟨by decide +kernel, by decide +kernel⟩, rfl, by decide, ta_5 51 rfl⟩
set_option maxRecDepth 100000 in
theorem mv_X3_patchOnce : MV pe_X3_patchOnce := ⟨by decide +kernel, ⟨by decide +kernel, by decide +kernel⟩, rfl, by decide, ta_5 55 rfl⟩
set_option maxRecDepth 100000 in
theorem mv_X3_hopeFor : MV pe_X3_hopeFor := ⟨by decide +kernel, ⟨by decide +kernel, by decide +kernel⟩, rfl, by decide, ta_5 59 rfl⟩
set_option maxRecDepth 100000 in
theorem mv_X3_longNow : MV pe_X3_longNow := ⟨by decide +kernel, ⟨by decide +kernel, by decide +kernel⟩, rfl, by decide, ta_5 94 rfl⟩
set_option maxRecDepth 100000 in
theorem mv_X3_passHour : MV pe_X3_passHour := ⟨by decide +kernel, ⟨by decide +kernel, by decide +kernel⟩, rfl, by decide, ta_5 102 rfl⟩
set_option maxRecDepth 100000 in
theorem mv_X3_rowBits : MV pe_X3_rowBits := ⟨by decide +kernel, ⟨by decide +kernel, by decide +kernel⟩, rfl, by decide, ta_5 140 rfl⟩
set_option maxRecDepth 100000 in
theorem mv_X3_outBits : MV pe_X3_outBits := ⟨by decide +kernel, ⟨by decide +kernel, by decide +kernel⟩, rfl, by decide, ta_5 146 rfl⟩
set_option maxRecDepth 100000 in
theorem mv_X3_become : MV pe_X3_become := ⟨by decide +kernel, ⟨by decide +kernel, by decide +kernel⟩, rfl, by decide, ta_6 22 rfl⟩
set_option maxRecDepth 100000 in
theorem mv_X3_allBursts : MV pe_X3_allBursts := ⟨by decide +kernel, ⟨by decide +kernel, by decide +kernel⟩, rfl, by decide, ta_7 61 rfl⟩
set_option maxRecDepth 100000 in
theorem mv_X4_init : MV pe_X4_init := ⟨by decide +kernel, ⟨by decide +kernel, by decide +kernel⟩, rfl, by decide, ta_2 55 rfl⟩
set_option maxRecDepth 100000 in
theorem mv_X4_pop : MV pe_X4_pop := ⟨by decide +kernel, ⟨by decide +kernel, by decide +kernel⟩, rfl, by decide, ta_3 68 rfl⟩
set_option maxRecDepth 100000 in
theorem mv_X4_canKeep : MV pe_X4_canKeep := ⟨by decide +kernel, ⟨by decide +kernel, by decide +kernel⟩, rfl, by decide, ta_3 129 rfl⟩
set_option maxRecDepth 100000 in
theorem mv_X4_keep : MV pe_X4_keep := ⟨by decide +kernel, ⟨by decide +kernel, by decide +kernel⟩, rfl, by decide, ta_3 133 rfl⟩
set_option maxRecDepth 100000 in
theorem mv_X4_bringBack : MV pe_X4_bringBack := ⟨by decide +kernel, ⟨by decide +kernel, by decide +kernel⟩, rfl, by decide, ta_3 146 rfl⟩
set_option maxRecDepth 100000 in
theorem mv_X4_forget : MV pe_X4_forget := ⟨by decide +kernel, ⟨by decide +kernel, by decide +kernel⟩, rfl, by decide, ta_4 145 rfl⟩
set_option maxRecDepth 100000 in
theorem mv_X4_isFull : MV pe_X4_isFull := ⟨by decide +kernel, ⟨by decide +kernel, by decide +kernel⟩, rfl, by decide, ta_4 206 rfl⟩
set_option maxRecDepth 100000 in
theorem mv_X4_push : MV pe_X4_push := ⟨by decide +kernel, ⟨by decide +kernel, by decide +kernel⟩, rfl, by decide, ta_4 239 rfl⟩
set_option maxRecDepth 100000 in
theorem mv_X5_init : MV pe_X5_init := ⟨by decide +kernel, ⟨by decide +kernel, by decide +kernel⟩, rfl, by decide, ta_2 112 rfl⟩
set_option maxRecDepth 100000 in
theorem mv_X5_forgetShort : MV pe_X5_forgetShort := ⟨by decide +kernel, ⟨by decide +kernel, by decide +kernel⟩, rfl, by decide, ta_3 79 rfl⟩
set_option maxRecDepth 100000 in
theorem mv_X5_mostPairs : MV pe_X5_mostPairs := ⟨by decide +kernel, ⟨by decide +kernel, by decide +kernel⟩, rfl, by decide, ta_3 87 rfl⟩
set_option maxRecDepth 100000 in
theorem mv_X5_leastOf : MV pe_X5_leastOf := ⟨by decide +kernel, ⟨by decide +kernel, by decide +kernel⟩, rfl, by decide, ta_3 90 rfl⟩
set_option maxRecDepth 100000 in
theorem mv_X5_areFit : MV pe_X5_areFit := ⟨by decide +kernel, ⟨by decide +kernel, by decide +kernel⟩, rfl, by decide, ta_3 100 rfl⟩
set_option maxRecDepth 100000 in
theorem mv_X5_forgetHouse : MV pe_X5_forgetHouse := ⟨by decide +kernel, ⟨by decide +kernel, by decide +kernel⟩, rfl, by decide, ta_4 149 rfl⟩
set_option maxRecDepth 100000 in
theorem mv_X5_findChain : MV pe_X5_findChain := ⟨by decide +kernel, ⟨by decide +kernel, by decide +kernel⟩, rfl, by decide, ta_6 36 rfl⟩
set_option maxRecDepth 100000 in
theorem mv_X5_longestNow : MV pe_X5_longestNow := ⟨by decide +kernel, ⟨by decide +kernel, by decide +kernel⟩, rfl, by decide, ta_6 40 rfl⟩
set_option maxRecDepth 100000 in
theorem mv_X5_fillFollowers : MV pe_X5_fillFollowers := ⟨by decide +kernel, ⟨by decide +kernel, by decide +kernel⟩, rfl, by decide, ta_6 44 rfl⟩
set_option maxRecDepth 100000 in
theorem mv_X5_longestBehind : MV pe_X5_longestBehind := ⟨by decide +kernel, ⟨by decide +kernel, by decide +kernel⟩, rfl, by decide, ta_6 48 rfl⟩
set_option maxRecDepth 100000 in
theorem mv_X5_canFollow : MV pe_X5_canFollow := ⟨by decide +kernel, ⟨by decide +kernel, by decide +kernel⟩, rfl, by decide, ta_6 52 rfl⟩
set_option maxRecDepth 100000 in
theorem mv_X5_longWith : MV pe_X5_longWith := ⟨by decide +kernel, ⟨by decide +kernel, by decide +kernel⟩, rfl, by decide, ta_6 56 rfl⟩
set_option maxRecDepth 100000 in
theorem mv_X5_firstLeaving : MV pe_X5_firstLeaving := ⟨by decide +kernel, ⟨by decide +kernel, by decide +kernel⟩, rfl, by decide, ta_6 61 rfl⟩
set_option maxRecDepth 100000 in
theorem mv_X5_findShort : MV pe_X5_findShort := ⟨by decide +kernel, ⟨by decide +kernel, by decide +kernel⟩, rfl, by decide, ta_6 79 rfl⟩
set_option maxRecDepth 100000 in
theorem mv_X5_searchShort : MV pe_X5_searchShort := ⟨by decide +kernel, ⟨by decide +kernel, by decide +kernel⟩, rfl, by decide, ta_6 86 rfl⟩
set_option maxRecDepth 100000 in
theorem mv_X5_isNew : MV pe_X5_isNew := ⟨by decide +kernel, ⟨by decide +kernel, by decide +kernel⟩, rfl, by decide, ta_6 93 rfl⟩
set_option maxRecDepth 100000 in
theorem mv_X5_findCollar : MV pe_X5_findCollar := ⟨by decide +kernel, ⟨by decide +kernel, by decide +kernel⟩, rfl, by decide, ta_6 112 rfl⟩
set_option maxRecDepth 100000 in
theorem mv_X5_tryCollar : MV pe_X5_tryCollar := ⟨by decide +kernel, ⟨by decide +kernel, by decide +kernel⟩, rfl, by decide, ta_6 117 rfl⟩
set_option maxRecDepth 100000 in
theorem mv_X6_init : MV pe_X6_init := ⟨by decide +kernel, ⟨by decide +kernel, by decide +kernel⟩, rfl, by decide, ta_2 178 rfl⟩
set_option maxRecDepth 100000 in
theorem mv_X6_findRests : MV pe_X6_findRests := ⟨by decide +kernel, ⟨by decide +kernel, by decide +kernel⟩, rfl, by decide, ta_6 183 rfl⟩
set_option maxRecDepth 100000 in
theorem mv_X6_fillArrives : MV pe_X6_fillArrives := ⟨by decide +kernel, ⟨by decide +kernel, by decide +kernel⟩, rfl, by decide, ta_6 187 rfl⟩
set_option maxRecDepth 100000 in
theorem mv_X6_canTake : MV pe_X6_canTake := ⟨by decide +kernel, ⟨by decide +kernel, by decide +kernel⟩, rfl, by decide, ta_6 191 rfl⟩
set_option maxRecDepth 100000 in
theorem mv_X6_bendMore : MV pe_X6_bendMore := ⟨by decide +kernel, ⟨by decide +kernel, by decide +kernel⟩, rfl, by decide, ta_6 196 rfl⟩
set_option maxRecDepth 100000 in
theorem mv_X6_isRest : MV pe_X6_isRest := ⟨by decide +kernel, ⟨by decide +kernel, by decide +kernel⟩, rfl, by decide, ta_6 202 rfl⟩
set_option maxRecDepth 100000 in
theorem mv_X6_streetHas : MV pe_X6_streetHas := ⟨by decide +kernel, ⟨by decide +kernel, by decide +kernel⟩, rfl, by decide, ta_6 206 rfl⟩
set_option maxRecDepth 100000 in
theorem mv_X6_paid : MV pe_X6_paid := ⟨by decide +kernel, ⟨by decide +kernel, by decide +kernel⟩, rfl, by decide, ta_6 210 rfl⟩
set_option maxRecDepth 100000 in
theorem mv_X6_houseHas : MV pe_X6_houseHas := ⟨by decide +kernel, ⟨by decide +kernel, by decide +kernel⟩, rfl, by decide, ta_6 214 rfl⟩
set_option maxRecDepth 100000 in
theorem mv_X6_noteRest : MV pe_X6_noteRest := ⟨by decide +kernel, ⟨by decide +kernel, by decide +kernel⟩, rfl, by decide, ta_6 218 rfl⟩
set_option maxRecDepth 100000 in
theorem mv_X6_asTold : MV pe_X6_asTold := ⟨by decide +kernel, ⟨by decide +kernel, by decide +kernel⟩, rfl, by decide, ta_6 222 rfl⟩
set_option maxRecDepth 100000 in
theorem mv_X7_init : MV pe_X7_init := ⟨by decide +kernel, ⟨by decide +kernel, by decide +kernel⟩, rfl, by decide, ta_1 38 rfl⟩
set_option maxRecDepth 100000 in
theorem mv_X7_hasRoom : MV pe_X7_hasRoom := ⟨by decide +kernel, ⟨by decide +kernel, by decide +kernel⟩, rfl, by decide, ta_3 52 rfl⟩
set_option maxRecDepth 100000 in
theorem mv_X7_append : MV pe_X7_append := ⟨by decide +kernel, ⟨by decide +kernel, by decide +kernel⟩, rfl, by decide, ta_3 56 rfl⟩
set_option maxRecDepth 100000 in
theorem mv_X7_begin : MV pe_X7_begin := ⟨by decide +kernel, ⟨by decide +kernel, by decide +kernel⟩, rfl, by decide, ta_4 0 rfl⟩
set_option maxRecDepth 100000 in
theorem mv_X7_peek : MV pe_X7_peek := ⟨by decide +kernel, ⟨by decide +kernel, by decide +kernel⟩, rfl, by decide, ta_4 8 rfl⟩
set_option maxRecDepth 100000 in
theorem mv_X7_byteAt : MV pe_X7_byteAt := ⟨by decide +kernel, ⟨by decide +kernel, by decide +kernel⟩, rfl, by decide, ta_4 12 rfl⟩
set_option maxRecDepth 100000 in
theorem mv_X7_named : MV pe_X7_named := ⟨by decide +kernel, ⟨by decide +kernel, by decide +kernel⟩, rfl, by decide, ta_4 17 rfl⟩
set_option maxRecDepth 100000 in
theorem mv_X7_placeAmong : MV pe_X7_placeAmong := ⟨by decide +kernel, ⟨by decide +kernel, by decide +kernel⟩, rfl, by decide, ta_4 25 rfl⟩
set_option maxRecDepth 100000 in
theorem mv_X7_blame : MV pe_X7_blame := ⟨by decide +kernel, ⟨by decide +kernel, by decide +kernel⟩, rfl, by decide, ta_4 77 rfl⟩
set_option maxRecDepth 100000 in
theorem mv_X7_tooMany : MV pe_X7_tooMany := ⟨by decide +kernel, ⟨by decide +kernel, by decide +kernel⟩, rfl, by decide, ta_4 85 rfl⟩
set_option maxRecDepth 100000 in
theorem mv_X7_numeral : MV pe_X7_numeral := ⟨by decide +kernel, ⟨by decide +kernel, by decide +kernel⟩, rfl, by decide, ta_4 100 rfl⟩
set_option maxRecDepth 100000 in
theorem mv_X7_isDigit : MV pe_X7_isDigit := ⟨by decide +kernel, ⟨by decide +kernel, by decide +kernel⟩, rfl, by decide, ta_4 103 rfl⟩
set_option maxRecDepth 100000 in
theorem mv_X7_noneSuch : MV pe_X7_noneSuch := ⟨by decide +kernel, ⟨by decide +kernel, by decide +kernel⟩, rfl, by decide, ta_4 118 rfl⟩
set_option maxRecDepth 100000 in
theorem mv_X7_sign : MV pe_X7_sign := ⟨by decide +kernel, ⟨by decide +kernel, by decide +kernel⟩, rfl, by decide, ta_4 134 rfl⟩
set_option maxRecDepth 100000 in
theorem mv_X7_ended : MV pe_X7_ended := ⟨by decide +kernel, ⟨by decide +kernel, by decide +kernel⟩, rfl, by decide, ta_4 190 rfl⟩
set_option maxRecDepth 100000 in
theorem mv_X8_init : MV pe_X8_init := ⟨by decide +kernel, ⟨by decide +kernel, by decide +kernel⟩, rfl, by decide, ta_2 79 rfl⟩
set_option maxRecDepth 100000 in
theorem mv_X8_reachedBits : MV pe_X8_reachedBits := ⟨by decide +kernel, ⟨by decide +kernel, by decide +kernel⟩, rfl, by decide, ta_5 63 rfl⟩
set_option maxRecDepth 100000 in
theorem mv_X8_arriving : MV pe_X8_arriving := ⟨by decide +kernel, ⟨by decide +kernel, by decide +kernel⟩, rfl, by decide, ta_5 67 rfl⟩
set_option maxRecDepth 100000 in
theorem mv_X8_behindPiece : MV pe_X8_behindPiece := ⟨by decide +kernel, ⟨by decide +kernel, by decide +kernel⟩, rfl, by decide, ta_5 72 rfl⟩
set_option maxRecDepth 100000 in
theorem mv_X8_chanceOf : MV pe_X8_chanceOf := ⟨by decide +kernel, ⟨by decide +kernel, by decide +kernel⟩, rfl, by decide, ta_6 170 rfl⟩
set_option maxRecDepth 100000 in
theorem mv_X8_worstPlace : MV pe_X8_worstPlace := ⟨by decide +kernel, ⟨by decide +kernel, by decide +kernel⟩, rfl, by decide, ta_7 13 rfl⟩
set_option maxRecDepth 100000 in
theorem mv_X8_lostAt : MV pe_X8_lostAt := ⟨by decide +kernel, ⟨by decide +kernel, by decide +kernel⟩, rfl, by decide, ta_7 17 rfl⟩
set_option maxRecDepth 100000 in
theorem mv_X9_init : MV pe_X9_init := ⟨by decide +kernel, ⟨by decide +kernel, by decide +kernel⟩, rfl, by decide, ta_1 211 rfl⟩
set_option maxRecDepth 100000 in
theorem mv_X9_readFrom : MV pe_X9_readFrom := ⟨by decide +kernel, ⟨by decide +kernel, by decide +kernel⟩, rfl, by decide, ta_4 210 rfl⟩
set_option maxRecDepth 100000 in
theorem mv_X9_readClose : MV pe_X9_readClose := ⟨by decide +kernel, ⟨by decide +kernel, by decide +kernel⟩, rfl, by decide, ta_4 215 rfl⟩
set_option maxRecDepth 100000 in
theorem mv_X9_add : MV pe_X9_add := ⟨by decide +kernel, ⟨by decide +kernel, by decide +kernel⟩, rfl, by decide, ta_4 221 rfl⟩
set_option maxRecDepth 100000 in
theorem mv_X9_readStep : MV pe_X9_readStep := ⟨by decide +kernel, ⟨by decide +kernel, by decide +kernel⟩, rfl, by decide, ta_4 227 rfl⟩
set_option maxRecDepth 100000 in
theorem mv_X9_readAgain : MV pe_X9_readAgain := ⟨by decide +kernel, ⟨by decide +kernel, by decide +kernel⟩, rfl, by decide, ta_4 233 rfl⟩
set_option maxRecDepth 100000 in
theorem mv_X9_doneOn : MV pe_X9_doneOn := ⟨by decide +kernel, ⟨by decide +kernel, by decide +kernel⟩, rfl, by decide, ta_5 3 rfl⟩
set_option maxRecDepth 100000 in
theorem mv_X9_behindClose : MV pe_X9_behindClose := ⟨by decide +kernel, ⟨by decide +kernel, by decide +kernel⟩, rfl, by decide, ta_5 7 rfl⟩
set_option maxRecDepth 100000 in
theorem mv_X9_behindAgain : MV pe_X9_behindAgain := ⟨by decide +kernel, ⟨by decide +kernel, by decide +kernel⟩, rfl, by decide, ta_5 11 rfl⟩
set_option maxRecDepth 100000 in
theorem mv_X9_isDone : MV pe_X9_isDone := ⟨by decide +kernel, ⟨by decide +kernel, by decide +kernel⟩, rfl, by decide, ta_5 15 rfl⟩
set_option maxRecDepth 100000 in
theorem mv_X10_init : MV pe_X10_init := ⟨by decide +kernel, ⟨by decide +kernel, by decide +kernel⟩, rfl, by decide, ta_2 209 rfl⟩
set_option maxRecDepth 100000 in
theorem mv_X10_outAfter : MV pe_X10_outAfter := ⟨by decide +kernel, ⟨by decide +kernel, by decide +kernel⟩, rfl, by decide, ta_6 18 rfl⟩
set_option maxRecDepth 100000 in
theorem mv_X10_live : MV pe_X10_live := ⟨by decide +kernel, ⟨by decide +kernel, by decide +kernel⟩, rfl, by decide, ta_7 43 rfl⟩
set_option maxRecDepth 100000 in
theorem mv_X10_doDrawn : MV pe_X10_doDrawn := ⟨by decide +kernel, ⟨by decide +kernel, by decide +kernel⟩, rfl, by decide, ta_7 47 rfl⟩
set_option maxRecDepth 100000 in
theorem mv_X10_drawn : MV pe_X10_drawn := ⟨by decide +kernel, ⟨by decide +kernel, by decide +kernel⟩, rfl, by decide, ta_7 51 rfl⟩
set_option maxRecDepth 100000 in
theorem mv_X11_init : MV pe_X11_init := ⟨by decide +kernel, ⟨by decide +kernel, by decide +kernel⟩, rfl, by decide, ta_1 30 rfl⟩
set_option maxRecDepth 100000 in
theorem mv_X11_feed : MV pe_X11_feed := ⟨by decide +kernel, ⟨by decide +kernel, by decide +kernel⟩, rfl, by decide, ta_3 48 rfl⟩
set_option maxRecDepth 100000 in
theorem mv_X11_fault : MV pe_X11_fault := ⟨by decide +kernel, ⟨by decide +kernel, by decide +kernel⟩, rfl, by decide, ta_3 60 rfl⟩
set_option maxRecDepth 100000 in
theorem mv_X11_undo : MV pe_X11_undo := ⟨by decide +kernel, ⟨by decide +kernel, by decide +kernel⟩, rfl, by decide, ta_3 64 rfl⟩
set_option maxRecDepth 100000 in
theorem mv_X11_wed : MV pe_X11_wed := ⟨by decide +kernel, ⟨by decide +kernel, by decide +kernel⟩, rfl, by decide, ta_3 83 rfl⟩
set_option maxRecDepth 100000 in
theorem mv_X11_bit : MV pe_X11_bit := ⟨by decide +kernel, ⟨by decide +kernel, by decide +kernel⟩, rfl, by decide, ta_3 93 rfl⟩
set_option maxRecDepth 100000 in
theorem mv_X11_pick : MV pe_X11_pick := ⟨by decide +kernel, ⟨by decide +kernel, by decide +kernel⟩, rfl, by decide, ta_3 96 rfl⟩
set_option maxRecDepth 100000 in
theorem mv_X11_image : MV pe_X11_image := ⟨by decide +kernel, ⟨by decide +kernel, by decide +kernel⟩, rfl, by decide, ta_3 125 rfl⟩
set_option maxRecDepth 100000 in
theorem mv_X11_restore : MV pe_X11_restore := ⟨by decide +kernel, ⟨by decide +kernel, by decide +kernel⟩, rfl, by decide, ta_3 142 rfl⟩
set_option maxRecDepth 100000 in
theorem mv_X11_status : MV pe_X11_status := ⟨by decide +kernel, ⟨by decide +kernel, by decide +kernel⟩, rfl, by decide, ta_3 150 rfl⟩
set_option maxRecDepth 100000 in
theorem mv_X11_count : MV pe_X11_count := ⟨by decide +kernel, ⟨by decide +kernel, by decide +kernel⟩, rfl, by decide, ta_3 154 rfl⟩
set_option maxRecDepth 100000 in
theorem mv_X11_house : MV pe_X11_house := ⟨by decide +kernel, ⟨by decide +kernel, by decide +kernel⟩, rfl, by decide, ta_3 162 rfl⟩
set_option maxRecDepth 100000 in
theorem mv_X11_open : MV pe_X11_open := ⟨by decide +kernel, ⟨by decide +kernel, by decide +kernel⟩, rfl, by decide, ta_3 166 rfl⟩
set_option maxRecDepth 100000 in
theorem mv_X11_expect : MV pe_X11_expect := ⟨by decide +kernel, ⟨by decide +kernel, by decide +kernel⟩, rfl, by decide, ta_3 170 rfl⟩
set_option maxRecDepth 100000 in
theorem mv_X11_within : MV pe_X11_within := ⟨by decide +kernel, ⟨by decide +kernel, by decide +kernel⟩, rfl, by decide, ta_4 21 rfl⟩
set_option maxRecDepth 100000 in
theorem mv_X11_put : MV pe_X11_put := ⟨by decide +kernel, ⟨by decide +kernel, by decide +kernel⟩, rfl, by decide, ta_4 110 rfl⟩
set_option maxRecDepth 100000 in
theorem mv_X11_law : MV pe_X11_law := ⟨by decide +kernel, ⟨by decide +kernel, by decide +kernel⟩, rfl, by decide, ta_4 157 rfl⟩
set_option maxRecDepth 100000 in
theorem mv_X11_work : MV pe_X11_work := ⟨by decide +kernel, ⟨by decide +kernel, by decide +kernel⟩, rfl, by decide, ta_4 202 rfl⟩
set_option maxRecDepth 100000 in
theorem mv_X11_book : MV pe_X11_book := ⟨by decide +kernel, ⟨by decide +kernel, by decide +kernel⟩, rfl, by decide, ta_5 109 rfl⟩
set_option maxRecDepth 100000 in
theorem mv_X11_told : MV pe_X11_told := ⟨by decide +kernel, ⟨by decide +kernel, by decide +kernel⟩, rfl, by decide, ta_5 135 rfl⟩
set_option maxRecDepth 100000 in
theorem mv_X11_piece : MV pe_X11_piece := ⟨by decide +kernel, ⟨by decide +kernel, by decide +kernel⟩, rfl, by decide, ta_5 154 rfl⟩
set_option maxRecDepth 100000 in
theorem mv_X11_expectPiece : MV pe_X11_expectPiece := ⟨by decide +kernel, ⟨by decide +kernel, by decide +kernel⟩, rfl, by decide, ta_5 158 rfl⟩
set_option maxRecDepth 100000 in
theorem mv_X11_expectThere : MV pe_X11_expectThere := ⟨by decide +kernel, ⟨by decide +kernel, by decide +kernel⟩, rfl, by decide, ta_5 162 rfl⟩
set_option maxRecDepth 100000 in
theorem mv_X11_collar : MV pe_X11_collar := ⟨by decide +kernel, ⟨by decide +kernel, by decide +kernel⟩, rfl, by decide, ta_5 191 rfl⟩
set_option maxRecDepth 100000 in
theorem mv_X11_fire : MV pe_X11_fire := ⟨by decide +kernel, ⟨by decide +kernel, by decide +kernel⟩, rfl, by decide, ta_5 198 rfl⟩
set_option maxRecDepth 100000 in
theorem mv_X11_expectFire : MV pe_X11_expectFire := ⟨by decide +kernel, ⟨by decide +kernel, by decide +kernel⟩, rfl, by decide, ta_5 202 rfl⟩
set_option maxRecDepth 100000 in
theorem mv_X11_row : MV pe_X11_row := ⟨by decide +kernel, ⟨by decide +kernel, by decide +kernel⟩, rfl, by decide, ta_5 210 rfl⟩
set_option maxRecDepth 100000 in
theorem mv_X11_behind : MV pe_X11_behind := ⟨by decide +kernel, ⟨by decide +kernel, by decide +kernel⟩, rfl, by decide, ta_5 217 rfl⟩
set_option maxRecDepth 100000 in
theorem mv_X11_would : MV pe_X11_would := ⟨by decide +kernel, ⟨by decide +kernel, by decide +kernel⟩, rfl, by decide, ta_5 224 rfl⟩
set_option maxRecDepth 100000 in
theorem mv_X11_fits : MV pe_X11_fits := ⟨by decide +kernel, ⟨by decide +kernel, by decide +kernel⟩, rfl, by decide, ta_5 234 rfl⟩
set_option maxRecDepth 100000 in
theorem mv_X11_expectThread : MV pe_X11_expectThread := ⟨by decide +kernel, ⟨by decide +kernel, by decide +kernel⟩, rfl, by decide, ta_5 238 rfl⟩
set_option maxRecDepth 100000 in
theorem mv_X11_can : MV pe_X11_can := ⟨by decide +kernel, ⟨by decide +kernel, by decide +kernel⟩, rfl, by decide, ta_6 6 rfl⟩
set_option maxRecDepth 100000 in
theorem mv_X11_ahead : MV pe_X11_ahead := ⟨by decide +kernel, ⟨by decide +kernel, by decide +kernel⟩, rfl, by decide, ta_6 14 rfl⟩
set_option maxRecDepth 100000 in
theorem mv_X11_chain : MV pe_X11_chain := ⟨by decide +kernel, ⟨by decide +kernel, by decide +kernel⟩, rfl, by decide, ta_6 32 rfl⟩
set_option maxRecDepth 100000 in
theorem mv_X11_chained : MV pe_X11_chained := ⟨by decide +kernel, ⟨by decide +kernel, by decide +kernel⟩, rfl, by decide, ta_6 68 rfl⟩
set_option maxRecDepth 100000 in
theorem mv_X11_brief : MV pe_X11_brief := ⟨by decide +kernel, ⟨by decide +kernel, by decide +kernel⟩, rfl, by decide, ta_6 75 rfl⟩
set_option maxRecDepth 100000 in
theorem mv_X11_briefly : MV pe_X11_briefly := ⟨by decide +kernel, ⟨by decide +kernel, by decide +kernel⟩, rfl, by decide, ta_6 101 rfl⟩
set_option maxRecDepth 100000 in
theorem mv_X11_joiner : MV pe_X11_joiner := ⟨by decide +kernel, ⟨by decide +kernel, by decide +kernel⟩, rfl, by decide, ta_6 108 rfl⟩
set_option maxRecDepth 100000 in
theorem mv_X11_leaks : MV pe_X11_leaks := ⟨by decide +kernel, ⟨by decide +kernel, by decide +kernel⟩, rfl, by decide, ta_6 129 rfl⟩
set_option maxRecDepth 100000 in
theorem mv_X11_look : MV pe_X11_look := ⟨by decide +kernel, ⟨by decide +kernel, by decide +kernel⟩, rfl, by decide, ta_6 149 rfl⟩
set_option maxRecDepth 100000 in
theorem mv_X11_sure : MV pe_X11_sure := ⟨by decide +kernel, ⟨by decide +kernel, by decide +kernel⟩, rfl, by decide, ta_6 166 rfl⟩
set_option maxRecDepth 100000 in
theorem mv_X11_street : MV pe_X11_street := ⟨by decide +kernel, ⟨by decide +kernel, by decide +kernel⟩, rfl, by decide, ta_6 179 rfl⟩
set_option maxRecDepth 100000 in
theorem mv_X11_share : MV pe_X11_share := ⟨by decide +kernel, ⟨by decide +kernel, by decide +kernel⟩, rfl, by decide, ta_6 229 rfl⟩
set_option maxRecDepth 100000 in
theorem mv_X11_next : MV pe_X11_next := ⟨by decide +kernel, ⟨by decide +kernel, by decide +kernel⟩, rfl, by decide, ta_7 2 rfl⟩
set_option maxRecDepth 100000 in
theorem mv_X11_worst : MV pe_X11_worst := ⟨by decide +kernel, ⟨by decide +kernel, by decide +kernel⟩, rfl, by decide, ta_7 9 rfl⟩
set_option maxRecDepth 100000 in
theorem mv_X11_needed : MV pe_X11_needed := ⟨by decide +kernel, ⟨by decide +kernel, by decide +kernel⟩, rfl, by decide, ta_7 25 rfl⟩
set_option maxRecDepth 100000 in
theorem mv_X11_kin : MV pe_X11_kin := ⟨by decide +kernel, ⟨by decide +kernel, by decide +kernel⟩, rfl, by decide, ta_7 32 rfl⟩
set_option maxRecDepth 100000 in
theorem mv_X11_year : MV pe_X11_year := ⟨by decide +kernel, ⟨by decide +kernel, by decide +kernel⟩, rfl, by decide, ta_7 39 rfl⟩
set_option maxRecDepth 100000 in
theorem mv_X11_span : MV pe_X11_span := ⟨by decide +kernel, ⟨by decide +kernel, by decide +kernel⟩, rfl, by decide, ta_7 68 rfl⟩
set_option maxRecDepth 100000 in
theorem mv_X12_init : MV pe_X12_init := ⟨by decide +kernel, ⟨by decide +kernel, by decide +kernel⟩, rfl, by decide, ta_7 74 rfl⟩
set_option maxRecDepth 100000 in
theorem mv_X12_tellsNothing : MV pe_X12_tellsNothing := ⟨by decide +kernel, ⟨by decide +kernel, by decide +kernel⟩, rfl, by decide, ta_7 81 rfl⟩
set_option maxRecDepth 100000 in
theorem mv_X12_beginsAnew : MV pe_X12_beginsAnew := ⟨by decide +kernel, ⟨by decide +kernel, by decide +kernel⟩, rfl, by decide, ta_7 85 rfl⟩
set_option maxRecDepth 100000 in
theorem mv_X12_lays : MV pe_X12_lays := ⟨by decide +kernel, ⟨by decide +kernel, by decide +kernel⟩, rfl, by decide, ta_7 88 rfl⟩
set_option maxRecDepth 100000 in
theorem mv_X12_thrown : MV pe_X12_thrown := ⟨by decide +kernel, ⟨by decide +kernel, by decide +kernel⟩, rfl, by decide, ta_8 6 rfl⟩
set_option maxRecDepth 100000 in
theorem mv_X12_feed : MV pe_X12_feed := ⟨by decide +kernel, ⟨by decide +kernel, by decide +kernel⟩, rfl, by decide, ta_8 10 rfl⟩
set_option maxRecDepth 100000 in
theorem mv_X12_house : MV pe_X12_house := ⟨by decide +kernel, ⟨by decide +kernel, by decide +kernel⟩, rfl, by decide, ta_8 14 rfl⟩
set_option maxRecDepth 100000 in
theorem mv_X12_in : MV pe_X12_in := ⟨by decide +kernel, ⟨by decide +kernel, by decide +kernel⟩, rfl, by decide, ta_8 17 rfl⟩
set_option maxRecDepth 100000 in
theorem mv_X12_bad : MV pe_X12_bad := ⟨by decide +kernel, ⟨by decide +kernel, by decide +kernel⟩, rfl, by decide, ta_8 21 rfl⟩
set_option maxRecDepth 100000 in
theorem mv_X12_starts : MV pe_X12_starts := ⟨by decide +kernel, ⟨by decide +kernel, by decide +kernel⟩, rfl, by decide, ta_8 25 rfl⟩
set_option maxRecDepth 100000 in
theorem mv_X12_blanks : MV pe_X12_blanks := ⟨by decide +kernel, ⟨by decide +kernel, by decide +kernel⟩, rfl, by decide, ta_8 29 rfl⟩
set_option maxRecDepth 100000 in
theorem mv_X12_byteAt : MV pe_X12_byteAt := ⟨by decide +kernel, ⟨by decide +kernel, by decide +kernel⟩, rfl, by decide, ta_8 33 rfl⟩
set_option maxRecDepth 100000 in
theorem mv_X12_clause : MV pe_X12_clause := ⟨by decide +kernel, ⟨by decide +kernel, by decide +kernel⟩, rfl, by decide, ta_8 37 rfl⟩
set_option maxRecDepth 100000 in
theorem mv_X12_kindHere : MV pe_X12_kindHere := ⟨by decide +kernel, ⟨by decide +kernel, by decide +kernel⟩, rfl, by decide, ta_8 41 rfl⟩
set_option maxRecDepth 100000 in
theorem mv_X12_isWord : MV pe_X12_isWord := ⟨by decide +kernel, ⟨by decide +kernel, by decide +kernel⟩, rfl, by decide, ta_8 45 rfl⟩
set_option maxRecDepth 100000 in
theorem mv_X12_wordHere : MV pe_X12_wordHere := ⟨by decide +kernel, ⟨by decide +kernel, by decide +kernel⟩, rfl, by decide, ta_8 49 rfl⟩
set_option maxRecDepth 100000 in
theorem mv_X12_isSmall : MV pe_X12_isSmall := ⟨by decide +kernel, ⟨by decide +kernel, by decide +kernel⟩, rfl, by decide, ta_8 52 rfl⟩
set_option maxRecDepth 100000 in
theorem mv_X12_six : MV pe_X12_six := ⟨by decide +kernel, ⟨by decide +kernel, by decide +kernel⟩, rfl, by decide, ta_8 55 rfl⟩
set_option maxRecDepth 100000 in
theorem mv_X12_wrong : MV pe_X12_wrong := ⟨by decide +kernel, ⟨by decide +kernel, by decide +kernel⟩, rfl, by decide, ta_8 59 rfl⟩
set_option maxRecDepth 100000 in
theorem mv_X12_mostOf : MV pe_X12_mostOf := ⟨by decide +kernel, ⟨by decide +kernel, by decide +kernel⟩, rfl, by decide, ta_8 62 rfl⟩
set_option maxRecDepth 100000 in
theorem mv_X12_skipWord : MV pe_X12_skipWord := ⟨by decide +kernel, ⟨by decide +kernel, by decide +kernel⟩, rfl, by decide, ta_8 66 rfl⟩
set_option maxRecDepth 100000 in
theorem mv_X12_number : MV pe_X12_number := ⟨by decide +kernel, ⟨by decide +kernel, by decide +kernel⟩, rfl, by decide, ta_8 70 rfl⟩
set_option maxRecDepth 100000 in
theorem mv_X12_isDigit : MV pe_X12_isDigit := ⟨by decide +kernel, ⟨by decide +kernel, by decide +kernel⟩, rfl, by decide, ta_8 73 rfl⟩
set_option maxRecDepth 100000 in
theorem mv_X12_readThread : MV pe_X12_readThread := ⟨by decide +kernel, ⟨by decide +kernel, by decide +kernel⟩, rfl, by decide, ta_8 78 rfl⟩
set_option maxRecDepth 100000 in
theorem mv_X12_sign : MV pe_X12_sign := ⟨by decide +kernel, ⟨by decide +kernel, by decide +kernel⟩, rfl, by decide, ta_8 82 rfl⟩
set_option maxRecDepth 100000 in
theorem mv_X12_ends : MV pe_X12_ends := ⟨by decide +kernel, ⟨by decide +kernel, by decide +kernel⟩, rfl, by decide, ta_8 86 rfl⟩
set_option maxRecDepth 100000 in
theorem mv_X12_law : MV pe_X12_law := ⟨by decide +kernel, ⟨by decide +kernel, by decide +kernel⟩, rfl, by decide, ta_8 90 rfl⟩
set_option maxRecDepth 100000 in
theorem mv_X12_sum : MV pe_X12_sum := ⟨by decide +kernel, ⟨by decide +kernel, by decide +kernel⟩, rfl, by decide, ta_8 94 rfl⟩
set_option maxRecDepth 100000 in
theorem mv_X12_product : MV pe_X12_product := ⟨by decide +kernel, ⟨by decide +kernel, by decide +kernel⟩, rfl, by decide, ta_8 98 rfl⟩
set_option maxRecDepth 100000 in
theorem mv_X12_one : MV pe_X12_one := ⟨by decide +kernel, ⟨by decide +kernel, by decide +kernel⟩, rfl, by decide, ta_8 102 rfl⟩
set_option maxRecDepth 100000 in
theorem mv_X12_opensOne : MV pe_X12_opensOne := ⟨by decide +kernel, ⟨by decide +kernel, by decide +kernel⟩, rfl, by decide, ta_8 106 rfl⟩
set_option maxRecDepth 100000 in
theorem mv_X12_notes : MV pe_X12_notes := ⟨by decide +kernel, ⟨by decide +kernel, by decide +kernel⟩, rfl, by decide, ta_8 110 rfl⟩
set_option maxRecDepth 100000 in
theorem mv_X12_knownHere : MV pe_X12_knownHere := ⟨by decide +kernel, ⟨by decide +kernel, by decide +kernel⟩, rfl, by decide, ta_8 114 rfl⟩
set_option maxRecDepth 100000 in
theorem mv_X12_takes : MV pe_X12_takes := ⟨by decide +kernel, ⟨by decide +kernel, by decide +kernel⟩, rfl, by decide, ta_8 118 rfl⟩
set_option maxRecDepth 100000 in
theorem mv_X12_takesSign : MV pe_X12_takesSign := ⟨by decide +kernel, ⟨by decide +kernel, by decide +kernel⟩, rfl, by decide, ta_8 122 rfl⟩
set_option maxRecDepth 100000 in
theorem mv_X12_book : MV pe_X12_book := ⟨by decide +kernel, ⟨by decide +kernel, by decide +kernel⟩, rfl, by decide, ta_8 126 rfl⟩
set_option maxRecDepth 100000 in
theorem mv_X12_fault : MV pe_X12_fault := ⟨by decide +kernel, ⟨by decide +kernel, by decide +kernel⟩, rfl, by decide, ta_8 130 rfl⟩
set_option maxRecDepth 100000 in
theorem mv_X12_work : MV pe_X12_work := ⟨by decide +kernel, ⟨by decide +kernel, by decide +kernel⟩, rfl, by decide, ta_8 134 rfl⟩
set_option maxRecDepth 100000 in
theorem mv_X12_readsStep : MV pe_X12_readsStep := ⟨by decide +kernel, ⟨by decide +kernel, by decide +kernel⟩, rfl, by decide, ta_8 138 rfl⟩
set_option maxRecDepth 100000 in
theorem mv_X12_stepHere : MV pe_X12_stepHere := ⟨by decide +kernel, ⟨by decide +kernel, by decide +kernel⟩, rfl, by decide, ta_8 142 rfl⟩
set_option maxRecDepth 100000 in
theorem mv_X12_copies : MV pe_X12_copies := ⟨by decide +kernel, ⟨by decide +kernel, by decide +kernel⟩, rfl, by decide, ta_8 145 rfl⟩
set_option maxRecDepth 100000 in
theorem mv_X12_goes : MV pe_X12_goes := ⟨by decide +kernel, ⟨by decide +kernel, by decide +kernel⟩, rfl, by decide, ta_8 149 rfl⟩
set_option maxRecDepth 100000 in
theorem mv_X12_does : MV pe_X12_does := ⟨by decide +kernel, ⟨by decide +kernel, by decide +kernel⟩, rfl, by decide, ta_8 153 rfl⟩
set_option maxRecDepth 100000 in
theorem mv_X12_turns : MV pe_X12_turns := ⟨by decide +kernel, ⟨by decide +kernel, by decide +kernel⟩, rfl, by decide, ta_8 157 rfl⟩
set_option maxRecDepth 100000 in
theorem mv_X12_placeOf : MV pe_X12_placeOf := ⟨by decide +kernel, ⟨by decide +kernel, by decide +kernel⟩, rfl, by decide, ta_8 160 rfl⟩
set_option maxRecDepth 100000 in
theorem mv_X12_laysOne : MV pe_X12_laysOne := ⟨by decide +kernel, ⟨by decide +kernel, by decide +kernel⟩, rfl, by decide, ta_8 164 rfl⟩
set_option maxRecDepth 100000 in
theorem mv_X12_canLay : MV pe_X12_canLay := ⟨by decide +kernel, ⟨by decide +kernel, by decide +kernel⟩, rfl, by decide, ta_8 168 rfl⟩
set_option maxRecDepth 100000 in
theorem mv_X12_manyIn : MV pe_X12_manyIn := ⟨by decide +kernel, ⟨by decide +kernel, by decide +kernel⟩, rfl, by decide, ta_8 171 rfl⟩
set_option maxRecDepth 100000 in
theorem mv_X12_footOf : MV pe_X12_footOf := ⟨by decide +kernel, ⟨by decide +kernel, by decide +kernel⟩, rfl, by decide, ta_8 175 rfl⟩
set_option maxRecDepth 100000 in
theorem mv_X12_headOf : MV pe_X12_headOf := ⟨by decide +kernel, ⟨by decide +kernel, by decide +kernel⟩, rfl, by decide, ta_8 179 rfl⟩
set_option maxRecDepth 100000 in
theorem mv_X12_isJoined : MV pe_X12_isJoined := ⟨by decide +kernel, ⟨by decide +kernel, by decide +kernel⟩, rfl, by decide, ta_8 183 rfl⟩
set_option maxRecDepth 100000 in
theorem mv_X12_lifts : MV pe_X12_lifts := ⟨by decide +kernel, ⟨by decide +kernel, by decide +kernel⟩, rfl, by decide, ta_8 186 rfl⟩
set_option maxRecDepth 100000 in
theorem mv_X12_becomes : MV pe_X12_becomes := ⟨by decide +kernel, ⟨by decide +kernel, by decide +kernel⟩, rfl, by decide, ta_8 189 rfl⟩
set_option maxRecDepth 100000 in
theorem mv_X12_bursts : MV pe_X12_bursts := ⟨by decide +kernel, ⟨by decide +kernel, by decide +kernel⟩, rfl, by decide, ta_8 192 rfl⟩
set_option maxRecDepth 100000 in
theorem mv_X12_hourEnds : MV pe_X12_hourEnds := ⟨by decide +kernel, ⟨by decide +kernel, by decide +kernel⟩, rfl, by decide, ta_8 196 rfl⟩
set_option maxRecDepth 100000 in
theorem mv_X12_isReached : MV pe_X12_isReached := ⟨by decide +kernel, ⟨by decide +kernel, by decide +kernel⟩, rfl, by decide, ta_8 200 rfl⟩
set_option maxRecDepth 100000 in
theorem mv_X12_longOf : MV pe_X12_longOf := ⟨by decide +kernel, ⟨by decide +kernel, by decide +kernel⟩, rfl, by decide, ta_8 204 rfl⟩
set_option maxRecDepth 100000 in
theorem mv_X12_arrives : MV pe_X12_arrives := ⟨by decide +kernel, ⟨by decide +kernel, by decide +kernel⟩, rfl, by decide, ta_8 208 rfl⟩
set_option maxRecDepth 100000 in
theorem mv_X12_runs : MV pe_X12_runs := ⟨by decide +kernel, ⟨by decide +kernel, by decide +kernel⟩, rfl, by decide, ta_8 212 rfl⟩
set_option maxRecDepth 100000 in
theorem mv_X12_leftOf : MV pe_X12_leftOf := ⟨by decide +kernel, ⟨by decide +kernel, by decide +kernel⟩, rfl, by decide, ta_8 216 rfl⟩
set_option maxRecDepth 100000 in
theorem mv_X12_leftBy : MV pe_X12_leftBy := ⟨by decide +kernel, ⟨by decide +kernel, by decide +kernel⟩, rfl, by decide, ta_8 220 rfl⟩
set_option maxRecDepth 100000 in
theorem mv_X12_byLaw : MV pe_X12_byLaw := ⟨by decide +kernel, ⟨by decide +kernel, by decide +kernel⟩, rfl, by decide, ta_8 224 rfl⟩
set_option maxRecDepth 100000 in
theorem mv_X12_by : MV pe_X12_by := ⟨by decide +kernel, ⟨by decide +kernel, by decide +kernel⟩, rfl, by decide, ta_8 227 rfl⟩
set_option maxRecDepth 100000 in
theorem mv_X12_less : MV pe_X12_less := ⟨by decide +kernel, ⟨by decide +kernel, by decide +kernel⟩, rfl, by decide, ta_8 230 rfl⟩
set_option maxRecDepth 100000 in
theorem mv_X12_more : MV pe_X12_more := ⟨by decide +kernel, ⟨by decide +kernel, by decide +kernel⟩, rfl, by decide, ta_8 233 rfl⟩
set_option maxRecDepth 100000 in
theorem mv_X12_undo : MV pe_X12_undo := ⟨by decide +kernel, ⟨by decide +kernel, by decide +kernel⟩, rfl, by decide, ta_8 237 rfl⟩
set_option maxRecDepth 100000 in
theorem mv_X12_told : MV pe_X12_told := ⟨by decide +kernel, ⟨by decide +kernel, by decide +kernel⟩, rfl, by decide, ta_9 1 rfl⟩
set_option maxRecDepth 100000 in
theorem mv_X12_liesIn : MV pe_X12_liesIn := ⟨by decide +kernel, ⟨by decide +kernel, by decide +kernel⟩, rfl, by decide, ta_9 5 rfl⟩
set_option maxRecDepth 100000 in
theorem mv_X12_outIn : MV pe_X12_outIn := ⟨by decide +kernel, ⟨by decide +kernel, by decide +kernel⟩, rfl, by decide, ta_9 9 rfl⟩
set_option maxRecDepth 100000 in
theorem mv_X12_piece : MV pe_X12_piece := ⟨by decide +kernel, ⟨by decide +kernel, by decide +kernel⟩, rfl, by decide, ta_9 13 rfl⟩
set_option maxRecDepth 100000 in
theorem mv_X12_isPiece : MV pe_X12_isPiece := ⟨by decide +kernel, ⟨by decide +kernel, by decide +kernel⟩, rfl, by decide, ta_9 17 rfl⟩
set_option maxRecDepth 100000 in
theorem mv_X12_collar : MV pe_X12_collar := ⟨by decide +kernel, ⟨by decide +kernel, by decide +kernel⟩, rfl, by decide, ta_9 21 rfl⟩
set_option maxRecDepth 100000 in
theorem mv_X12_fire : MV pe_X12_fire := ⟨by decide +kernel, ⟨by decide +kernel, by decide +kernel⟩, rfl, by decide, ta_9 25 rfl⟩
set_option maxRecDepth 100000 in
theorem mv_X12_isFire : MV pe_X12_isFire := ⟨by decide +kernel, ⟨by decide +kernel, by decide +kernel⟩, rfl, by decide, ta_9 29 rfl⟩
set_option maxRecDepth 100000 in
theorem mv_X12_row : MV pe_X12_row := ⟨by decide +kernel, ⟨by decide +kernel, by decide +kernel⟩, rfl, by decide, ta_9 33 rfl⟩
set_option maxRecDepth 100000 in
theorem mv_X12_behind : MV pe_X12_behind := ⟨by decide +kernel, ⟨by decide +kernel, by decide +kernel⟩, rfl, by decide, ta_9 37 rfl⟩
set_option maxRecDepth 100000 in
theorem mv_X12_would : MV pe_X12_would := ⟨by decide +kernel, ⟨by decide +kernel, by decide +kernel⟩, rfl, by decide, ta_9 41 rfl⟩
set_option maxRecDepth 100000 in
theorem mv_X12_fits : MV pe_X12_fits := ⟨by decide +kernel, ⟨by decide +kernel, by decide +kernel⟩, rfl, by decide, ta_9 45 rfl⟩
set_option maxRecDepth 100000 in
theorem mv_X12_isThread : MV pe_X12_isThread := ⟨by decide +kernel, ⟨by decide +kernel, by decide +kernel⟩, rfl, by decide, ta_9 48 rfl⟩
set_option maxRecDepth 100000 in
theorem mv_X12_can : MV pe_X12_can := ⟨by decide +kernel, ⟨by decide +kernel, by decide +kernel⟩, rfl, by decide, ta_9 52 rfl⟩
set_option maxRecDepth 100000 in
theorem mv_X12_ahead : MV pe_X12_ahead := ⟨by decide +kernel, ⟨by decide +kernel, by decide +kernel⟩, rfl, by decide, ta_9 56 rfl⟩
set_option maxRecDepth 100000 in
theorem mv_X12_chain : MV pe_X12_chain := ⟨by decide +kernel, ⟨by decide +kernel, by decide +kernel⟩, rfl, by decide, ta_9 60 rfl⟩
set_option maxRecDepth 100000 in
theorem mv_X12_chains : MV pe_X12_chains := ⟨by decide +kernel, ⟨by decide +kernel, by decide +kernel⟩, rfl, by decide, ta_9 64 rfl⟩
set_option maxRecDepth 100000 in
theorem mv_X12_laysLongest : MV pe_X12_laysLongest := ⟨by decide +kernel, ⟨by decide +kernel, by decide +kernel⟩, rfl, by decide, ta_9 68 rfl⟩
set_option maxRecDepth 100000 in
theorem mv_X12_has : MV pe_X12_has := ⟨by decide +kernel, ⟨by decide +kernel, by decide +kernel⟩, rfl, by decide, ta_9 71 rfl⟩
set_option maxRecDepth 100000 in
theorem mv_X12_isNext : MV pe_X12_isNext := ⟨by decide +kernel, ⟨by decide +kernel, by decide +kernel⟩, rfl, by decide, ta_9 75 rfl⟩
set_option maxRecDepth 100000 in
theorem mv_X12_chained : MV pe_X12_chained := ⟨by decide +kernel, ⟨by decide +kernel, by decide +kernel⟩, rfl, by decide, ta_9 79 rfl⟩
set_option maxRecDepth 100000 in
theorem mv_X12_joiner : MV pe_X12_joiner := ⟨by decide +kernel, ⟨by decide +kernel, by decide +kernel⟩, rfl, by decide, ta_9 83 rfl⟩
set_option maxRecDepth 100000 in
theorem mv_X12_brief : MV pe_X12_brief := ⟨by decide +kernel, ⟨by decide +kernel, by decide +kernel⟩, rfl, by decide, ta_9 87 rfl⟩
set_option maxRecDepth 100000 in
theorem mv_X12_briefs : MV pe_X12_briefs := ⟨by decide +kernel, ⟨by decide +kernel, by decide +kernel⟩, rfl, by decide, ta_9 91 rfl⟩
set_option maxRecDepth 100000 in
theorem mv_X12_isBrief : MV pe_X12_isBrief := ⟨by decide +kernel, ⟨by decide +kernel, by decide +kernel⟩, rfl, by decide, ta_9 95 rfl⟩
set_option maxRecDepth 100000 in
theorem mv_X12_briefly : MV pe_X12_briefly := ⟨by decide +kernel, ⟨by decide +kernel, by decide +kernel⟩, rfl, by decide, ta_9 99 rfl⟩
set_option maxRecDepth 100000 in
theorem mv_X12_leaks : MV pe_X12_leaks := ⟨by decide +kernel, ⟨by decide +kernel, by decide +kernel⟩, rfl, by decide, ta_9 103 rfl⟩
set_option maxRecDepth 100000 in
theorem mv_X12_isLeak : MV pe_X12_isLeak := ⟨by decide +kernel, ⟨by decide +kernel, by decide +kernel⟩, rfl, by decide, ta_9 107 rfl⟩
set_option maxRecDepth 100000 in
theorem mv_X12_look : MV pe_X12_look := ⟨by decide +kernel, ⟨by decide +kernel, by decide +kernel⟩, rfl, by decide, ta_9 111 rfl⟩
set_option maxRecDepth 100000 in
theorem mv_X12_isTold : MV pe_X12_isTold := ⟨by decide +kernel, ⟨by decide +kernel, by decide +kernel⟩, rfl, by decide, ta_9 115 rfl⟩
set_option maxRecDepth 100000 in
theorem mv_X12_wed : MV pe_X12_wed := ⟨by decide +kernel, ⟨by decide +kernel, by decide +kernel⟩, rfl, by decide, ta_9 119 rfl⟩
set_option maxRecDepth 100000 in
theorem mv_X12_weds : MV pe_X12_weds := ⟨by decide +kernel, ⟨by decide +kernel, by decide +kernel⟩, rfl, by decide, ta_9 123 rfl⟩
set_option maxRecDepth 100000 in
theorem mv_X12_sure : MV pe_X12_sure := ⟨by decide +kernel, ⟨by decide +kernel, by decide +kernel⟩, rfl, by decide, ta_9 127 rfl⟩
set_option maxRecDepth 100000 in
theorem mv_X12_partOf : MV pe_X12_partOf := ⟨by decide +kernel, ⟨by decide +kernel, by decide +kernel⟩, rfl, by decide, ta_9 130 rfl⟩
set_option maxRecDepth 100000 in
theorem mv_X12_street : MV pe_X12_street := ⟨by decide +kernel, ⟨by decide +kernel, by decide +kernel⟩, rfl, by decide, ta_9 134 rfl⟩
set_option maxRecDepth 100000 in
theorem mv_X12_isChoice : MV pe_X12_isChoice := ⟨by decide +kernel, ⟨by decide +kernel, by decide +kernel⟩, rfl, by decide, ta_9 138 rfl⟩
set_option maxRecDepth 100000 in
theorem mv_X12_isRest : MV pe_X12_isRest := ⟨by decide +kernel, ⟨by decide +kernel, by decide +kernel⟩, rfl, by decide, ta_9 142 rfl⟩
set_option maxRecDepth 100000 in
theorem mv_X12_streetHas : MV pe_X12_streetHas := ⟨by decide +kernel, ⟨by decide +kernel, by decide +kernel⟩, rfl, by decide, ta_9 146 rfl⟩
set_option maxRecDepth 100000 in
theorem mv_X12_comes : MV pe_X12_comes := ⟨by decide +kernel, ⟨by decide +kernel, by decide +kernel⟩, rfl, by decide, ta_9 150 rfl⟩
set_option maxRecDepth 100000 in
theorem mv_X12_houseHas : MV pe_X12_houseHas := ⟨by decide +kernel, ⟨by decide +kernel, by decide +kernel⟩, rfl, by decide, ta_9 154 rfl⟩
set_option maxRecDepth 100000 in
theorem mv_X12_share : MV pe_X12_share := ⟨by decide +kernel, ⟨by decide +kernel, by decide +kernel⟩, rfl, by decide, ta_9 158 rfl⟩
set_option maxRecDepth 100000 in
theorem mv_X12_givenBy : MV pe_X12_givenBy := ⟨by decide +kernel, ⟨by decide +kernel, by decide +kernel⟩, rfl, by decide, ta_9 162 rfl⟩
set_option maxRecDepth 100000 in
theorem mv_X12_next : MV pe_X12_next := ⟨by decide +kernel, ⟨by decide +kernel, by decide +kernel⟩, rfl, by decide, ta_9 166 rfl⟩
set_option maxRecDepth 100000 in
theorem mv_X12_worst : MV pe_X12_worst := ⟨by decide +kernel, ⟨by decide +kernel, by decide +kernel⟩, rfl, by decide, ta_9 170 rfl⟩
set_option maxRecDepth 100000 in
theorem mv_X12_needed : MV pe_X12_needed := ⟨by decide +kernel, ⟨by decide +kernel, by decide +kernel⟩, rfl, by decide, ta_9 174 rfl⟩
set_option maxRecDepth 100000 in
theorem mv_X12_kin : MV pe_X12_kin := ⟨by decide +kernel, ⟨by decide +kernel, by decide +kernel⟩, rfl, by decide, ta_9 178 rfl⟩
set_option maxRecDepth 100000 in
theorem mv_X12_year : MV pe_X12_year := ⟨by decide +kernel, ⟨by decide +kernel, by decide +kernel⟩, rfl, by decide, ta_9 182 rfl⟩
set_option maxRecDepth 100000 in
theorem mv_X12_isYear : MV pe_X12_isYear := ⟨by decide +kernel, ⟨by decide +kernel, by decide +kernel⟩, rfl, by decide, ta_9 185 rfl⟩
set_option maxRecDepth 100000 in
theorem mv_X12_yearBy : MV pe_X12_yearBy := ⟨by decide +kernel, ⟨by decide +kernel, by decide +kernel⟩, rfl, by decide, ta_9 189 rfl⟩
set_option maxRecDepth 100000 in
theorem mv_X12_draw : MV pe_X12_draw := ⟨by decide +kernel, ⟨by decide +kernel, by decide +kernel⟩, rfl, by decide, ta_9 193 rfl⟩
set_option maxRecDepth 100000 in
theorem mv_X12_acts : MV pe_X12_acts := ⟨by decide +kernel, ⟨by decide +kernel, by decide +kernel⟩, rfl, by decide, ta_9 198 rfl⟩
set_option maxRecDepth 100000 in
theorem mv_X12_span : MV pe_X12_span := ⟨by decide +kernel, ⟨by decide +kernel, by decide +kernel⟩, rfl, by decide, ta_9 202 rfl⟩
set_option maxRecDepth 100000 in
theorem mv_X12_image : MV pe_X12_image := ⟨by decide +kernel, ⟨by decide +kernel, by decide +kernel⟩, rfl, by decide, ta_9 206 rfl⟩
set_option maxRecDepth 100000 in
theorem mv_X12_putsAll : MV pe_X12_putsAll := ⟨by decide +kernel, ⟨by decide +kernel, by decide +kernel⟩, rfl, by decide, ta_9 210 rfl⟩
set_option maxRecDepth 100000 in
theorem mv_X12_puts : MV pe_X12_puts := ⟨by decide +kernel, ⟨by decide +kernel, by decide +kernel⟩, rfl, by decide, ta_9 214 rfl⟩
set_option maxRecDepth 100000 in
theorem mv_X12_restore : MV pe_X12_restore := ⟨by decide +kernel, ⟨by decide +kernel, by decide +kernel⟩, rfl, by decide, ta_9 218 rfl⟩
set_option maxRecDepth 100000 in
theorem mv_X12_status : MV pe_X12_status := ⟨by decide +kernel, ⟨by decide +kernel, by decide +kernel⟩, rfl, by decide, ta_9 222 rfl⟩
set_option maxRecDepth 100000 in
theorem mv_X12_count : MV pe_X12_count := ⟨by decide +kernel, ⟨by decide +kernel, by decide +kernel⟩, rfl, by decide, ta_9 226 rfl⟩
set_option maxRecDepth 100000 in
theorem mv_L_house : MV pe_L_house := ⟨by decide +kernel, ⟨by decide +kernel, by decide +kernel⟩, rfl, by decide, ta_3 157 rfl⟩
set_option maxRecDepth 100000 in
theorem mv_L_law : MV pe_L_law := ⟨by decide +kernel, ⟨by decide +kernel, by decide +kernel⟩, rfl, by decide, ta_4 153 rfl⟩
set_option maxRecDepth 100000 in
theorem mv_L_work : MV pe_L_work := ⟨by decide +kernel, ⟨by decide +kernel, by decide +kernel⟩, rfl, by decide, ta_4 198 rfl⟩
set_option maxRecDepth 100000 in
theorem mv_L_book : MV pe_L_book := ⟨by decide +kernel, ⟨by decide +kernel, by decide +kernel⟩, rfl, by decide, ta_5 105 rfl⟩
set_option maxRecDepth 100000 in
theorem mv_L_told : MV pe_L_told := ⟨by decide +kernel, ⟨by decide +kernel, by decide +kernel⟩, rfl, by decide, ta_5 131 rfl⟩
set_option maxRecDepth 100000 in
theorem mv_L_piece : MV pe_L_piece := ⟨by decide +kernel, ⟨by decide +kernel, by decide +kernel⟩, rfl, by decide, ta_5 149 rfl⟩
set_option maxRecDepth 100000 in
theorem mv_L_collar : MV pe_L_collar := ⟨by decide +kernel, ⟨by decide +kernel, by decide +kernel⟩, rfl, by decide, ta_5 187 rfl⟩
set_option maxRecDepth 100000 in
theorem mv_L_fire : MV pe_L_fire := ⟨by decide +kernel, ⟨by decide +kernel, by decide +kernel⟩, rfl, by decide, ta_5 194 rfl⟩
set_option maxRecDepth 100000 in
theorem mv_L_row : MV pe_L_row := ⟨by decide +kernel, ⟨by decide +kernel, by decide +kernel⟩, rfl, by decide, ta_5 206 rfl⟩
set_option maxRecDepth 100000 in
theorem mv_L_behind : MV pe_L_behind := ⟨by decide +kernel, ⟨by decide +kernel, by decide +kernel⟩, rfl, by decide, ta_5 213 rfl⟩
set_option maxRecDepth 100000 in
theorem mv_L_would : MV pe_L_would := ⟨by decide +kernel, ⟨by decide +kernel, by decide +kernel⟩, rfl, by decide, ta_5 220 rfl⟩
set_option maxRecDepth 100000 in
theorem mv_L_fits : MV pe_L_fits := ⟨by decide +kernel, ⟨by decide +kernel, by decide +kernel⟩, rfl, by decide, ta_5 230 rfl⟩
set_option maxRecDepth 100000 in
theorem mv_L_can : MV pe_L_can := ⟨by decide +kernel, ⟨by decide +kernel, by decide +kernel⟩, rfl, by decide, ta_6 2 rfl⟩
set_option maxRecDepth 100000 in
theorem mv_L_ahead : MV pe_L_ahead := ⟨by decide +kernel, ⟨by decide +kernel, by decide +kernel⟩, rfl, by decide, ta_6 10 rfl⟩
set_option maxRecDepth 100000 in
theorem mv_L_chain : MV pe_L_chain := ⟨by decide +kernel, ⟨by decide +kernel, by decide +kernel⟩, rfl, by decide, ta_6 28 rfl⟩
set_option maxRecDepth 100000 in
theorem mv_L_chained : MV pe_L_chained := ⟨by decide +kernel, ⟨by decide +kernel, by decide +kernel⟩, rfl, by decide, ta_6 64 rfl⟩
set_option maxRecDepth 100000 in
theorem mv_L_brief : MV pe_L_brief := ⟨by decide +kernel, ⟨by decide +kernel, by decide +kernel⟩, rfl, by decide, ta_6 71 rfl⟩
set_option maxRecDepth 100000 in
theorem mv_L_briefly : MV pe_L_briefly := ⟨by decide +kernel, ⟨by decide +kernel, by decide +kernel⟩, rfl, by decide, ta_6 97 rfl⟩
set_option maxRecDepth 100000 in
theorem mv_L_joiner : MV pe_L_joiner := ⟨by decide +kernel, ⟨by decide +kernel, by decide +kernel⟩, rfl, by decide, ta_6 104 rfl⟩
set_option maxRecDepth 100000 in
theorem mv_L_leaks : MV pe_L_leaks := ⟨by decide +kernel, ⟨by decide +kernel, by decide +kernel⟩, rfl, by decide, ta_6 125 rfl⟩
set_option maxRecDepth 100000 in
theorem mv_L_look : MV pe_L_look := ⟨by decide +kernel, ⟨by decide +kernel, by decide +kernel⟩, rfl, by decide, ta_6 145 rfl⟩
set_option maxRecDepth 100000 in
theorem mv_L_sure : MV pe_L_sure := ⟨by decide +kernel, ⟨by decide +kernel, by decide +kernel⟩, rfl, by decide, ta_6 162 rfl⟩
set_option maxRecDepth 100000 in
theorem mv_L_street : MV pe_L_street := ⟨by decide +kernel, ⟨by decide +kernel, by decide +kernel⟩, rfl, by decide, ta_6 175 rfl⟩
set_option maxRecDepth 100000 in
theorem mv_L_share : MV pe_L_share := ⟨by decide +kernel, ⟨by decide +kernel, by decide +kernel⟩, rfl, by decide, ta_6 225 rfl⟩
set_option maxRecDepth 100000 in
theorem mv_L_next : MV pe_L_next := ⟨by decide +kernel, ⟨by decide +kernel, by decide +kernel⟩, rfl, by decide, ta_6 238 rfl⟩
set_option maxRecDepth 100000 in
theorem mv_L_worst : MV pe_L_worst := ⟨by decide +kernel, ⟨by decide +kernel, by decide +kernel⟩, rfl, by decide, ta_7 5 rfl⟩
set_option maxRecDepth 100000 in
theorem mv_L_needed : MV pe_L_needed := ⟨by decide +kernel, ⟨by decide +kernel, by decide +kernel⟩, rfl, by decide, ta_7 21 rfl⟩
set_option maxRecDepth 100000 in
theorem mv_L_kin : MV pe_L_kin := ⟨by decide +kernel, ⟨by decide +kernel, by decide +kernel⟩, rfl, by decide, ta_7 28 rfl⟩
set_option maxRecDepth 100000 in
theorem mv_L_year : MV pe_L_year := ⟨by decide +kernel, ⟨by decide +kernel, by decide +kernel⟩, rfl, by decide, ta_7 35 rfl⟩
set_option maxRecDepth 100000 in
theorem mv_L_span : MV pe_L_span := ⟨by decide +kernel, ⟨by decide +kernel, by decide +kernel⟩, rfl, by decide, ta_7 64 rfl⟩
set_option maxRecDepth 100000 in
theorem mv_J0_length_8abf5 : MV pe_J0_length_8abf5 := ⟨by decide +kernel, ⟨by decide +kernel, by decide +kernel⟩, rfl, by decide, ta_4 29 rfl⟩
set_option maxRecDepth 100000 in
theorem mv_J0_coder_7d493 : MV pe_J0_coder_7d493 := ⟨by decide +kernel, ⟨by decide +kernel, by decide +kernel⟩, rfl, by decide, ta_4 33 rfl⟩
set_option maxRecDepth 100000 in
theorem mv_J0_charAt_5068e : MV pe_J0_charAt_5068e := ⟨by decide +kernel, ⟨by decide +kernel, by decide +kernel⟩, rfl, by decide, ta_4 39 rfl⟩
set_option maxRecDepth 100000 in
theorem mv_J0_isLatin1_aae02 : MV pe_J0_isLatin1_aae02 := ⟨by decide +kernel, ⟨by decide +kernel, by decide +kernel⟩, rfl, by decide, ta_4 43 rfl⟩
set_option maxRecDepth 100000 in
theorem mv_J0_checkIndex_df160 : MV pe_J0_checkIndex_df160 := ⟨by decide +kernel, ⟨by decide +kernel, by decide +kernel⟩, rfl, by decide, ta_4 49 rfl⟩
set_option maxRecDepth 100000 in
theorem mv_J1_charAt_3b067 : MV pe_J1_charAt_3b067 := ⟨by decide +kernel, ⟨by decide +kernel, by decide +kernel⟩, rfl, by decide, ta_4 46 rfl⟩
set_option maxRecDepth 100000 in
theorem mv_J7_fill_53178 : MV pe_J7_fill_53178 := ⟨by decide +kernel, ⟨by decide +kernel, by decide +kernel⟩, rfl, by decide, ta_1 179 rfl⟩
set_option maxRecDepth 100000 in
theorem mv_J7_fill_d0a16 : MV pe_J7_fill_d0a16 := ⟨by decide +kernel, ⟨by decide +kernel, by decide +kernel⟩, rfl, by decide, ta_6 82 rfl⟩
set_option maxRecDepth 100000 in
theorem mv_J3_checkIndex_8e157 : MV pe_J3_checkIndex_8e157 := ⟨by decide +kernel, ⟨by decide +kernel, by decide +kernel⟩, rfl, by decide, ta_4 54 rfl⟩
def PG_0 : List (MethodName × MI × Nat) := [pe_X0_init, pe_X0_clear, pe_X0_readFrom, pe_X0_readLine, pe_X0_become, pe_X0_findLeaks, pe_X0_isRight, pe_X0_tallyUp, pe_X0_findLook, pe_X0_worstAt, pe_X1_init, pe_X1_clear, pe_X1_follows, pe_X1_footOf, pe_X1_headOf, pe_X1_joins, pe_X1_readFrom, pe_X1_isFull, pe_X1_readClause, pe_X1_readPiece, pe_X1_readTo, pe_X1_readCollar, pe_X1_join, pe_X1_readFire]
theorem mvs_0 : ∀ x ∈ PG_0, MV x := List.forall_mem_cons.mpr ⟨mv_X0_init, List.forall_mem_cons.mpr ⟨mv_X0_clear, List.forall_mem_cons.mpr ⟨mv_X0_readFrom, List.forall_mem_cons.mpr ⟨mv_X0_readLine, List.forall_mem_cons.mpr ⟨mv_X0_become, List.forall_mem_cons.mpr ⟨mv_X0_findLeaks, List.forall_mem_cons.mpr ⟨mv_X0_isRight, List.forall_mem_cons.mpr ⟨mv_X0_tallyUp, List.forall_mem_cons.mpr ⟨mv_X0_findLook, List.forall_mem_cons.mpr ⟨mv_X0_worstAt, List.forall_mem_cons.mpr ⟨mv_X1_init, List.forall_mem_cons.mpr ⟨mv_X1_clear, List.forall_mem_cons.mpr ⟨mv_X1_follows, List.forall_mem_cons.mpr ⟨mv_X1_footOf, List.forall_mem_cons.mpr ⟨mv_X1_headOf, List.forall_mem_cons.mpr ⟨mv_X1_joins, List.forall_mem_cons.mpr ⟨mv_X1_readFrom, List.forall_mem_cons.mpr ⟨mv_X1_isFull, List.forall_mem_cons.mpr ⟨mv_X1_readClause, List.forall_mem_cons.mpr ⟨mv_X1_readPiece, List.forall_mem_cons.mpr ⟨mv_X1_readTo, List.forall_mem_cons.mpr ⟨mv_X1_readCollar, List.forall_mem_cons.mpr ⟨mv_X1_join, List.forall_mem_cons.mpr ⟨mv_X1_readFire, fun _ h => absurd h List.not_mem_nil⟩⟩⟩⟩⟩⟩⟩⟩⟩⟩⟩⟩⟩⟩⟩⟩⟩⟩⟩⟩⟩⟩⟩⟩
def PG_1 : List (MethodName × MI × Nat) := [pe_X1_readHope, pe_X1_become, pe_X1_reaches, pe_X1_part, pe_X1_level, pe_X2_init, pe_X2_beUntold, pe_X2_readFrom, pe_X2_readSum, pe_X2_readProduct, pe_X2_readUnit, pe_X2_add, pe_X2_become, pe_X2_tellPiece, pe_X2_tellNow, pe_X2_left, pe_X2_reckon, pe_X3_init, pe_X3_begin, pe_X3_readFrom, pe_X3_writeTo, pe_X3_turnRound, pe_X3_placeOf, pe_X3_layDown]
theorem mvs_1 : ∀ x ∈ PG_1, MV x := List.forall_mem_cons.mpr ⟨mv_X1_readHope, List.forall_mem_cons.mpr ⟨mv_X1_become, List.forall_mem_cons.mpr ⟨mv_X1_reaches, List.forall_mem_cons.mpr ⟨mv_X1_part, List.forall_mem_cons.mpr ⟨mv_X1_level, List.forall_mem_cons.mpr ⟨mv_X2_init, List.forall_mem_cons.mpr ⟨mv_X2_beUntold, List.forall_mem_cons.mpr ⟨mv_X2_readFrom, List.forall_mem_cons.mpr ⟨mv_X2_readSum, List.forall_mem_cons.mpr ⟨mv_X2_readProduct, List.forall_mem_cons.mpr ⟨mv_X2_readUnit, List.forall_mem_cons.mpr ⟨mv_X2_add, List.forall_mem_cons.mpr ⟨mv_X2_become, List.forall_mem_cons.mpr ⟨mv_X2_tellPiece, List.forall_mem_cons.mpr ⟨mv_X2_tellNow, List.forall_mem_cons.mpr ⟨mv_X2_left, List.forall_mem_cons.mpr ⟨mv_X2_reckon, List.forall_mem_cons.mpr ⟨mv_X3_init, List.forall_mem_cons.mpr ⟨mv_X3_begin, List.forall_mem_cons.mpr ⟨mv_X3_readFrom, List.forall_mem_cons.mpr ⟨mv_X3_writeTo, List.forall_mem_cons.mpr ⟨mv_X3_turnRound, List.forall_mem_cons.mpr ⟨mv_X3_placeOf, List.forall_mem_cons.mpr ⟨mv_X3_layDown, fun _ h => absurd h List.not_mem_nil⟩⟩⟩⟩⟩⟩⟩⟩⟩⟩⟩⟩⟩⟩⟩⟩⟩⟩⟩⟩⟩⟩⟩⟩
def PG_2 : List (MethodName × MI × Nat) := [pe_X3_wayOf, pe_X3_canLay, pe_X3_liftLast, pe_X3_bendTo, pe_X3_burstOnce, pe_X3_patchOnce, pe_X3_hopeFor, pe_X3_longNow, pe_X3_passHour, pe_X3_rowBits, pe_X3_outBits, pe_X3_become, pe_X3_allBursts, pe_X4_init, pe_X4_pop, pe_X4_canKeep, pe_X4_keep, pe_X4_bringBack, pe_X4_forget, pe_X4_isFull, pe_X4_push, pe_X5_init, pe_X5_forgetShort, pe_X5_mostPairs]
theorem mvs_2 : ∀ x ∈ PG_2, MV x := List.forall_mem_cons.mpr ⟨mv_X3_wayOf, List.forall_mem_cons.mpr ⟨mv_X3_canLay, List.forall_mem_cons.mpr ⟨mv_X3_liftLast, List.forall_mem_cons.mpr ⟨mv_X3_bendTo, List.forall_mem_cons.mpr ⟨mv_X3_burstOnce, List.forall_mem_cons.mpr ⟨mv_X3_patchOnce, List.forall_mem_cons.mpr ⟨mv_X3_hopeFor, List.forall_mem_cons.mpr ⟨mv_X3_longNow, List.forall_mem_cons.mpr ⟨mv_X3_passHour, List.forall_mem_cons.mpr ⟨mv_X3_rowBits, List.forall_mem_cons.mpr ⟨mv_X3_outBits, List.forall_mem_cons.mpr ⟨mv_X3_become, List.forall_mem_cons.mpr ⟨mv_X3_allBursts, List.forall_mem_cons.mpr ⟨mv_X4_init, List.forall_mem_cons.mpr ⟨mv_X4_pop, List.forall_mem_cons.mpr ⟨mv_X4_canKeep, List.forall_mem_cons.mpr ⟨mv_X4_keep, List.forall_mem_cons.mpr ⟨mv_X4_bringBack, List.forall_mem_cons.mpr ⟨mv_X4_forget, List.forall_mem_cons.mpr ⟨mv_X4_isFull, List.forall_mem_cons.mpr ⟨mv_X4_push, List.forall_mem_cons.mpr ⟨mv_X5_init, List.forall_mem_cons.mpr ⟨mv_X5_forgetShort, List.forall_mem_cons.mpr ⟨mv_X5_mostPairs, fun _ h => absurd h List.not_mem_nil⟩⟩⟩⟩⟩⟩⟩⟩⟩⟩⟩⟩⟩⟩⟩⟩⟩⟩⟩⟩⟩⟩⟩⟩
def PG_3 : List (MethodName × MI × Nat) := [pe_X5_leastOf, pe_X5_areFit, pe_X5_forgetHouse, pe_X5_findChain, pe_X5_longestNow, pe_X5_fillFollowers, pe_X5_longestBehind, pe_X5_canFollow, pe_X5_longWith, pe_X5_firstLeaving, pe_X5_findShort, pe_X5_searchShort, pe_X5_isNew, pe_X5_findCollar, pe_X5_tryCollar, pe_X6_init, pe_X6_findRests, pe_X6_fillArrives, pe_X6_canTake, pe_X6_bendMore, pe_X6_isRest, pe_X6_streetHas, pe_X6_paid, pe_X6_houseHas]
theorem mvs_3 : ∀ x ∈ PG_3, MV x := List.forall_mem_cons.mpr ⟨mv_X5_leastOf, List.forall_mem_cons.mpr ⟨mv_X5_areFit, List.forall_mem_cons.mpr ⟨mv_X5_forgetHouse, List.forall_mem_cons.mpr ⟨mv_X5_findChain, List.forall_mem_cons.mpr ⟨mv_X5_longestNow, List.forall_mem_cons.mpr ⟨mv_X5_fillFollowers, List.forall_mem_cons.mpr ⟨mv_X5_longestBehind, List.forall_mem_cons.mpr ⟨mv_X5_canFollow, List.forall_mem_cons.mpr ⟨mv_X5_longWith, List.forall_mem_cons.mpr ⟨mv_X5_firstLeaving, List.forall_mem_cons.mpr ⟨mv_X5_findShort, List.forall_mem_cons.mpr ⟨mv_X5_searchShort, List.forall_mem_cons.mpr ⟨mv_X5_isNew, List.forall_mem_cons.mpr ⟨mv_X5_findCollar, List.forall_mem_cons.mpr ⟨mv_X5_tryCollar, List.forall_mem_cons.mpr ⟨mv_X6_init, List.forall_mem_cons.mpr ⟨mv_X6_findRests, List.forall_mem_cons.mpr ⟨mv_X6_fillArrives, List.forall_mem_cons.mpr ⟨mv_X6_canTake, List.forall_mem_cons.mpr ⟨mv_X6_bendMore, List.forall_mem_cons.mpr ⟨mv_X6_isRest, List.forall_mem_cons.mpr ⟨mv_X6_streetHas, List.forall_mem_cons.mpr ⟨mv_X6_paid, List.forall_mem_cons.mpr ⟨mv_X6_houseHas, fun _ h => absurd h List.not_mem_nil⟩⟩⟩⟩⟩⟩⟩⟩⟩⟩⟩⟩⟩⟩⟩⟩⟩⟩⟩⟩⟩⟩⟩⟩
def PG_4 : List (MethodName × MI × Nat) := [pe_X6_noteRest, pe_X6_asTold, pe_X7_init, pe_X7_hasRoom, pe_X7_append, pe_X7_begin, pe_X7_peek, pe_X7_byteAt, pe_X7_named, pe_X7_placeAmong, pe_X7_blame, pe_X7_tooMany, pe_X7_numeral, pe_X7_isDigit, pe_X7_noneSuch, pe_X7_sign, pe_X7_ended, pe_X8_init, pe_X8_reachedBits, pe_X8_arriving, pe_X8_behindPiece, pe_X8_chanceOf, pe_X8_worstPlace, pe_X8_lostAt]
theorem mvs_4 : ∀ x ∈ PG_4, MV x := List.forall_mem_cons.mpr ⟨mv_X6_noteRest, List.forall_mem_cons.mpr ⟨mv_X6_asTold, List.forall_mem_cons.mpr ⟨mv_X7_init, List.forall_mem_cons.mpr ⟨mv_X7_hasRoom, List.forall_mem_cons.mpr ⟨mv_X7_append, List.forall_mem_cons.mpr ⟨mv_X7_begin, List.forall_mem_cons.mpr ⟨mv_X7_peek, List.forall_mem_cons.mpr ⟨mv_X7_byteAt, List.forall_mem_cons.mpr ⟨mv_X7_named, List.forall_mem_cons.mpr ⟨mv_X7_placeAmong, List.forall_mem_cons.mpr ⟨mv_X7_blame, List.forall_mem_cons.mpr ⟨mv_X7_tooMany, List.forall_mem_cons.mpr ⟨mv_X7_numeral, List.forall_mem_cons.mpr ⟨mv_X7_isDigit, List.forall_mem_cons.mpr ⟨mv_X7_noneSuch, List.forall_mem_cons.mpr ⟨mv_X7_sign, List.forall_mem_cons.mpr ⟨mv_X7_ended, List.forall_mem_cons.mpr ⟨mv_X8_init, List.forall_mem_cons.mpr ⟨mv_X8_reachedBits, List.forall_mem_cons.mpr ⟨mv_X8_arriving, List.forall_mem_cons.mpr ⟨mv_X8_behindPiece, List.forall_mem_cons.mpr ⟨mv_X8_chanceOf, List.forall_mem_cons.mpr ⟨mv_X8_worstPlace, List.forall_mem_cons.mpr ⟨mv_X8_lostAt, fun _ h => absurd h List.not_mem_nil⟩⟩⟩⟩⟩⟩⟩⟩⟩⟩⟩⟩⟩⟩⟩⟩⟩⟩⟩⟩⟩⟩⟩⟩
def PG_5 : List (MethodName × MI × Nat) := [pe_X9_init, pe_X9_readFrom, pe_X9_readClose, pe_X9_add, pe_X9_readStep, pe_X9_readAgain, pe_X9_doneOn, pe_X9_behindClose, pe_X9_behindAgain, pe_X9_isDone, pe_X10_init, pe_X10_outAfter, pe_X10_live, pe_X10_doDrawn, pe_X10_drawn, pe_X11_init, pe_X11_feed, pe_X11_fault, pe_X11_undo, pe_X11_wed, pe_X11_bit, pe_X11_pick, pe_X11_image, pe_X11_restore]
theorem mvs_5 : ∀ x ∈ PG_5, MV x := List.forall_mem_cons.mpr ⟨mv_X9_init, List.forall_mem_cons.mpr ⟨mv_X9_readFrom, List.forall_mem_cons.mpr ⟨mv_X9_readClose, List.forall_mem_cons.mpr ⟨mv_X9_add, List.forall_mem_cons.mpr ⟨mv_X9_readStep, List.forall_mem_cons.mpr ⟨mv_X9_readAgain, List.forall_mem_cons.mpr ⟨mv_X9_doneOn, List.forall_mem_cons.mpr ⟨mv_X9_behindClose, List.forall_mem_cons.mpr ⟨mv_X9_behindAgain, List.forall_mem_cons.mpr ⟨mv_X9_isDone, List.forall_mem_cons.mpr ⟨mv_X10_init, List.forall_mem_cons.mpr ⟨mv_X10_outAfter, List.forall_mem_cons.mpr ⟨mv_X10_live, List.forall_mem_cons.mpr ⟨mv_X10_doDrawn, List.forall_mem_cons.mpr ⟨mv_X10_drawn, List.forall_mem_cons.mpr ⟨mv_X11_init, List.forall_mem_cons.mpr ⟨mv_X11_feed, List.forall_mem_cons.mpr ⟨mv_X11_fault, List.forall_mem_cons.mpr ⟨mv_X11_undo, List.forall_mem_cons.mpr ⟨mv_X11_wed, List.forall_mem_cons.mpr ⟨mv_X11_bit, List.forall_mem_cons.mpr ⟨mv_X11_pick, List.forall_mem_cons.mpr ⟨mv_X11_image, List.forall_mem_cons.mpr ⟨mv_X11_restore, fun _ h => absurd h List.not_mem_nil⟩⟩⟩⟩⟩⟩⟩⟩⟩⟩⟩⟩⟩⟩⟩⟩⟩⟩⟩⟩⟩⟩⟩⟩
def PG_6 : List (MethodName × MI × Nat) := [pe_X11_status, pe_X11_count, pe_X11_house, pe_X11_open, pe_X11_expect, pe_X11_within, pe_X11_put, pe_X11_law, pe_X11_work, pe_X11_book, pe_X11_told, pe_X11_piece, pe_X11_expectPiece, pe_X11_expectThere, pe_X11_collar, pe_X11_fire, pe_X11_expectFire, pe_X11_row, pe_X11_behind, pe_X11_would, pe_X11_fits, pe_X11_expectThread, pe_X11_can, pe_X11_ahead]
theorem mvs_6 : ∀ x ∈ PG_6, MV x := List.forall_mem_cons.mpr ⟨mv_X11_status, List.forall_mem_cons.mpr ⟨mv_X11_count, List.forall_mem_cons.mpr ⟨mv_X11_house, List.forall_mem_cons.mpr ⟨mv_X11_open, List.forall_mem_cons.mpr ⟨mv_X11_expect, List.forall_mem_cons.mpr ⟨mv_X11_within, List.forall_mem_cons.mpr ⟨mv_X11_put, List.forall_mem_cons.mpr ⟨mv_X11_law, List.forall_mem_cons.mpr ⟨mv_X11_work, List.forall_mem_cons.mpr ⟨mv_X11_book, List.forall_mem_cons.mpr ⟨mv_X11_told, List.forall_mem_cons.mpr ⟨mv_X11_piece, List.forall_mem_cons.mpr ⟨mv_X11_expectPiece, List.forall_mem_cons.mpr ⟨mv_X11_expectThere, List.forall_mem_cons.mpr ⟨mv_X11_collar, List.forall_mem_cons.mpr ⟨mv_X11_fire, List.forall_mem_cons.mpr ⟨mv_X11_expectFire, List.forall_mem_cons.mpr ⟨mv_X11_row, List.forall_mem_cons.mpr ⟨mv_X11_behind, List.forall_mem_cons.mpr ⟨mv_X11_would, List.forall_mem_cons.mpr ⟨mv_X11_fits, List.forall_mem_cons.mpr ⟨mv_X11_expectThread, List.forall_mem_cons.mpr ⟨mv_X11_can, List.forall_mem_cons.mpr ⟨mv_X11_ahead, fun _ h => absurd h List.not_mem_nil⟩⟩⟩⟩⟩⟩⟩⟩⟩⟩⟩⟩⟩⟩⟩⟩⟩⟩⟩⟩⟩⟩⟩⟩
def PG_7 : List (MethodName × MI × Nat) := [pe_X11_chain, pe_X11_chained, pe_X11_brief, pe_X11_briefly, pe_X11_joiner, pe_X11_leaks, pe_X11_look, pe_X11_sure, pe_X11_street, pe_X11_share, pe_X11_next, pe_X11_worst, pe_X11_needed, pe_X11_kin, pe_X11_year, pe_X11_span, pe_X12_init, pe_X12_tellsNothing, pe_X12_beginsAnew, pe_X12_lays, pe_X12_thrown, pe_X12_feed, pe_X12_house, pe_X12_in]
theorem mvs_7 : ∀ x ∈ PG_7, MV x := List.forall_mem_cons.mpr ⟨mv_X11_chain, List.forall_mem_cons.mpr ⟨mv_X11_chained, List.forall_mem_cons.mpr ⟨mv_X11_brief, List.forall_mem_cons.mpr ⟨mv_X11_briefly, List.forall_mem_cons.mpr ⟨mv_X11_joiner, List.forall_mem_cons.mpr ⟨mv_X11_leaks, List.forall_mem_cons.mpr ⟨mv_X11_look, List.forall_mem_cons.mpr ⟨mv_X11_sure, List.forall_mem_cons.mpr ⟨mv_X11_street, List.forall_mem_cons.mpr ⟨mv_X11_share, List.forall_mem_cons.mpr ⟨mv_X11_next, List.forall_mem_cons.mpr ⟨mv_X11_worst, List.forall_mem_cons.mpr ⟨mv_X11_needed, List.forall_mem_cons.mpr ⟨mv_X11_kin, List.forall_mem_cons.mpr ⟨mv_X11_year, List.forall_mem_cons.mpr ⟨mv_X11_span, List.forall_mem_cons.mpr ⟨mv_X12_init, List.forall_mem_cons.mpr ⟨mv_X12_tellsNothing, List.forall_mem_cons.mpr ⟨mv_X12_beginsAnew, List.forall_mem_cons.mpr ⟨mv_X12_lays, List.forall_mem_cons.mpr ⟨mv_X12_thrown, List.forall_mem_cons.mpr ⟨mv_X12_feed, List.forall_mem_cons.mpr ⟨mv_X12_house, List.forall_mem_cons.mpr ⟨mv_X12_in, fun _ h => absurd h List.not_mem_nil⟩⟩⟩⟩⟩⟩⟩⟩⟩⟩⟩⟩⟩⟩⟩⟩⟩⟩⟩⟩⟩⟩⟩⟩
def PG_8 : List (MethodName × MI × Nat) := [pe_X12_bad, pe_X12_starts, pe_X12_blanks, pe_X12_byteAt, pe_X12_clause, pe_X12_kindHere, pe_X12_isWord, pe_X12_wordHere, pe_X12_isSmall, pe_X12_six, pe_X12_wrong, pe_X12_mostOf, pe_X12_skipWord, pe_X12_number, pe_X12_isDigit, pe_X12_readThread, pe_X12_sign, pe_X12_ends, pe_X12_law, pe_X12_sum, pe_X12_product, pe_X12_one, pe_X12_opensOne, pe_X12_notes]
theorem mvs_8 : ∀ x ∈ PG_8, MV x := List.forall_mem_cons.mpr ⟨mv_X12_bad, List.forall_mem_cons.mpr ⟨mv_X12_starts, List.forall_mem_cons.mpr ⟨mv_X12_blanks, List.forall_mem_cons.mpr ⟨mv_X12_byteAt, List.forall_mem_cons.mpr ⟨mv_X12_clause, List.forall_mem_cons.mpr ⟨mv_X12_kindHere, List.forall_mem_cons.mpr ⟨mv_X12_isWord, List.forall_mem_cons.mpr ⟨mv_X12_wordHere, List.forall_mem_cons.mpr ⟨mv_X12_isSmall, List.forall_mem_cons.mpr ⟨mv_X12_six, List.forall_mem_cons.mpr ⟨mv_X12_wrong, List.forall_mem_cons.mpr ⟨mv_X12_mostOf, List.forall_mem_cons.mpr ⟨mv_X12_skipWord, List.forall_mem_cons.mpr ⟨mv_X12_number, List.forall_mem_cons.mpr ⟨mv_X12_isDigit, List.forall_mem_cons.mpr ⟨mv_X12_readThread, List.forall_mem_cons.mpr ⟨mv_X12_sign, List.forall_mem_cons.mpr ⟨mv_X12_ends, List.forall_mem_cons.mpr ⟨mv_X12_law, List.forall_mem_cons.mpr ⟨mv_X12_sum, List.forall_mem_cons.mpr ⟨mv_X12_product, List.forall_mem_cons.mpr ⟨mv_X12_one, List.forall_mem_cons.mpr ⟨mv_X12_opensOne, List.forall_mem_cons.mpr ⟨mv_X12_notes, fun _ h => absurd h List.not_mem_nil⟩⟩⟩⟩⟩⟩⟩⟩⟩⟩⟩⟩⟩⟩⟩⟩⟩⟩⟩⟩⟩⟩⟩⟩
def PG_9 : List (MethodName × MI × Nat) := [pe_X12_knownHere, pe_X12_takes, pe_X12_takesSign, pe_X12_book, pe_X12_fault, pe_X12_work, pe_X12_readsStep, pe_X12_stepHere, pe_X12_copies, pe_X12_goes, pe_X12_does, pe_X12_turns, pe_X12_placeOf, pe_X12_laysOne, pe_X12_canLay, pe_X12_manyIn, pe_X12_footOf, pe_X12_headOf, pe_X12_isJoined, pe_X12_lifts, pe_X12_becomes, pe_X12_bursts, pe_X12_hourEnds, pe_X12_isReached]
theorem mvs_9 : ∀ x ∈ PG_9, MV x := List.forall_mem_cons.mpr ⟨mv_X12_knownHere, List.forall_mem_cons.mpr ⟨mv_X12_takes, List.forall_mem_cons.mpr ⟨mv_X12_takesSign, List.forall_mem_cons.mpr ⟨mv_X12_book, List.forall_mem_cons.mpr ⟨mv_X12_fault, List.forall_mem_cons.mpr ⟨mv_X12_work, List.forall_mem_cons.mpr ⟨mv_X12_readsStep, List.forall_mem_cons.mpr ⟨mv_X12_stepHere, List.forall_mem_cons.mpr ⟨mv_X12_copies, List.forall_mem_cons.mpr ⟨mv_X12_goes, List.forall_mem_cons.mpr ⟨mv_X12_does, List.forall_mem_cons.mpr ⟨mv_X12_turns, List.forall_mem_cons.mpr ⟨mv_X12_placeOf, List.forall_mem_cons.mpr ⟨mv_X12_laysOne, List.forall_mem_cons.mpr ⟨mv_X12_canLay, List.forall_mem_cons.mpr ⟨mv_X12_manyIn, List.forall_mem_cons.mpr ⟨mv_X12_footOf, List.forall_mem_cons.mpr ⟨mv_X12_headOf, List.forall_mem_cons.mpr ⟨mv_X12_isJoined, List.forall_mem_cons.mpr ⟨mv_X12_lifts, List.forall_mem_cons.mpr ⟨mv_X12_becomes, List.forall_mem_cons.mpr ⟨mv_X12_bursts, List.forall_mem_cons.mpr ⟨mv_X12_hourEnds, List.forall_mem_cons.mpr ⟨mv_X12_isReached, fun _ h => absurd h List.not_mem_nil⟩⟩⟩⟩⟩⟩⟩⟩⟩⟩⟩⟩⟩⟩⟩⟩⟩⟩⟩⟩⟩⟩⟩⟩
def PG_10 : List (MethodName × MI × Nat) := [pe_X12_longOf, pe_X12_arrives, pe_X12_runs, pe_X12_leftOf, pe_X12_leftBy, pe_X12_byLaw, pe_X12_by, pe_X12_less, pe_X12_more, pe_X12_undo, pe_X12_told, pe_X12_liesIn, pe_X12_outIn, pe_X12_piece, pe_X12_isPiece, pe_X12_collar, pe_X12_fire, pe_X12_isFire, pe_X12_row, pe_X12_behind, pe_X12_would, pe_X12_fits, pe_X12_isThread, pe_X12_can]
theorem mvs_10 : ∀ x ∈ PG_10, MV x := List.forall_mem_cons.mpr ⟨mv_X12_longOf, List.forall_mem_cons.mpr ⟨mv_X12_arrives, List.forall_mem_cons.mpr ⟨mv_X12_runs, List.forall_mem_cons.mpr ⟨mv_X12_leftOf, List.forall_mem_cons.mpr ⟨mv_X12_leftBy, List.forall_mem_cons.mpr ⟨mv_X12_byLaw, List.forall_mem_cons.mpr ⟨mv_X12_by, List.forall_mem_cons.mpr ⟨mv_X12_less, List.forall_mem_cons.mpr ⟨mv_X12_more, List.forall_mem_cons.mpr ⟨mv_X12_undo, List.forall_mem_cons.mpr ⟨mv_X12_told, List.forall_mem_cons.mpr ⟨mv_X12_liesIn, List.forall_mem_cons.mpr ⟨mv_X12_outIn, List.forall_mem_cons.mpr ⟨mv_X12_piece, List.forall_mem_cons.mpr ⟨mv_X12_isPiece, List.forall_mem_cons.mpr ⟨mv_X12_collar, List.forall_mem_cons.mpr ⟨mv_X12_fire, List.forall_mem_cons.mpr ⟨mv_X12_isFire, List.forall_mem_cons.mpr ⟨mv_X12_row, List.forall_mem_cons.mpr ⟨mv_X12_behind, List.forall_mem_cons.mpr ⟨mv_X12_would, List.forall_mem_cons.mpr ⟨mv_X12_fits, List.forall_mem_cons.mpr ⟨mv_X12_isThread, List.forall_mem_cons.mpr ⟨mv_X12_can, fun _ h => absurd h List.not_mem_nil⟩⟩⟩⟩⟩⟩⟩⟩⟩⟩⟩⟩⟩⟩⟩⟩⟩⟩⟩⟩⟩⟩⟩⟩
def PG_11 : List (MethodName × MI × Nat) := [pe_X12_ahead, pe_X12_chain, pe_X12_chains, pe_X12_laysLongest, pe_X12_has, pe_X12_isNext, pe_X12_chained, pe_X12_joiner, pe_X12_brief, pe_X12_briefs, pe_X12_isBrief, pe_X12_briefly, pe_X12_leaks, pe_X12_isLeak, pe_X12_look, pe_X12_isTold, pe_X12_wed, pe_X12_weds, pe_X12_sure, pe_X12_partOf, pe_X12_street, pe_X12_isChoice, pe_X12_isRest, pe_X12_streetHas]
theorem mvs_11 : ∀ x ∈ PG_11, MV x := List.forall_mem_cons.mpr ⟨mv_X12_ahead, List.forall_mem_cons.mpr ⟨mv_X12_chain, List.forall_mem_cons.mpr ⟨mv_X12_chains, List.forall_mem_cons.mpr ⟨mv_X12_laysLongest, List.forall_mem_cons.mpr ⟨mv_X12_has, List.forall_mem_cons.mpr ⟨mv_X12_isNext, List.forall_mem_cons.mpr ⟨mv_X12_chained, List.forall_mem_cons.mpr ⟨mv_X12_joiner, List.forall_mem_cons.mpr ⟨mv_X12_brief, List.forall_mem_cons.mpr ⟨mv_X12_briefs, List.forall_mem_cons.mpr ⟨mv_X12_isBrief, List.forall_mem_cons.mpr ⟨mv_X12_briefly, List.forall_mem_cons.mpr ⟨mv_X12_leaks, List.forall_mem_cons.mpr ⟨mv_X12_isLeak, List.forall_mem_cons.mpr ⟨mv_X12_look, List.forall_mem_cons.mpr ⟨mv_X12_isTold, List.forall_mem_cons.mpr ⟨mv_X12_wed, List.forall_mem_cons.mpr ⟨mv_X12_weds, List.forall_mem_cons.mpr ⟨mv_X12_sure, List.forall_mem_cons.mpr ⟨mv_X12_partOf, List.forall_mem_cons.mpr ⟨mv_X12_street, List.forall_mem_cons.mpr ⟨mv_X12_isChoice, List.forall_mem_cons.mpr ⟨mv_X12_isRest, List.forall_mem_cons.mpr ⟨mv_X12_streetHas, fun _ h => absurd h List.not_mem_nil⟩⟩⟩⟩⟩⟩⟩⟩⟩⟩⟩⟩⟩⟩⟩⟩⟩⟩⟩⟩⟩⟩⟩⟩
def PG_12 : List (MethodName × MI × Nat) := [pe_X12_comes, pe_X12_houseHas, pe_X12_share, pe_X12_givenBy, pe_X12_next, pe_X12_worst, pe_X12_needed, pe_X12_kin, pe_X12_year, pe_X12_isYear, pe_X12_yearBy, pe_X12_draw, pe_X12_acts, pe_X12_span, pe_X12_image, pe_X12_putsAll, pe_X12_puts, pe_X12_restore, pe_X12_status, pe_X12_count, pe_L_house, pe_L_law, pe_L_work, pe_L_book]
theorem mvs_12 : ∀ x ∈ PG_12, MV x := List.forall_mem_cons.mpr ⟨mv_X12_comes, List.forall_mem_cons.mpr ⟨mv_X12_houseHas, List.forall_mem_cons.mpr ⟨mv_X12_share, List.forall_mem_cons.mpr ⟨mv_X12_givenBy, List.forall_mem_cons.mpr ⟨mv_X12_next, List.forall_mem_cons.mpr ⟨mv_X12_worst, List.forall_mem_cons.mpr ⟨mv_X12_needed, List.forall_mem_cons.mpr ⟨mv_X12_kin, List.forall_mem_cons.mpr ⟨mv_X12_year, List.forall_mem_cons.mpr ⟨mv_X12_isYear, List.forall_mem_cons.mpr ⟨mv_X12_yearBy, List.forall_mem_cons.mpr ⟨mv_X12_draw, List.forall_mem_cons.mpr ⟨mv_X12_acts, List.forall_mem_cons.mpr ⟨mv_X12_span, List.forall_mem_cons.mpr ⟨mv_X12_image, List.forall_mem_cons.mpr ⟨mv_X12_putsAll, List.forall_mem_cons.mpr ⟨mv_X12_puts, List.forall_mem_cons.mpr ⟨mv_X12_restore, List.forall_mem_cons.mpr ⟨mv_X12_status, List.forall_mem_cons.mpr ⟨mv_X12_count, List.forall_mem_cons.mpr ⟨mv_L_house, List.forall_mem_cons.mpr ⟨mv_L_law, List.forall_mem_cons.mpr ⟨mv_L_work, List.forall_mem_cons.mpr ⟨mv_L_book, fun _ h => absurd h List.not_mem_nil⟩⟩⟩⟩⟩⟩⟩⟩⟩⟩⟩⟩⟩⟩⟩⟩⟩⟩⟩⟩⟩⟩⟩⟩
def PG_13 : List (MethodName × MI × Nat) := [pe_L_told, pe_L_piece, pe_L_collar, pe_L_fire, pe_L_row, pe_L_behind, pe_L_would, pe_L_fits, pe_L_can, pe_L_ahead, pe_L_chain, pe_L_chained, pe_L_brief, pe_L_briefly, pe_L_joiner, pe_L_leaks, pe_L_look, pe_L_sure, pe_L_street, pe_L_share, pe_L_next, pe_L_worst, pe_L_needed, pe_L_kin]
theorem mvs_13 : ∀ x ∈ PG_13, MV x := List.forall_mem_cons.mpr ⟨mv_L_told, List.forall_mem_cons.mpr ⟨mv_L_piece, List.forall_mem_cons.mpr ⟨mv_L_collar, List.forall_mem_cons.mpr ⟨mv_L_fire, List.forall_mem_cons.mpr ⟨mv_L_row, List.forall_mem_cons.mpr ⟨mv_L_behind, List.forall_mem_cons.mpr ⟨mv_L_would, List.forall_mem_cons.mpr ⟨mv_L_fits, List.forall_mem_cons.mpr ⟨mv_L_can, List.forall_mem_cons.mpr ⟨mv_L_ahead, List.forall_mem_cons.mpr ⟨mv_L_chain, List.forall_mem_cons.mpr ⟨mv_L_chained, List.forall_mem_cons.mpr ⟨mv_L_brief, List.forall_mem_cons.mpr ⟨mv_L_briefly, List.forall_mem_cons.mpr ⟨mv_L_joiner, List.forall_mem_cons.mpr ⟨mv_L_leaks, List.forall_mem_cons.mpr ⟨mv_L_look, List.forall_mem_cons.mpr ⟨mv_L_sure, List.forall_mem_cons.mpr ⟨mv_L_street, List.forall_mem_cons.mpr ⟨mv_L_share, List.forall_mem_cons.mpr ⟨mv_L_next, List.forall_mem_cons.mpr ⟨mv_L_worst, List.forall_mem_cons.mpr ⟨mv_L_needed, List.forall_mem_cons.mpr ⟨mv_L_kin, fun _ h => absurd h List.not_mem_nil⟩⟩⟩⟩⟩⟩⟩⟩⟩⟩⟩⟩⟩⟩⟩⟩⟩⟩⟩⟩⟩⟩⟩⟩
def PG_14 : List (MethodName × MI × Nat) := [pe_L_year, pe_L_span, pe_J0_length_8abf5, pe_J0_coder_7d493, pe_J0_charAt_5068e, pe_J0_isLatin1_aae02, pe_J0_checkIndex_df160, pe_J1_charAt_3b067, pe_J7_fill_53178, pe_J7_fill_d0a16, pe_J3_checkIndex_8e157]
theorem mvs_14 : ∀ x ∈ PG_14, MV x := List.forall_mem_cons.mpr ⟨mv_L_year, List.forall_mem_cons.mpr ⟨mv_L_span, List.forall_mem_cons.mpr ⟨mv_J0_length_8abf5, List.forall_mem_cons.mpr ⟨mv_J0_coder_7d493, List.forall_mem_cons.mpr ⟨mv_J0_charAt_5068e, List.forall_mem_cons.mpr ⟨mv_J0_isLatin1_aae02, List.forall_mem_cons.mpr ⟨mv_J0_checkIndex_df160, List.forall_mem_cons.mpr ⟨mv_J1_charAt_3b067, List.forall_mem_cons.mpr ⟨mv_J7_fill_53178, List.forall_mem_cons.mpr ⟨mv_J7_fill_d0a16, List.forall_mem_cons.mpr ⟨mv_J3_checkIndex_8e157, fun _ h => absurd h List.not_mem_nil⟩⟩⟩⟩⟩⟩⟩⟩⟩⟩⟩
set_option maxRecDepth 100000 in
theorem mvs : ∀ x ∈ PG, MV x := by
  show ∀ x ∈ PG_0 ++ (PG_1 ++ (PG_2 ++ (PG_3 ++ (PG_4 ++ (PG_5 ++ (PG_6 ++ (PG_7 ++ (PG_8 ++ (PG_9 ++ (PG_10 ++ (PG_11 ++ (PG_12 ++ (PG_13 ++ (PG_14)))))))))))))), MV x
  exact List.forall_mem_append.mpr ⟨mvs_0, List.forall_mem_append.mpr ⟨mvs_1, List.forall_mem_append.mpr ⟨mvs_2, List.forall_mem_append.mpr ⟨mvs_3, List.forall_mem_append.mpr ⟨mvs_4, List.forall_mem_append.mpr ⟨mvs_5, List.forall_mem_append.mpr ⟨mvs_6, List.forall_mem_append.mpr ⟨mvs_7, List.forall_mem_append.mpr ⟨mvs_8, List.forall_mem_append.mpr ⟨mvs_9, List.forall_mem_append.mpr ⟨mvs_10, List.forall_mem_append.mpr ⟨mvs_11, List.forall_mem_append.mpr ⟨mvs_12, List.forall_mem_append.mpr ⟨mvs_13, mvs_14⟩⟩⟩⟩⟩⟩⟩⟩⟩⟩⟩⟩⟩⟩
def clT (ci : Nat) : vw_C := vwCl.getD ci ("", fun _ => ("", "", "", false), 0)
set_option maxRecDepth 100000 in
theorem lay_0 : ∀ k, k < 7 → u_lay RX0 TX0 k ∈ lw_tbl := by
  intro k hk
  match k, hk with
  | 0, _ => exact ta_1 192 rfl
  | 1, _ => exact ta_1 194 rfl
  | 2, _ => exact ta_1 196 rfl
  | 3, _ => exact ta_1 198 rfl
  | 4, _ => exact ta_1 200 rfl
  | 5, _ => exact ta_1 202 rfl
  | 6, _ => exact ta_1 204 rfl
  | n + 7, h => exact absurd h (by omega)
set_option maxRecDepth 100000 in
theorem lay_1 : ∀ k, k < 13 → u_lay RX1 TX1 k ∈ lw_tbl := by
  intro k hk
  match k, hk with
  | 0, _ => exact ta_1 114 rfl
  | 1, _ => exact ta_1 116 rfl
  | 2, _ => exact ta_1 118 rfl
  | 3, _ => exact ta_1 120 rfl
  | 4, _ => exact ta_1 122 rfl
  | 5, _ => exact ta_1 124 rfl
  | 6, _ => exact ta_1 126 rfl
  | 7, _ => exact ta_1 128 rfl
  | 8, _ => exact ta_1 130 rfl
  | 9, _ => exact ta_1 132 rfl
  | 10, _ => exact ta_1 134 rfl
  | 11, _ => exact ta_1 136 rfl
  | 12, _ => exact ta_1 138 rfl
  | n + 13, h => exact absurd h (by omega)
set_option maxRecDepth 100000 in
theorem lay_2 : ∀ k, k < 4 → u_lay RX2 TX2 k ∈ lw_tbl := by
  intro k hk
  match k, hk with
  | 0, _ => exact ta_1 158 rfl
  | 1, _ => exact ta_1 160 rfl
  | 2, _ => exact ta_1 162 rfl
  | 3, _ => exact ta_1 164 rfl
  | n + 4, h => exact absurd h (by omega)
set_option maxRecDepth 100000 in
theorem lay_3 : ∀ k, k < 8 → u_lay RX3 TX3 k ∈ lw_tbl := by
  intro k hk
  match k, hk with
  | 0, _ => exact ta_2 34 rfl
  | 1, _ => exact ta_2 36 rfl
  | 2, _ => exact ta_2 38 rfl
  | 3, _ => exact ta_2 40 rfl
  | 4, _ => exact ta_2 42 rfl
  | 5, _ => exact ta_2 44 rfl
  | 6, _ => exact ta_2 46 rfl
  | 7, _ => exact ta_2 48 rfl
  | n + 8, h => exact absurd h (by omega)
set_option maxRecDepth 100000 in
theorem lay_4 : ∀ k, k < 5 → u_lay RX4 TX4 k ∈ lw_tbl := by
  intro k hk
  match k, hk with
  | 0, _ => exact ta_2 64 rfl
  | 1, _ => exact ta_2 66 rfl
  | 2, _ => exact ta_2 68 rfl
  | 3, _ => exact ta_2 70 rfl
  | 4, _ => exact ta_2 72 rfl
  | n + 5, h => exact absurd h (by omega)
set_option maxRecDepth 100000 in
theorem lay_5 : ∀ k, k < 17 → u_lay RX5 TX5 k ∈ lw_tbl := by
  intro k hk
  match k, hk with
  | 0, _ => exact ta_2 138 rfl
  | 1, _ => exact ta_2 140 rfl
  | 2, _ => exact ta_2 142 rfl
  | 3, _ => exact ta_2 144 rfl
  | 4, _ => exact ta_2 146 rfl
  | 5, _ => exact ta_2 148 rfl
  | 6, _ => exact ta_2 150 rfl
  | 7, _ => exact ta_2 152 rfl
  | 8, _ => exact ta_2 154 rfl
  | 9, _ => exact ta_2 156 rfl
  | 10, _ => exact ta_2 158 rfl
  | 11, _ => exact ta_2 160 rfl
  | 12, _ => exact ta_2 162 rfl
  | 13, _ => exact ta_2 164 rfl
  | 14, _ => exact ta_2 166 rfl
  | 15, _ => exact ta_2 168 rfl
  | 16, _ => exact ta_2 170 rfl
  | n + 17, h => exact absurd h (by omega)
set_option maxRecDepth 100000 in
theorem lay_6 : ∀ k, k < 7 → u_lay RX6 TX6 k ∈ lw_tbl := by
  intro k hk
  match k, hk with
  | 0, _ => exact ta_2 190 rfl
  | 1, _ => exact ta_2 192 rfl
  | 2, _ => exact ta_2 194 rfl
  | 3, _ => exact ta_2 196 rfl
  | 4, _ => exact ta_2 198 rfl
  | 5, _ => exact ta_2 200 rfl
  | 6, _ => exact ta_2 202 rfl
  | n + 7, h => exact absurd h (by omega)
set_option maxRecDepth 100000 in
theorem lay_7 : ∀ k, k < 8 → u_lay RX7 TX7 k ∈ lw_tbl := by
  intro k hk
  match k, hk with
  | 0, _ => exact ta_1 55 rfl
  | 1, _ => exact ta_1 57 rfl
  | 2, _ => exact ta_1 59 rfl
  | 3, _ => exact ta_1 61 rfl
  | 4, _ => exact ta_1 63 rfl
  | 5, _ => exact ta_1 65 rfl
  | 6, _ => exact ta_1 67 rfl
  | 7, _ => exact ta_1 69 rfl
  | n + 8, h => exact absurd h (by omega)
set_option maxRecDepth 100000 in
theorem lay_8 : ∀ k, k < 7 → u_lay RX8 TX8 k ∈ lw_tbl := by
  intro k hk
  match k, hk with
  | 0, _ => exact ta_2 93 rfl
  | 1, _ => exact ta_2 95 rfl
  | 2, _ => exact ta_2 97 rfl
  | 3, _ => exact ta_2 99 rfl
  | 4, _ => exact ta_2 101 rfl
  | 5, _ => exact ta_2 103 rfl
  | 6, _ => exact ta_2 105 rfl
  | n + 7, h => exact absurd h (by omega)
set_option maxRecDepth 100000 in
theorem lay_9 : ∀ k, k < 8 → u_lay RX9 TX9 k ∈ lw_tbl := by
  intro k hk
  match k, hk with
  | 0, _ => exact ta_1 222 rfl
  | 1, _ => exact ta_1 224 rfl
  | 2, _ => exact ta_1 226 rfl
  | 3, _ => exact ta_1 228 rfl
  | 4, _ => exact ta_1 230 rfl
  | 5, _ => exact ta_1 232 rfl
  | 6, _ => exact ta_1 234 rfl
  | 7, _ => exact ta_1 236 rfl
  | n + 8, h => exact absurd h (by omega)
set_option maxRecDepth 100000 in
theorem lay_10 : ∀ k, k < 5 → u_lay RX10 TX10 k ∈ lw_tbl := by
  intro k hk
  match k, hk with
  | 0, _ => exact ta_2 220 rfl
  | 1, _ => exact ta_2 222 rfl
  | 2, _ => exact ta_2 224 rfl
  | 3, _ => exact ta_2 226 rfl
  | 4, _ => exact ta_2 228 rfl
  | n + 5, h => exact absurd h (by omega)
set_option maxRecDepth 100000 in
theorem lay_11 : ∀ k, k < 16 → u_lay RX11 TX11 k ∈ lw_tbl := by
  intro k hk
  match k, hk with
  | 0, _ => exact ta_3 12 rfl
  | 1, _ => exact ta_3 14 rfl
  | 2, _ => exact ta_3 16 rfl
  | 3, _ => exact ta_3 18 rfl
  | 4, _ => exact ta_3 20 rfl
  | 5, _ => exact ta_3 22 rfl
  | 6, _ => exact ta_3 24 rfl
  | 7, _ => exact ta_3 26 rfl
  | 8, _ => exact ta_3 28 rfl
  | 9, _ => exact ta_3 30 rfl
  | 10, _ => exact ta_3 32 rfl
  | 11, _ => exact ta_3 34 rfl
  | 12, _ => exact ta_3 36 rfl
  | 13, _ => exact ta_3 38 rfl
  | 14, _ => exact ta_3 40 rfl
  | 15, _ => exact ta_3 42 rfl
  | n + 16, h => exact absurd h (by omega)
set_option maxRecDepth 100000 in
theorem lay_12 : ∀ k, k < 51 → u_lay RX12 TX12 k ∈ lw_tbl := by
  intro k hk
  match k, hk with
  | 0, _ => exact ta_7 140 rfl
  | 1, _ => exact ta_7 142 rfl
  | 2, _ => exact ta_7 144 rfl
  | 3, _ => exact ta_7 146 rfl
  | 4, _ => exact ta_7 148 rfl
  | 5, _ => exact ta_7 150 rfl
  | 6, _ => exact ta_7 152 rfl
  | 7, _ => exact ta_7 154 rfl
  | 8, _ => exact ta_7 156 rfl
  | 9, _ => exact ta_7 158 rfl
  | 10, _ => exact ta_7 160 rfl
  | 11, _ => exact ta_7 162 rfl
  | 12, _ => exact ta_7 164 rfl
  | 13, _ => exact ta_7 166 rfl
  | 14, _ => exact ta_7 168 rfl
  | 15, _ => exact ta_7 170 rfl
  | 16, _ => exact ta_7 172 rfl
  | 17, _ => exact ta_7 174 rfl
  | 18, _ => exact ta_7 176 rfl
  | 19, _ => exact ta_7 178 rfl
  | 20, _ => exact ta_7 180 rfl
  | 21, _ => exact ta_7 182 rfl
  | 22, _ => exact ta_7 184 rfl
  | 23, _ => exact ta_7 186 rfl
  | 24, _ => exact ta_7 188 rfl
  | 25, _ => exact ta_7 190 rfl
  | 26, _ => exact ta_7 192 rfl
  | 27, _ => exact ta_7 194 rfl
  | 28, _ => exact ta_7 196 rfl
  | 29, _ => exact ta_7 198 rfl
  | 30, _ => exact ta_7 200 rfl
  | 31, _ => exact ta_7 202 rfl
  | 32, _ => exact ta_7 204 rfl
  | 33, _ => exact ta_7 206 rfl
  | 34, _ => exact ta_7 208 rfl
  | 35, _ => exact ta_7 210 rfl
  | 36, _ => exact ta_7 212 rfl
  | 37, _ => exact ta_7 214 rfl
  | 38, _ => exact ta_7 216 rfl
  | 39, _ => exact ta_7 218 rfl
  | 40, _ => exact ta_7 220 rfl
  | 41, _ => exact ta_7 222 rfl
  | 42, _ => exact ta_7 224 rfl
  | 43, _ => exact ta_7 226 rfl
  | 44, _ => exact ta_7 228 rfl
  | 45, _ => exact ta_7 230 rfl
  | 46, _ => exact ta_7 232 rfl
  | 47, _ => exact ta_7 234 rfl
  | 48, _ => exact ta_7 236 rfl
  | 49, _ => exact ta_7 238 rfl
  | 50, _ => exact ta_8 0 rfl
  | n + 51, h => exact absurd h (by omega)
/-- of each class of the world: its name, its words, its fields' types and names -/
theorem cl_ok : ∀ ci, ci < 13 → vwCl[ci]? = some (clT ci) ∧ (clT ci).1 = rn ci ∧ (∀ k, k < (clT ci).2.2 → u_lay (clT ci).1 (clT ci).2.1 k ∈ lw_tbl) ∧ (∃ ty0 : Nat → FieldType, ∀ k, k < (clT ci).2.2 → parseFieldDescriptor ((clT ci).2.1 k).2.2.1 = some (ty0 k)) ∧ (∀ a, a < (clT ci).2.2 → ∀ b, b < (clT ci).2.2 → a ≠ b → ((clT ci).2.1 a).2.1 ≠ ((clT ci).2.1 b).2.1) := by
  intro ci h
  match ci, h with
  | 0, _ => exact ⟨rfl, rfl, lay_0, ⟨tyX0, tyX0_ok⟩, nmX0⟩
  | 1, _ => exact ⟨rfl, rfl, lay_1, ⟨tyX1, tyX1_ok⟩, nmX1⟩
  | 2, _ => exact ⟨rfl, rfl, lay_2, ⟨tyX2, tyX2_ok⟩, nmX2⟩
  | 3, _ => exact ⟨rfl, rfl, lay_3, ⟨tyX3, tyX3_ok⟩, nmX3⟩
  | 4, _ => exact ⟨rfl, rfl, lay_4, ⟨tyX4, tyX4_ok⟩, nmX4⟩
  | 5, _ => exact ⟨rfl, rfl, lay_5, ⟨tyX5, tyX5_ok⟩, nmX5⟩
  | 6, _ => exact ⟨rfl, rfl, lay_6, ⟨tyX6, tyX6_ok⟩, nmX6⟩
  | 7, _ => exact ⟨rfl, rfl, lay_7, ⟨tyX7, tyX7_ok⟩, nmX7⟩
  | 8, _ => exact ⟨rfl, rfl, lay_8, ⟨tyX8, tyX8_ok⟩, nmX8⟩
  | 9, _ => exact ⟨rfl, rfl, lay_9, ⟨tyX9, tyX9_ok⟩, nmX9⟩
  | 10, _ => exact ⟨rfl, rfl, lay_10, ⟨tyX10, tyX10_ok⟩, nmX10⟩
  | 11, _ => exact ⟨rfl, rfl, lay_11, ⟨tyX11, tyX11_ok⟩, nmX11⟩
  | 12, _ => exact ⟨rfl, rfl, lay_12, ⟨tyX12, tyX12_ok⟩, nmX12⟩
  | n + 13, h => exact absurd h (by omega)
