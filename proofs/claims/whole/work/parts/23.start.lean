/-! THE LAW'S START: what lies outside the system's cells, out of the Statement's premises -/
def untL : List Int32 := [1000, 1001, 2001, 1003, 2, 2002, 2001, 1004, 5, 2002, 2001]
set_option maxRecDepth 100000 in
theorem fl_unt : Cond.arrayOf (.static RX2 "UNTOLD" "[I") .int ∈ FL ∧ Cond.eq (.length (.static RX2 "UNTOLD" "[I")) (.int (Int32.ofNat 11)) ∈ FL ∧ ∀ j, j < 11 → Cond.eq (.elem (.static RX2 "UNTOLD" "[I") (.int (Int32.ofNat j))) (.int (untL.getD j 0)) ∈ FL := by decide +kernel
set_option maxRecDepth 100000 in
theorem fl_misc : Cond.eq (.static RJ0 "COMPACT_STRINGS" "Z") (.int 1) ∈ FL ∧ Cond.isRef (.static RJ3 "SIOOBE_FORMATTER" "Ljava/util/function/BiFunction;") ∈ FL ∧ Cond.isRef (.static Bundle.tN "UNASSIGNED_STACK" Bundle.steD) ∈ FL ∧ Cond.isRef (.static Bundle.tN "SUPPRESSED_SENTINEL" Bundle.listD) ∈ FL ∧ Cond.not (.castable (exN 0) (exN 1)) ∈ FL ∧ Cond.not (.castable (exN 1) (exN 0)) ∈ FL := by decide +kernel
set_option maxRecDepth 100000 in
theorem fl_str : ∀ i, i < 3 → Cond.exactly (tmS i) "java/lang/String" ∈ FL ∧ Cond.eq (.field (tmS i) "java/lang/String" "coder" "B") (.int 0) ∈ FL ∧ Cond.arrayOf (.field (tmS i) "java/lang/String" "value" "[B") .byte ∈ FL ∧ Cond.eq (.length (.field (tmS i) "java/lang/String" "value" "[B")) (.int (Int32.ofNat (lenS.getD i 0))) ∈ FL ∧ lenS.getD i 0 < 2 ^ 31 := by decide +kernel
set_option maxRecDepth 100000 in
theorem fl_ne : ∀ i, i < 3 → ∀ j, j < 3 → i ≠ j → Cond.not (Cond.eq (tmS i) (tmS j)) ∈ FL ∨ Cond.not (Cond.eq (tmS j) (tmS i)) ∈ FL := by decide +kernel
set_option maxRecDepth 100000 in
theorem fl_exs : ∀ ex, ex < 2 → Cond.exactly (.string "HoseDynasty" ((thrT ex).getD (0, 0, 0)).2.1) "java/lang/String" ∈ FL := by decide +kernel
theorem ins_all : ∀ k, k < 13 → Cond.instantiable (clT k).1 (clT k).2.2 ∈ lw_tbl := by
  intro k hk
  match k, hk with
  | 0, _ => exact tw_ins0
  | 1, _ => exact tw_ins1
  | 2, _ => exact tw_ins2
  | 3, _ => exact tw_ins3
  | 4, _ => exact tw_ins4
  | 5, _ => exact tw_ins5
  | 6, _ => exact tw_ins6
  | 7, _ => exact tw_ins7
  | 8, _ => exact tw_ins8
  | 9, _ => exact tw_ins9
  | 10, _ => exact tw_ins10
  | 11, _ => exact tw_ins11
  | 12, _ => exact tw_ins12
/-- the memory at the law's start: no cells; outside the script, the static array, the texts' bytes -/
def m00 (L : Nat) (xs : Nat → Int32) : AM := (L, 0, [], fun _ _ => none, fun a k => if a = XB then xs k else if a = XB + 1 then untL.getD k 0 else if a = XB + 3 then (bytS.getD 0 []).getD k 0 else if a = XB + 5 then (bytS.getD 1 []).getD k 0 else if a = XB + 7 then (bytS.getD 2 []).getD k 0 else 0, fun _ _ => 0)
theorem start_K {s : State} {args : Array Value} (hts : ∀ w ∈ lw_tbl, w.before args s = true) : ∃ (D : va_G) (cs : Nat → ClassId), va_K D vwCl (tysA cs) s := by
  have hg : ∀ w ∈ gw, w.before args s = true := fun w hw => hts w (List.mem_filter.mp hw).1
  have h0 : ∀ k : Nat, ∃ q : ClassId × (Nat → Nat), k < 13 → u_Kn s (clT k).1 (clT k).2.1 (clT k).2.2 q.1 q.2 := by
    intro k
    by_cases hk : k < 13
    · obtain ⟨cC, iS, h⟩ := u_known (C := (clT k).1) (T := (clT k).2.1) (N := (clT k).2.2) (n := (clT k).2.2) hg (lay_gw hk) (hts _ (ins_all k hk))
      exact ⟨(cC, iS), fun _ => h⟩
    · exact ⟨(0, fun _ => 0), fun h => absurd h hk⟩
  obtain ⟨f, hf⟩ := Classical.axiomOfChoice h0
  have ha : ∀ ty : FieldType, Cond.arrayClass ty ∈ lw_tbl → ∃ c : ClassId, ArrOfT s c ty ∧ s.vm.findClass ("[" ++ ty.toString) = some c := by
    intro ty h
    obtain ⟨c, k, comp, h1, h2, h3⟩ := Cond.arrayClass_spec (hts _ h)
    exact ⟨c, fun n z => ⟨fun k h => (by cases h), k, h2, comp, h3⟩, h1⟩
  obtain ⟨c1, k1, k2⟩ := ha .int tw_arr_int
  obtain ⟨c2, k3, k4⟩ := ha .byte tw_arr_byte
  obtain ⟨c3, k5, k6⟩ := ha .long tw_arr_long
  obtain ⟨comp, c4, kk, h1, h2, h3, h4⟩ := Cond.arrayOver_specA (hts _ tw_aoa)
  refine ⟨(fun k => (f k).1, fun k => (f k).2), fun t => if t = 1 then c1 else if t = 2 then c2 else if t = 3 then c3 else c4, fun k q hq => ?_, fun k q hq => ?_⟩
  · obtain ⟨hk, rfl⟩ := cl_of hq
    exact hf k hk
  · match k, hq with
    | 0, hq => cases hq; exact ⟨k1, k2⟩
    | 1, hq => cases hq; exact ⟨k3, k4⟩
    | 2, hq => cases hq; exact ⟨k5, k6⟩
    | 3, hq => cases hq; exact ⟨fun n z => ⟨fun k h => (by cases h), kk, h2, comp, h3⟩, h4⟩
    | n + 4, hq => cases hq
theorem nest_on {w : Cond} (hw : w ∈ nestW) : w.onTables = true := by
  have h1 := List.all_eq_true.mp nest_form w hw
  split at h1
  · rfl
  · cases h1
theorem start_ext {s : State} {b L : Nat} {xs : Nat → Int32} (hts : ∀ w ∈ lw_tbl, w.before #[Value.ref b] s = true) (hX : va_X b L xs s s.heap) (hbl : b < s.heap.size) (hgv : (Jvm.Cond.and given_1 narrow_1).before #[Value.ref b] s = true) :
    ∃ (ρ : Nat → Nat) (vF : Value), (∀ a, a < XB → ρ a = s.heap.size + a) ∧ ρ XB = b ∧ vF.category = 1 ∧ Ext s.heap.size ρ vF (m00 L xs) s s.heap := by
  have hs : ∀ w ∈ FL, w.before #[Value.ref b] s = true := flat_of_before _ hgv
  have hA : ∀ a : Nat, a < s.heap.size → ¬ Aq s.heap.size a := fun a h => Nat.not_le.mpr h
  obtain ⟨u1, u2, u3⟩ := fl_unt
  obtain ⟨t, ht, hT⟩ := va_Tof (tm := .static RX2 "UNTOLD" "[I") (ty := .int) (N := 11) (f := fun j => .int (untL.getD j 0)) (A := Aq s.heap.size) (by decide) (hs _ u1) (va_eqt (hs _ u2)) (fun j hj => va_eqt (hs _ (u3 j hj))) hA
  have hZ := va_Zof (A := Aq s.heap.size) (hts _ tw_lsU) (hts _ tw_inL) ht hA
  obtain ⟨g1, g2, g3, g4, g5, g6⟩ := fl_misc
  have hZc := va_Zof (A := Aq s.heap.size) (hts _ tw_lsC) (hts _ tw_inJ) (va_eqi (hs _ g1)) hA
  have hZf := va_Zqof (A := Aq s.heap.size) (hts _ tw_lsF) (hts _ tw_inP) (hs _ g2) hA
  obtain ⟨adK, adV, hS, hSe⟩ := vk_Sof (N := 3) (tm := tmS) (len := lenS) (byt := bytS) (A := Aq s.heap.size) (args := #[Value.ref b]) (s := s) (fun i hi => (fl_str i hi).2.2.2.2) (fun i hi => hs _ (fl_str i hi).1) (fun i hi => hs _ (fl_str i hi).2.1) (fun i hi => hs _ (fl_str i hi).2.2.1) (fun i hi => hs _ (fl_str i hi).2.2.2.1) (fun i hi j hj => hs _ (fl_chr i hi j hj)) (fun i j hi hj hne => (fl_ne i hi j hj hne).imp (hs _) (hs _)) hA
  obtain ⟨vF, hvF, hZv⟩ : ∃ vF : Value, vF.category = 1 ∧ va_Z RJ3 "SIOOBE_FORMATTER" "Ljava/util/function/BiFunction;" vF (Aq s.heap.size) s s.heap := by
    rcases hZf with h | ⟨q, h⟩
    · exact ⟨.null, rfl, h⟩
    · exact ⟨.ref q, rfl, h⟩
  let ρ : Nat → Nat := fun a => if a < XB then s.heap.size + a else if a = XB then b else if a = XB + 1 then t else if (a - XB) % 2 = 0 then adK ((a - XB - 2) / 2) else adV ((a - XB - 3) / 2)
  have r0 : ∀ a, a < XB → ρ a = s.heap.size + a := fun a h => if_pos h
  have r1 : ρ XB = b := by
    show (if XB < XB then _ else _) = b
    rw [if_neg (Nat.lt_irrefl _), if_pos rfl]
  have r2 : ρ (XB + 1) = t := by
    show (if XB + 1 < XB then _ else _) = t
    rw [if_neg (by omega), if_neg (by omega), if_pos rfl]
  have r3 : (fun j => ρ (XB + 2 + 2 * j)) = adK := by
    funext j
    show (if XB + 2 + 2 * j < XB then _ else _) = adK j
    rw [if_neg (by omega), if_neg (by omega), if_neg (by omega), if_pos (by omega)]
    congr 1
    omega
  have r4 : (fun j => ρ (XB + 3 + 2 * j)) = adV := by
    funext j
    show (if XB + 3 + 2 * j < XB then _ else _) = adV j
    rw [if_neg (by omega), if_neg (by omega), if_neg (by omega), if_neg (by omega)]
    congr 1
    omega
  have r3' : ∀ j, ρ (XB + 2 + 2 * j) = adK j := fun j => congrFun r3 j
  refine ⟨ρ, vF, r0, r1, hvF, ?_⟩
  refine ⟨by rw [r1]; exact hX, by rw [r1]; exact hbl, by rw [r2]; exact hZ, by rw [r2]; exact hT, hZc, hZv, by rw [r3, r4]; exact hS, ?_, ?_, vx_Zqof (hts _ tw_lsA) (hts _ tw_inT) (hs _ g3) hA, vx_Zqof (hts _ tw_lsS) (hts _ tw_inT) (hs _ g4) hA, ?_, fun w hw => va_Nw.of (nest_on hw) (hts w (nestW_in w hw)), hts _ tw_aoa, ?_, va_Nc.of (hs _ g5), va_Nc.of (hs _ g6), ?_⟩
  · intro j hj
    match j, hj with
    | 0, _ => rfl
    | 1, _ => rfl
    | 2, _ => rfl
  · intro j z hz
    rw [r3']
    match j, hz with
    | 0, hz => cases hz; exact vk_R.of (hts _ tw_str0) (hSe 0 (by decide))
    | 1, hz => cases hz; exact vk_R.of (hts _ tw_str1) (hSe 1 (by decide))
    | 2, hz => cases hz; exact vk_R.of (hts _ tw_str2) (hSe 2 (by decide))
    | n + 3, hz => cases hz
  · intro ex hex
    obtain ⟨a, c, cA, kA, q1, -⟩ := Cond.exactly_spec (args := #[Value.ref b]) (first := s) (o := none) (s := s) (idx := []) (hs _ (fl_exs ex hex))
    refine ⟨a, ?_⟩
    match ex, hex, q1 with
    | 0, _, q1 => exact vk_R.of (hts _ tw_exs0) q1
    | 1, _, q1 => exact vk_R.of (hts _ tw_exs1) q1
  · intro ex hex
    match ex, hex with
    | 0, _ => exact va_Nw.of rfl (hts _ tw_cas0)
    | 1, _ => exact va_Nw.of rfl (hts _ tw_cas1)
  · intro ex hex w hw hg
    have h2 := List.all_eq_true.mp (thrW_on ex hex) w hw
    rw [hg, Bool.false_or] at h2
    exact va_Nw.of h2 (hts w (of_decide_eq_true (List.all_eq_true.mp (thrW_in ex hex) w hw)))
