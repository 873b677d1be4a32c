/-! ONE INSTRUCTION of the abstract machine is one of the real one -/
def szK (k : Nat × Nat) : Nat := if k.1 = 0 then nF k.2 else k.2
def cnt (m : AM) : Nat := (mK m).length + mX m
def slo (m : AM) : Nat := ((mK m).map szK).sum + 6 * mX m
def XE (m m' : AM) : Prop := mL m' = mL m ∧ ∀ a, XB ≤ a → mI m' a = mI m a
def MonoA (m m' : AM) : Prop := XE m m' ∧ cnt m ≤ cnt m' ∧ slo m ≤ slo m' ∧ mX m ≤ mX m' ∧ (mK m).length ≤ (mK m').length
theorem MonoA.rf (m : AM) : MonoA m m := ⟨⟨rfl, fun _ _ => rfl⟩, Nat.le_refl _, Nat.le_refl _, Nat.le_refl _, Nat.le_refl _⟩
theorem MonoA.tr {a b c : AM} (h : MonoA a b) (g : MonoA b c) : MonoA a c := ⟨⟨g.1.1.trans h.1.1, fun x hx => (g.1.2 x hx).trans (h.1.2 x hx)⟩, Nat.le_trans h.2.1 g.2.1, Nat.le_trans h.2.2.1 g.2.2.1, Nat.le_trans h.2.2.2.1 g.2.2.2.1, Nat.le_trans h.2.2.2.2 g.2.2.2.2⟩
def lenS : List Nat := strT.map List.length
def bytS : List (List Int32) := strT.map (fun l => l.map Int32.ofNat)
theorem nest_warm {w : Cond} (hw : w ∈ nestW) {s U : State} (hW : s.WarmedH U.vm) (h : va_Nw w s) : va_Nw w U := by
  have h1 := List.all_eq_true.mp nest_form w hw
  split at h1
  · exact h.warmM hW
  · cases h1
/-- the words of a throw: Throwable's, the class's own constructor, its parents' -/
def ownN (own : String) (ic : Nat) (X : String) (ix : Nat) (bs : ByteArray) : List Cond :=
  Bundle.throwableAtoms ++ Bundle.throwableSAtoms ++ Bundle.passSAtoms X "java/lang/RuntimeException" ix bs ++ Bundle.chainSAtoms "java/lang/RuntimeException" ["java/lang/Exception"] ++
  [.methodLink own ic (Bundle.initS X), .instantiable X 6, .castable X X, .selects X Bundle.tFill0 Bundle.tFill0, .selects X Bundle.tFill Bundle.tFill,
   .lays X Bundle.tN "cause" "Ljava/lang/Throwable;", .lays X Bundle.tN "stackTrace" Bundle.steD, .lays X Bundle.tN "suppressedExceptions" Bundle.listD, .lays X Bundle.tN "detailMessage" "Ljava/lang/String;",
   .isRef (.static Bundle.tN "UNASSIGNED_STACK" Bundle.steD), .isRef (.static Bundle.tN "SUPPRESSED_SENTINEL" Bundle.listD),
   .fieldLink Bundle.tN 198 Bundle.tN "backtrace" "Ljava/lang/Object;", .lays Bundle.tN Bundle.tN "backtrace" "Ljava/lang/Object;", .lays X Bundle.tN "backtrace" "Ljava/lang/Object;"]
def thrW (ex : Nat) : List Cond := (ownN "HoseDynasty" ((thrT ex).getD (0, 0, 0)).2.2 (exN ex) (exI ex) (exB ex)).filter vx_no
set_option maxRecDepth 100000 in
theorem thrW_form : ∀ ex, ex < 2 → (thrW ex).all (fun w => goodWord w || (match w with | .castable _ _ => true | .declares _ => true | _ => false)) = true := by decide +kernel
theorem thr_warm {ex : Nat} (hex : ex < 2) {w : Cond} (hw : w ∈ thrW ex) (hg : goodWord w = false) {s U : State} (hW : s.WarmedH U.vm) (h : va_Nw w s) : va_Nw w U := by
  have h1 := List.all_eq_true.mp (thrW_form ex hex) w hw
  rw [hg, Bool.false_or] at h1
  split at h1
  · exact h.warmC hW
  · exact h.warmD hW
  · cases h1
theorem va_AOA.moved {ty : FieldType} {u U : State} (hvm : u.vm.Alike U.vm) (h : va_AOA ty u) : va_AOA ty U := by
  have h0 : (Cond.arrayOver (.array ty)).holds #[] u none u [] = true := h
  simp only [Cond.holds, Cond.value, beq_iff_eq] at h0
  cases hc : u.vm.findClass (FieldType.array ty).toString with
  | none => simp [hc] at h0
  | some comp =>
    simp only [hc, Option.bind_some, Option.bind_eq_some_iff, Option.map_eq_some_iff] at h0
    obtain ⟨c, hi, k, hk, hb⟩ := h0
    obtain ⟨k', hk', he⟩ := hvm.2.2 _ _ hk
    have hi' : (U.vm.classes.findIdx? fun (x : Class) => match x.kind with | .array component _ => component == comp | _ => false) = some c := by
      refine (va_idx_bare U.vm comp).symm.trans ?_
      first | rw [hvm.bare_eq] | rw [← hvm.bare_eq]
      exact (va_idx_bare u.vm comp).trans hi
    have hkk : k'.kind = k.kind := by rw [he]
    have f1 : U.vm.findClass (FieldType.array ty).toString = some comp := by rw [hvm.findClass]; exact hc
    unfold va_AOA Cond.before Cond.holds
    simp only [Cond.value]
    rw [f1, Option.bind_some]
    refine (congrArg (fun o : Option Nat => (o.bind (fun c => (U.vm.classes[c]?).map fun (k : Class) => match k.kind with | .array _ ty2 => decide (ty2 = FieldType.array ty) && decide (U.vm.findClass ("[" ++ (FieldType.array ty).toString) = some c) | _ => false) == some true)) hi').trans ?_
    rw [Option.bind_some, hk', Option.map_some, hkk, hvm.findClass]
    exact congrArg (fun b => (some b == some true)) hb
/-- what lies outside the system's own cells -/
def Ext (base : Nat) (ρ : Nat → Nat) (vF : Value) (m : AM) (U : State) (H : Heap) : Prop :=
  va_X (ρ XB) (mL m) (mI m XB) U H ∧ ρ XB < base ∧
  va_Z RX2 "UNTOLD" "[I" (.ref (ρ (XB + 1))) (Aq base) U H ∧
  va_T .int (ρ (XB + 1)) 11 (fun j => .int (mI m (XB + 1) j)) (Aq base) U H ∧
  va_Z RJ0 "COMPACT_STRINGS" "Z" (.int 1) (Aq base) U H ∧
  va_Z RJ3 "SIOOBE_FORMATTER" "Ljava/util/function/BiFunction;" vF (Aq base) U H ∧
  vk_S 3 lenS bytS (fun j => ρ (XB + 2 + 2 * j)) (fun j => ρ (XB + 3 + 2 * j)) (Aq base) U H ∧
  (∀ j, j < 3 → mI m (XB + 3 + 2 * j) = fun k => (bytS.getD j []).getD k 0) ∧
  (∀ (j : Nat) (z : Nat × Nat × String), strS[j]? = some z → vk_R (rn z.1) z.2.1 z.2.2 (ρ (XB + 2 + 2 * j)) U) ∧
  vx_Zq Bundle.tN "UNASSIGNED_STACK" Bundle.steD (Aq base) U H ∧ vx_Zq Bundle.tN "SUPPRESSED_SENTINEL" Bundle.listD (Aq base) U H ∧
  (∀ e, e < 2 → ∃ sa, vk_R "HoseDynasty" ((thrT e).getD (0, 0, 0)).2.1 (exT e) sa U) ∧
  (∀ w ∈ nestW, va_Nw w U) ∧ va_AOA .int U ∧ (∀ e, e < 2 → va_Nw (.castable (exN e) (exN e)) U) ∧ va_Nc (exN 0) (exN 1) U ∧ va_Nc (exN 1) (exN 0) U ∧ (∀ ex, ex < 2 → ∀ w ∈ thrW ex, goodWord w = false → va_Nw w U)
theorem Ext.xe {base : Nat} {ρ : Nat → Nat} {vF : Value} {m m' : AM} {U : State} {H : Heap} (h : Ext base ρ vF m U H) (x : XE m m') : Ext base ρ vF m' U H := by
  obtain ⟨h1, h2, h3, h4, h5, h6, h7, h8, h9⟩ := h
  refine ⟨by rw [x.1, x.2 XB (Nat.le_refl _)]; exact h1, h2, h3, by rw [x.2 (XB + 1) (Nat.le_add_right _ _)]; exact h4, h5, h6, h7, fun j hj => by rw [x.2 _ (by unfold XB; omega)]; exact h8 j hj, h9⟩
theorem Ext.at {base : Nat} {ρ : Nat → Nat} {vF : Value} {m : AM} {s U : State} (h : Ext base ρ vF m s s.heap) (hb : base ≤ s.heap.size) (hW : s.WarmedH U.vm) (hk : ∀ q : Nat, q < s.heap.size → ¬ Aq base q → U.heap[q]? = s.heap[q]?) : Ext base ρ vF m U U.heap := by
  obtain ⟨h1, h2, h3, h4, h5, h6, h7, h8, h9, h10, h11, h12, h13, h14, h15, h16, h17, h18⟩ := h
  have hv := hW.alike
  exact ⟨(h1.moved hv).kept (hk _ (Nat.lt_of_lt_of_le h2 hb) (Nat.not_le.mpr h2)), h2, (h3.moved hv).kept hk, (h4.moved hv).kept hk, (h5.moved hv).kept hk, (h6.moved hv).kept hk, (h7.moved hv).kept hk, h8, fun j z hz => (h9 j z hz).warm hW, (h10.moved hv).kept hk, (h11.moved hv).kept hk, fun e he => (h12 e he).imp fun _ q => q.warm hW, fun w hw => nest_warm hw hW (h13 w hw), h14.moved hv, fun e he => (h15 e he).warmC hW, h16.moved hv, h17.moved hv, fun ex hex w hw hg => thr_warm hex hw hg hW (h18 ex hex w hw hg)⟩
/-- the frame: what holds of the method that runs, since its start -/
def FX (base : Nat) (ρ : Nat → Nat) (vF : Value) (D : va_G) (cs : Nat → ClassId) (p : Program) (s : State) (mth : MethodId) (args : Array Value) (meth : Method) (c : Code) (mi : MI) (nL : Nat) (m0 : AM) : Prop :=
  p.tables.exec = Jvm.exec ∧ c.code = mi.2.1 ∧ c.maxLocals = nL ∧ s.vm.findClass (rn mi.1) = some mth.cls ∧ (∀ w ∈ lw_tbl, goodWord w = true → w.before args s = true) ∧ va_K D vwCl (tysA cs) s ∧ Ext base ρ vF m0 s s.heap ∧ base ≤ s.heap.size ∧ (∀ a, a < XB → ρ a = base + a) ∧ vF.category = 1 ∧ (mi.2.2.1 = 6 → meth.name = "<init>") ∧ (mX m0 = 0 → s.heap.size = base + (mK m0).length)
def Rf (base : Nat) (ρ : Nat → Nat) (vF : Value) (D : va_G) (cs : Nat → ClassId) (s : State) (nL : Nat) (m0 : AM) (f : CF) (ls : Array Slot) (H : Heap) (locs : List Loc) : Prop :=
  Rl ρ vF nL f.2.1 ls ∧ va_P D vwCl (wsA base ρ cs f.2.2.2) H ∧ va_S (Aq base) s.heap H locs ∧ MonoA m0 f.2.2.2
def Go (base : Nat) (ρ : Nat → Nat) (vF : Value) (D : va_G) (cs : Nat → ClassId) (p : Program) (l : Launch) (e : Env) (R : Room) (s : State) (mth : MethodId) (args : Array Value) (below : List Frame) (meth : Method) (c : Code) (Q : State → Prop) (nL : Nat) (m0 : AM) (f : CF) : Prop :=
  ∀ (ls : Array Slot) (H : Heap) (locs : List Loc), Rf base ρ vF D cs s nL m0 f ls H locs → W p l e R s mth args below meth c H locs (cnt f.2.2.2 - cnt m0) (slo f.2.2.2 - slo m0) Q (F0 mth f.1 ls (f.2.2.1.map (cv ρ vF)))
theorem nx_inj {pc : Nat} {L : List (Option Value)} {st : List Value} {m : AM} {f : CF} (h : nx pc L st m = some (.inl f)) : f = (pc, L, st, m) := by
  unfold nx at h
  cases h
  rfl
theorem jmp_inj {pc : Nat} {off : Int} {L : List (Option Value)} {st : List Value} {m : AM} {f : CF} (h : jmp pc off L st m = some (.inl f)) : f = (((pc : Int) + off).toNat, L, st, m) ∧ (pc : Int) + off = ((((pc : Int) + off).toNat : Nat) : Int) := by
  unfold jmp at h
  split at h
  · exact ⟨nx_inj h, by omega⟩
  · cases h
section S1
variable {base : Nat} {ρ : Nat → Nat} {vF : Value} {D : va_G} {cs : Nat → ClassId} {p : Program} {l : Launch} {e : Env} {R : Room} {s : State} {mth : MethodId} {args : Array Value} {below : List Frame} {meth : Method} {c : Code} {Q : State → Prop} {mi : MI} {nL : Nat} {m0 : AM} {pc n : Nat} {L : List (Option Value)} {st : List Value} {m : AM} {ls : Array Slot} {H : Heap} {locs : List Loc} {f : CF}
/-- loads -/
theorem s_aload_n {k : Fin 4} (X : FX base ρ vF D cs p s mth args meth c mi nL m0) (hd : decode mi.2.1 pc = .ok (.aload_n k, 1)) (h : xload (pc + 1) L st m k.val 2 = some (.inl f)) (g : Go base ρ vF D cs p l e R s mth args below meth c Q nL m0 f) : Go base ρ vF D cs p l e R s mth args below meth c Q nL m0 (pc, L, st, m) := by
  intro ls H locs r
  unfold xload at h
  split at h <;> simp at h
  rename_i x hx
  have := nx_inj h
  subst this
  exact lv_aload_n X.1 X.2.1 hd rfl (r.1.get hx) (g ls H locs r)
theorem s_aload {k : Nat} (X : FX base ρ vF D cs p s mth args meth c mi nL m0) (hd : decode mi.2.1 pc = .ok (.aload k, 2)) (h : xload (pc + 2) L st m k 2 = some (.inl f)) (g : Go base ρ vF D cs p l e R s mth args below meth c Q nL m0 f) : Go base ρ vF D cs p l e R s mth args below meth c Q nL m0 (pc, L, st, m) := by
  intro ls H locs r
  unfold xload at h
  split at h <;> simp at h
  rename_i x hx
  have := nx_inj h
  subst this
  exact lv_aload X.1 X.2.1 hd (r.1.get hx) (g ls H locs r)
end S1
