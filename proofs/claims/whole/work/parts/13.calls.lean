/-! CALLS: a method's contract, out of the abstract machine's answer -/
def cwM (pe : MethodName × MI × Nat) : Cond := match pe.2.1.2.2.2 with
  | [] => Cond.code pe.1 pe.2.1.2.1 pe.2.2 (retT pe.2.1.2.2.1)
  | hh => Cond.codeWith pe.1 pe.2.1.2.1 pe.2.2 (retT pe.2.1.2.2.1) hh
def wsM (pe : MethodName × MI × Nat) : List Cond := cwM pe :: gw
def rmM (d : Nat) (m m' : AM) : Room := { frames := d + 8, cells := cnt m' - cnt m, slots := slo m' - slo m, locals := 64 * d + 256 }
theorem rmM_l (d : Nat) (m m' : AM) : (rmM d m m').locals = 64 * d + 256 := rfl
def WdM (base : Nat) (ρ : Nat → Nat) (vF : Value) (D : va_G) (cs : Nat → ClassId) (m : AM) (U : State) : Prop := va_P D vwCl (wsA base ρ cs m) U.heap ∧ va_K D vwCl (tysA cs) U ∧ Ext base ρ vF m U U.heap ∧ base ≤ U.heap.size ∧ (mX m = 0 → U.heap.size = base + (mK m).length)
def PcM (base : Nat) (ρ : Nat → Nat) (vF : Value) (D : va_G) (cs : Nat → ClassId) (vs : List Value) (m : AM) : Array Value → State → Prop := va_Pc (vs.map (cv ρ vF)) (WdM base ρ vF D cs m)
def QcM (base : Nat) (ρ : Nat → Nat) (vF : Value) (D : va_G) (cs : Nat → ClassId) (v : Option Value) (m' : AM) : Array Value → State → Outcome → State → Prop := fun _ st o t => o = .returned (v.map (cv ρ vF)) ∧ va_P D vwCl (wsA base ρ cs m') t.heap ∧ va_F (Aq base) st t
def XcM (base : Nat) (ρ : Nat → Nat) (D : va_G) (cs : Nat → ClassId) (e : Nat) (m' : AM) : String → State → State → Prop := fun E st t => E = exN e ∧ va_P D vwCl (wsA base ρ cs m') t.heap ∧ va_F (Aq base) st t
def QcF : Array Value → State → Outcome → State → Prop := fun _ _ _ _ => False
/-- what a callee's answer means for the machine -/
def CokM (l : Launch) (base : Nat) (ρ : Nat → Nat) (vF : Value) (D : va_G) (cs : Nat → ClassId) (d id : Nat) (vs : List Value) (m : AM) (r : RS) (m' : AM) : Prop :=
  ∃ pe, PG[id]? = some pe ∧ MonoA m m' ∧ (match r with
    | .inl v => Met l pe.1 (wsM pe) (rmM d m m') (PcM base ρ vF D cs vs m) (QcM base ρ vF D cs v m') (cnt m' - cnt m) (slo m' - slo m) (Aq base)
    | .inr e => e < 2 ∧ pe.2.1.2.2.2 = [] ∧ vx_Met l pe.1 (wsM pe) (rmM d m m') (PcM base ρ vF D cs vs m) QcF (XcM base ρ D cs e m') (cnt m' - cnt m) (slo m' - slo m) (Aq base))
theorem mv_of {id : Nat} {pe : MethodName × MI × Nat} (h : PG[id]? = some pe) : MV pe := mvs pe (List.mem_of_getElem? h)
theorem cwM_in {id : Nat} {pe : MethodName × MI × Nat} (h : PG[id]? = some pe) : cwM pe ∈ gw := by
  obtain ⟨-, -, -, -, h5⟩ := mv_of h
  unfold cwM
  split at h5
  · rename_i q
    rw [q]
    exact gw_of h5 gw_co
  · rename_i q
    split
    · rename_i q2
      exact absurd q2 q
    · exact gw_of h5 gw_cw
theorem gwW {w : Cond} (h : w ∈ gw) : w ∈ gw ∧ ((w.onTables && w.keeps) = true ∨ ∃ ty, w = .arrayClass ty) := ⟨h, good_of_word (List.mem_filter.mp h).2⟩
theorem wsM_good {id : Nat} {pe : MethodName × MI × Nat} (h : PG[id]? = some pe) : GoodIn gw (wsM pe) := by
  intro w hw
  rcases List.mem_cons.mp hw with rfl | hw
  · exact gwW (cwM_in h)
  · exact gwW hw
theorem pcM_blind {base : Nat} {ρ : Nat → Nat} {vF : Value} {D : va_G} {cs : Nat → ClassId} {vs : List Value} {m : AM} : FrameBlind (PcM base ρ vF D cs vs m) := by
  intro a U g mk h
  obtain ⟨h1, h2, h3, h4, h5, h6⟩ := h
  exact ⟨h1, h2, va_K.moved (u := U) (U := U.calling g mk a) (Vm.Alike.refl U.vm) h3, Ext.at (s := U) (U := U.calling g mk a) h4 h5 (State.WarmedH.refl U) (fun _ _ _ => rfl), h5, h6⟩
section S6
variable {base : Nat} {ρ : Nat → Nat} {vF : Value} {D : va_G} {cs : Nat → ClassId} {p : Program} {l : Launch} {e : Env} {R : Room} {s : State} {mth : MethodId} {args : Array Value} {below : List Frame} {meth : Method} {c : Code} {Q : State → Prop} {mi : MI} {nL : Nat} {m0 : AM} {pc n : Nat} {L : List (Option Value)} {st : List Value} {m : AM} {ls : Array Slot} {H : Heap} {locs : List Loc} {f : CF}
/-- the callee's world at the call -/
theorem pcM_at (X : FX base ρ vF D cs p s mth args meth c mi nL m0) {ls : Array Slot} {H : Heap} {locs : List Loc} (r : Rf base ρ vF D cs s nL m0 (pc, L, st, m) ls H locs) (hsz : mX m = 0 → H.size = base + (mK m).length) {U : State} (hU : U.heap = H) (hW : s.WarmedH U.vm) : WdM base ρ vF D cs m U := by
  have hb : base ≤ H.size := Nat.le_trans X.bs r.2.2.1.1
  refine ⟨by rw [hU]; exact r.2.1, X.K.moved hW.alike, (X.ext.xe r.2.2.2.1).at X.bs hW (fun q h1 h2 => by rw [hU]; exact r.2.2.1.2.1 q h1 h2), by rw [hU]; exact hb, fun hx => by rw [hU]; exact hsz hx⟩
/-- behind a call that returned -/
theorem call_go {v : Option Value} {m' : AM} {rr : List Value} {ls : Array Slot} {H : Heap} {locs : List Loc} {a : Array Value} {st0 : List Value} (hr : va_Run p l e R s mth args below meth c H locs (cnt m - cnt m0) (slo m - slo m0) (cnt m' - cnt m) (slo m' - slo m) (F0 mth pc ls st0) (rr.map (cv ρ vF)) (QcM base ρ vF D cs v m' a) (Aq base)) (r : Rf base ρ vF D cs s nL m0 (pc, L, st, m) ls H locs) (hmo : MonoA m m') (g : Go base ρ vF D cs p l e R s mth args below meth c Q nL m0 (pc + 3, L, v.toList ++ rr, m')) : W p l e R s mth args below meth c H locs (cnt m - cnt m0) (slo m - slo m0) Q (F0 mth pc ls st0) := by
  intro T hT Y
  obtain ⟨v2, st₀, t, T', L', h0, Y', hL, e1, e2, ⟨hq1, hq2, hq3⟩, stp⟩ := hr T hT Y
  cases hq1
  obtain ⟨-, -, hS⟩ := vx_keep (A0 := Aq base) (A1 := Aq base) (free := Aq base) h0 e1 r.2.2.1 (fun _ _ z => z) (fun _ z => z) hL hq3
  have rel : Rf base ρ vF D cs s nL m0 (pc + 3, L, v.toList ++ rr, m') ls T'.heap (locs ++ L') := ⟨r.1, by show va_P D vwCl (wsA base ρ cs m') T'.heap; rw [e1]; exact hq2, hS, r.2.2.2.tr hmo⟩
  have g2 : W p l e R s mth args below meth c T'.heap (locs ++ L') (cnt m' - cnt m0) (slo m' - slo m0) Q (F0 mth (pc + 3) ls ((v.toList ++ rr).map (cv ρ vF))) := g ls T'.heap _ rel
  have k1 : cnt m0 ≤ cnt m := r.2.2.2.2.1
  have k2 : slo m0 ≤ slo m := r.2.2.2.2.2.1
  have k3 := hmo.2.1
  have k4 := hmo.2.2.1
  rw [show cnt m' - cnt m0 = cnt m - cnt m0 + (cnt m' - cnt m) by omega, show slo m' - slo m0 = slo m - slo m0 + (slo m' - slo m) by omega] at g2
  obtain ⟨t2, a1, b1⟩ := g2 T' rfl Y'
  refine ⟨t2, stp t2 ?_, b1⟩
  rw [List.map_append] at a1
  cases v <;> exact a1
/-- behind a call that threw -/
theorem thr_go {ex : Nat} {m' : AM} {rr : List Value} {ls : Array Slot} {H : Heap} {locs : List Loc} {a : Array Value} {st0 : List Value} (hr : vx_Run p l e R s mth args below meth c H locs (cnt m - cnt m0) (slo m - slo m0) (cnt m' - cnt m) (slo m' - slo m) (F0 mth pc ls st0) (rr.map (cv ρ vF)) (QcF a) (XcM base ρ D cs ex m') (Aq base)) (r : Rf base ρ vF D cs s nL m0 (pc, L, st, m) ls H locs) (hmo : MonoA m m')
    (k : ∀ (ce : Cell) (q : Addr) (H1 : Heap) (locs1 : List Loc), H1[q]? = some ce → ce.vm = .none → s.vm.findClass (exN ex) = some ce.cls → Rf base ρ vF D cs s nL m0 (pc, L, rr, m') ls H1 locs1 → vx_W p l e R s mth args below meth c H1 locs1 (cnt m' - cnt m0) (slo m' - slo m0) Q (F0 mth pc ls (rr.map (cv ρ vF))) q) : W p l e R s mth args below meth c H locs (cnt m - cnt m0) (slo m - slo m0) Q (F0 mth pc ls st0) := by
  intro T hT Y
  rcases hr T hT Y with ⟨v2, st₀, t, T', L', h0, Y', hL, e1, e2, hq, stp⟩ | ⟨q, st₀, t, T', L', E, ce, h0, Y', hL, e1, e2, ⟨hq1, hq2, hq3⟩, hce, hcv, hcl, stp⟩
  · exact absurd hq id
  · subst hq1
    obtain ⟨-, -, hS⟩ := vx_keep (A0 := Aq base) (A1 := Aq base) (free := Aq base) h0 e1 r.2.2.1 (fun _ _ z => z) (fun _ z => z) hL hq3
    have rel : Rf base ρ vF D cs s nL m0 (pc, L, rr, m') ls T'.heap (locs ++ L') := ⟨r.1, by show va_P D vwCl (wsA base ρ cs m') T'.heap; rw [e1]; exact hq2, hS, r.2.2.2.tr hmo⟩
    have k1 : cnt m0 ≤ cnt m := r.2.2.2.2.1
    have k2 : slo m0 ≤ slo m := r.2.2.2.2.2.1
    have k3 := hmo.2.1
    have k4 := hmo.2.2.1
    have g2 := k ce q T'.heap (locs ++ L') (by rw [e1]; exact hce) hcv hcl rel
    rw [show cnt m' - cnt m0 = cnt m - cnt m0 + (cnt m' - cnt m) by omega, show slo m' - slo m0 = slo m - slo m0 + (slo m' - slo m) by omega] at g2
    obtain ⟨t2, a1, b1⟩ := g2 T' rfl Y'
    exact ⟨t2, stp.trans a1, b1⟩
end S6
