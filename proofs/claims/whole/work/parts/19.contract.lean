/-! A METHOD'S CONTRACT out of the abstract machine's answer -/
set_option maxRecDepth 100000 in
theorem thrW_in : ∀ ex, ex < 2 → (thrW ex).all (fun w => decide (w ∈ lw_tbl)) = true := by decide +kernel
set_option maxRecDepth 100000 in
theorem thrW_ot : ∀ ex, ex < 2 → (thrW ex).all vx_ot = true := by decide +kernel
set_option maxRecDepth 100000 in
theorem thrW_on : ∀ ex, ex < 2 → (thrW ex).all (fun w => goodWord w || w.onTables) = true := by decide +kernel
theorem exfit : ∀ ex, ex < 2 → Bundle.fit (exN ex) = true := by decide +kernel
theorem ex_ini {ex : Nat} (h : ex < 2) : Cond.initialized (exN ex) ∈ lw_tbl := by
  match ex, h with
  | 0, _ => exact tw_exI0
  | 1, _ => exact tw_exI1
theorem thr_own {ex ow is ic : Nat} (hex : ex < 2) (h : thrT ex = some (ow, is, ic)) : ow = 11 ∧ (thrT ex).getD (0, 0, 0) = (11, is, ic) := by
  match ex, hex, h with
  | 0, _, h => cases h; exact ⟨rfl, rfl⟩
  | 1, _, h => cases h; exact ⟨rfl, rfl⟩
section C1
variable {base : Nat} {ρ : Nat → Nat} {vF : Value} {D : va_G} {cs : Nat → ClassId} {p : Program} {l : Launch} {e : Env} {R : Room} {s : State} {mth : MethodId} {args : Array Value} {below : List Frame} {meth : Method} {c : Code} {mi : MI} {nL : Nat} {m0 : AM} {f : CF}
theorem thr_hat (X : FX base ρ vF D cs p s mth args meth c mi nL m0) {ex : Nat} (hex : ex < 2) : ∀ w ∈ thrW ex, w.before args s = true := by
  intro w hw
  have h1 : w ∈ lw_tbl := of_decide_eq_true (List.all_eq_true.mp (thrW_in ex hex) w hw)
  cases hg : goodWord w with
  | true => exact X.w h1 hg
  | false =>
    have h2 := List.all_eq_true.mp (thrW_on ex hex) w hw
    rw [hg, Bool.false_or] at h2
    exact va_Nw.use h2 (X.ext.2.2.2.2.2.2.2.2.2.2.2.2.2.2.2.2.2 ex hex w hw hg)
/-- the frame's facts at a method's start -/
theorem fx_start {l : Launch} {d id : Nat} {pe : MethodName × MI × Nat} {vs : List Value} {m m' : AM} {s₁ : State} (hpe : PG[id]? = some pe) (hρ : ∀ a, a < XB → ρ a = base + a) (hF : vF.category = 1)
    (B : BodyLoose p l pe.1 (headSpec (wsM pe) (rmM d m m')) pe.2.1.2.1 pe.2.2 (retT pe.2.1.2.2.1) e s mth args below meth c s₁) (hml : c.maxLocals = pe.2.2) (hv : PcM base ρ vF D cs vs m args s) : FX base ρ vF D cs p s mth args meth c pe.2.1 pe.2.2 m ∧ args = (vs.map (cv ρ vF)).toArray ∧ va_P D vwCl (wsA base ρ cs m) s.heap := by
  obtain ⟨ha, hP, hK, hE, hb, hsz⟩ := hv
  obtain ⟨-, -, hrn, -, -⟩ := mv_of hpe
  have hts := atoms_spec (ws := wsM pe) B.pre
  refine ⟨⟨B.exec, B.bytes, hml, by rw [← hrn]; exact findClass_of_methodNamed B.named, fun w h1 h2 => hts w (List.mem_cons_of_mem _ (gw_of h1 h2)), hK, hE, hb, hρ, hF, fun h6 => ?_, hsz⟩, ha, hP⟩
  rw [(name_of_methodNamed B.named B.method).1]
  exact ini_ok pe (List.mem_of_getElem? hpe) h6
end C1
