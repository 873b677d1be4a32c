/-! THE CLAIM OUT OF THE ABSTRACT MACHINE'S RUN OF THE LAW -/
def iLaw : MI := (13, code, 1, [])
/-- what is left to show: the abstract machine's run of the law answers 1, for every script, within the room -/
def LawRuns : Prop := ∀ (L : Nat) (xs : Nat → Int32), L ≤ 5120 → ∃ mf : AM, runI (runM 1000) iLaw (0, entL [.ref XB] 8, [], m00 L xs) = some (.inl (some (.int 1)), mf) ∧ cnt mf ≤ 601024 ∧ slo mf ≤ 7293034
theorem whole_of (HR : LawRuns) {p : Program} {e : Env} {s : State} {m : MethodId} {below : List Frame} {meth : Method} {c : Code} (l : Launch) (hl : l.stackTraces = false) {b L : Nat} {xs : Nat → Int32} (hL : L ≤ 5120) (hE0 : c.exceptionTable.isEmpty = true) (C0 : lw_At p s m meth c b L xs) : W p l e room_1 s m #[Value.ref b] below meth c s.heap [] 0 0 (lw_Z below #[Value.ref b] s) (entryFrame m ([Value.ref b] : List Value).toArray 8) := by
  obtain ⟨hx, hb, hr, hml, hown, hts, hX, hbl, hlocks, hgv⟩ := C0
  obtain ⟨mf, hrun, hc1, hc2⟩ := HR L xs hL
  obtain ⟨k, hk⟩ := runI_some.mp hrun
  obtain ⟨D, cs, hK⟩ := start_K hts
  obtain ⟨ρ, vF, hρ, hρb, hF, hE⟩ := start_ext hts hX hbl hgv
  have hET : c.exceptionTable.toList = tableOf iLaw.2.2.2 := by
    show _ = []
    simpa using hE0
  have X : FX s.heap.size ρ vF D cs p s m #[Value.ref b] meth c iLaw 8 (m00 L xs) := ⟨hx, hb, hml, hown, fun w h1 _ => hts w h1, hK, hE, Nat.le_refl _, hρ, hF, fun h => absurd h (by decide), fun _ => rfl⟩
  have hfin : FinI s.heap.size ρ vF D cs p l e room_1 s m #[Value.ref b] below meth c (lw_Z below #[Value.ref b] s) iLaw 8 (m00 L xs) (some (.int 1)) mf := by
    intro pc L2 ls H locs r hret
    rcases hret with ⟨x, hx1, hd, -⟩ | ⟨x, hx1, -⟩ | ⟨hx1, -⟩
    · cases hx1
      refine va_forget (fun q hq => r.2.2.1.2.2 q hq) ?_
      have z1 : cnt (m00 L xs) = 0 := rfl
      have z2 : slo (m00 L xs) = 0 := rfl
      refine W.widen (k := 601024) (n := 7293034) (by omega) (by omega) ?_
      exact lw_ret hx hb hr hlocks hd
    · cases hx1
    · cases hx1
  have e1 : room_1.frames = 2048 := rfl
  have e2 : room_1.locals = 84000 := rfl
  have e3 : room_1.cells = 601024 := rfl
  have e4 : room_1.slots = 7293034 := rfl
  have z1 : cnt (m00 L xs) = 0 := rfl
  have z2 : slo (m00 L xs) = 0 := rfl
  have hgo := s_iter (l := l) (e := e) (below := below) (R := room_1) (r := .inl (some (.int 1))) (d := 1000) X hET (sound hl hρ hF 1000) (by omega) (by omega) (by omega) (by omega) (fun v hv => by cases hv; exact hfin) (fun ex he => by cases he) k _ hk
  have hent := ent_rl (ρ := ρ) (vF := vF) hF (args := [.ref XB]) (n := 8) (by decide)
  have hargs : ([Value.ref XB] : List Value).map (cv ρ vF) = [Value.ref b] := by
    show [Value.ref (ρ XB)] = _
    rw [hρb]
  rw [hargs] at hent
  rw [lg_entry_eq]
  exact hgo _ s.heap [] ⟨hent, (fun k q h => by cases h), va_S.rf, MonoA.rf _⟩
