/-! THE ABSTRACT MACHINE'S ANSWER IS THE METHOD'S CONTRACT -/
theorem exc_nx {pc : Nat} {L : List (Option Value)} {st : List Value} {m : AM} {ex : Nat} {m' : AM} (h : nx pc L st m = some (.inr (.inr ex, m'))) : False := by
  unfold nx at h
  cases h
theorem isl_bckN {pc : Nat} {L : List (Option Value)} {r : List Value} {y : Option (RS × AM)} {x : CF ⊕ (RS × AM)} (h : bckN pc L r y = some x) : ∃ f, x = .inl f := by
  unfold bckN at h
  repeat' split at h
  all_goals first | (cases h; done) | exact isl_nx h
theorem isl_xcat {mi : MI} {h0 : Nat} {L : List (Option Value)} {m : AM} {x : CF ⊕ (RS × AM)} (h : xcat mi h0 L m = some x) : ∃ f, x = .inl f := by
  unfold xcat at h
  repeat' split at h
  all_goals first | (cases h; done) | exact isl_nx h
theorem isl_xis {call : CALL} {mi : MI} {pc : Nat} {L : List (Option Value)} {st : List Value} {m : AM} {idx : Nat} {x : CF ⊕ (RS × AM)} (h : xis call mi pc L st m idx = some x) : ∃ f, x = .inl f := by
  unfold xis at h
  repeat' split at h
  all_goals first | (cases h; done) | exact isl_nx h | exact isl_bckN h | exact isl_xcpy h
theorem isl_xip {call : CALL} {mi : MI} {pc : Nat} {L : List (Option Value)} {st : List Value} {m : AM} {idx : Nat} {x : CF ⊕ (RS × AM)} (h : xip call mi pc L st m idx = some x) : ∃ f, x = .inl f := by
  unfold xip at h
  repeat' split at h
  all_goals first | (cases h; done) | exact isl_nx h | exact isl_bckN h
theorem exc_xiv {call : CALL} (CE : ∀ (id : Nat) (vs : List Value) (m : AM) (ex : Nat) (m' : AM), call id vs m = some (.inr ex, m') → ex < 2) {mi : MI} {pc : Nat} {L : List (Option Value)} {st : List Value} {m : AM} {idx : Nat} {ex : Nat} {m' : AM} (h : xiv call mi pc L st m idx = some (.inr (.inr ex, m'))) : ex < 2 ∧ mi.2.2.2 = [] := by
  unfold xiv at h
  split at h
  · split at h
    · split at h
      · unfold bck at h
        split at h
        · exact absurd h exc_nx
        · rename_i e2 m2 hc
          split at h
          · rename_i hnil
            cases h
            exact ⟨CE _ _ _ _ _ hc, hnil⟩
          · split at h
            · obtain ⟨f, hf⟩ := isl_xcat h
              cases hf
            · cases h
        · cases h
      · cases h
    · cases h
  · repeat' split at h
    all_goals first | (cases h; done) | (obtain ⟨f, hf⟩ := isl_bckN h; cases hf)
  · cases h
theorem exc_xnew {mi : MI} {pc : Nat} {L : List (Option Value)} {st : List Value} {m : AM} {idx : Nat} {ex : Nat} {m' : AM} (h : xnew mi pc L st m idx = some (.inr (.inr ex, m'))) : ex < 2 ∧ mi.2.2.2 = [] := by
  unfold xnew at h
  split at h
  · split at h
    · exact absurd h exc_nx
    · cases h
  · rename_i hcp
    split at h
    · rename_i hh
      split at h
      · split at h
        · cases h
          exact ⟨(cp_val hcp).1, hh.2⟩
        · cases h
      · cases h
    · cases h
  · cases h
theorem exc_exec {call : CALL} (CE : ∀ (id : Nat) (vs : List Value) (m : AM) (ex : Nat) (m' : AM), call id vs m = some (.inr ex, m') → ex < 2) {mi : MI} {pc n : Nat} {L : List (Option Value)} {st : List Value} {m : AM} {i : Instr} {ex : Nat} {m' : AM} (h : exec1 call mi pc n L st m i = some (.inr (.inr ex, m'))) : ex < 2 ∧ mi.2.2.2 = [] := by
  unfold exec1 at h
  split at h
  all_goals first
    | (obtain ⟨f, hf⟩ := isl_xload h; cases hf; done)
    | (obtain ⟨f, hf⟩ := isl_xstore h; cases hf; done)
    | exact absurd h exc_nx
    | (obtain ⟨f, hf⟩ := isl_xii h; cases hf; done)
    | (obtain ⟨f, hf⟩ := isl_xinc h; cases hf; done)
    | (obtain ⟨f, hf⟩ := isl_xdv h; cases hf; done)
    | (obtain ⟨f, hf⟩ := isl_xi h; cases hf; done)
    | (obtain ⟨f, hf⟩ := isl_xll h; cases hf; done)
    | (obtain ⟨f, hf⟩ := isl_xldv h; cases hf; done)
    | (obtain ⟨f, hf⟩ := isl_xli h; cases hf; done)
    | (obtain ⟨f, hf⟩ := isl_xcm h; cases hf; done)
    | (obtain ⟨f, hf⟩ := isl_xif h; cases hf; done)
    | (obtain ⟨f, hf⟩ := isl_xicmp h; cases hf; done)
    | (obtain ⟨f, hf⟩ := isl_jmp h; cases hf; done)
    | (obtain ⟨f, hf⟩ := isl_xts h; cases hf; done)
    | (obtain ⟨f, hf⟩ := isl_xls h; cases hf; done)
    | (obtain ⟨f, hf⟩ := isl_xdup h; cases hf; done)
    | (obtain ⟨f, hf⟩ := isl_xdup2 h; cases hf; done)
    | (obtain ⟨f, hf⟩ := isl_xpop h; cases hf; done)
    | (obtain ⟨f, hf⟩ := isl_xget h; cases hf; done)
    | (obtain ⟨f, hf⟩ := isl_xput h; cases hf; done)
    | (obtain ⟨f, hf⟩ := isl_xgs h; cases hf; done)
    | (obtain ⟨f, hf⟩ := isl_xldc h; cases hf; done)
    | (obtain ⟨f, hf⟩ := isl_xald h; cases hf; done)
    | (obtain ⟨f, hf⟩ := isl_xast h; cases hf; done)
    | (obtain ⟨f, hf⟩ := isl_xlen h; cases hf; done)
    | (obtain ⟨f, hf⟩ := isl_xna h; cases hf; done)
    | (obtain ⟨f, hf⟩ := isl_xmna h; cases hf; done)
    | exact exc_xnew h
    | exact exc_xiv CE h
    | (obtain ⟨f, hf⟩ := isl_xis h; cases hf; done)
    | (obtain ⟨f, hf⟩ := isl_xip h; cases hf; done)
    | (unfold xret at h
       repeat' split at h
       all_goals first | (cases h; done) | (unfold fin at h; cases h; done))
    | (cases h; done)
    | (repeat' split at h
       all_goals first | (cases h; done) | (unfold fin at h; cases h; done))
theorem exc_iter {call : CALL} (CE : ∀ (id : Nat) (vs : List Value) (m : AM) (ex : Nat) (m' : AM), call id vs m = some (.inr ex, m') → ex < 2) {mi : MI} {ex : Nat} {m' : AM} : ∀ (k : Nat) (f : CF), iter call mi k f = some (.inr ex, m') → ex < 2 ∧ mi.2.2.2 = [] := by
  intro k
  induction k with
  | zero => intro f h; cases h
  | succ k ih =>
    intro f h
    unfold iter at h
    split at h
    · exact ih _ h
    · rename_i r' hr
      cases h
      unfold step at hr
      split at hr
      · split at hr
        · exact exc_exec CE hr
        · cases hr
      · cases hr
    · cases h
theorem ini_ok : ∀ pe ∈ PG, pe.2.1.2.2.1 = 6 → pe.1.name = "<init>" := by decide +kernel
