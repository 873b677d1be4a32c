/-! EVERY INSTRUCTION, in one -/
section S9
variable {base : Nat} {ρ : Nat → Nat} {vF : Value} {D : va_G} {cs : Nat → ClassId} {p : Program} {l : Launch} {e : Env} {R : Room} {s : State} {mth : MethodId} {args : Array Value} {below : List Frame} {meth : Method} {c : Code} {Q : State → Prop} {mi : MI} {nL : Nat} {m0 : AM} {pc n : Nat} {L : List (Option Value)} {st : List Value} {m : AM} {ls : Array Slot} {H : Heap} {locs : List Loc} {f : CF}
variable {call : CALL} {d : Nat} {x : CF ⊕ (RS × AM)}
theorem s_xiv {idx : Nat} (X : FX base ρ vF D cs p s mth args meth c mi nL m0) (hET : c.exceptionTable.toList = tableOf mi.2.2.2) (CK : ∀ (id : Nat) (vs : List Value) (m : AM) (r : RS) (m' : AM), call id vs m = some (r, m') → CokM l base ρ vF D cs d id vs m r m') (hRf : d + 9 ≤ R.frames) (hRl : 64 * d + 320 ≤ R.locals) (hN : cnt (memO x) ≤ cnt m0 + R.cells) (hS : slo (memO x) ≤ slo m0 + R.slots) (gI : ∀ f, x = .inl f → Go base ρ vF D cs p l e R s mth args below meth c Q nL m0 f) (gR : ∀ v m', x = .inr (.inl v, m') → FinI base ρ vF D cs p l e R s mth args below meth c Q mi nL m0 v m') (gX : ∀ ex m', x = .inr (.inr ex, m') → ex < 2 → mi.2.2.2 = [] → FinX base ρ vF D cs p l e R s mth args below meth c Q mi nL m0 ex m') (hd : decode mi.2.1 pc = .ok (.invokevirtual idx, 3)) (h : xiv call mi pc L st m idx = some x) : Go base ρ vF D cs p l e R s mth args below meth c Q nL m0 (pc, L, st, m) := by
  unfold xiv at h
  split at h
  · rename_i id n ci hcp
    split at h
    · rename_i a rr hst
      split at h
      · rename_i hh
        cases hcall : call id (.ref a :: (st.take n).reverse) m with
        | none =>
          rw [hcall] at h
          cases h
        | some y =>
          obtain ⟨rs, m'⟩ := y
          rw [hcall] at h
          have hm := bck_mem h
          rw [hm] at hN hS
          refine s_V X CK hRf hRl hN hS hcp hst hh.1 hh.2.1 hh.2.2 hd hcall (fun v hv => ?_) (fun ex he hex => ?_)
          · subst hv
            unfold bck at h
            exact gI _ (Option.some.inj h).symm
          · subst he
            unfold bck at h
            dsimp only at h
            split at h
            · rename_i hnil
              intro ls ce q H1 locs1 k1 k2 k3 r
              exact (gX ex m' (Option.some.inj h).symm hex hnil).1 pc L rr ls ce q H1 locs1 k1 k2 k3 r
            · split at h
              · rename_i h0 hh0
                have hi : ∃ f, x = .inl f := by
                  unfold xcat at h
                  repeat' split at h
                  all_goals first | (cases h; done) | exact isl_nx h
                obtain ⟨f, rfl⟩ := hi
                exact s_catch X hET hex hh0 h (gI f rfl)
              · cases h
      · cases h
    · cases h
  · rename_i id n x1 hcp
    split at h
    · rename_i a rr hst
      split at h
      · rename_i j hk
        split at h
        · rename_i hh
          cases hcall : call id (.ref a :: (st.take n).reverse) m with
          | none =>
            rw [hcall] at h
            cases h
          | some y =>
            obtain ⟨rs, m'⟩ := y
            rw [hcall] at h
            cases rs with
            | inl v =>
              unfold bckN at h
              dsimp only at h
              have hx := isl_nx h
              obtain ⟨f, rfl⟩ := hx
              have := nx_inj h
              subst this
              exact s_VS X CK hRf hRl hN hS hcp hst hk hh.2 hh.1 hd hcall (gI _ rfl)
            | inr ex => cases h
        · cases h
      · cases h
    · cases h
  · cases h
theorem s_xis {idx : Nat} (X : FX base ρ vF D cs p s mth args meth c mi nL m0) (CK : ∀ (id : Nat) (vs : List Value) (m : AM) (r : RS) (m' : AM), call id vs m = some (r, m') → CokM l base ρ vF D cs d id vs m r m') (hRf : d + 9 ≤ R.frames) (hRl : 64 * d + 320 ≤ R.locals) (hN : cnt (memO x) ≤ cnt m0 + R.cells) (hS : slo (memO x) ≤ slo m0 + R.slots) (gI : ∀ f, x = .inl f → Go base ρ vF D cs p l e R s mth args below meth c Q nL m0 f) (gR : ∀ v m', x = .inr (.inl v, m') → FinI base ρ vF D cs p l e R s mth args below meth c Q mi nL m0 v m') (gX : ∀ ex m', x = .inr (.inr ex, m') → ex < 2 → mi.2.2.2 = [] → FinX base ρ vF D cs p l e R s mth args below meth c Q mi nL m0 ex m') (hd : decode mi.2.1 pc = .ok (.invokestatic idx, 3)) (h : xis call mi pc L st m idx = some x) : Go base ρ vF D cs p l e R s mth args below meth c Q nL m0 (pc, L, st, m) := by
  unfold xis at h
  split at h
  · rename_i id n x1 hcp
    split at h
    · rename_i hh
      cases hcall : call id (st.take n).reverse m with
      | none =>
        rw [hcall] at h
        cases h
      | some y =>
        obtain ⟨rs, m'⟩ := y
        rw [hcall] at h
        cases rs with
        | inl v =>
          unfold bckN at h
          dsimp only at h
          obtain ⟨f, rfl⟩ := isl_nx h
          have := nx_inj h
          subst this
          exact s_S X CK hRf hRl hN hS hcp hh.1 hh.2 hd hcall (gI _ rfl)
        | inr ex => cases h
    · cases h
  · rename_i id n x1 hcp
    split at h
    · rename_i hh
      cases hcall : call id (st.take n).reverse m with
      | none =>
        rw [hcall] at h
        cases h
      | some y =>
        obtain ⟨rs, m'⟩ := y
        rw [hcall] at h
        cases rs with
        | inl v =>
          unfold bckN at h
          dsimp only at h
          obtain ⟨f, rfl⟩ := isl_nx h
          have := nx_inj h
          subst this
          exact s_SN X CK hRf hRl hN hS hcp hh.1 hh.2 hd hcall (gI _ rfl)
        | inr ex => cases h
    · cases h
  · rename_i x0 x1 x2 hcp
    obtain ⟨f, rfl⟩ := isl_xcpy h
    exact s_cpy X (by omega) (by omega) hcp hd h (gI _ rfl)
  · rename_i x0 x1 x2 hcp
    split at h
    · split at h
      · rename_i hw
        obtain ⟨f, rfl⟩ := isl_nx h
        have := nx_inj h
        subst this
        exact s_max X (by omega) (by omega) hN hS hcp hw hd (gI _ rfl)
      · cases h
    · cases h
  · rename_i x0 x1 x2 hcp
    split at h
    · split at h
      · rename_i hw
        obtain ⟨f, rfl⟩ := isl_nx h
        have := nx_inj h
        subst this
        exact s_min X (by omega) (by omega) hN hS hcp hw hd (gI _ rfl)
      · cases h
    · cases h
  · cases h
theorem s_xip {idx : Nat} (X : FX base ρ vF D cs p s mth args meth c mi nL m0) (CK : ∀ (id : Nat) (vs : List Value) (m : AM) (r : RS) (m' : AM), call id vs m = some (r, m') → CokM l base ρ vF D cs d id vs m r m') (hRf : d + 9 ≤ R.frames) (hRl : 64 * d + 320 ≤ R.locals) (hN : cnt (memO x) ≤ cnt m0 + R.cells) (hS : slo (memO x) ≤ slo m0 + R.slots) (gI : ∀ f, x = .inl f → Go base ρ vF D cs p l e R s mth args below meth c Q nL m0 f) (gR : ∀ v m', x = .inr (.inl v, m') → FinI base ρ vF D cs p l e R s mth args below meth c Q mi nL m0 v m') (gX : ∀ ex m', x = .inr (.inr ex, m') → ex < 2 → mi.2.2.2 = [] → FinX base ρ vF D cs p l e R s mth args below meth c Q mi nL m0 ex m') (hd : decode mi.2.1 pc = .ok (.invokespecial idx, 3)) (h : xip call mi pc L st m idx = some x) : Go base ρ vF D cs p l e R s mth args below meth c Q nL m0 (pc, L, st, m) := by
  unfold xip at h
  split at h
  · rename_i id n x1 hcp
    split at h
    · rename_i a rr hst
      split at h
      · rename_i hh
        cases hcall : call id (.ref a :: (st.take n).reverse) m with
        | none =>
          rw [hcall] at h
          cases h
        | some y =>
          obtain ⟨rs, m'⟩ := y
          rw [hcall] at h
          cases rs with
          | inl v =>
            unfold bckN at h
            dsimp only at h
            obtain ⟨f, rfl⟩ := isl_nx h
            have := nx_inj h
            subst this
            exact s_IN X CK hRf hRl hN hS hcp hst hh hd hcall (gI _ rfl)
          | inr ex => cases h
      · cases h
    · cases h
  · rename_i id n x1 hcp
    split at h
    · rename_i a rr hst
      split at h
      · rename_i hh
        cases hcall : call id (.ref a :: (st.take n).reverse) m with
        | none =>
          rw [hcall] at h
          cases h
        | some y =>
          obtain ⟨rs, m'⟩ := y
          rw [hcall] at h
          cases rs with
          | inl v =>
            unfold bckN at h
            dsimp only at h
            obtain ⟨f, rfl⟩ := isl_nx h
            have := nx_inj h
            subst this
            exact s_I X CK hRf hRl hN hS hcp hst hh hd hcall (gI _ rfl)
          | inr ex => cases h
      · cases h
    · cases h
  · rename_i x0 x1 x2 hcp
    split at h
    · split at h
      · rename_i hw
        obtain ⟨f, rfl⟩ := isl_nx h
        have := nx_inj h
        subst this
        exact s_objInit X (by omega) (by omega) hcp hw hd (gI _ rfl)
      · cases h
    · cases h
  · cases h
theorem s_xnew {idx : Nat} (X : FX base ρ vF D cs p s mth args meth c mi nL m0) (hRf : d + 9 ≤ R.frames) (hRl : 64 * d + 320 ≤ R.locals) (hN : cnt (memO x) ≤ cnt m0 + R.cells) (hS : slo (memO x) ≤ slo m0 + R.slots) (gI : ∀ f, x = .inl f → Go base ρ vF D cs p l e R s mth args below meth c Q nL m0 f) (gR : ∀ v m', x = .inr (.inl v, m') → FinI base ρ vF D cs p l e R s mth args below meth c Q mi nL m0 v m') (gX : ∀ ex m', x = .inr (.inr ex, m') → ex < 2 → mi.2.2.2 = [] → FinX base ρ vF D cs p l e R s mth args below meth c Q mi nL m0 ex m') (hd : decode mi.2.1 pc = .ok (.new idx, 3)) (h : xnew mi pc L st m idx = some x) : Go base ρ vF D cs p l e R s mth args below meth c Q nL m0 (pc, L, st, m) := by
  unfold xnew at h
  split at h
  · rename_i ci x1 x2 hcp
    split at h
    · rename_i hh
      obtain ⟨f, rfl⟩ := isl_nx h
      have := nx_inj h
      subst this
      exact s_newC X hd hcp hh.1 hh.2 hN hS (gI _ rfl)
    · cases h
  · rename_i ex x1 x2 hcp
    split at h
    · rename_i hh
      split at h
      · rename_i is ic h3 h4 h7 h10
        split at h
        · rename_i ht
          obtain ⟨rfl, hnil⟩ := hh
          have hx := (Option.some.inj h).symm
          subst hx
          intro ls H locs r
          exact (gX ex (sX m) rfl (cp_val hcp).1 hnil).2 pc L ls H locs m idx is ic x1 x2 rfl r hcp hd h3 h4 h7 h10 ht
        · cases h
      · cases h
    · cases h
  · cases h
theorem s_xret (X : FX base ρ vF D cs p s mth args meth c mi nL m0) (hd : decode mi.2.1 pc = .ok (.ireturn, 1)) (h : xret mi.2.2.1 st m = some x) (gR : ∀ v m', x = .inr (.inl v, m') → FinI base ρ vF D cs p l e R s mth args below meth c Q mi nL m0 v m') : Go base ρ vF D cs p l e R s mth args below meth c Q nL m0 (pc, L, st, m) := by
  intro ls H locs r
  unfold xret at h
  split at h
  · rename_i z
    split at h
    · rename_i hty
      exact gR (some (.int z)) m (Option.some.inj h).symm pc L ls H locs r (Or.inl ⟨z, rfl, hd, hty⟩)
    · cases h
  · cases h
set_option maxHeartbeats 4000000 in
theorem s_exec (X : FX base ρ vF D cs p s mth args meth c mi nL m0) (hET : c.exceptionTable.toList = tableOf mi.2.2.2) (CK : ∀ (id : Nat) (vs : List Value) (m : AM) (r : RS) (m' : AM), call id vs m = some (r, m') → CokM l base ρ vF D cs d id vs m r m') (hRf : d + 9 ≤ R.frames) (hRl : 64 * d + 320 ≤ R.locals) (hN : cnt (memO x) ≤ cnt m0 + R.cells) (hS : slo (memO x) ≤ slo m0 + R.slots) (gI : ∀ f, x = .inl f → Go base ρ vF D cs p l e R s mth args below meth c Q nL m0 f) (gR : ∀ v m', x = .inr (.inl v, m') → FinI base ρ vF D cs p l e R s mth args below meth c Q mi nL m0 v m') (gX : ∀ ex m', x = .inr (.inr ex, m') → ex < 2 → mi.2.2.2 = [] → FinX base ρ vF D cs p l e R s mth args below meth c Q mi nL m0 ex m') {i : Instr} (hd : decode mi.2.1 pc = .ok (i, n)) (hl : lenI i n = true) (h : exec1 call mi pc n L st m i = some x) : Go base ρ vF D cs p l e R s mth args below meth c Q nL m0 (pc, L, st, m) := by
  unfold exec1 at h
  split at h
  · -- .aload_n k
    have hn : n = 1 := by simpa [lenI] using hl
    subst hn
    obtain ⟨f, rfl⟩ := isl_xload h
    exact s_aload_n X hd h (gI _ rfl)
  · -- .aload k
    have hn : n = 2 := by simpa [lenI] using hl
    subst hn
    obtain ⟨f, rfl⟩ := isl_xload h
    exact s_aload X hd h (gI _ rfl)
  · -- .iload_n k
    have hn : n = 1 := by simpa [lenI] using hl
    subst hn
    obtain ⟨f, rfl⟩ := isl_xload h
    exact s_iload_n X hd h (gI _ rfl)
  · -- .iload k
    have hn : n = 2 := by simpa [lenI] using hl
    subst hn
    obtain ⟨f, rfl⟩ := isl_xload h
    exact s_iload X hd h (gI _ rfl)
  · -- .lload_n k
    have hn : n = 1 := by simpa [lenI] using hl
    subst hn
    obtain ⟨f, rfl⟩ := isl_xload h
    exact s_lload_n X hd h (gI _ rfl)
  · -- .lload k
    have hn : n = 2 := by simpa [lenI] using hl
    subst hn
    obtain ⟨f, rfl⟩ := isl_xload h
    exact s_lload X hd h (gI _ rfl)
  · -- .astore_n k
    have hn : n = 1 := by simpa [lenI] using hl
    subst hn
    obtain ⟨f, rfl⟩ := isl_xstore h
    exact s_astore_n X hd h (gI _ rfl)
  · -- .astore k
    have hn : n = 2 := by simpa [lenI] using hl
    subst hn
    obtain ⟨f, rfl⟩ := isl_xstore h
    exact s_astore X hd h (gI _ rfl)
  · -- .istore_n k
    have hn : n = 1 := by simpa [lenI] using hl
    subst hn
    obtain ⟨f, rfl⟩ := isl_xstore h
    exact s_istore_n X hd h (gI _ rfl)
  · -- .istore k
    have hn : n = 2 := by simpa [lenI] using hl
    subst hn
    obtain ⟨f, rfl⟩ := isl_xstore h
    exact s_istore X hd h (gI _ rfl)
  · -- .lstore_n k
    have hn : n = 1 := by simpa [lenI] using hl
    subst hn
    obtain ⟨f, rfl⟩ := isl_xstore h
    exact s_lstore_n X hd h (gI _ rfl)
  · -- .lstore k
    have hn : n = 2 := by simpa [lenI] using hl
    subst hn
    obtain ⟨f, rfl⟩ := isl_xstore h
    exact s_lstore X hd h (gI _ rfl)
  · -- .iinc k z
    have hn : n = 3 := by simpa [lenI] using hl
    subst hn
    obtain ⟨f, rfl⟩ := isl_xinc h
    exact s_iinc X hd h (gI _ rfl)
  · -- .iconst z
    have hn : n = 1 := by simpa [lenI] using hl
    subst hn
    obtain ⟨f, rfl⟩ := isl_nx h
    exact s_iconst X hd h (gI _ rfl)
  · -- .bipush z
    have hn : n = 2 := by simpa [lenI] using hl
    subst hn
    obtain ⟨f, rfl⟩ := isl_nx h
    exact s_bipush X hd h (gI _ rfl)
  · -- .sipush z
    have hn : n = 3 := by simpa [lenI] using hl
    subst hn
    obtain ⟨f, rfl⟩ := isl_nx h
    exact s_sipush X hd h (gI _ rfl)
  · -- .lconst z
    have hn : n = 1 := by simpa [lenI] using hl
    subst hn
    obtain ⟨f, rfl⟩ := isl_nx h
    exact s_lconst X hd h (gI _ rfl)
  · -- .iadd
    have hn : n = 1 := by simpa [lenI] using hl
    subst hn
    obtain ⟨f, rfl⟩ := isl_xii h
    exact s_iadd X hd h (gI _ rfl)
  · -- .isub
    have hn : n = 1 := by simpa [lenI] using hl
    subst hn
    obtain ⟨f, rfl⟩ := isl_xii h
    exact s_isub X hd h (gI _ rfl)
  · -- .imul
    have hn : n = 1 := by simpa [lenI] using hl
    subst hn
    obtain ⟨f, rfl⟩ := isl_xii h
    exact s_imul X hd h (gI _ rfl)
  · -- .iand
    have hn : n = 1 := by simpa [lenI] using hl
    subst hn
    obtain ⟨f, rfl⟩ := isl_xii h
    exact s_iand X hd h (gI _ rfl)
  · -- .ior
    have hn : n = 1 := by simpa [lenI] using hl
    subst hn
    obtain ⟨f, rfl⟩ := isl_xii h
    exact s_ior X hd h (gI _ rfl)
  · -- .ixor
    have hn : n = 1 := by simpa [lenI] using hl
    subst hn
    obtain ⟨f, rfl⟩ := isl_xii h
    exact s_ixor X hd h (gI _ rfl)
  · -- .ishl
    have hn : n = 1 := by simpa [lenI] using hl
    subst hn
    obtain ⟨f, rfl⟩ := isl_xii h
    exact s_ishl X hd h (gI _ rfl)
  · -- .ishr
    have hn : n = 1 := by simpa [lenI] using hl
    subst hn
    obtain ⟨f, rfl⟩ := isl_xii h
    exact s_ishr X hd h (gI _ rfl)
  · -- .iushr
    have hn : n = 1 := by simpa [lenI] using hl
    subst hn
    obtain ⟨f, rfl⟩ := isl_xii h
    exact s_iushr X hd h (gI _ rfl)
  · -- .idiv
    have hn : n = 1 := by simpa [lenI] using hl
    subst hn
    obtain ⟨f, rfl⟩ := isl_xdv h
    exact s_idiv X hd h (gI _ rfl)
  · -- .irem
    have hn : n = 1 := by simpa [lenI] using hl
    subst hn
    obtain ⟨f, rfl⟩ := isl_xdv h
    exact s_irem X hd h (gI _ rfl)
  · -- .ineg
    have hn : n = 1 := by simpa [lenI] using hl
    subst hn
    obtain ⟨f, rfl⟩ := isl_xi h
    exact s_ineg X hd h (gI _ rfl)
  · -- .i2l
    have hn : n = 1 := by simpa [lenI] using hl
    subst hn
    obtain ⟨f, rfl⟩ := isl_xi h
    exact s_i2l X hd h (gI _ rfl)
  · -- .i2b
    have hn : n = 1 := by simpa [lenI] using hl
    subst hn
    obtain ⟨f, rfl⟩ := isl_xi h
    exact s_i2b X hd h (gI _ rfl)
  · -- .i2c
    have hn : n = 1 := by simpa [lenI] using hl
    subst hn
    obtain ⟨f, rfl⟩ := isl_xi h
    exact s_i2c X hd h (gI _ rfl)
  · -- .ladd
    have hn : n = 1 := by simpa [lenI] using hl
    subst hn
    obtain ⟨f, rfl⟩ := isl_xll h
    exact s_ladd X hd h (gI _ rfl)
  · -- .lmul
    have hn : n = 1 := by simpa [lenI] using hl
    subst hn
    obtain ⟨f, rfl⟩ := isl_xll h
    exact s_lmul X hd h (gI _ rfl)
  · -- .land
    have hn : n = 1 := by simpa [lenI] using hl
    subst hn
    obtain ⟨f, rfl⟩ := isl_xll h
    exact s_land X hd h (gI _ rfl)
  · -- .lor
    have hn : n = 1 := by simpa [lenI] using hl
    subst hn
    obtain ⟨f, rfl⟩ := isl_xll h
    exact s_lor X hd h (gI _ rfl)
  · -- .ldiv
    have hn : n = 1 := by simpa [lenI] using hl
    subst hn
    obtain ⟨f, rfl⟩ := isl_xldv h
    exact s_ldiv X hd h (gI _ rfl)
  · -- .lrem
    have hn : n = 1 := by simpa [lenI] using hl
    subst hn
    obtain ⟨f, rfl⟩ := isl_xldv h
    exact s_lrem X hd h (gI _ rfl)
  · -- .lshl
    have hn : n = 1 := by simpa [lenI] using hl
    subst hn
    obtain ⟨f, rfl⟩ := isl_xli h
    exact s_lshl X hd h (gI _ rfl)
  · -- .lshr
    have hn : n = 1 := by simpa [lenI] using hl
    subst hn
    obtain ⟨f, rfl⟩ := isl_xli h
    exact s_lshr X hd h (gI _ rfl)
  · -- .lcmp
    have hn : n = 1 := by simpa [lenI] using hl
    subst hn
    obtain ⟨f, rfl⟩ := isl_xcm h
    exact s_lcmp X hd h (gI _ rfl)
  · -- .ifCond c off
    have hn : n = 3 := by simpa [lenI] using hl
    subst hn
    obtain ⟨f, rfl⟩ := isl_xif h
    rename_i cc off
    cases cc
    · exact s_if_eq X hd h (gI _ rfl)
    · exact s_if_ne X hd h (gI _ rfl)
    · exact s_if_lt X hd h (gI _ rfl)
    · exact s_if_ge X hd h (gI _ rfl)
    · exact s_if_gt X hd h (gI _ rfl)
    · exact s_if_le X hd h (gI _ rfl)
  · -- .if_icmp c off
    have hn : n = 3 := by simpa [lenI] using hl
    subst hn
    obtain ⟨f, rfl⟩ := isl_xicmp h
    rename_i cc off
    cases cc
    · exact s_icmp_eq X hd h (gI _ rfl)
    · exact s_icmp_ne X hd h (gI _ rfl)
    · exact s_icmp_lt X hd h (gI _ rfl)
    · exact s_icmp_ge X hd h (gI _ rfl)
    · exact s_icmp_gt X hd h (gI _ rfl)
    · exact s_icmp_le X hd h (gI _ rfl)
  · -- .goto off
    have hn : n = 3 := by simpa [lenI] using hl
    subst hn
    obtain ⟨f, rfl⟩ := isl_jmp h
    exact s_goto X hd h (gI _ rfl)
  · -- .tableswitch d lo hi offs
    obtain ⟨f, rfl⟩ := isl_xts h
    exact s_ts X hd h (gI _ rfl)
  · -- .lookupswitch d ps
    obtain ⟨f, rfl⟩ := isl_xls h
    exact s_ls X hd h (gI _ rfl)
  · -- .dup
    have hn : n = 1 := by simpa [lenI] using hl
    subst hn
    obtain ⟨f, rfl⟩ := isl_xdup h
    exact s_dup X hd h (gI _ rfl)
  · -- .dup2
    have hn : n = 1 := by simpa [lenI] using hl
    subst hn
    obtain ⟨f, rfl⟩ := isl_xdup2 h
    exact s_dup2 X hd h (gI _ rfl)
  · -- .pop
    have hn : n = 1 := by simpa [lenI] using hl
    subst hn
    obtain ⟨f, rfl⟩ := isl_xpop h
    exact s_pop X hd h (gI _ rfl)
  · -- .getfield idx
    have hn : n = 3 := by simpa [lenI] using hl
    subst hn
    obtain ⟨f, rfl⟩ := isl_xget h
    exact s_getfield X hd h (gI _ rfl)
  · -- .putfield idx
    have hn : n = 3 := by simpa [lenI] using hl
    subst hn
    obtain ⟨f, rfl⟩ := isl_xput h
    exact s_putfield X hd h (gI _ rfl)
  · -- .getstatic idx
    have hn : n = 3 := by simpa [lenI] using hl
    subst hn
    obtain ⟨f, rfl⟩ := isl_xgs h
    exact s_getstatic X hd h (gI _ rfl)
  · -- .ldc idx
    have hn : n = 2 := by simpa [lenI] using hl
    subst hn
    obtain ⟨f, rfl⟩ := isl_xldc h
    exact s_ldc X hd h (gI _ rfl)
  · -- .ldc_w idx
    have hn : n = 3 := by simpa [lenI] using hl
    subst hn
    obtain ⟨f, rfl⟩ := isl_xldc h
    exact s_ldc_w X hd h (gI _ rfl)
  · -- .iaload
    have hn : n = 1 := by simpa [lenI] using hl
    subst hn
    obtain ⟨f, rfl⟩ := isl_xald h
    exact s_iaload X hd h (gI _ rfl)
  · -- .baload
    have hn : n = 1 := by simpa [lenI] using hl
    subst hn
    obtain ⟨f, rfl⟩ := isl_xald h
    exact s_baload X hd h (gI _ rfl)
  · -- .laload
    have hn : n = 1 := by simpa [lenI] using hl
    subst hn
    obtain ⟨f, rfl⟩ := isl_xald h
    exact s_laload X hd h (gI _ rfl)
  · -- .aaload
    have hn : n = 1 := by simpa [lenI] using hl
    subst hn
    obtain ⟨f, rfl⟩ := isl_xald h
    exact s_aaload X hd h (gI _ rfl)
  · -- .iastore
    have hn : n = 1 := by simpa [lenI] using hl
    subst hn
    obtain ⟨f, rfl⟩ := isl_xast h
    exact s_iastore X hd h (gI _ rfl)
  · -- .bastore
    have hn : n = 1 := by simpa [lenI] using hl
    subst hn
    obtain ⟨f, rfl⟩ := isl_xast h
    exact s_bastore X hd h (gI _ rfl)
  · -- .lastore
    have hn : n = 1 := by simpa [lenI] using hl
    subst hn
    obtain ⟨f, rfl⟩ := isl_xast h
    exact s_lastore X hd h (gI _ rfl)
  · -- .arraylength
    have hn : n = 1 := by simpa [lenI] using hl
    subst hn
    obtain ⟨f, rfl⟩ := isl_xlen h
    exact s_arraylength X hd h (gI _ rfl)
  · -- .newarray ty
    have hn : n = 2 := by simpa [lenI] using hl
    subst hn
    obtain ⟨f, rfl⟩ := isl_xna h
    exact s_newarray X hd h hN hS (gI _ rfl)
  · -- .multianewarray idx d
    have hn : n = 4 := by simpa [lenI] using hl
    subst hn
    obtain ⟨f, rfl⟩ := isl_xmna h
    exact s_mna X hd h hN hS (gI _ rfl)
  · -- .new idx
    have hn : n = 3 := by simpa [lenI] using hl
    subst hn
    exact s_xnew X hRf hRl hN hS gI gR gX hd h
  · -- .invokevirtual idx
    have hn : n = 3 := by simpa [lenI] using hl
    subst hn
    exact s_xiv X hET CK hRf hRl hN hS gI gR gX hd h
  · -- .invokestatic idx
    have hn : n = 3 := by simpa [lenI] using hl
    subst hn
    exact s_xis X CK hRf hRl hN hS gI gR gX hd h
  · -- .invokespecial idx
    have hn : n = 3 := by simpa [lenI] using hl
    subst hn
    exact s_xip X CK hRf hRl hN hS gI gR gX hd h
  · -- .ireturn
    have hn : n = 1 := by simpa [lenI] using hl
    subst hn
    exact s_xret X hd h gR
  · -- .lreturn
    have hn : n = 1 := by simpa [lenI] using hl
    subst hn
    split at h
    · rename_i z
      split at h
      · rename_i hty
        intro ls H locs r
        exact gR (some (.long z)) m (Option.some.inj h).symm pc L ls H locs r (Or.inr (Or.inl ⟨z, rfl, hd, hty⟩))
      · cases h
    · cases h
  · -- .return_
    have hn : n = 1 := by simpa [lenI] using hl
    subst hn
    split at h
    · rename_i hh
      obtain ⟨rfl, hty⟩ := hh
      intro ls H locs r
      exact gR none m (Option.some.inj h).symm pc L ls H locs r (Or.inr (Or.inr ⟨rfl, hd, hty⟩))
    · cases h
  · cases h
theorem s_step (X : FX base ρ vF D cs p s mth args meth c mi nL m0) (hET : c.exceptionTable.toList = tableOf mi.2.2.2) (CK : ∀ (id : Nat) (vs : List Value) (m : AM) (r : RS) (m' : AM), call id vs m = some (r, m') → CokM l base ρ vF D cs d id vs m r m') (hRf : d + 9 ≤ R.frames) (hRl : 64 * d + 320 ≤ R.locals) (hN : cnt (memO x) ≤ cnt m0 + R.cells) (hS : slo (memO x) ≤ slo m0 + R.slots) (gI : ∀ f, x = .inl f → Go base ρ vF D cs p l e R s mth args below meth c Q nL m0 f) (gR : ∀ v m', x = .inr (.inl v, m') → FinI base ρ vF D cs p l e R s mth args below meth c Q mi nL m0 v m') (gX : ∀ ex m', x = .inr (.inr ex, m') → ex < 2 → mi.2.2.2 = [] → FinX base ρ vF D cs p l e R s mth args below meth c Q mi nL m0 ex m') (h : step call mi f = some x) : Go base ρ vF D cs p l e R s mth args below meth c Q nL m0 f := by
  unfold step at h
  split at h
  · rename_i i n hd
    split at h
    · rename_i hl
      exact s_exec X hET CK hRf hRl hN hS gI gR gX hd hl h
    · cases h
  · cases h
/-- a whole run -/
theorem s_iter (X : FX base ρ vF D cs p s mth args meth c mi nL m0) (hET : c.exceptionTable.toList = tableOf mi.2.2.2) (CK : ∀ (id : Nat) (vs : List Value) (m : AM) (r : RS) (m' : AM), call id vs m = some (r, m') → CokM l base ρ vF D cs d id vs m r m') (hRf : d + 9 ≤ R.frames) (hRl : 64 * d + 320 ≤ R.locals) {r : RS} {mf : AM} (hN : cnt mf ≤ cnt m0 + R.cells) (hS : slo mf ≤ slo m0 + R.slots) (gR : ∀ v, r = .inl v → FinI base ρ vF D cs p l e R s mth args below meth c Q mi nL m0 v mf) (gX : ∀ ex, r = .inr ex → ex < 2 → mi.2.2.2 = [] → FinX base ρ vF D cs p l e R s mth args below meth c Q mi nL m0 ex mf) : ∀ (k : Nat) (f : CF), iter call mi k f = some (r, mf) → Go base ρ vF D cs p l e R s mth args below meth c Q nL m0 f := by
  have CM : ∀ (id : Nat) (vs : List Value) (m : AM) (r : RS) (m' : AM), call id vs m = some (r, m') → MonoA m m' := fun id vs m r m' h => by
    obtain ⟨pe, -, h2, -⟩ := CK id vs m r m' h
    exact h2
  intro k
  induction k with
  | zero => intro f h; cases h
  | succ k ih =>
    intro f h
    have h0 := h
    unfold iter at h
    split at h
    · rename_i c' hc
      have hmo := mo_iter CM k c' r mf h
      have k1 := hmo.2.1
      have k2 := hmo.2.2.1
      exact s_step X hET CK hRf hRl (x := .inl c') (Nat.le_trans k1 hN) (Nat.le_trans k2 hS) (fun f' hf => by cases hf; exact ih c' h) (fun v m' hv => by cases hv) (fun ex m' hv => by cases hv) hc
    · rename_i r' hr
      cases h
      exact s_step X hET CK hRf hRl (x := .inr (r, mf)) hN hS (fun f' hf => by cases hf) (fun v m' hv => by cases hv; exact gR v rfl) (fun ex m' hv => by cases hv; exact gX ex rfl) hr
    · cases h
end S9
