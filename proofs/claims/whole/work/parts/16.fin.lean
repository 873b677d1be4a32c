/-! EVERY INSTRUCTION: what the abstract machine does, the real one does -/
theorem isl_nx {pc : Nat} {L : List (Option Value)} {st : List Value} {m : AM} {x : CF ⊕ (RS × AM)} (h : nx pc L st m = some x) : ∃ f, x = .inl f := by
  unfold nx at h
  cases h
  exact ⟨_, rfl⟩
theorem isl_jmp {pc : Nat} {off : Int} {L : List (Option Value)} {st : List Value} {m : AM} {x : CF ⊕ (RS × AM)} (h : jmp pc off L st m = some x) : ∃ f, x = .inl f := by
  unfold jmp at h
  split at h
  · exact isl_nx h
  · cases h
theorem isl_xload {pc : Nat} {L : List (Option Value)} {st : List Value} {m : AM} {k ty : Nat} {x : CF ⊕ (RS × AM)} (h : xload pc L st m k ty = some x) : ∃ f, x = .inl f := by
  unfold xload at h
  repeat' split at h
  all_goals first | (cases h; done) | exact isl_nx h | exact isl_jmp h
theorem isl_xstore {pc : Nat} {L : List (Option Value)} {st : List Value} {m : AM} {k ty : Nat} {x : CF ⊕ (RS × AM)} (h : xstore pc L st m k ty = some x) : ∃ f, x = .inl f := by
  unfold xstore at h
  repeat' split at h
  all_goals first | (cases h; done) | exact isl_nx h | exact isl_jmp h
theorem isl_xinc {pc : Nat} {L : List (Option Value)} {st : List Value} {m : AM} {k : Nat} {z : Int} {x : CF ⊕ (RS × AM)} (h : xinc pc L st m k z = some x) : ∃ f, x = .inl f := by
  unfold xinc at h
  repeat' split at h
  all_goals first | (cases h; done) | exact isl_nx h | exact isl_jmp h
theorem isl_xii {pc : Nat} {L : List (Option Value)} {st : List Value} {m : AM} {fn : Int32 → Int32 → Int32} {x : CF ⊕ (RS × AM)} (h : xii pc L st m fn = some x) : ∃ f, x = .inl f := by
  unfold xii at h
  repeat' split at h
  all_goals first | (cases h; done) | exact isl_nx h | exact isl_jmp h
theorem isl_xdv {pc : Nat} {L : List (Option Value)} {st : List Value} {m : AM} {fn : Int32 → Int32 → Int32} {x : CF ⊕ (RS × AM)} (h : xdv pc L st m fn = some x) : ∃ f, x = .inl f := by
  unfold xdv at h
  repeat' split at h
  all_goals first | (cases h; done) | exact isl_nx h | exact isl_jmp h
theorem isl_xll {pc : Nat} {L : List (Option Value)} {st : List Value} {m : AM} {fn : Int64 → Int64 → Int64} {x : CF ⊕ (RS × AM)} (h : xll pc L st m fn = some x) : ∃ f, x = .inl f := by
  unfold xll at h
  repeat' split at h
  all_goals first | (cases h; done) | exact isl_nx h | exact isl_jmp h
theorem isl_xldv {pc : Nat} {L : List (Option Value)} {st : List Value} {m : AM} {fn : Int64 → Int64 → Int64} {x : CF ⊕ (RS × AM)} (h : xldv pc L st m fn = some x) : ∃ f, x = .inl f := by
  unfold xldv at h
  repeat' split at h
  all_goals first | (cases h; done) | exact isl_nx h | exact isl_jmp h
theorem isl_xli {pc : Nat} {L : List (Option Value)} {st : List Value} {m : AM} {fn : Int64 → Int32 → Int64} {x : CF ⊕ (RS × AM)} (h : xli pc L st m fn = some x) : ∃ f, x = .inl f := by
  unfold xli at h
  repeat' split at h
  all_goals first | (cases h; done) | exact isl_nx h | exact isl_jmp h
theorem isl_xcm {pc : Nat} {L : List (Option Value)} {st : List Value} {m : AM} {x : CF ⊕ (RS × AM)} (h : xcm pc L st m = some x) : ∃ f, x = .inl f := by
  unfold xcm at h
  repeat' split at h
  all_goals first | (cases h; done) | exact isl_nx h | exact isl_jmp h
theorem isl_xi {pc : Nat} {L : List (Option Value)} {st : List Value} {m : AM} {fn : Int32 → Value} {x : CF ⊕ (RS × AM)} (h : xi pc L st m fn = some x) : ∃ f, x = .inl f := by
  unfold xi at h
  repeat' split at h
  all_goals first | (cases h; done) | exact isl_nx h | exact isl_jmp h
theorem isl_xif {pc : Nat} {L : List (Option Value)} {st : List Value} {m : AM} {c : ClassFile.Cond} {off : Int} {x : CF ⊕ (RS × AM)} (h : xif pc L st m c off = some x) : ∃ f, x = .inl f := by
  unfold xif at h
  repeat' split at h
  all_goals first | (cases h; done) | exact isl_nx h | exact isl_jmp h
theorem isl_xicmp {pc : Nat} {L : List (Option Value)} {st : List Value} {m : AM} {c : ClassFile.Cond} {off : Int} {x : CF ⊕ (RS × AM)} (h : xicmp pc L st m c off = some x) : ∃ f, x = .inl f := by
  unfold xicmp at h
  repeat' split at h
  all_goals first | (cases h; done) | exact isl_nx h | exact isl_jmp h
theorem isl_xts {pc : Nat} {L : List (Option Value)} {st : List Value} {m : AM} {d lo hi : Int} {offs : Array Int} {x : CF ⊕ (RS × AM)} (h : xts pc L st m d lo hi offs = some x) : ∃ f, x = .inl f := by
  unfold xts at h
  repeat' split at h
  all_goals first | (cases h; done) | exact isl_nx h | exact isl_jmp h
theorem isl_xls {pc : Nat} {L : List (Option Value)} {st : List Value} {m : AM} {d : Int} {ps : Array (Int × Int)} {x : CF ⊕ (RS × AM)} (h : xls pc L st m d ps = some x) : ∃ f, x = .inl f := by
  unfold xls at h
  repeat' split at h
  all_goals first | (cases h; done) | exact isl_nx h | exact isl_jmp h
theorem isl_xdup {pc : Nat} {L : List (Option Value)} {st : List Value} {m : AM} {x : CF ⊕ (RS × AM)} (h : xdup pc L st m = some x) : ∃ f, x = .inl f := by
  unfold xdup at h
  repeat' split at h
  all_goals first | (cases h; done) | exact isl_nx h | exact isl_jmp h
theorem isl_xdup2 {pc : Nat} {L : List (Option Value)} {st : List Value} {m : AM} {x : CF ⊕ (RS × AM)} (h : xdup2 pc L st m = some x) : ∃ f, x = .inl f := by
  unfold xdup2 at h
  repeat' split at h
  all_goals first | (cases h; done) | exact isl_nx h | exact isl_jmp h
theorem isl_xpop {pc : Nat} {L : List (Option Value)} {st : List Value} {m : AM} {x : CF ⊕ (RS × AM)} (h : xpop pc L st m = some x) : ∃ f, x = .inl f := by
  unfold xpop at h
  repeat' split at h
  all_goals first | (cases h; done) | exact isl_nx h | exact isl_jmp h
theorem isl_xgs {ow pc : Nat} {L : List (Option Value)} {st : List Value} {m : AM} {idx : Nat} {x : CF ⊕ (RS × AM)} (h : xgs ow pc L st m idx = some x) : ∃ f, x = .inl f := by
  unfold xgs at h
  repeat' split at h
  all_goals first | (cases h; done) | exact isl_nx h | exact isl_jmp h
theorem isl_xldc {ow pc : Nat} {L : List (Option Value)} {st : List Value} {m : AM} {idx : Nat} {w : Bool} {x : CF ⊕ (RS × AM)} (h : xldc ow pc L st m idx w = some x) : ∃ f, x = .inl f := by
  unfold xldc at h
  repeat' split at h
  all_goals first | (cases h; done) | exact isl_nx h | exact isl_jmp h
theorem isl_xlen {pc : Nat} {L : List (Option Value)} {st : List Value} {m : AM} {x : CF ⊕ (RS × AM)} (h : xlen pc L st m = some x) : ∃ f, x = .inl f := by
  unfold xlen at h
  repeat' split at h
  all_goals first | (cases h; done) | exact isl_nx h | exact isl_jmp h
theorem isl_xget {ow pc : Nat} {L : List (Option Value)} {st : List Value} {m : AM} {idx : Nat} {x : CF ⊕ (RS × AM)} (h : xget ow pc L st m idx = some x) : ∃ f, x = .inl f := by
  unfold xget at h
  repeat' split at h
  all_goals first | (cases h; done) | exact isl_nx h | exact isl_jmp h
theorem isl_xald {pc : Nat} {L : List (Option Value)} {st : List Value} {m : AM} {ty : Nat} {x : CF ⊕ (RS × AM)} (h : xald pc L st m ty = some x) : ∃ f, x = .inl f := by
  unfold xald at h
  repeat' split at h
  all_goals first | (cases h; done) | exact isl_nx h | exact isl_jmp h
theorem isl_xput {ow ty pc : Nat} {L : List (Option Value)} {st : List Value} {m : AM} {idx : Nat} {x : CF ⊕ (RS × AM)} (h : xput ow ty pc L st m idx = some x) : ∃ f, x = .inl f := by
  unfold xput at h
  repeat' split at h
  all_goals first | (cases h; done) | exact isl_nx h | exact isl_jmp h
theorem isl_xast {pc : Nat} {L : List (Option Value)} {st : List Value} {m : AM} {ty : Nat} {x : CF ⊕ (RS × AM)} (h : xast pc L st m ty = some x) : ∃ f, x = .inl f := by
  unfold xast at h
  repeat' split at h
  all_goals first | (cases h; done) | exact isl_nx h | exact isl_jmp h
theorem isl_xna {pc : Nat} {L : List (Option Value)} {st : List Value} {m : AM} {ty : ArrayType} {x : CF ⊕ (RS × AM)} (h : xna pc L st m ty = some x) : ∃ f, x = .inl f := by
  unfold xna at h
  repeat' split at h
  all_goals first | (cases h; done) | exact isl_nx h | exact isl_jmp h
theorem isl_xmna {ow pc : Nat} {L : List (Option Value)} {st : List Value} {m : AM} {idx dims : Nat} {x : CF ⊕ (RS × AM)} (h : xmna ow pc L st m idx dims = some x) : ∃ f, x = .inl f := by
  unfold xmna at h
  repeat' split at h
  all_goals first | (cases h; done) | exact isl_nx h | exact isl_jmp h
theorem isl_xcpy {pc : Nat} {L : List (Option Value)} {st : List Value} {m : AM} {x : CF ⊕ (RS × AM)} (h : xcpy pc L st m = some x) : ∃ f, x = .inl f := by
  unfold xcpy at h
  repeat' split at h
  all_goals first | (cases h; done) | exact isl_nx h | exact isl_jmp h
theorem bck_mem {mi : MI} {pc : Nat} {L : List (Option Value)} {r : List Value} {rs : RS} {m' : AM} {x : CF ⊕ (RS × AM)} (h : bck mi pc L r (some (rs, m')) = some x) : memO x = m' := by
  unfold bck at h
  cases rs with
  | inl v =>
    dsimp only at h
    unfold nx at h
    cases h
    rfl
  | inr ex =>
    dsimp only at h
    split at h
    · cases h
      rfl
    · split at h
      · unfold xcat at h
        repeat' split at h
        all_goals first | (cases h; done) | (unfold nx at h; cases h; rfl)
      · cases h
def RetC (mi : MI) (pc : Nat) (v : Option Value) : Prop :=
  (∃ x, v = some (.int x) ∧ decode mi.2.1 pc = .ok (.ireturn, 1) ∧ (mi.2.2.1 = 0 ∨ (mi.2.2.1 = 1 ∧ (x = 0 ∨ x = 1)) ∨ (mi.2.2.1 = 4 ∧ narrow .char (.int x) = .int x) ∨ (mi.2.2.1 = 5 ∧ narrow .byte (.int x) = .int x))) ∨
  (∃ x, v = some (.long x) ∧ decode mi.2.1 pc = .ok (.lreturn, 1) ∧ mi.2.2.1 = 2) ∨
  (v = none ∧ decode mi.2.1 pc = .ok (.return_, 1) ∧ (mi.2.2.1 = 3 ∨ mi.2.2.1 = 6))
theorem cp0 (ow : Nat) : cp ow 0 = none := by
  unfold cp
  by_cases h : ow < 18
  · have : ∀ ow, ow < 18 → ((cpT.getD ow []).find? (fun x => x.1 == 0)).map (fun x => x.2) = none := by decide +kernel
    exact this ow h
  · rw [List.getD_eq_getElem?_getD, List.getElem?_eq_none (by show 18 ≤ ow; omega)]
    rfl
/-- the handler that the abstract machine finds is the one that the real one finds -/
theorem hnd_spec {ow pc ex : Nat} : ∀ (hs : List (Nat × Nat × Nat × Nat)) (h : Nat), hnd ow pc ex hs = some h → ∃ (pre : List ExceptionTableEntry) (x : ExceptionTableEntry) (suf : List ExceptionTableEntry), tableOf hs = pre ++ x :: suf ∧
    (∀ z ∈ pre, covers z pc = false ∨ (z.catchType ≠ 0 ∧ ∃ e2 y1 y2, cp ow z.catchType = some (18, e2, y1, y2) ∧ e2 ≠ ex)) ∧ covers x pc = true ∧ x.catchType ≠ 0 ∧ x.handlerPc = h ∧ ∃ y1 y2, cp ow x.catchType = some (18, ex, y1, y2) := by
  intro hs
  induction hs with
  | nil => intro h hh; cases hh
  | cons q r ih =>
    intro h hh
    obtain ⟨b, z, hp, ct⟩ := q
    unfold hnd at hh
    have nz : ∀ y, cp ow ct = some y → ct ≠ 0 := fun y hy h0 => by rw [h0, cp0] at hy; cases hy
    split at hh
    · rename_i hc
      have hcov : covers (⟨b, z, hp, ct⟩ : ExceptionTableEntry) pc = true := by
        show (decide (b ≤ pc) && decide (pc < z)) = true
        rw [decide_eq_true hc.1, decide_eq_true hc.2]
        rfl
      split at hh
      · rename_i e2 y1 y2 hcp
        split at hh
        · rename_i he
          subst he
          cases hh
          exact ⟨[], ⟨b, z, _, ct⟩, tableOf r, rfl, fun _ h => absurd h List.not_mem_nil, hcov, nz _ hcp, rfl, y1, y2, hcp⟩
        · rename_i he
          obtain ⟨pre, x, suf, h1, h2, h3⟩ := ih h hh
          refine ⟨⟨b, z, hp, ct⟩ :: pre, x, suf, by show _ :: tableOf r = _; rw [h1]; rfl, fun w hw => ?_, h3⟩
          rcases List.mem_cons.mp hw with rfl | hw
          · exact Or.inr ⟨nz _ hcp, e2, y1, y2, hcp, he⟩
          · exact h2 w hw
      · cases hh
    · rename_i hc
      obtain ⟨pre, x, suf, h1, h2, h3⟩ := ih h hh
      refine ⟨⟨b, z, hp, ct⟩ :: pre, x, suf, by show _ :: tableOf r = _; rw [h1]; rfl, fun w hw => ?_, h3⟩
      rcases List.mem_cons.mp hw with rfl | hw
      · refine Or.inl ?_
        show (decide (b ≤ pc) && decide (pc < z)) = false
        rw [Bool.and_eq_false_iff, decide_eq_false_iff_not, decide_eq_false_iff_not]
        omega
      · exact h2 w hw
section S8
variable {base : Nat} {ρ : Nat → Nat} {vF : Value} {D : va_G} {cs : Nat → ClassId} {p : Program} {l : Launch} {e : Env} {R : Room} {s : State} {mth : MethodId} {args : Array Value} {below : List Frame} {meth : Method} {c : Code} {Q : State → Prop} {mi : MI} {nL : Nat} {m0 : AM} {pc n : Nat} {L : List (Option Value)} {st : List Value} {m : AM} {ls : Array Slot} {H : Heap} {locs : List Loc} {f : CF}
variable {call : CALL} {d : Nat}
def FinI (base : Nat) (ρ : Nat → Nat) (vF : Value) (D : va_G) (cs : Nat → ClassId) (p : Program) (l : Launch) (e : Env) (R : Room) (s : State) (mth : MethodId) (args : Array Value) (below : List Frame) (meth : Method) (c : Code) (Q : State → Prop) (mi : MI) (nL : Nat) (m0 : AM) (v : Option Value) (mf : AM) : Prop :=
  ∀ (pc : Nat) (L : List (Option Value)) (ls : Array Slot) (H : Heap) (locs : List Loc), Rf base ρ vF D cs s nL m0 (pc, L, v.toList, mf) ls H locs → RetC mi pc v → W p l e R s mth args below meth c H locs (cnt mf - cnt m0) (slo mf - slo m0) Q (F0 mth pc ls (v.toList.map (cv ρ vF)))
def FinX (base : Nat) (ρ : Nat → Nat) (vF : Value) (D : va_G) (cs : Nat → ClassId) (p : Program) (l : Launch) (e : Env) (R : Room) (s : State) (mth : MethodId) (args : Array Value) (below : List Frame) (meth : Method) (c : Code) (Q : State → Prop) (mi : MI) (nL : Nat) (m0 : AM) (ex : Nat) (mf : AM) : Prop :=
  (∀ (pc : Nat) (L : List (Option Value)) (rr : List Value) (ls : Array Slot) (ce : Cell) (q : Addr) (H1 : Heap) (locs1 : List Loc), H1[q]? = some ce → ce.vm = .none → s.vm.findClass (exN ex) = some ce.cls → Rf base ρ vF D cs s nL m0 (pc, L, rr, mf) ls H1 locs1 → vx_W p l e R s mth args below meth c H1 locs1 (cnt mf - cnt m0) (slo mf - slo m0) Q (F0 mth pc ls (rr.map (cv ρ vF))) q) ∧
  (∀ (pc : Nat) (L : List (Option Value)) (ls : Array Slot) (H : Heap) (locs : List Loc) (m1 : AM) (ik is ic y1 y2 : Nat), mf = sX m1 → Rf base ρ vF D cs s nL m0 (pc, L, [], m1) ls H locs → cp mi.1 ik = some (13, ex, y1, y2) → decode mi.2.1 pc = .ok (.new ik, 3) → decode mi.2.1 (pc + 3) = .ok (.dup, 1) → decode mi.2.1 (pc + 4) = .ok (.ldc_w is, 3) → decode mi.2.1 (pc + 7) = .ok (.invokespecial ic, 3) → decode mi.2.1 (pc + 10) = .ok (.athrow, 1) → thrT ex = some (mi.1, is, ic) → W p l e R s mth args below meth c H locs (cnt m1 - cnt m0) (slo m1 - slo m0) Q (F0 mth pc ls []))
/-- caught -/
theorem s_catch {ex : Nat} {m' : AM} {rr : List Value} {h : Nat} (X : FX base ρ vF D cs p s mth args meth c mi nL m0) (hET : c.exceptionTable.toList = tableOf mi.2.2.2) (hex : ex < 2) (hh : hnd mi.1 pc ex mi.2.2.2 = some h) (hc : xcat mi h L m' = some (.inl f)) (g : Go base ρ vF D cs p l e R s mth args below meth c Q nL m0 f) (ls : Array Slot) (ce : Cell) (q : Addr) (H1 : Heap) (locs1 : List Loc) (hce : H1[q]? = some ce) (hcv : ce.vm = .none) (hcl : s.vm.findClass (exN ex) = some ce.cls) (r : Rf base ρ vF D cs s nL m0 (pc, L, rr, m') ls H1 locs1) :
    vx_W p l e R s mth args below meth c H1 locs1 (cnt m' - cnt m0) (slo m' - slo m0) Q (F0 mth pc ls (rr.map (cv ρ vF))) q := by
  obtain ⟨pre, x, suf, h1, h2, h3, h4, h5, y1, y2, h6⟩ := hnd_spec _ _ hh
  have hv6 := cp_val h6
  have hE := X.ext.2.2.2.2.2.2.2.2.2.2.2.2.2.2
  refine vx_catch X.own pre x suf (hET.trans h1) (fun z hz => ?_) h3 h4 (X.w hv6.2 gw_cl) (va_Nw.use rfl (hE.1 ex hex)) hce hcv hcl ?_
  · rcases h2 z hz with k | ⟨k0, e2, z1, z2, k1, k2⟩
    · exact Or.inl k
    · have hk := cp_val k1
      refine Or.inr ⟨k0, exN e2, X.w hk.2 gw_cl, ?_⟩
      have he2 : e2 < 2 := hk.1
      match ex, e2, hex, he2, k2 with
      | 0, 1, _, _, _ => exact hE.2.1
      | 1, 0, _, _, _ => exact hE.2.2.1
      | 0, 0, _, _, k2 => exact absurd rfl k2
      | 1, 1, _, _, k2 => exact absurd rfl k2
  · rw [h5]
    unfold xcat at hc
    split at hc
    · rename_i k hd
      split at hc
      · rename_i hk
        have := nx_inj hc
        subst this
        refine lv_astore (x := q) (lv' := _) X.1 X.2.1 hd r.1.2 (by rw [← r.1.1]; exact hk.1) rfl (fun ls' h' => ?_)
        exact g ls' H1 locs1 ⟨r.1.set1 X.hF hk.1 hk.2 (fun z hz => by cases hz) h', r.2⟩
      · cases hc
    · rename_i k hd
      split at hc
      · rename_i hk
        have := nx_inj hc
        subst this
        refine lv_astore_n (x := q) (lv' := _) X.1 X.2.1 hd rfl r.1.2 (by rw [← r.1.1]; exact hk.1) rfl (fun ls' h' => ?_)
        exact g ls' H1 locs1 ⟨r.1.set1 X.hF hk.1 hk.2 (fun z hz => by cases hz) h', r.2⟩
      · cases hc
    · cases hc
end S8
