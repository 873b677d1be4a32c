/-! THE ABSTRACT MACHINE, as a function: what a method answers, if it does; it only makes cells -/
def memO (x : CF ⊕ (RS × AM)) : AM := match x with
  | .inl f => f.2.2.2
  | .inr r => r.2
theorem mo_nx {pc : Nat} {L : List (Option Value)} {st : List Value} {m m0 : AM} {x : CF ⊕ (RS × AM)} (h : nx pc L st m = some x) (hm : MonoA m0 m) : MonoA m0 (memO x) := by
  unfold nx at h
  cases h
  exact hm
theorem mo_fin {v : Option Value} {m m0 : AM} {x : CF ⊕ (RS × AM)} (h : fin v m = some x) (hm : MonoA m0 m) : MonoA m0 (memO x) := by
  unfold fin at h
  cases h
  exact hm
theorem mo_jmp {pc : Nat} {off : Int} {L : List (Option Value)} {st : List Value} {m m0 : AM} {x : CF ⊕ (RS × AM)} (h : jmp pc off L st m = some x) (hm : MonoA m0 m) : MonoA m0 (memO x) := by
  unfold jmp at h
  split at h
  · exact mo_nx h hm
  · cases h
theorem mono_sX (m : AM) : MonoA m (sX m) := by
  refine ⟨⟨rfl, fun _ _ => rfl⟩, ?_, ?_, Nat.le_succ _, Nat.le_refl _⟩
  · show (mK m).length + mX m ≤ (mK m).length + (mX m + 1)
    omega
  · show ((mK m).map szK).sum + 6 * mX m ≤ ((mK m).map szK).sum + 6 * (mX m + 1)
    omega
theorem mo_xload (pc : Nat) (L : List (Option Value)) (st : List Value) (m : AM) (k ty : Nat) {x : CF ⊕ (RS × AM)} (h : xload pc L st m k ty = some x) : MonoA m (memO x) := by
  unfold xload at h
  repeat' split at h
  all_goals first | (cases h; done) | exact mo_nx h (MonoA.rf m) | exact mo_jmp h (MonoA.rf m)
theorem mo_xstore (pc : Nat) (L : List (Option Value)) (st : List Value) (m : AM) (k ty : Nat) {x : CF ⊕ (RS × AM)} (h : xstore pc L st m k ty = some x) : MonoA m (memO x) := by
  unfold xstore at h
  repeat' split at h
  all_goals first | (cases h; done) | exact mo_nx h (MonoA.rf m) | exact mo_jmp h (MonoA.rf m)
theorem mo_xinc (pc : Nat) (L : List (Option Value)) (st : List Value) (m : AM) (k : Nat) (z : Int) {x : CF ⊕ (RS × AM)} (h : xinc pc L st m k z = some x) : MonoA m (memO x) := by
  unfold xinc at h
  repeat' split at h
  all_goals first | (cases h; done) | exact mo_nx h (MonoA.rf m) | exact mo_jmp h (MonoA.rf m)
theorem mo_xii (pc : Nat) (L : List (Option Value)) (st : List Value) (m : AM) (g : Int32 → Int32 → Int32) {x : CF ⊕ (RS × AM)} (h : xii pc L st m g = some x) : MonoA m (memO x) := by
  unfold xii at h
  repeat' split at h
  all_goals first | (cases h; done) | exact mo_nx h (MonoA.rf m) | exact mo_jmp h (MonoA.rf m)
theorem mo_xdv (pc : Nat) (L : List (Option Value)) (st : List Value) (m : AM) (g : Int32 → Int32 → Int32) {x : CF ⊕ (RS × AM)} (h : xdv pc L st m g = some x) : MonoA m (memO x) := by
  unfold xdv at h
  repeat' split at h
  all_goals first | (cases h; done) | exact mo_nx h (MonoA.rf m) | exact mo_jmp h (MonoA.rf m)
theorem mo_xll (pc : Nat) (L : List (Option Value)) (st : List Value) (m : AM) (g : Int64 → Int64 → Int64) {x : CF ⊕ (RS × AM)} (h : xll pc L st m g = some x) : MonoA m (memO x) := by
  unfold xll at h
  repeat' split at h
  all_goals first | (cases h; done) | exact mo_nx h (MonoA.rf m) | exact mo_jmp h (MonoA.rf m)
theorem mo_xldv (pc : Nat) (L : List (Option Value)) (st : List Value) (m : AM) (g : Int64 → Int64 → Int64) {x : CF ⊕ (RS × AM)} (h : xldv pc L st m g = some x) : MonoA m (memO x) := by
  unfold xldv at h
  repeat' split at h
  all_goals first | (cases h; done) | exact mo_nx h (MonoA.rf m) | exact mo_jmp h (MonoA.rf m)
theorem mo_xli (pc : Nat) (L : List (Option Value)) (st : List Value) (m : AM) (g : Int64 → Int32 → Int64) {x : CF ⊕ (RS × AM)} (h : xli pc L st m g = some x) : MonoA m (memO x) := by
  unfold xli at h
  repeat' split at h
  all_goals first | (cases h; done) | exact mo_nx h (MonoA.rf m) | exact mo_jmp h (MonoA.rf m)
theorem mo_xcm (pc : Nat) (L : List (Option Value)) (st : List Value) (m : AM) {x : CF ⊕ (RS × AM)} (h : xcm pc L st m = some x) : MonoA m (memO x) := by
  unfold xcm at h
  repeat' split at h
  all_goals first | (cases h; done) | exact mo_nx h (MonoA.rf m) | exact mo_jmp h (MonoA.rf m)
theorem mo_xi (pc : Nat) (L : List (Option Value)) (st : List Value) (m : AM) (g : Int32 → Value) {x : CF ⊕ (RS × AM)} (h : xi pc L st m g = some x) : MonoA m (memO x) := by
  unfold xi at h
  repeat' split at h
  all_goals first | (cases h; done) | exact mo_nx h (MonoA.rf m) | exact mo_jmp h (MonoA.rf m)
theorem mo_xif (pc : Nat) (L : List (Option Value)) (st : List Value) (m : AM) (c : ClassFile.Cond) (off : Int) {x : CF ⊕ (RS × AM)} (h : xif pc L st m c off = some x) : MonoA m (memO x) := by
  unfold xif at h
  repeat' split at h
  all_goals first | (cases h; done) | exact mo_nx h (MonoA.rf m) | exact mo_jmp h (MonoA.rf m)
theorem mo_xicmp (pc : Nat) (L : List (Option Value)) (st : List Value) (m : AM) (c : ClassFile.Cond) (off : Int) {x : CF ⊕ (RS × AM)} (h : xicmp pc L st m c off = some x) : MonoA m (memO x) := by
  unfold xicmp at h
  repeat' split at h
  all_goals first | (cases h; done) | exact mo_nx h (MonoA.rf m) | exact mo_jmp h (MonoA.rf m)
theorem mo_xts (pc : Nat) (L : List (Option Value)) (st : List Value) (m : AM) (d lo hi : Int) (offs : Array Int) {x : CF ⊕ (RS × AM)} (h : xts pc L st m d lo hi offs = some x) : MonoA m (memO x) := by
  unfold xts at h
  repeat' split at h
  all_goals first | (cases h; done) | exact mo_nx h (MonoA.rf m) | exact mo_jmp h (MonoA.rf m)
theorem mo_xls (pc : Nat) (L : List (Option Value)) (st : List Value) (m : AM) (d : Int) (ps : Array (Int × Int)) {x : CF ⊕ (RS × AM)} (h : xls pc L st m d ps = some x) : MonoA m (memO x) := by
  unfold xls at h
  repeat' split at h
  all_goals first | (cases h; done) | exact mo_nx h (MonoA.rf m) | exact mo_jmp h (MonoA.rf m)
theorem mo_xdup (pc : Nat) (L : List (Option Value)) (st : List Value) (m : AM) {x : CF ⊕ (RS × AM)} (h : xdup pc L st m = some x) : MonoA m (memO x) := by
  unfold xdup at h
  repeat' split at h
  all_goals first | (cases h; done) | exact mo_nx h (MonoA.rf m) | exact mo_jmp h (MonoA.rf m)
theorem mo_xdup2 (pc : Nat) (L : List (Option Value)) (st : List Value) (m : AM) {x : CF ⊕ (RS × AM)} (h : xdup2 pc L st m = some x) : MonoA m (memO x) := by
  unfold xdup2 at h
  repeat' split at h
  all_goals first | (cases h; done) | exact mo_nx h (MonoA.rf m) | exact mo_jmp h (MonoA.rf m)
theorem mo_xpop (pc : Nat) (L : List (Option Value)) (st : List Value) (m : AM) {x : CF ⊕ (RS × AM)} (h : xpop pc L st m = some x) : MonoA m (memO x) := by
  unfold xpop at h
  repeat' split at h
  all_goals first | (cases h; done) | exact mo_nx h (MonoA.rf m) | exact mo_jmp h (MonoA.rf m)
theorem mo_xgs (ow pc : Nat) (L : List (Option Value)) (st : List Value) (m : AM) (idx : Nat) {x : CF ⊕ (RS × AM)} (h : xgs ow pc L st m idx = some x) : MonoA m (memO x) := by
  unfold xgs at h
  repeat' split at h
  all_goals first | (cases h; done) | exact mo_nx h (MonoA.rf m) | exact mo_jmp h (MonoA.rf m)
theorem mo_xldc (ow pc : Nat) (L : List (Option Value)) (st : List Value) (m : AM) (idx : Nat) (w : Bool) {x : CF ⊕ (RS × AM)} (h : xldc ow pc L st m idx w = some x) : MonoA m (memO x) := by
  unfold xldc at h
  repeat' split at h
  all_goals first | (cases h; done) | exact mo_nx h (MonoA.rf m) | exact mo_jmp h (MonoA.rf m)
theorem mo_xlen (pc : Nat) (L : List (Option Value)) (st : List Value) (m : AM) {x : CF ⊕ (RS × AM)} (h : xlen pc L st m = some x) : MonoA m (memO x) := by
  unfold xlen at h
  repeat' split at h
  all_goals first | (cases h; done) | exact mo_nx h (MonoA.rf m) | exact mo_jmp h (MonoA.rf m)
theorem mo_xget (ow pc : Nat) (L : List (Option Value)) (st : List Value) (m : AM) (idx : Nat) {x : CF ⊕ (RS × AM)} (h : xget ow pc L st m idx = some x) : MonoA m (memO x) := by
  unfold xget at h
  repeat' split at h
  all_goals first | (cases h; done) | exact mo_nx h (MonoA.rf m) | exact mo_jmp h (MonoA.rf m)
theorem mo_xald (pc : Nat) (L : List (Option Value)) (st : List Value) (m : AM) (ty : Nat) {x : CF ⊕ (RS × AM)} (h : xald pc L st m ty = some x) : MonoA m (memO x) := by
  unfold xald at h
  repeat' split at h
  all_goals first | (cases h; done) | exact mo_nx h (MonoA.rf m) | exact mo_jmp h (MonoA.rf m)
theorem mo_xput (ow ty pc : Nat) (L : List (Option Value)) (st : List Value) (m : AM) (idx : Nat) {x : CF ⊕ (RS × AM)} (h : xput ow ty pc L st m idx = some x) : MonoA m (memO x) := by
  unfold xput at h
  repeat' split at h
  all_goals first | (cases h; done) | (rename_i q; first | exact mo_nx h (mono_sI q.2.1) | exact mo_nx h (mono_sIc q.1) | exact mo_nx h mono_sR | exact mo_nx h mono_sJ) | (rename_i q _; first | exact mo_nx h (mono_sI q.2) | exact mo_nx h (mono_mk1 q.2.2.2) | exact mo_nx h (mono_mk2 q.2.2.2.2.2.2)) | (rename_i q _ _; first | exact mo_nx h (mono_sI q.2) | exact mo_nx h (mono_mk1 q.2.2.2) | exact mo_nx h (mono_mk2 q.2.2.2.2.2.2)) | (rename_i q _ _ _ _ _; exact mo_nx h (mono_mk2 q.2.2.2.2.2.2))
theorem mo_xast (pc : Nat) (L : List (Option Value)) (st : List Value) (m : AM) (ty : Nat) {x : CF ⊕ (RS × AM)} (h : xast pc L st m ty = some x) : MonoA m (memO x) := by
  unfold xast at h
  repeat' split at h
  all_goals first | (cases h; done) | (rename_i q; first | exact mo_nx h (mono_sI q.2.1) | exact mo_nx h (mono_sIc q.1) | exact mo_nx h mono_sR | exact mo_nx h mono_sJ) | (rename_i q _; first | exact mo_nx h (mono_sI q.2) | exact mo_nx h (mono_mk1 q.2.2.2) | exact mo_nx h (mono_mk2 q.2.2.2.2.2.2)) | (rename_i q _ _; first | exact mo_nx h (mono_sI q.2) | exact mo_nx h (mono_mk1 q.2.2.2) | exact mo_nx h (mono_mk2 q.2.2.2.2.2.2)) | (rename_i q _ _ _ _ _; exact mo_nx h (mono_mk2 q.2.2.2.2.2.2))
theorem mo_xna (pc : Nat) (L : List (Option Value)) (st : List Value) (m : AM) (ty : ArrayType) {x : CF ⊕ (RS × AM)} (h : xna pc L st m ty = some x) : MonoA m (memO x) := by
  unfold xna at h
  repeat' split at h
  all_goals first | (cases h; done) | (rename_i q; first | exact mo_nx h (mono_sI q.2.1) | exact mo_nx h (mono_sIc q.1) | exact mo_nx h mono_sR | exact mo_nx h mono_sJ) | (rename_i q _; first | exact mo_nx h (mono_sI q.2) | exact mo_nx h (mono_mk1 q.2.2.2) | exact mo_nx h (mono_mk2 q.2.2.2.2.2.2)) | (rename_i q _ _; first | exact mo_nx h (mono_sI q.2) | exact mo_nx h (mono_mk1 q.2.2.2) | exact mo_nx h (mono_mk2 q.2.2.2.2.2.2)) | (rename_i q _ _ _ _ _; exact mo_nx h (mono_mk2 q.2.2.2.2.2.2))
theorem mo_xmna (ow pc : Nat) (L : List (Option Value)) (st : List Value) (m : AM) (idx dims : Nat) {x : CF ⊕ (RS × AM)} (h : xmna ow pc L st m idx dims = some x) : MonoA m (memO x) := by
  unfold xmna at h
  repeat' split at h
  all_goals first | (cases h; done) | (rename_i q; first | exact mo_nx h (mono_sI q.2.1) | exact mo_nx h (mono_sIc q.1) | exact mo_nx h mono_sR | exact mo_nx h mono_sJ) | (rename_i q _; first | exact mo_nx h (mono_sI q.2) | exact mo_nx h (mono_mk1 q.2.2.2) | exact mo_nx h (mono_mk2 q.2.2.2.2.2.2)) | (rename_i q _ _; first | exact mo_nx h (mono_sI q.2) | exact mo_nx h (mono_mk1 q.2.2.2) | exact mo_nx h (mono_mk2 q.2.2.2.2.2.2)) | (rename_i q _ _ _ _ _; exact mo_nx h (mono_mk2 q.2.2.2.2.2.2))
theorem mo_xcpy (pc : Nat) (L : List (Option Value)) (st : List Value) (m : AM) {x : CF ⊕ (RS × AM)} (h : xcpy pc L st m = some x) : MonoA m (memO x) := by
  unfold xcpy at h
  repeat' split at h
  all_goals first | (cases h; done) | (rename_i q; first | exact mo_nx h (mono_sI q.2.1) | exact mo_nx h (mono_sIc q.1) | exact mo_nx h mono_sR | exact mo_nx h mono_sJ) | (rename_i q _; first | exact mo_nx h (mono_sI q.2) | exact mo_nx h (mono_mk1 q.2.2.2) | exact mo_nx h (mono_mk2 q.2.2.2.2.2.2)) | (rename_i q _ _; first | exact mo_nx h (mono_sI q.2) | exact mo_nx h (mono_mk1 q.2.2.2) | exact mo_nx h (mono_mk2 q.2.2.2.2.2.2)) | (rename_i q _ _ _ _ _; exact mo_nx h (mono_mk2 q.2.2.2.2.2.2))
theorem mo_xcat {mi : MI} {h0 : Nat} {L : List (Option Value)} {m m0 : AM} {x : CF ⊕ (RS × AM)} (h : xcat mi h0 L m = some x) (hm : MonoA m0 m) : MonoA m0 (memO x) := by
  unfold xcat at h
  repeat' split at h
  all_goals first | (cases h; done) | exact mo_nx h hm
theorem mo_bck {mi : MI} {pc : Nat} {L : List (Option Value)} {r : List Value} {y : Option (RS × AM)} {m : AM} {x : CF ⊕ (RS × AM)} (hy : ∀ r' m', y = some (r', m') → MonoA m m') (h : bck mi pc L r y = some x) : MonoA m (memO x) := by
  unfold bck at h
  split at h
  · exact mo_nx h (hy _ _ rfl)
  · split at h
    · cases h
      exact hy _ _ rfl
    · split at h
      · exact mo_xcat h (hy _ _ rfl)
      · cases h
  · cases h
theorem mo_bckN {pc : Nat} {L : List (Option Value)} {r : List Value} {y : Option (RS × AM)} {m : AM} {x : CF ⊕ (RS × AM)} (hy : ∀ r' m', y = some (r', m') → MonoA m m') (h : bckN pc L r y = some x) : MonoA m (memO x) := by
  unfold bckN at h
  split at h
  · exact mo_nx h (hy _ _ rfl)
  · cases h
theorem mo_xiv {call : CALL} (CM : ∀ (id : Nat) (vs : List Value) (m : AM) (r : RS) (m' : AM), call id vs m = some (r, m') → MonoA m m') {mi : MI} {pc : Nat} {L : List (Option Value)} {st : List Value} {m : AM} {idx : Nat} {x : CF ⊕ (RS × AM)} (h : xiv call mi pc L st m idx = some x) : MonoA m (memO x) := by
  unfold xiv at h
  repeat' split at h
  all_goals first | (cases h; done) | exact mo_bck (CM _ _ _) h | exact mo_bckN (CM _ _ _) h
theorem mo_xis {call : CALL} (CM : ∀ (id : Nat) (vs : List Value) (m : AM) (r : RS) (m' : AM), call id vs m = some (r, m') → MonoA m m') {mi : MI} {pc : Nat} {L : List (Option Value)} {st : List Value} {m : AM} {idx : Nat} {x : CF ⊕ (RS × AM)} (h : xis call mi pc L st m idx = some x) : MonoA m (memO x) := by
  unfold xis at h
  repeat' split at h
  all_goals first | (cases h; done) | exact mo_bckN (CM _ _ _) h | exact mo_xcpy _ _ _ _ h | exact mo_nx h (MonoA.rf m)
theorem mo_xip {call : CALL} (CM : ∀ (id : Nat) (vs : List Value) (m : AM) (r : RS) (m' : AM), call id vs m = some (r, m') → MonoA m m') {mi : MI} {pc : Nat} {L : List (Option Value)} {st : List Value} {m : AM} {idx : Nat} {x : CF ⊕ (RS × AM)} (h : xip call mi pc L st m idx = some x) : MonoA m (memO x) := by
  unfold xip at h
  repeat' split at h
  all_goals first | (cases h; done) | exact mo_bckN (CM _ _ _) h | exact mo_nx h (MonoA.rf m)
theorem mo_xnew {mi : MI} {pc : Nat} {L : List (Option Value)} {st : List Value} {m : AM} {idx : Nat} {x : CF ⊕ (RS × AM)} (h : xnew mi pc L st m idx = some x) : MonoA m (memO x) := by
  unfold xnew at h
  repeat' split at h
  all_goals first | (cases h; done) | (rename_i q; exact mo_nx h (mono_mk1 q.2)) | (cases h; exact mono_sX m)
theorem mo_xret {ty : Nat} {st : List Value} {m : AM} {x : CF ⊕ (RS × AM)} (h : xret ty st m = some x) : MonoA m (memO x) := by
  unfold xret at h
  repeat' split at h
  all_goals first | (cases h; done) | exact mo_fin h (MonoA.rf m)
set_option maxHeartbeats 2000000 in
theorem mo_exec {call : CALL} (CM : ∀ (id : Nat) (vs : List Value) (m : AM) (r : RS) (m' : AM), call id vs m = some (r, m') → MonoA m m') {mi : MI} {pc n : Nat} {L : List (Option Value)} {st : List Value} {m : AM} {i : Instr} {x : CF ⊕ (RS × AM)} (h : exec1 call mi pc n L st m i = some x) : MonoA m (memO x) := by
  unfold exec1 at h
  split at h
  all_goals first
    | exact mo_xload _ _ _ _ _ _ h
    | exact mo_xstore _ _ _ _ _ _ h
    | exact mo_nx h (MonoA.rf m)
    | exact mo_xii _ _ _ _ _ h
    | exact mo_xinc _ _ _ _ _ _ h
    | exact mo_xdv _ _ _ _ _ h
    | exact mo_xi _ _ _ _ _ h
    | exact mo_xll _ _ _ _ _ h
    | exact mo_xldv _ _ _ _ _ h
    | exact mo_xli _ _ _ _ _ h
    | exact mo_xcm _ _ _ _ h
    | exact mo_xif _ _ _ _ _ _ h
    | exact mo_xicmp _ _ _ _ _ _ h
    | exact mo_jmp h (MonoA.rf m)
    | exact mo_xts _ _ _ _ _ _ _ _ h
    | exact mo_xls _ _ _ _ _ _ h
    | exact mo_xdup _ _ _ _ h
    | exact mo_xdup2 _ _ _ _ h
    | exact mo_xpop _ _ _ _ h
    | exact mo_xget _ _ _ _ _ _ h
    | exact mo_xput _ _ _ _ _ _ _ h
    | exact mo_xgs _ _ _ _ _ _ h
    | exact mo_xldc _ _ _ _ _ _ _ h
    | exact mo_xald _ _ _ _ _ h
    | exact mo_xast _ _ _ _ _ h
    | exact mo_xlen _ _ _ _ h
    | exact mo_xna _ _ _ _ _ h
    | exact mo_xmna _ _ _ _ _ _ _ h
    | exact mo_xnew h
    | exact mo_xiv CM h
    | exact mo_xis CM h
    | exact mo_xip CM h
    | exact mo_xret h
    | (cases h; done)
    | (repeat' split at h
       all_goals first | (cases h; done) | exact mo_fin h (MonoA.rf m))
theorem mo_step {call : CALL} (CM : ∀ (id : Nat) (vs : List Value) (m : AM) (r : RS) (m' : AM), call id vs m = some (r, m') → MonoA m m') {mi : MI} {f : CF} {x : CF ⊕ (RS × AM)} (h : step call mi f = some x) : MonoA f.2.2.2 (memO x) := by
  unfold step at h
  split at h
  · split at h
    · exact mo_exec CM h
    · cases h
  · cases h
theorem mo_iter {call : CALL} (CM : ∀ (id : Nat) (vs : List Value) (m : AM) (r : RS) (m' : AM), call id vs m = some (r, m') → MonoA m m') {mi : MI} : ∀ (k : Nat) (f : CF) (r : RS) (m' : AM), iter call mi k f = some (r, m') → MonoA f.2.2.2 m' := by
  intro k
  induction k with
  | zero => intro f r m' h; cases h
  | succ k ih =>
    intro f r m' h
    unfold iter at h
    split at h
    · rename_i c' hc
      exact (mo_step CM hc).tr (ih _ _ _ h)
    · rename_i r' hr
      cases h
      exact mo_step CM hr
    · cases h
/-- the answer, if there is one -/
theorem iter_up {call : CALL} {mi : MI} : ∀ (k j : Nat) (f : CF) (r : RS × AM), iter call mi k f = some r → iter call mi (k + j) f = some r := by
  intro k
  induction k with
  | zero => intro j f r h; cases h
  | succ k ih =>
    intro j f r h
    rw [show k + 1 + j = (k + j) + 1 by omega]
    unfold iter at h ⊢
    split at h
    · exact ih j _ _ h
    · exact h
    · cases h
theorem iter_one {call : CALL} {mi : MI} {k j : Nat} {f : CF} {r r' : RS × AM} (h : iter call mi k f = some r) (h' : iter call mi j f = some r') : r = r' := by
  have h1 := iter_up k j f r h
  have h2 := iter_up j k f r' h'
  rw [Nat.add_comm] at h2
  exact Option.some.inj (h1.symm.trans h2)
noncomputable def runI (call : CALL) (mi : MI) (f : CF) : Option (RS × AM) := Classical.epsilon (fun y : Option (RS × AM) => (∃ k r, iter call mi k f = some r ∧ y = some r) ∨ ((¬ ∃ k r, iter call mi k f = some r) ∧ y = none))
theorem runI_def (call : CALL) (mi : MI) (f : CF) : (∃ k r, iter call mi k f = some r ∧ runI call mi f = some r) ∨ ((¬ ∃ k r, iter call mi k f = some r) ∧ runI call mi f = none) := by
  refine Classical.epsilon_spec (p := fun y : Option (RS × AM) => (∃ k r, iter call mi k f = some r ∧ y = some r) ∨ ((¬ ∃ k r, iter call mi k f = some r) ∧ y = none)) ?_
  by_cases h : ∃ k r, iter call mi k f = some r
  · obtain ⟨k, r, h⟩ := h
    exact ⟨some r, Or.inl ⟨k, r, h, rfl⟩⟩
  · exact ⟨none, Or.inr ⟨h, rfl⟩⟩
theorem runI_some {call : CALL} {mi : MI} {f : CF} {r : RS × AM} : runI call mi f = some r ↔ ∃ k, iter call mi k f = some r := by
  rcases runI_def call mi f with ⟨k, r0, h1, h2⟩ | ⟨h1, h2⟩
  · rw [h2]
    constructor
    · intro h
      cases h
      exact ⟨k, h1⟩
    · rintro ⟨j, hj⟩
      rw [iter_one h1 hj]
  · rw [h2]
    constructor
    · intro h
      cases h
    · rintro ⟨j, hj⟩
      exact absurd ⟨j, r, hj⟩ h1
theorem runI_eq (call : CALL) (mi : MI) (f : CF) : runI call mi f = match step call mi f with
    | some (.inl f') => runI call mi f'
    | some (.inr r) => some r
    | none => none := by
  apply Option.ext
  intro r
  rw [runI_some]
  constructor
  · rintro ⟨k, hk⟩
    cases k with
    | zero => cases hk
    | succ k =>
      unfold iter at hk
      split at hk
      · rename_i c' hc
        rw [hc]
        exact runI_some.mpr ⟨k, hk⟩
      · rename_i r' hr
        rw [hr]
        exact hk
      · cases hk
  · intro h
    split at h
    · rename_i c' hc
      obtain ⟨k, hk⟩ := runI_some.mp h
      exact ⟨k + 1, by unfold iter; rw [hc]; exact hk⟩
    · rename_i r' hr
      exact ⟨1, by unfold iter; rw [hr]; exact h⟩
    · cases h
/-- a method, d calls deep at the most -/
noncomputable def runM : Nat → CALL
  | 0 => fun _ _ _ => none
  | d + 1 => fun id vs m => match PG[id]? with
    | some pe => if (slA vs).length ≤ pe.2.2 then runI (runM d) pe.2.1 (0, entL vs pe.2.2, [], m) else none
    | none => none
