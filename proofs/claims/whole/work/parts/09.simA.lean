/-! ONE INSTRUCTION, kind by kind: those that touch no cell (written by program) -/
section S2
variable {base : Nat} {ρ : Nat → Nat} {vF : Value} {D : va_G} {cs : Nat → ClassId} {p : Program} {l : Launch} {e : Env} {R : Room} {s : State} {mth : MethodId} {args : Array Value} {below : List Frame} {meth : Method} {c : Code} {Q : State → Prop} {mi : MI} {nL : Nat} {m0 : AM} {pc n : Nat} {L : List (Option Value)} {st : List Value} {m : AM} {ls : Array Slot} {H : Heap} {locs : List Loc} {f : CF}
theorem FX.hF (X : FX base ρ vF D cs p s mth args meth c mi nL m0) : vF.category = 1 := X.2.2.2.2.2.2.2.2.2.1
theorem s_iload_n {k : Fin 4} (X : FX base ρ vF D cs p s mth args meth c mi nL m0) (hd : decode mi.2.1 pc = .ok (.iload_n k, 1)) (h : xload (pc + 1) L st m k.val 0 = some (.inl f)) (g : Go base ρ vF D cs p l e R s mth args below meth c Q nL m0 f) : Go base ρ vF D cs p l e R s mth args below meth c Q nL m0 (pc, L, st, m) := by
  intro ls H locs r
  unfold xload at h
  split at h <;> simp at h
  rename_i x hx
  have := nx_inj h
  subst this
  exact lv_iload_n X.1 X.2.1 hd rfl (r.1.get hx) (g ls H locs r)
theorem s_iload {k : Nat} (X : FX base ρ vF D cs p s mth args meth c mi nL m0) (hd : decode mi.2.1 pc = .ok (.iload k, 2)) (h : xload (pc + 2) L st m k 0 = some (.inl f)) (g : Go base ρ vF D cs p l e R s mth args below meth c Q nL m0 f) : Go base ρ vF D cs p l e R s mth args below meth c Q nL m0 (pc, L, st, m) := by
  intro ls H locs r
  unfold xload at h
  split at h <;> simp at h
  rename_i x hx
  have := nx_inj h
  subst this
  exact lv_iload X.1 X.2.1 hd (r.1.get hx) (g ls H locs r)
theorem s_lload_n {k : Fin 4} (X : FX base ρ vF D cs p s mth args meth c mi nL m0) (hd : decode mi.2.1 pc = .ok (.lload_n k, 1)) (h : xload (pc + 1) L st m k.val 1 = some (.inl f)) (g : Go base ρ vF D cs p l e R s mth args below meth c Q nL m0 f) : Go base ρ vF D cs p l e R s mth args below meth c Q nL m0 (pc, L, st, m) := by
  intro ls H locs r
  unfold xload at h
  split at h <;> simp at h
  rename_i x hx
  have := nx_inj h
  subst this
  exact lv_lload_n X.1 X.2.1 hd rfl (r.1.get hx) (g ls H locs r)
theorem s_lload {k : Nat} (X : FX base ρ vF D cs p s mth args meth c mi nL m0) (hd : decode mi.2.1 pc = .ok (.lload k, 2)) (h : xload (pc + 2) L st m k 1 = some (.inl f)) (g : Go base ρ vF D cs p l e R s mth args below meth c Q nL m0 f) : Go base ρ vF D cs p l e R s mth args below meth c Q nL m0 (pc, L, st, m) := by
  intro ls H locs r
  unfold xload at h
  split at h <;> simp at h
  rename_i x hx
  have := nx_inj h
  subst this
  exact lv_lload X.1 X.2.1 hd (r.1.get hx) (g ls H locs r)
theorem s_istore_n {k : Fin 4} (X : FX base ρ vF D cs p s mth args meth c mi nL m0) (hd : decode mi.2.1 pc = .ok (.istore_n k, 1)) (h : xstore (pc + 1) L st m k.val 0 = some (.inl f)) (g : Go base ρ vF D cs p l e R s mth args below meth c Q nL m0 f) : Go base ρ vF D cs p l e R s mth args below meth c Q nL m0 (pc, L, st, m) := by
  intro ls H locs r
  unfold xstore at h
  split at h
  · split at h
    · rename_i q
      have := nx_inj h
      subst this
      refine lv_istore_n (lv' := _) X.1 X.2.1 hd rfl r.1.2 (by rw [← r.1.1]; exact q.2.1) rfl (fun ls' h' => ?_)
      exact g ls' H locs ⟨r.1.set1 X.hF q.2.1 q.2.2 (fun z hz => by cases hz; rfl) h', r.2⟩
    · cases h
  · simp at h
  · simp at h
  · cases h
theorem s_istore {k : Nat} (X : FX base ρ vF D cs p s mth args meth c mi nL m0) (hd : decode mi.2.1 pc = .ok (.istore k, 2)) (h : xstore (pc + 2) L st m k 0 = some (.inl f)) (g : Go base ρ vF D cs p l e R s mth args below meth c Q nL m0 f) : Go base ρ vF D cs p l e R s mth args below meth c Q nL m0 (pc, L, st, m) := by
  intro ls H locs r
  unfold xstore at h
  split at h
  · split at h
    · rename_i q
      have := nx_inj h
      subst this
      refine lv_istore (lv' := _) X.1 X.2.1 hd r.1.2 (by rw [← r.1.1]; exact q.2.1) rfl (fun ls' h' => ?_)
      exact g ls' H locs ⟨r.1.set1 X.hF q.2.1 q.2.2 (fun z hz => by cases hz; rfl) h', r.2⟩
    · cases h
  · simp at h
  · simp at h
  · cases h
theorem s_astore_n {k : Fin 4} (X : FX base ρ vF D cs p s mth args meth c mi nL m0) (hd : decode mi.2.1 pc = .ok (.astore_n k, 1)) (h : xstore (pc + 1) L st m k.val 2 = some (.inl f)) (g : Go base ρ vF D cs p l e R s mth args below meth c Q nL m0 f) : Go base ρ vF D cs p l e R s mth args below meth c Q nL m0 (pc, L, st, m) := by
  intro ls H locs r
  unfold xstore at h
  split at h
  · simp at h
  · simp at h
  · split at h
    · rename_i q
      have := nx_inj h
      subst this
      refine lv_astore_n (lv' := _) X.1 X.2.1 hd rfl r.1.2 (by rw [← r.1.1]; exact q.2.1) rfl (fun ls' h' => ?_)
      exact g ls' H locs ⟨r.1.set1 X.hF q.2.1 q.2.2 (fun z hz => by cases hz; rfl) h', r.2⟩
    · cases h
  · cases h
theorem s_astore {k : Nat} (X : FX base ρ vF D cs p s mth args meth c mi nL m0) (hd : decode mi.2.1 pc = .ok (.astore k, 2)) (h : xstore (pc + 2) L st m k 2 = some (.inl f)) (g : Go base ρ vF D cs p l e R s mth args below meth c Q nL m0 f) : Go base ρ vF D cs p l e R s mth args below meth c Q nL m0 (pc, L, st, m) := by
  intro ls H locs r
  unfold xstore at h
  split at h
  · simp at h
  · simp at h
  · split at h
    · rename_i q
      have := nx_inj h
      subst this
      refine lv_astore (lv' := _) X.1 X.2.1 hd r.1.2 (by rw [← r.1.1]; exact q.2.1) rfl (fun ls' h' => ?_)
      exact g ls' H locs ⟨r.1.set1 X.hF q.2.1 q.2.2 (fun z hz => by cases hz; rfl) h', r.2⟩
    · cases h
  · cases h
theorem s_lstore_n {k : Fin 4} (X : FX base ρ vF D cs p s mth args meth c mi nL m0) (hd : decode mi.2.1 pc = .ok (.lstore_n k, 1)) (h : xstore (pc + 1) L st m k.val 1 = some (.inl f)) (g : Go base ρ vF D cs p l e R s mth args below meth c Q nL m0 f) : Go base ρ vF D cs p l e R s mth args below meth c Q nL m0 (pc, L, st, m) := by
  intro ls H locs r
  unfold xstore at h
  split at h
  · simp at h
  · split at h
    · rename_i q
      have := nx_inj h
      subst this
      refine lv_lstore_n (lv' := _) X.1 X.2.1 hd rfl r.1.2 (by rw [← r.1.1]; exact q.2.1) rfl (fun ls' h' => ?_)
      exact g ls' H locs ⟨r.1.set2 X.hF q.2.1 q.2.2 h', r.2⟩
    · cases h
  · simp at h
  · cases h
theorem s_lstore {k : Nat} (X : FX base ρ vF D cs p s mth args meth c mi nL m0) (hd : decode mi.2.1 pc = .ok (.lstore k, 2)) (h : xstore (pc + 2) L st m k 1 = some (.inl f)) (g : Go base ρ vF D cs p l e R s mth args below meth c Q nL m0 f) : Go base ρ vF D cs p l e R s mth args below meth c Q nL m0 (pc, L, st, m) := by
  intro ls H locs r
  unfold xstore at h
  split at h
  · simp at h
  · split at h
    · rename_i q
      have := nx_inj h
      subst this
      refine lv_lstore (lv' := _) X.1 X.2.1 hd r.1.2 (by rw [← r.1.1]; exact q.2.1) rfl (fun ls' h' => ?_)
      exact g ls' H locs ⟨r.1.set2 X.hF q.2.1 q.2.2 h', r.2⟩
    · cases h
  · simp at h
  · cases h
theorem s_iinc {k : Nat} {z : Int} (X : FX base ρ vF D cs p s mth args meth c mi nL m0) (hd : decode mi.2.1 pc = .ok (.iinc k z, 3)) (h : xinc (pc + 3) L st m k z = some (.inl f)) (g : Go base ρ vF D cs p l e R s mth args below meth c Q nL m0 f) : Go base ρ vF D cs p l e R s mth args below meth c Q nL m0 (pc, L, st, m) := by
  intro ls H locs r
  unfold xinc at h
  split at h
  · rename_i x hx
    split at h
    · rename_i q
      have := nx_inj h
      subst this
      obtain ⟨j, hj⟩ := List.getElem?_of_mem (asc_mem.mpr ⟨_, hx, rfl⟩ : (k, cv ρ vF (.int x)) ∈ asc ρ vF L)
      refine lv_iinc (lv' := _) (v := x + Int32.ofInt z) X.1 X.2.1 hd r.1.2 (k := j) hj rfl (by rw [← r.1.1]; exact q.1) rfl (fun ls' h' => ?_)
      exact g ls' H locs ⟨r.1.set1 X.hF q.1 q.2 (fun z hz => by cases hz; rfl) h', r.2⟩
    · cases h
  · cases h
theorem s_iconst {z : Int} (X : FX base ρ vF D cs p s mth args meth c mi nL m0) (hd : decode mi.2.1 pc = .ok (.iconst z, 1)) (h : nx (pc + 1) L (.int (Int32.ofInt z) :: st) m = some (.inl f)) (g : Go base ρ vF D cs p l e R s mth args below meth c Q nL m0 f) : Go base ρ vF D cs p l e R s mth args below meth c Q nL m0 (pc, L, st, m) := by
  intro ls H locs r
  have := nx_inj h
  subst this
  exact lv_iconst X.1 X.2.1 hd rfl (g ls H locs r)
theorem s_bipush {z : Int} (X : FX base ρ vF D cs p s mth args meth c mi nL m0) (hd : decode mi.2.1 pc = .ok (.bipush z, 2)) (h : nx (pc + 2) L (.int (Int8.ofInt z).toInt32 :: st) m = some (.inl f)) (g : Go base ρ vF D cs p l e R s mth args below meth c Q nL m0 f) : Go base ρ vF D cs p l e R s mth args below meth c Q nL m0 (pc, L, st, m) := by
  intro ls H locs r
  have := nx_inj h
  subst this
  exact lv_bipush X.1 X.2.1 hd rfl (g ls H locs r)
theorem s_sipush {z : Int} (X : FX base ρ vF D cs p s mth args meth c mi nL m0) (hd : decode mi.2.1 pc = .ok (.sipush z, 3)) (h : nx (pc + 3) L (.int (Int16.ofInt z).toInt32 :: st) m = some (.inl f)) (g : Go base ρ vF D cs p l e R s mth args below meth c Q nL m0 f) : Go base ρ vF D cs p l e R s mth args below meth c Q nL m0 (pc, L, st, m) := by
  intro ls H locs r
  have := nx_inj h
  subst this
  exact lv_sipush X.1 X.2.1 hd rfl (g ls H locs r)
theorem s_lconst {z : Fin 2} (X : FX base ρ vF D cs p s mth args meth c mi nL m0) (hd : decode mi.2.1 pc = .ok (.lconst z, 1)) (h : nx (pc + 1) L (.long (Int64.ofNat z.val) :: st) m = some (.inl f)) (g : Go base ρ vF D cs p l e R s mth args below meth c Q nL m0 f) : Go base ρ vF D cs p l e R s mth args below meth c Q nL m0 (pc, L, st, m) := by
  intro ls H locs r
  have := nx_inj h
  subst this
  exact lv_lconst X.1 X.2.1 hd rfl (g ls H locs r)
theorem s_iadd (X : FX base ρ vF D cs p s mth args meth c mi nL m0) (hd : decode mi.2.1 pc = .ok (.iadd, 1)) (h : xii (pc + 1) L st m (fun x y => x + y) = some (.inl f)) (g : Go base ρ vF D cs p l e R s mth args below meth c Q nL m0 f) : Go base ρ vF D cs p l e R s mth args below meth c Q nL m0 (pc, L, st, m) := by
  intro ls H locs r
  unfold xii at h
  split at h
  · have := nx_inj h
    subst this
    exact lv_iadd X.1 X.2.1 hd (g ls H locs r)
  · cases h
theorem s_isub (X : FX base ρ vF D cs p s mth args meth c mi nL m0) (hd : decode mi.2.1 pc = .ok (.isub, 1)) (h : xii (pc + 1) L st m (fun x y => x - y) = some (.inl f)) (g : Go base ρ vF D cs p l e R s mth args below meth c Q nL m0 f) : Go base ρ vF D cs p l e R s mth args below meth c Q nL m0 (pc, L, st, m) := by
  intro ls H locs r
  unfold xii at h
  split at h
  · have := nx_inj h
    subst this
    exact lv_isub X.1 X.2.1 hd (g ls H locs r)
  · cases h
theorem s_imul (X : FX base ρ vF D cs p s mth args meth c mi nL m0) (hd : decode mi.2.1 pc = .ok (.imul, 1)) (h : xii (pc + 1) L st m (fun x y => x * y) = some (.inl f)) (g : Go base ρ vF D cs p l e R s mth args below meth c Q nL m0 f) : Go base ρ vF D cs p l e R s mth args below meth c Q nL m0 (pc, L, st, m) := by
  intro ls H locs r
  unfold xii at h
  split at h
  · have := nx_inj h
    subst this
    exact lv_imul X.1 X.2.1 hd (g ls H locs r)
  · cases h
theorem s_iand (X : FX base ρ vF D cs p s mth args meth c mi nL m0) (hd : decode mi.2.1 pc = .ok (.iand, 1)) (h : xii (pc + 1) L st m (fun x y => x &&& y) = some (.inl f)) (g : Go base ρ vF D cs p l e R s mth args below meth c Q nL m0 f) : Go base ρ vF D cs p l e R s mth args below meth c Q nL m0 (pc, L, st, m) := by
  intro ls H locs r
  unfold xii at h
  split at h
  · have := nx_inj h
    subst this
    exact lv_iand X.1 X.2.1 hd (g ls H locs r)
  · cases h
theorem s_ior (X : FX base ρ vF D cs p s mth args meth c mi nL m0) (hd : decode mi.2.1 pc = .ok (.ior, 1)) (h : xii (pc + 1) L st m (fun x y => x ||| y) = some (.inl f)) (g : Go base ρ vF D cs p l e R s mth args below meth c Q nL m0 f) : Go base ρ vF D cs p l e R s mth args below meth c Q nL m0 (pc, L, st, m) := by
  intro ls H locs r
  unfold xii at h
  split at h
  · have := nx_inj h
    subst this
    exact lv_ior X.1 X.2.1 hd (g ls H locs r)
  · cases h
theorem s_ixor (X : FX base ρ vF D cs p s mth args meth c mi nL m0) (hd : decode mi.2.1 pc = .ok (.ixor, 1)) (h : xii (pc + 1) L st m (fun x y => x ^^^ y) = some (.inl f)) (g : Go base ρ vF D cs p l e R s mth args below meth c Q nL m0 f) : Go base ρ vF D cs p l e R s mth args below meth c Q nL m0 (pc, L, st, m) := by
  intro ls H locs r
  unfold xii at h
  split at h
  · have := nx_inj h
    subst this
    exact lv_ixor X.1 X.2.1 hd (g ls H locs r)
  · cases h
theorem s_ishl (X : FX base ρ vF D cs p s mth args meth c mi nL m0) (hd : decode mi.2.1 pc = .ok (.ishl, 1)) (h : xii (pc + 1) L st m (fun x y => x <<< (y &&& 31)) = some (.inl f)) (g : Go base ρ vF D cs p l e R s mth args below meth c Q nL m0 f) : Go base ρ vF D cs p l e R s mth args below meth c Q nL m0 (pc, L, st, m) := by
  intro ls H locs r
  unfold xii at h
  split at h
  · have := nx_inj h
    subst this
    exact lv_ishl X.1 X.2.1 hd (g ls H locs r)
  · cases h
theorem s_ishr (X : FX base ρ vF D cs p s mth args meth c mi nL m0) (hd : decode mi.2.1 pc = .ok (.ishr, 1)) (h : xii (pc + 1) L st m (fun x y => x >>> (y &&& 31)) = some (.inl f)) (g : Go base ρ vF D cs p l e R s mth args below meth c Q nL m0 f) : Go base ρ vF D cs p l e R s mth args below meth c Q nL m0 (pc, L, st, m) := by
  intro ls H locs r
  unfold xii at h
  split at h
  · have := nx_inj h
    subst this
    exact lv_ishr X.1 X.2.1 hd (g ls H locs r)
  · cases h
theorem s_iushr (X : FX base ρ vF D cs p s mth args meth c mi nL m0) (hd : decode mi.2.1 pc = .ok (.iushr, 1)) (h : xii (pc + 1) L st m (fun x y => (x.toUInt32 >>> (y.toUInt32 &&& Int32.toUInt32 31)).toInt32) = some (.inl f)) (g : Go base ρ vF D cs p l e R s mth args below meth c Q nL m0 f) : Go base ρ vF D cs p l e R s mth args below meth c Q nL m0 (pc, L, st, m) := by
  intro ls H locs r
  unfold xii at h
  split at h
  · have := nx_inj h
    subst this
    exact lv_iushr X.1 X.2.1 hd rfl (g ls H locs r)
  · cases h
theorem s_idiv (X : FX base ρ vF D cs p s mth args meth c mi nL m0) (hd : decode mi.2.1 pc = .ok (.idiv, 1)) (h : xdv (pc + 1) L st m (fun x y => x / y) = some (.inl f)) (g : Go base ρ vF D cs p l e R s mth args below meth c Q nL m0 f) : Go base ρ vF D cs p l e R s mth args below meth c Q nL m0 (pc, L, st, m) := by
  intro ls H locs r
  unfold xdv at h
  split at h
  · split at h
    · cases h
    · rename_i q
      have := nx_inj h
      subst this
      exact lv_idiv X.1 X.2.1 hd q (g ls H locs r)
  · cases h
theorem s_irem (X : FX base ρ vF D cs p s mth args meth c mi nL m0) (hd : decode mi.2.1 pc = .ok (.irem, 1)) (h : xdv (pc + 1) L st m (fun x y => x - x / y * y) = some (.inl f)) (g : Go base ρ vF D cs p l e R s mth args below meth c Q nL m0 f) : Go base ρ vF D cs p l e R s mth args below meth c Q nL m0 (pc, L, st, m) := by
  intro ls H locs r
  unfold xdv at h
  split at h
  · split at h
    · cases h
    · rename_i q
      have := nx_inj h
      subst this
      exact lv_irem X.1 X.2.1 hd q (g ls H locs r)
  · cases h
theorem s_ineg (X : FX base ρ vF D cs p s mth args meth c mi nL m0) (hd : decode mi.2.1 pc = .ok (.ineg, 1)) (h : xi (pc + 1) L st m (fun x => .int (-x)) = some (.inl f)) (g : Go base ρ vF D cs p l e R s mth args below meth c Q nL m0 f) : Go base ρ vF D cs p l e R s mth args below meth c Q nL m0 (pc, L, st, m) := by
  intro ls H locs r
  unfold xi at h
  split at h
  · have := nx_inj h
    subst this
    exact lv_ineg X.1 X.2.1 hd (g ls H locs r)
  · cases h
theorem s_i2l (X : FX base ρ vF D cs p s mth args meth c mi nL m0) (hd : decode mi.2.1 pc = .ok (.i2l, 1)) (h : xi (pc + 1) L st m (fun x => .long x.toInt64) = some (.inl f)) (g : Go base ρ vF D cs p l e R s mth args below meth c Q nL m0 f) : Go base ρ vF D cs p l e R s mth args below meth c Q nL m0 (pc, L, st, m) := by
  intro ls H locs r
  unfold xi at h
  split at h
  · have := nx_inj h
    subst this
    exact lv_i2l X.1 X.2.1 hd rfl (g ls H locs r)
  · cases h
theorem s_i2b (X : FX base ρ vF D cs p s mth args meth c mi nL m0) (hd : decode mi.2.1 pc = .ok (.i2b, 1)) (h : xi (pc + 1) L st m (fun x => .int x.toInt8.toInt32) = some (.inl f)) (g : Go base ρ vF D cs p l e R s mth args below meth c Q nL m0 f) : Go base ρ vF D cs p l e R s mth args below meth c Q nL m0 (pc, L, st, m) := by
  intro ls H locs r
  unfold xi at h
  split at h
  · have := nx_inj h
    subst this
    exact lv_i2b X.1 X.2.1 hd rfl (g ls H locs r)
  · cases h
theorem s_i2c (X : FX base ρ vF D cs p s mth args meth c mi nL m0) (hd : decode mi.2.1 pc = .ok (.i2c, 1)) (h : xi (pc + 1) L st m (fun x => .int (x.toUInt32 % 65536).toInt32) = some (.inl f)) (g : Go base ρ vF D cs p l e R s mth args below meth c Q nL m0 f) : Go base ρ vF D cs p l e R s mth args below meth c Q nL m0 (pc, L, st, m) := by
  intro ls H locs r
  unfold xi at h
  split at h
  · have := nx_inj h
    subst this
    exact lv_i2c X.1 X.2.1 hd rfl (g ls H locs r)
  · cases h
theorem s_ladd (X : FX base ρ vF D cs p s mth args meth c mi nL m0) (hd : decode mi.2.1 pc = .ok (.ladd, 1)) (h : xll (pc + 1) L st m (fun x y => x + y) = some (.inl f)) (g : Go base ρ vF D cs p l e R s mth args below meth c Q nL m0 f) : Go base ρ vF D cs p l e R s mth args below meth c Q nL m0 (pc, L, st, m) := by
  intro ls H locs r
  unfold xll at h
  split at h
  · have := nx_inj h
    subst this
    exact lv_ladd X.1 X.2.1 hd (g ls H locs r)
  · cases h
theorem s_lmul (X : FX base ρ vF D cs p s mth args meth c mi nL m0) (hd : decode mi.2.1 pc = .ok (.lmul, 1)) (h : xll (pc + 1) L st m (fun x y => x * y) = some (.inl f)) (g : Go base ρ vF D cs p l e R s mth args below meth c Q nL m0 f) : Go base ρ vF D cs p l e R s mth args below meth c Q nL m0 (pc, L, st, m) := by
  intro ls H locs r
  unfold xll at h
  split at h
  · have := nx_inj h
    subst this
    exact lv_lmul X.1 X.2.1 hd (g ls H locs r)
  · cases h
theorem s_land (X : FX base ρ vF D cs p s mth args meth c mi nL m0) (hd : decode mi.2.1 pc = .ok (.land, 1)) (h : xll (pc + 1) L st m (fun x y => x &&& y) = some (.inl f)) (g : Go base ρ vF D cs p l e R s mth args below meth c Q nL m0 f) : Go base ρ vF D cs p l e R s mth args below meth c Q nL m0 (pc, L, st, m) := by
  intro ls H locs r
  unfold xll at h
  split at h
  · have := nx_inj h
    subst this
    exact lv_land X.1 X.2.1 hd (g ls H locs r)
  · cases h
theorem s_lor (X : FX base ρ vF D cs p s mth args meth c mi nL m0) (hd : decode mi.2.1 pc = .ok (.lor, 1)) (h : xll (pc + 1) L st m (fun x y => x ||| y) = some (.inl f)) (g : Go base ρ vF D cs p l e R s mth args below meth c Q nL m0 f) : Go base ρ vF D cs p l e R s mth args below meth c Q nL m0 (pc, L, st, m) := by
  intro ls H locs r
  unfold xll at h
  split at h
  · have := nx_inj h
    subst this
    exact lv_lor X.1 X.2.1 hd (g ls H locs r)
  · cases h
theorem s_ldiv (X : FX base ρ vF D cs p s mth args meth c mi nL m0) (hd : decode mi.2.1 pc = .ok (.ldiv, 1)) (h : xldv (pc + 1) L st m (fun x y => x / y) = some (.inl f)) (g : Go base ρ vF D cs p l e R s mth args below meth c Q nL m0 f) : Go base ρ vF D cs p l e R s mth args below meth c Q nL m0 (pc, L, st, m) := by
  intro ls H locs r
  unfold xldv at h
  split at h
  · split at h
    · cases h
    · rename_i q
      have := nx_inj h
      subst this
      exact lv_ldiv X.1 X.2.1 hd q (g ls H locs r)
  · cases h
theorem s_lrem (X : FX base ρ vF D cs p s mth args meth c mi nL m0) (hd : decode mi.2.1 pc = .ok (.lrem, 1)) (h : xldv (pc + 1) L st m (fun x y => x - x / y * y) = some (.inl f)) (g : Go base ρ vF D cs p l e R s mth args below meth c Q nL m0 f) : Go base ρ vF D cs p l e R s mth args below meth c Q nL m0 (pc, L, st, m) := by
  intro ls H locs r
  unfold xldv at h
  split at h
  · split at h
    · cases h
    · rename_i q
      have := nx_inj h
      subst this
      exact lv_lrem X.1 X.2.1 hd q (g ls H locs r)
  · cases h
theorem s_lshl (X : FX base ρ vF D cs p s mth args meth c mi nL m0) (hd : decode mi.2.1 pc = .ok (.lshl, 1)) (h : xli (pc + 1) L st m (fun x y => x <<< (y.toInt64 &&& 63)) = some (.inl f)) (g : Go base ρ vF D cs p l e R s mth args below meth c Q nL m0 f) : Go base ρ vF D cs p l e R s mth args below meth c Q nL m0 (pc, L, st, m) := by
  intro ls H locs r
  unfold xli at h
  split at h
  · have := nx_inj h
    subst this
    exact lv_lshl X.1 X.2.1 hd rfl (g ls H locs r)
  · cases h
theorem s_lshr (X : FX base ρ vF D cs p s mth args meth c mi nL m0) (hd : decode mi.2.1 pc = .ok (.lshr, 1)) (h : xli (pc + 1) L st m (fun x y => x >>> (y.toInt64 &&& 63)) = some (.inl f)) (g : Go base ρ vF D cs p l e R s mth args below meth c Q nL m0 f) : Go base ρ vF D cs p l e R s mth args below meth c Q nL m0 (pc, L, st, m) := by
  intro ls H locs r
  unfold xli at h
  split at h
  · have := nx_inj h
    subst this
    exact lv_lshr X.1 X.2.1 hd rfl (g ls H locs r)
  · cases h
theorem s_lcmp (X : FX base ρ vF D cs p s mth args meth c mi nL m0) (hd : decode mi.2.1 pc = .ok (.lcmp, 1)) (h : xcm (pc + 1) L st m = some (.inl f)) (g : Go base ρ vF D cs p l e R s mth args below meth c Q nL m0 f) : Go base ρ vF D cs p l e R s mth args below meth c Q nL m0 (pc, L, st, m) := by
  intro ls H locs r
  unfold xcm at h
  split at h
  · have := nx_inj h
    subst this
    exact W.lcmp X.1 X.2.1 hd (g ls H locs r)
  · cases h
theorem s_if_eq {off : Int} (X : FX base ρ vF D cs p s mth args meth c mi nL m0) (hd : decode mi.2.1 pc = .ok (.ifCond .eq off, 3)) (h : xif pc L st m .eq off = some (.inl f)) (g : Go base ρ vF D cs p l e R s mth args below meth c Q nL m0 f) : Go base ρ vF D cs p l e R s mth args below meth c Q nL m0 (pc, L, st, m) := by
  intro ls H locs r
  unfold xif at h
  split at h
  · split at h
    · rename_i hp
      refine lv_if_eq (tgt := ((pc : Int) + off).toNat) X.1 X.2.1 hd (by omega) (fun q => ?_) (fun q => ?_)
      · rw [if_pos (by simpa [cnd] using q)] at h
        have := nx_inj h
        subst this
        exact g ls H locs r
      · rw [if_neg (by simpa [cnd] using q)] at h
        have := nx_inj h
        subst this
        exact g ls H locs r
    · cases h
  · cases h
theorem s_icmp_eq {off : Int} (X : FX base ρ vF D cs p s mth args meth c mi nL m0) (hd : decode mi.2.1 pc = .ok (.if_icmp .eq off, 3)) (h : xicmp pc L st m .eq off = some (.inl f)) (g : Go base ρ vF D cs p l e R s mth args below meth c Q nL m0 f) : Go base ρ vF D cs p l e R s mth args below meth c Q nL m0 (pc, L, st, m) := by
  intro ls H locs r
  unfold xicmp at h
  split at h
  · split at h
    · rename_i hp
      refine lv_icmp_eq (tgt := ((pc : Int) + off).toNat) X.1 X.2.1 hd (by omega) (fun q => ?_) (fun q => ?_)
      · rw [if_pos (by simpa [cnd] using q)] at h
        have := nx_inj h
        subst this
        exact g ls H locs r
      · rw [if_neg (by simpa [cnd] using q)] at h
        have := nx_inj h
        subst this
        exact g ls H locs r
    · cases h
  · cases h
theorem s_if_ne {off : Int} (X : FX base ρ vF D cs p s mth args meth c mi nL m0) (hd : decode mi.2.1 pc = .ok (.ifCond .ne off, 3)) (h : xif pc L st m .ne off = some (.inl f)) (g : Go base ρ vF D cs p l e R s mth args below meth c Q nL m0 f) : Go base ρ vF D cs p l e R s mth args below meth c Q nL m0 (pc, L, st, m) := by
  intro ls H locs r
  unfold xif at h
  split at h
  · split at h
    · rename_i hp
      refine lv_if_ne (tgt := ((pc : Int) + off).toNat) X.1 X.2.1 hd (by omega) (fun q => ?_) (fun q => ?_)
      · rw [if_pos (by simpa [cnd] using q)] at h
        have := nx_inj h
        subst this
        exact g ls H locs r
      · rw [if_neg (by simpa [cnd] using q)] at h
        have := nx_inj h
        subst this
        exact g ls H locs r
    · cases h
  · cases h
theorem s_icmp_ne {off : Int} (X : FX base ρ vF D cs p s mth args meth c mi nL m0) (hd : decode mi.2.1 pc = .ok (.if_icmp .ne off, 3)) (h : xicmp pc L st m .ne off = some (.inl f)) (g : Go base ρ vF D cs p l e R s mth args below meth c Q nL m0 f) : Go base ρ vF D cs p l e R s mth args below meth c Q nL m0 (pc, L, st, m) := by
  intro ls H locs r
  unfold xicmp at h
  split at h
  · split at h
    · rename_i hp
      refine lv_icmp_ne (tgt := ((pc : Int) + off).toNat) X.1 X.2.1 hd (by omega) (fun q => ?_) (fun q => ?_)
      · rw [if_pos (by simpa [cnd] using q)] at h
        have := nx_inj h
        subst this
        exact g ls H locs r
      · rw [if_neg (by simpa [cnd] using q)] at h
        have := nx_inj h
        subst this
        exact g ls H locs r
    · cases h
  · cases h
theorem s_if_lt {off : Int} (X : FX base ρ vF D cs p s mth args meth c mi nL m0) (hd : decode mi.2.1 pc = .ok (.ifCond .lt off, 3)) (h : xif pc L st m .lt off = some (.inl f)) (g : Go base ρ vF D cs p l e R s mth args below meth c Q nL m0 f) : Go base ρ vF D cs p l e R s mth args below meth c Q nL m0 (pc, L, st, m) := by
  intro ls H locs r
  unfold xif at h
  split at h
  · split at h
    · rename_i hp
      refine lv_if_lt (tgt := ((pc : Int) + off).toNat) X.1 X.2.1 hd (by omega) (fun q => ?_) (fun q => ?_)
      · rw [if_pos (by simpa [cnd] using q)] at h
        have := nx_inj h
        subst this
        exact g ls H locs r
      · rw [if_neg (by simpa [cnd] using q)] at h
        have := nx_inj h
        subst this
        exact g ls H locs r
    · cases h
  · cases h
theorem s_icmp_lt {off : Int} (X : FX base ρ vF D cs p s mth args meth c mi nL m0) (hd : decode mi.2.1 pc = .ok (.if_icmp .lt off, 3)) (h : xicmp pc L st m .lt off = some (.inl f)) (g : Go base ρ vF D cs p l e R s mth args below meth c Q nL m0 f) : Go base ρ vF D cs p l e R s mth args below meth c Q nL m0 (pc, L, st, m) := by
  intro ls H locs r
  unfold xicmp at h
  split at h
  · split at h
    · rename_i hp
      refine lv_icmp_lt (tgt := ((pc : Int) + off).toNat) X.1 X.2.1 hd (by omega) (fun q => ?_) (fun q => ?_)
      · rw [if_pos (by simpa [cnd] using q)] at h
        have := nx_inj h
        subst this
        exact g ls H locs r
      · rw [if_neg (by simpa [cnd] using q)] at h
        have := nx_inj h
        subst this
        exact g ls H locs r
    · cases h
  · cases h
theorem s_if_ge {off : Int} (X : FX base ρ vF D cs p s mth args meth c mi nL m0) (hd : decode mi.2.1 pc = .ok (.ifCond .ge off, 3)) (h : xif pc L st m .ge off = some (.inl f)) (g : Go base ρ vF D cs p l e R s mth args below meth c Q nL m0 f) : Go base ρ vF D cs p l e R s mth args below meth c Q nL m0 (pc, L, st, m) := by
  intro ls H locs r
  unfold xif at h
  split at h
  · split at h
    · rename_i hp
      refine lv_if_ge (tgt := ((pc : Int) + off).toNat) X.1 X.2.1 hd (by omega) (fun q => ?_) (fun q => ?_)
      · rw [if_pos (by simpa [cnd] using q)] at h
        have := nx_inj h
        subst this
        exact g ls H locs r
      · rw [if_neg (by simpa [cnd] using q)] at h
        have := nx_inj h
        subst this
        exact g ls H locs r
    · cases h
  · cases h
theorem s_icmp_ge {off : Int} (X : FX base ρ vF D cs p s mth args meth c mi nL m0) (hd : decode mi.2.1 pc = .ok (.if_icmp .ge off, 3)) (h : xicmp pc L st m .ge off = some (.inl f)) (g : Go base ρ vF D cs p l e R s mth args below meth c Q nL m0 f) : Go base ρ vF D cs p l e R s mth args below meth c Q nL m0 (pc, L, st, m) := by
  intro ls H locs r
  unfold xicmp at h
  split at h
  · split at h
    · rename_i hp
      refine lv_icmp_ge (tgt := ((pc : Int) + off).toNat) X.1 X.2.1 hd (by omega) (fun q => ?_) (fun q => ?_)
      · rw [if_pos (by simpa [cnd] using q)] at h
        have := nx_inj h
        subst this
        exact g ls H locs r
      · rw [if_neg (by simpa [cnd] using q)] at h
        have := nx_inj h
        subst this
        exact g ls H locs r
    · cases h
  · cases h
theorem s_if_gt {off : Int} (X : FX base ρ vF D cs p s mth args meth c mi nL m0) (hd : decode mi.2.1 pc = .ok (.ifCond .gt off, 3)) (h : xif pc L st m .gt off = some (.inl f)) (g : Go base ρ vF D cs p l e R s mth args below meth c Q nL m0 f) : Go base ρ vF D cs p l e R s mth args below meth c Q nL m0 (pc, L, st, m) := by
  intro ls H locs r
  unfold xif at h
  split at h
  · split at h
    · rename_i hp
      refine lv_if_gt (tgt := ((pc : Int) + off).toNat) X.1 X.2.1 hd (by omega) (fun q => ?_) (fun q => ?_)
      · rw [if_pos (by simpa [cnd] using q)] at h
        have := nx_inj h
        subst this
        exact g ls H locs r
      · rw [if_neg (by simpa [cnd] using q)] at h
        have := nx_inj h
        subst this
        exact g ls H locs r
    · cases h
  · cases h
theorem s_icmp_gt {off : Int} (X : FX base ρ vF D cs p s mth args meth c mi nL m0) (hd : decode mi.2.1 pc = .ok (.if_icmp .gt off, 3)) (h : xicmp pc L st m .gt off = some (.inl f)) (g : Go base ρ vF D cs p l e R s mth args below meth c Q nL m0 f) : Go base ρ vF D cs p l e R s mth args below meth c Q nL m0 (pc, L, st, m) := by
  intro ls H locs r
  unfold xicmp at h
  split at h
  · split at h
    · rename_i hp
      refine lv_icmp_gt (tgt := ((pc : Int) + off).toNat) X.1 X.2.1 hd (by omega) (fun q => ?_) (fun q => ?_)
      · rw [if_pos (by simpa [cnd] using q)] at h
        have := nx_inj h
        subst this
        exact g ls H locs r
      · rw [if_neg (by simpa [cnd] using q)] at h
        have := nx_inj h
        subst this
        exact g ls H locs r
    · cases h
  · cases h
theorem s_if_le {off : Int} (X : FX base ρ vF D cs p s mth args meth c mi nL m0) (hd : decode mi.2.1 pc = .ok (.ifCond .le off, 3)) (h : xif pc L st m .le off = some (.inl f)) (g : Go base ρ vF D cs p l e R s mth args below meth c Q nL m0 f) : Go base ρ vF D cs p l e R s mth args below meth c Q nL m0 (pc, L, st, m) := by
  intro ls H locs r
  unfold xif at h
  split at h
  · split at h
    · rename_i hp
      refine lv_if_le (tgt := ((pc : Int) + off).toNat) X.1 X.2.1 hd (by omega) (fun q => ?_) (fun q => ?_)
      · rw [if_pos (by simpa [cnd] using q)] at h
        have := nx_inj h
        subst this
        exact g ls H locs r
      · rw [if_neg (by simpa [cnd] using q)] at h
        have := nx_inj h
        subst this
        exact g ls H locs r
    · cases h
  · cases h
theorem s_icmp_le {off : Int} (X : FX base ρ vF D cs p s mth args meth c mi nL m0) (hd : decode mi.2.1 pc = .ok (.if_icmp .le off, 3)) (h : xicmp pc L st m .le off = some (.inl f)) (g : Go base ρ vF D cs p l e R s mth args below meth c Q nL m0 f) : Go base ρ vF D cs p l e R s mth args below meth c Q nL m0 (pc, L, st, m) := by
  intro ls H locs r
  unfold xicmp at h
  split at h
  · split at h
    · rename_i hp
      refine lv_icmp_le (tgt := ((pc : Int) + off).toNat) X.1 X.2.1 hd (by omega) (fun q => ?_) (fun q => ?_)
      · rw [if_pos (by simpa [cnd] using q)] at h
        have := nx_inj h
        subst this
        exact g ls H locs r
      · rw [if_neg (by simpa [cnd] using q)] at h
        have := nx_inj h
        subst this
        exact g ls H locs r
    · cases h
  · cases h
theorem s_goto {off : Int} (X : FX base ρ vF D cs p s mth args meth c mi nL m0) (hd : decode mi.2.1 pc = .ok (.goto off, 3)) (h : jmp pc off L st m = some (.inl f)) (g : Go base ρ vF D cs p l e R s mth args below meth c Q nL m0 f) : Go base ρ vF D cs p l e R s mth args below meth c Q nL m0 (pc, L, st, m) := by
  intro ls H locs r
  obtain ⟨h1, h2⟩ := jmp_inj h
  subst h1
  exact lv_goto X.1 X.2.1 hd h2 (g ls H locs r)
theorem s_ts {d lo hi : Int} {offs : Array Int} (X : FX base ρ vF D cs p s mth args meth c mi nL m0) (hd : decode mi.2.1 pc = .ok (.tableswitch d lo hi offs, n)) (h : xts pc L st m d lo hi offs = some (.inl f)) (g : Go base ρ vF D cs p l e R s mth args below meth c Q nL m0 f) : Go base ρ vF D cs p l e R s mth args below meth c Q nL m0 (pc, L, st, m) := by
  intro ls H locs r
  unfold xts at h
  split at h
  · split at h
    · rename_i q
      obtain ⟨h1, h2⟩ := jmp_inj h
      subst h1
      exact lv_tableOut X.1 X.2.1 hd q h2 (g ls H locs r)
    · rename_i q
      split at h
      · rename_i off ho
        obtain ⟨h1, h2⟩ := jmp_inj h
        subst h1
        exact lv_tableIn X.1 X.2.1 hd (fun z => q (Or.inl z)) (fun z => q (Or.inr z)) ho h2 (g ls H locs r)
      · cases h
  · cases h
theorem s_ls {d : Int} {ps : Array (Int × Int)} (X : FX base ρ vF D cs p s mth args meth c mi nL m0) (hd : decode mi.2.1 pc = .ok (.lookupswitch d ps, n)) (h : xls pc L st m d ps = some (.inl f)) (g : Go base ρ vF D cs p l e R s mth args below meth c Q nL m0 f) : Go base ρ vF D cs p l e R s mth args below meth c Q nL m0 (pc, L, st, m) := by
  intro ls H locs r
  unfold xls at h
  split at h
  · split at h
    · rename_i q
      obtain ⟨h1, h2⟩ := jmp_inj h
      subst h1
      exact lv_lookup X.1 X.2.1 hd q rfl h2 (g ls H locs r)
    · cases h
  · cases h
theorem s_dup (X : FX base ρ vF D cs p s mth args meth c mi nL m0) (hd : decode mi.2.1 pc = .ok (.dup, 1)) (h : xdup (pc + 1) L st m = some (.inl f)) (g : Go base ρ vF D cs p l e R s mth args below meth c Q nL m0 f) : Go base ρ vF D cs p l e R s mth args below meth c Q nL m0 (pc, L, st, m) := by
  intro ls H locs r
  unfold xdup at h
  split at h
  · split at h
    · rename_i q
      have := nx_inj h
      subst this
      exact lv_dup X.1 X.2.1 hd (by rw [cv_cat X.hF]; exact q) (g ls H locs r)
    · cases h
  · cases h
theorem s_dup2 (X : FX base ρ vF D cs p s mth args meth c mi nL m0) (hd : decode mi.2.1 pc = .ok (.dup2, 1)) (h : xdup2 (pc + 1) L st m = some (.inl f)) (g : Go base ρ vF D cs p l e R s mth args below meth c Q nL m0 f) : Go base ρ vF D cs p l e R s mth args below meth c Q nL m0 (pc, L, st, m) := by
  intro ls H locs r
  unfold xdup2 at h
  split at h
  · split at h
    · rename_i q
      have := nx_inj h
      subst this
      exact lv_dup2_11 X.1 X.2.1 hd (by rw [cv_cat X.hF]; exact q.1) (by rw [cv_cat X.hF]; exact q.2) (g ls H locs r)
    · cases h
  · cases h
theorem s_pop (X : FX base ρ vF D cs p s mth args meth c mi nL m0) (hd : decode mi.2.1 pc = .ok (.pop, 1)) (h : xpop (pc + 1) L st m = some (.inl f)) (g : Go base ρ vF D cs p l e R s mth args below meth c Q nL m0 f) : Go base ρ vF D cs p l e R s mth args below meth c Q nL m0 (pc, L, st, m) := by
  intro ls H locs r
  unfold xpop at h
  split at h
  · split at h
    · rename_i q
      have := nx_inj h
      subst this
      exact lv_pop X.1 X.2.1 hd (by rw [cv_cat X.hF]; exact q) (g ls H locs r)
    · cases h
  · cases h
end S2
