/-! WALKING THE ABSTRACT MACHINE: one equation an instruction -/
def gd {α : Type} (b : Bool) (x : Option α) : Option α := if b = true then x else none
theorem gd_t {α : Type} {b : Bool} {x : Option α} (h : b = true) : gd b x = x := if_pos h
theorem gd_true {α : Type} {x : Option α} : gd true x = x := rfl
def bnd (x : Option (RS × AM)) (k : Option Value → AM → Option (RS × AM)) : Option (RS × AM) := match x with
  | some (.inl v, m') => k v m'
  | some (.inr e, m') => some (.inr e, m')
  | none => none
theorem bnd_ret {v : Option Value} {m' : AM} {k : Option Value → AM → Option (RS × AM)} : bnd (some (.inl v, m')) k = k v m' := rfl
theorem bnd_thr {e : Nat} {m' : AM} {k : Option Value → AM → Option (RS × AM)} : bnd (some (.inr e, m')) k = some (.inr e, m') := rfl
/-- a call in a method with handlers: the exception e goes on at h e, if there is one -/
def bndH (x : Option (RS × AM)) (k : Option Value → AM → Option (RS × AM)) (h : Nat → AM → Option (RS × AM)) : Option (RS × AM) := match x with
  | some (.inl v, m') => k v m'
  | some (.inr e, m') => h e m'
  | none => none
/-- a call that is not to throw -/
def bndN (x : Option (RS × AM)) (k : Option Value → AM → Option (RS × AM)) : Option (RS × AM) := match x with
  | some (.inl v, m') => k v m'
  | _ => none
theorem bndN_ret {v : Option Value} {m' : AM} {k : Option Value → AM → Option (RS × AM)} : bndN (some (.inl v, m')) k = k v m' := rfl
theorem bndH_ret {v : Option Value} {m' : AM} {k : Option Value → AM → Option (RS × AM)} {h : Nat → AM → Option (RS × AM)} : bndH (some (.inl v, m')) k h = k v m' := rfl
theorem bndH_thr {e : Nat} {m' : AM} {k : Option Value → AM → Option (RS × AM)} {h : Nat → AM → Option (RS × AM)} : bndH (some (.inr e, m')) k h = h e m' := rfl
/-- a switch by places -/
def tsw {α : Type} (x : Int32) (lo : Int) (ts : List α) (dflt : α) : α := if x.toInt < lo ∨ lo + ts.length ≤ x.toInt then dflt else ts.getD (x.toInt - lo).toNat dflt
section EX
variable {call : CALL} {mi : MI} {pc n : Nat} {L : List (Option Value)} {st : List Value} {m : AM}
theorem st_of {i : Instr} (hd : decode mi.2.1 pc = .ok (i, n)) (hl : lenI i n = true) : step call mi (pc, L, st, m) = exec1 call mi pc n L st m i := by
  unfold step
  dsimp only
  rw [hd]
  dsimp only
  rw [if_pos hl]
/-- an instruction that goes on -/
theorem st1 {i : Instr} {f : CF} (hd : decode mi.2.1 pc = .ok (i, n)) (hl : lenI i n = true) (he : exec1 call mi pc n L st m i = some (.inl f)) : runI call mi (pc, L, st, m) = runI call mi f := by
  rw [runI_eq, st_of hd hl, he]
/-- an instruction that ends -/
theorem st0 {i : Instr} {r : RS × AM} (hd : decode mi.2.1 pc = .ok (i, n)) (hl : lenI i n = true) (he : exec1 call mi pc n L st m i = some (.inr r)) : runI call mi (pc, L, st, m) = some r := by
  rw [runI_eq, st_of hd hl, he]
theorem stB {i : Instr} {f g : CF} {p : Prop} [Decidable p] (hd : decode mi.2.1 pc = .ok (i, n)) (hl : lenI i n = true) (he : exec1 call mi pc n L st m i = if p then some (.inl f) else some (.inl g)) : runI call mi (pc, L, st, m) = if p then runI call mi f else runI call mi g := by
  rw [runI_eq, st_of hd hl, he]
  by_cases hp : p
  · rw [if_pos hp, if_pos hp]
  · rw [if_neg hp, if_neg hp]
theorem stG {i : Instr} {f : CF} {b : Bool} (hd : decode mi.2.1 pc = .ok (i, n)) (hl : lenI i n = true) (he : exec1 call mi pc n L st m i = if b = true then some (.inl f) else none) : runI call mi (pc, L, st, m) = gd b (runI call mi f) := by
  rw [runI_eq, st_of hd hl, he]
  unfold gd
  by_cases hp : b = true
  · rw [if_pos hp, if_pos hp]
  · rw [if_neg hp, if_neg hp]
section BR
variable {off : Int} {tgt : Nat} {x y : Int32}
theorem br_if {cc : ClassFile.Cond} (hd : decode mi.2.1 pc = .ok (.ifCond cc off, 3)) (ht : (pc : Int) + off = (tgt : Int)) : runI call mi (pc, L, .int x :: st, m) = if cnd cc x 0 = true then runI call mi (tgt, L, st, m) else runI call mi (pc + 3, L, st, m) := by
  refine stB hd rfl ?_
  show (if 0 ≤ (pc : Int) + off then _ else none) = _
  rw [if_pos (by omega), ht]
  rfl
theorem br_ic {cc : ClassFile.Cond} (hd : decode mi.2.1 pc = .ok (.if_icmp cc off, 3)) (ht : (pc : Int) + off = (tgt : Int)) : runI call mi (pc, L, .int y :: .int x :: st, m) = if cnd cc x y = true then runI call mi (tgt, L, st, m) else runI call mi (pc + 3, L, st, m) := by
  refine stB hd rfl ?_
  show (if 0 ≤ (pc : Int) + off then _ else none) = _
  rw [if_pos (by omega), ht]
  rfl
theorem ite_cnd {α : Type} {b : Bool} {p : Prop} [Decidable p] {u v : α} (h : b = true ↔ p) : (if b = true then u else v) = if p then u else v := by
  by_cases hp : p
  · rw [if_pos hp, if_pos (h.mpr hp)]
  · rw [if_neg hp, if_neg (fun q => hp (h.mp q))]
theorem if_eq (hd : decode mi.2.1 pc = .ok (.ifCond .eq off, 3)) (ht : (pc : Int) + off = (tgt : Int)) : runI call mi (pc, L, .int x :: st, m) = if x = 0 then runI call mi (tgt, L, st, m) else runI call mi (pc + 3, L, st, m) := (br_if hd ht).trans (ite_cnd decide_eq_true_iff)
theorem if_ne (hd : decode mi.2.1 pc = .ok (.ifCond .ne off, 3)) (ht : (pc : Int) + off = (tgt : Int)) : runI call mi (pc, L, .int x :: st, m) = if x = 0 then runI call mi (pc + 3, L, st, m) else runI call mi (tgt, L, st, m) := by
  rw [br_if hd ht, ite_cnd (b := cnd .ne x 0) (p := ¬ x = 0) decide_eq_true_iff]
  by_cases h : x = 0
  · rw [if_pos h, if_neg (fun q => q h)]
  · rw [if_neg h, if_pos h]
theorem if_lt (hd : decode mi.2.1 pc = .ok (.ifCond .lt off, 3)) (ht : (pc : Int) + off = (tgt : Int)) : runI call mi (pc, L, .int x :: st, m) = if x < 0 then runI call mi (tgt, L, st, m) else runI call mi (pc + 3, L, st, m) := (br_if hd ht).trans (ite_cnd decide_eq_true_iff)
theorem if_ge (hd : decode mi.2.1 pc = .ok (.ifCond .ge off, 3)) (ht : (pc : Int) + off = (tgt : Int)) : runI call mi (pc, L, .int x :: st, m) = if 0 ≤ x then runI call mi (tgt, L, st, m) else runI call mi (pc + 3, L, st, m) := (br_if hd ht).trans (ite_cnd decide_eq_true_iff)
theorem if_gt (hd : decode mi.2.1 pc = .ok (.ifCond .gt off, 3)) (ht : (pc : Int) + off = (tgt : Int)) : runI call mi (pc, L, .int x :: st, m) = if 0 < x then runI call mi (tgt, L, st, m) else runI call mi (pc + 3, L, st, m) := (br_if hd ht).trans (ite_cnd decide_eq_true_iff)
theorem if_le (hd : decode mi.2.1 pc = .ok (.ifCond .le off, 3)) (ht : (pc : Int) + off = (tgt : Int)) : runI call mi (pc, L, .int x :: st, m) = if x ≤ 0 then runI call mi (tgt, L, st, m) else runI call mi (pc + 3, L, st, m) := (br_if hd ht).trans (ite_cnd decide_eq_true_iff)
theorem ic_eq (hd : decode mi.2.1 pc = .ok (.if_icmp .eq off, 3)) (ht : (pc : Int) + off = (tgt : Int)) : runI call mi (pc, L, .int y :: .int x :: st, m) = if x = y then runI call mi (tgt, L, st, m) else runI call mi (pc + 3, L, st, m) := (br_ic hd ht).trans (ite_cnd decide_eq_true_iff)
theorem ic_ne (hd : decode mi.2.1 pc = .ok (.if_icmp .ne off, 3)) (ht : (pc : Int) + off = (tgt : Int)) : runI call mi (pc, L, .int y :: .int x :: st, m) = if x = y then runI call mi (pc + 3, L, st, m) else runI call mi (tgt, L, st, m) := by
  rw [br_ic hd ht, ite_cnd (b := cnd .ne x y) (p := ¬ x = y) decide_eq_true_iff]
  by_cases h : x = y
  · rw [if_pos h, if_neg (fun q => q h)]
  · rw [if_neg h, if_pos h]
theorem ic_lt (hd : decode mi.2.1 pc = .ok (.if_icmp .lt off, 3)) (ht : (pc : Int) + off = (tgt : Int)) : runI call mi (pc, L, .int y :: .int x :: st, m) = if x < y then runI call mi (tgt, L, st, m) else runI call mi (pc + 3, L, st, m) := (br_ic hd ht).trans (ite_cnd decide_eq_true_iff)
theorem ic_ge (hd : decode mi.2.1 pc = .ok (.if_icmp .ge off, 3)) (ht : (pc : Int) + off = (tgt : Int)) : runI call mi (pc, L, .int y :: .int x :: st, m) = if y ≤ x then runI call mi (tgt, L, st, m) else runI call mi (pc + 3, L, st, m) := (br_ic hd ht).trans (ite_cnd decide_eq_true_iff)
theorem ic_gt (hd : decode mi.2.1 pc = .ok (.if_icmp .gt off, 3)) (ht : (pc : Int) + off = (tgt : Int)) : runI call mi (pc, L, .int y :: .int x :: st, m) = if y < x then runI call mi (tgt, L, st, m) else runI call mi (pc + 3, L, st, m) := (br_ic hd ht).trans (ite_cnd decide_eq_true_iff)
theorem ic_le (hd : decode mi.2.1 pc = .ok (.if_icmp .le off, 3)) (ht : (pc : Int) + off = (tgt : Int)) : runI call mi (pc, L, .int y :: .int x :: st, m) = if x ≤ y then runI call mi (tgt, L, st, m) else runI call mi (pc + 3, L, st, m) := (br_ic hd ht).trans (ite_cnd decide_eq_true_iff)
theorem go_to (hd : decode mi.2.1 pc = .ok (.goto off, 3)) (ht : (pc : Int) + off = (tgt : Int)) : runI call mi (pc, L, st, m) = runI call mi (tgt, L, st, m) := by
  refine st1 hd rfl ?_
  show (if 0 ≤ (pc : Int) + off then nx ((pc : Int) + off).toNat L st m else none) = _
  rw [if_pos (by omega), ht]
  rfl
end BR
section FD
variable {idx ci k z a q : Nat} {x : Int32}
theorem getI (hd : decode mi.2.1 pc = .ok (.getfield idx, 3)) (hc : cp mi.1 idx = some (0, ci, k, z)) (hk : kd m a = some (0, ci)) (ha : a < XB) (hf : fk ci k = 0 ∨ fk ci k = 3) : runI call mi (pc, L, .ref a :: st, m) = runI call mi (pc + 3, L, .int (mI m a k) :: st, m) := by
  refine st1 hd rfl ?_
  show xget mi.1 pc L (.ref a :: st) m idx = _
  unfold xget
  try dsimp only
  rw [hc]
  try dsimp only
  refine Eq.trans (if_pos (c := kd m a = some (0, ci) ∧ a < XB) ⟨hk, ha⟩) ?_
  rw [if_neg (by omega), if_pos hf]
  rfl
theorem getR (hd : decode mi.2.1 pc = .ok (.getfield idx, 3)) (hc : cp mi.1 idx = some (0, ci, k, z)) (hk : kd m a = some (0, ci)) (ha : a < XB) (hf : fk ci k = 2) (hr : mR m a k = some q) : runI call mi (pc, L, .ref a :: st, m) = runI call mi (pc + 3, L, .ref q :: st, m) := by
  refine st1 hd rfl ?_
  show xget mi.1 pc L (.ref a :: st) m idx = _
  unfold xget
  try dsimp only
  rw [hc]
  try dsimp only
  refine Eq.trans (if_pos (c := kd m a = some (0, ci) ∧ a < XB) ⟨hk, ha⟩) ?_
  rw [if_pos hf, hr]
  rfl
theorem putI (hd : decode mi.2.1 pc = .ok (.putfield idx, 3)) (hc : cp mi.1 idx = some (0, ci, k, z)) (hk : kd m a = some (0, ci)) (ha : a < XB) (hf : fk ci k = 0) : runI call mi (pc, L, .int x :: .ref a :: st, m) = runI call mi (pc + 3, L, st, sI m a k x) := by
  refine st1 hd rfl ?_
  show xput mi.1 mi.2.2.1 pc L (.int x :: .ref a :: st) m idx = _
  unfold xput
  try dsimp only
  rw [hc]
  try dsimp only
  exact if_pos ⟨hk, ha, .inl hf⟩
theorem putB (hd : decode mi.2.1 pc = .ok (.putfield idx, 3)) (hc : cp mi.1 idx = some (0, ci, k, z)) (hk : kd m a = some (0, ci)) (ha : a < XB) (hf : fk ci k = 3) (hx : x = 0 ∨ x = 1) : runI call mi (pc, L, .int x :: .ref a :: st, m) = runI call mi (pc + 3, L, st, sI m a k x) := by
  refine st1 hd rfl ?_
  show xput mi.1 mi.2.2.1 pc L (.int x :: .ref a :: st) m idx = _
  unfold xput
  try dsimp only
  rw [hc]
  try dsimp only
  exact if_pos ⟨hk, ha, .inr ⟨hf, hx⟩⟩
theorem putR (hd : decode mi.2.1 pc = .ok (.putfield idx, 3)) (hc : cp mi.1 idx = some (0, ci, k, z)) (hk : kd m a = some (0, ci)) (ha : a < XB) (hf : fk ci k = 2) (hq : q < XB) (ho : mi.1 = ci) (ht : mi.2.2.1 = 6) : runI call mi (pc, L, .ref q :: .ref a :: st, m) = runI call mi (pc + 3, L, st, sR m a k (some q)) := by
  refine st1 hd rfl ?_
  show xput mi.1 mi.2.2.1 pc L (.ref q :: .ref a :: st) m idx = _
  unfold xput
  try dsimp only
  rw [hc]
  try dsimp only
  exact if_pos ⟨hk, ha, hf, hq, ho, ht⟩
end FD
section AR
variable {nn a : Nat} {i x : Int32} {y : Int64}
theorem al1 (hd : decode mi.2.1 pc = .ok (.iaload, 1)) (hk : kd m a = some (1, nn)) (ha : a < XB) : runI call mi (pc, L, .int i :: .ref a :: st, m) = gd (inb i nn) (runI call mi (pc + 1, L, .int (mI m a i.toNatClampNeg) :: st, m)) := by
  refine stG hd rfl ?_
  show xald pc L (.int i :: .ref a :: st) m 1 = _
  unfold xald
  try dsimp only
  rw [hk]
  try dsimp only
  by_cases hi : inb i nn = true
  · rw [if_pos hi, if_pos hi, if_pos ⟨.inl ⟨rfl, ha⟩, rfl⟩]
    rfl
  · rw [if_neg hi, if_neg hi]
theorem al5 (hd : decode mi.2.1 pc = .ok (.iaload, 1)) (hk : kd m a = some (5, nn)) (ha : XB ≤ a) : runI call mi (pc, L, .int i :: .ref a :: st, m) = gd (inb i nn) (runI call mi (pc + 1, L, .int (mI m a i.toNatClampNeg) :: st, m)) := by
  refine stG hd rfl ?_
  show xald pc L (.int i :: .ref a :: st) m 1 = _
  unfold xald
  try dsimp only
  rw [hk]
  try dsimp only
  by_cases hi : inb i nn = true
  · rw [if_pos hi, if_pos hi, if_pos ⟨.inr ⟨rfl, ha⟩, rfl⟩]
    rfl
  · rw [if_neg hi, if_neg hi]
theorem al2 (hd : decode mi.2.1 pc = .ok (.baload, 1)) (hk : kd m a = some (2, nn)) (ha : a < XB) : runI call mi (pc, L, .int i :: .ref a :: st, m) = gd (inb i nn) (runI call mi (pc + 1, L, .int (mI m a i.toNatClampNeg) :: st, m)) := by
  refine stG hd rfl ?_
  show xald pc L (.int i :: .ref a :: st) m 2 = _
  unfold xald
  try dsimp only
  rw [hk]
  try dsimp only
  by_cases hi : inb i nn = true
  · rw [if_pos hi, if_pos hi, if_neg (fun h => absurd h.2 (by decide)), if_pos ⟨.inl ⟨rfl, ha⟩, rfl⟩]
    rfl
  · rw [if_neg hi, if_neg hi]
theorem al7 (hd : decode mi.2.1 pc = .ok (.baload, 1)) (hk : kd m a = some (7, nn)) (ha : XB ≤ a) : runI call mi (pc, L, .int i :: .ref a :: st, m) = gd (inb i nn) (runI call mi (pc + 1, L, .int (mI m a i.toNatClampNeg) :: st, m)) := by
  refine stG hd rfl ?_
  show xald pc L (.int i :: .ref a :: st) m 2 = _
  unfold xald
  try dsimp only
  rw [hk]
  try dsimp only
  by_cases hi : inb i nn = true
  · rw [if_pos hi, if_pos hi, if_neg (fun h => absurd h.2 (by decide)), if_pos ⟨.inr ⟨rfl, ha⟩, rfl⟩]
    rfl
  · rw [if_neg hi, if_neg hi]
theorem al3 (hd : decode mi.2.1 pc = .ok (.laload, 1)) (hk : kd m a = some (3, nn)) (ha : a < XB) : runI call mi (pc, L, .int i :: .ref a :: st, m) = gd (inb i nn) (runI call mi (pc + 1, L, .long (mJ m a i.toNatClampNeg) :: st, m)) := by
  refine stG hd rfl ?_
  show xald pc L (.int i :: .ref a :: st) m 3 = _
  unfold xald
  try dsimp only
  rw [hk]
  try dsimp only
  by_cases hi : inb i nn = true
  · rw [if_pos hi, if_pos hi, if_neg (fun h => absurd h.2 (by decide)), if_neg (fun h => absurd h.2 (by decide)), if_pos ⟨rfl, ha, rfl⟩]
    rfl
  · rw [if_neg hi, if_neg hi]
/-- a row of a grid: it lies behind the grid -/
theorem al4 (hd : decode mi.2.1 pc = .ok (.aaload, 1)) (hk : kd m a = some (4, nn)) (ha : a < XB) (hr : ∀ j, j < nn → mR m a j = some (a + 1 + j)) : runI call mi (pc, L, .int i :: .ref a :: st, m) = gd (inb i nn) (runI call mi (pc + 1, L, .ref (a + 1 + i.toNatClampNeg) :: st, m)) := by
  refine stG hd rfl ?_
  show xald pc L (.int i :: .ref a :: st) m 4 = _
  unfold xald
  try dsimp only
  rw [hk]
  try dsimp only
  by_cases hi : inb i nn = true
  · have h2 := hr i.toNatClampNeg (by
      simp only [inb, Bool.and_eq_true, decide_eq_true_eq] at hi
      exact hi.2)
    rw [if_pos hi, if_pos hi, if_neg (fun h => absurd h.2 (by decide)), if_neg (fun h => absurd h.2 (by decide)), if_neg (fun h => absurd h.1 (by decide)), if_pos ⟨rfl, ha, rfl⟩, h2]
    rfl
  · rw [if_neg hi, if_neg hi]
theorem as1 (hd : decode mi.2.1 pc = .ok (.iastore, 1)) (hk : kd m a = some (1, nn)) (ha : a < XB) : runI call mi (pc, L, .int x :: .int i :: .ref a :: st, m) = gd (inb i nn) (runI call mi (pc + 1, L, st, sI m a i.toNatClampNeg x)) := by
  refine stG hd rfl ?_
  show xast pc L (.int x :: .int i :: .ref a :: st) m 1 = _
  unfold xast
  try dsimp only
  rw [hk]
  try dsimp only
  by_cases hi : inb i nn = true
  · rw [if_pos ⟨hi, ha⟩, if_pos hi, if_pos ⟨rfl, rfl⟩]
    rfl
  · rw [if_neg hi, if_neg (fun h => hi h.1)]
theorem as2 (hd : decode mi.2.1 pc = .ok (.bastore, 1)) (hk : kd m a = some (2, nn)) (ha : a < XB) : runI call mi (pc, L, .int x :: .int i :: .ref a :: st, m) = gd (inb i nn) (runI call mi (pc + 1, L, st, sI m a i.toNatClampNeg (vp_nar .byte x))) := by
  refine stG hd rfl ?_
  show xast pc L (.int x :: .int i :: .ref a :: st) m 2 = _
  unfold xast
  try dsimp only
  rw [hk]
  try dsimp only
  by_cases hi : inb i nn = true
  · rw [if_pos ⟨hi, ha⟩, if_pos hi, if_neg (fun h => absurd h.1 (by decide)), if_pos ⟨rfl, rfl⟩]
    rfl
  · rw [if_neg hi, if_neg (fun h => hi h.1)]
theorem as3 (hd : decode mi.2.1 pc = .ok (.lastore, 1)) (hk : kd m a = some (3, nn)) (ha : a < XB) : runI call mi (pc, L, .long y :: .int i :: .ref a :: st, m) = gd (inb i nn) (runI call mi (pc + 1, L, st, sJ m a i.toNatClampNeg y)) := by
  refine stG hd rfl ?_
  show xast pc L (.long y :: .int i :: .ref a :: st) m 3 = _
  unfold xast
  try dsimp only
  rw [hk]
  try dsimp only
  by_cases hi : inb i nn = true
  · rw [if_pos ⟨hi, ha, rfl, rfl⟩, if_pos hi]
    rfl
  · rw [if_neg hi, if_neg (fun h => hi h.1)]
theorem alen {t : Nat} (hd : decode mi.2.1 pc = .ok (.arraylength, 1)) (hk : kd m a = some (t, nn)) (ha : (a < XB ∧ (t = 1 ∨ t = 2 ∨ t = 3 ∨ t = 4)) ∨ (XB ≤ a ∧ (t = 5 ∨ t = 7))) : runI call mi (pc, L, .ref a :: st, m) = runI call mi (pc + 1, L, .int (Int32.ofNat nn) :: st, m) := by
  refine st1 hd rfl ?_
  show xlen pc L (.ref a :: st) m = _
  unfold xlen
  try dsimp only
  rw [hk]
  try dsimp only
  rw [if_pos ha]
  rfl
end AR
section CA
variable {idx id nn ci z a q : Nat} {r args : List Value} {x y : Int32}
theorem iv0 (hd : decode mi.2.1 pc = .ok (.invokevirtual idx, 3)) (hh : mi.2.2.2 = []) (hc : cp mi.1 idx = some (1, id, nn, ci)) (hs : st.drop nn = .ref a :: r) (hg : (st.take nn).reverse = args) (hk : kd m a = some (0, ci)) (ha : a < XB) (hw : wds r ≤ 8) : runI call mi (pc, L, st, m) = bnd (call id (.ref a :: args) m) (fun v m' => runI call mi (pc + 3, L, v.toList ++ r, m')) := by
  have he : xiv call mi pc L st m idx = bck mi pc L r (call id (.ref a :: args) m) := by
    unfold xiv
    simp only [hc, hs, hg]
    exact if_pos ⟨hk, ha, hw⟩
  rw [runI_eq, st_of hd rfl]
  show (match xiv call mi pc L st m idx with
    | some (.inl c') => runI call mi c'
    | some (.inr r) => some r
    | none => none) = _
  rw [he]
  unfold bck
  rw [hh]
  rcases call id (.ref a :: args) m with _ | ⟨v | e, m'⟩ <;> rfl
theorem ivS {j : Nat} (hd : decode mi.2.1 pc = .ok (.invokevirtual idx, 3)) (hc : cp mi.1 idx = some (10, id, nn, ci)) (hs : st.drop nn = .ref a :: r) (hg : (st.take nn).reverse = args) (hk : kd m a = some (6, j)) (ha : XB ≤ a) (hw : wds r ≤ 8) : runI call mi (pc, L, st, m) = bndN (call id (.ref a :: args) m) (fun v m' => runI call mi (pc + 3, L, v.toList ++ r, m')) := by
  have he : xiv call mi pc L st m idx = bckN pc L r (call id (.ref a :: args) m) := by
    unfold xiv
    simp only [hc, hs, hg, hk]
    exact if_pos ⟨hw, ha⟩
  rw [runI_eq, st_of hd rfl]
  show (match xiv call mi pc L st m idx with
    | some (.inl c') => runI call mi c'
    | some (.inr r) => some r
    | none => none) = _
  rw [he]
  unfold bckN
  rcases call id (.ref a :: args) m with _ | ⟨v | e, m'⟩ <;> rfl
theorem is2 (hd : decode mi.2.1 pc = .ok (.invokestatic idx, 3)) (hc : cp mi.1 idx = some (2, id, nn, ci)) (hl : nn ≤ st.length) (hs : st.drop nn = r) (hg : (st.take nn).reverse = args) (hw : wds r ≤ 8) : runI call mi (pc, L, st, m) = bndN (call id args m) (fun v m' => runI call mi (pc + 3, L, v.toList ++ r, m')) := by
  have he : xis call mi pc L st m idx = bckN pc L r (call id args m) := by
    unfold xis
    simp only [hc, hs, hg]
    exact if_pos ⟨hl, hw⟩
  rw [runI_eq, st_of hd rfl]
  show (match xis call mi pc L st m idx with
    | some (.inl c') => runI call mi c'
    | some (.inr r) => some r
    | none => none) = _
  rw [he]
  unfold bckN
  rcases call id args m with _ | ⟨v | e, m'⟩ <;> rfl
theorem is3 (hd : decode mi.2.1 pc = .ok (.invokestatic idx, 3)) (hc : cp mi.1 idx = some (3, id, nn, ci)) (hl : nn ≤ st.length) (hs : st.drop nn = r) (hg : (st.take nn).reverse = args) (hw : wds r ≤ 8) : runI call mi (pc, L, st, m) = bndN (call id args m) (fun v m' => runI call mi (pc + 3, L, v.toList ++ r, m')) := by
  have he : xis call mi pc L st m idx = bckN pc L r (call id args m) := by
    unfold xis
    simp only [hc, hs, hg]
    exact if_pos ⟨hl, hw⟩
  rw [runI_eq, st_of hd rfl]
  show (match xis call mi pc L st m idx with
    | some (.inl c') => runI call mi c'
    | some (.inr r) => some r
    | none => none) = _
  rw [he]
  unfold bckN
  rcases call id args m with _ | ⟨v | e, m'⟩ <;> rfl
theorem ip4 (hd : decode mi.2.1 pc = .ok (.invokespecial idx, 3)) (hc : cp mi.1 idx = some (4, id, nn, ci)) (hs : st.drop nn = .ref a :: r) (hg : (st.take nn).reverse = args) (hw : wds r ≤ 8) : runI call mi (pc, L, st, m) = bndN (call id (.ref a :: args) m) (fun v m' => runI call mi (pc + 3, L, v.toList ++ r, m')) := by
  have he : xip call mi pc L st m idx = bckN pc L r (call id (.ref a :: args) m) := by
    unfold xip
    simp only [hc, hs, hg]
    exact if_pos hw
  rw [runI_eq, st_of hd rfl]
  show (match xip call mi pc L st m idx with
    | some (.inl c') => runI call mi c'
    | some (.inr r) => some r
    | none => none) = _
  rw [he]
  unfold bckN
  rcases call id (.ref a :: args) m with _ | ⟨v | e, m'⟩ <;> rfl
theorem ip5 (hd : decode mi.2.1 pc = .ok (.invokespecial idx, 3)) (hc : cp mi.1 idx = some (5, id, nn, ci)) (hs : st.drop nn = .ref a :: r) (hg : (st.take nn).reverse = args) (hw : wds r ≤ 8) : runI call mi (pc, L, st, m) = bndN (call id (.ref a :: args) m) (fun v m' => runI call mi (pc + 3, L, v.toList ++ r, m')) := by
  have he : xip call mi pc L st m idx = bckN pc L r (call id (.ref a :: args) m) := by
    unfold xip
    simp only [hc, hs, hg]
    exact if_pos hw
  rw [runI_eq, st_of hd rfl]
  show (match xip call mi pc L st m idx with
    | some (.inl c') => runI call mi c'
    | some (.inr r) => some r
    | none => none) = _
  rw [he]
  unfold bckN
  rcases call id (.ref a :: args) m with _ | ⟨v | e, m'⟩ <;> rfl
theorem ip6 {b c : Nat} (hd : decode mi.2.1 pc = .ok (.invokespecial idx, 3)) (hc : cp mi.1 idx = some (6, b, c, z)) (hw : wds st ≤ 8) : runI call mi (pc, L, .ref a :: st, m) = runI call mi (pc + 3, L, st, m) := by
  refine st1 hd rfl ?_
  show xip call mi pc L (.ref a :: st) m idx = _
  unfold xip
  rw [hc]
  try dsimp only
  rw [if_pos hw]
  rfl
theorem imax {b c : Nat} (hd : decode mi.2.1 pc = .ok (.invokestatic idx, 3)) (hc : cp mi.1 idx = some (8, b, c, z)) (hw : wds st ≤ 8) : runI call mi (pc, L, .int y :: .int x :: st, m) = runI call mi (pc + 3, L, .int (if x < y then y else x) :: st, m) := by
  refine st1 hd rfl ?_
  show xis call mi pc L (.int y :: .int x :: st) m idx = _
  unfold xis
  simp only [hc]
  exact if_pos hw
theorem imin {b c : Nat} (hd : decode mi.2.1 pc = .ok (.invokestatic idx, 3)) (hc : cp mi.1 idx = some (9, b, c, z)) (hw : wds st ≤ 8) : runI call mi (pc, L, .int y :: .int x :: st, m) = runI call mi (pc + 3, L, .int (if y < x then y else x) :: st, m) := by
  refine st1 hd rfl ?_
  show xis call mi pc L (.int y :: .int x :: st) m idx = _
  unfold xis
  simp only [hc]
  exact if_pos hw
/-- arraycopy of whole arrays or pieces of them -/
theorem icpy {b c a0 n0 n1 : Nat} {sp dp cn : Int32} (hd : decode mi.2.1 pc = .ok (.invokestatic idx, 3)) (hc : cp mi.1 idx = some (7, b, c, z)) (hk0 : kd m a0 = some (1, n0)) (hk : kd m a = some (1, n1)) (hg : a < XB ∧ a0 < XB ∧ ¬ sp < 0 ∧ ¬ dp < 0 ∧ ¬ cn < 0 ∧ sp.toNatClampNeg + cn.toNatClampNeg ≤ n0 ∧ dp.toNatClampNeg + cn.toNatClampNeg ≤ n1 ∧ wds st ≤ 8) : runI call mi (pc, L, .int cn :: .int dp :: .ref a :: .int sp :: .ref a0 :: st, m) = runI call mi (pc + 3, L, st, sIc m a (va_cpy (mI m a0) (mI m a) sp.toNatClampNeg dp.toNatClampNeg cn.toNatClampNeg)) := by
  refine st1 hd rfl ?_
  show xis call mi pc L (.int cn :: .int dp :: .ref a :: .int sp :: .ref a0 :: st) m idx = _
  unfold xis
  simp only [hc]
  unfold xcpy
  simp only [hk0, hk]
  exact if_pos hg
/-- an exception is made and thrown -/
theorem ithr {b c e is ic : Nat} (hd : decode mi.2.1 pc = .ok (.new idx, 3)) (hc : cp mi.1 idx = some (13, e, b, c)) (hh : mi.2.2.2 = []) (h1 : decode mi.2.1 (pc + 3) = .ok (.dup, 1)) (h2 : decode mi.2.1 (pc + 4) = .ok (.ldc_w is, 3)) (h3 : decode mi.2.1 (pc + 7) = .ok (.invokespecial ic, 3)) (h4 : decode mi.2.1 (pc + 10) = .ok (.athrow, 1)) (ht : thrT e = some (mi.1, is, ic)) : runI call mi (pc, L, [], m) = some (.inr e, sX m) := by
  refine st0 hd rfl ?_
  show xnew mi pc L [] m idx = _
  unfold xnew
  simp only [hc]
  rw [if_pos ⟨trivial, hh⟩]
  simp only [h1, h2, h3, h4]
  exact if_pos ht
theorem ret0 (hd : decode mi.2.1 pc = .ok (.ireturn, 1)) (ht : mi.2.2.1 = 0) : runI call mi (pc, L, [.int x], m) = some (.inl (some (.int x)), m) := by
  refine st0 hd rfl ?_
  show xret mi.2.2.1 [.int x] m = _
  unfold xret
  try dsimp only
  rw [if_pos (.inl ht)]
  rfl
theorem ret1 (hd : decode mi.2.1 pc = .ok (.ireturn, 1)) (ht : mi.2.2.1 = 1) (hx : x = 0 ∨ x = 1) : runI call mi (pc, L, [.int x], m) = some (.inl (some (.int x)), m) := by
  refine st0 hd rfl ?_
  show xret mi.2.2.1 [.int x] m = _
  unfold xret
  try dsimp only
  rw [if_pos (.inr (.inl ⟨ht, hx⟩))]
  rfl
theorem ret2 {w : Int64} (hd : decode mi.2.1 pc = .ok (.lreturn, 1)) (ht : mi.2.2.1 = 2) : runI call mi (pc, L, [.long w], m) = some (.inl (some (.long w)), m) := by
  refine st0 hd rfl ?_
  show (if mi.2.2.1 = 2 then fin (some (.long w)) m else none) = _
  rw [if_pos ht]
  rfl
theorem ret3 (hd : decode mi.2.1 pc = .ok (.return_, 1)) (ht : mi.2.2.1 = 3 ∨ mi.2.2.1 = 6) : runI call mi (pc, L, [], m) = some (.inl none, m) := by
  refine st0 hd rfl ?_
  show (if ([] : List Value) = [] ∧ (mi.2.2.1 = 3 ∨ mi.2.2.1 = 6) then fin none m else none) = _
  rw [if_pos ⟨rfl, ht⟩]
  rfl
theorem idv (hd : decode mi.2.1 pc = .ok (.idiv, 1)) (hy : ¬ y = 0) : runI call mi (pc, L, .int y :: .int x :: st, m) = runI call mi (pc + 1, L, .int (x / y) :: st, m) := by
  refine st1 hd rfl ?_
  show (if y = 0 then none else nx (pc + 1) L (.int (x / y) :: st) m) = _
  rw [if_neg hy]
  rfl
theorem irm (hd : decode mi.2.1 pc = .ok (.irem, 1)) (hy : ¬ y = 0) : runI call mi (pc, L, .int y :: .int x :: st, m) = runI call mi (pc + 1, L, .int (x - x / y * y) :: st, m) := by
  refine st1 hd rfl ?_
  show (if y = 0 then none else nx (pc + 1) L (.int (x - x / y * y) :: st) m) = _
  rw [if_neg hy]
  rfl
end CA
end EX
