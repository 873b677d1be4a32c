/-! THE ABSTRACT MACHINE: the bytecode over the system's own cells alone. Addresses count from 0 in the order of making; what lies outside (the script, the static array, String constants) stands from 1000000 on. -/
/-- the script's length; exceptions made; kinds of cells; references, ints, longs by cell and place -/
abbrev AM : Type := Nat × Nat × List (Nat × Nat) × (Nat → Nat → Option Nat) × (Nat → Nat → Int32) × (Nat → Nat → Int64)
abbrev mL (m : AM) : Nat := m.1
abbrev mX (m : AM) : Nat := m.2.1
abbrev mK (m : AM) : List (Nat × Nat) := m.2.2.1
abbrev mR (m : AM) : Nat → Nat → Option Nat := m.2.2.2.1
abbrev mI (m : AM) : Nat → Nat → Int32 := m.2.2.2.2.1
abbrev mJ (m : AM) : Nat → Nat → Int64 := m.2.2.2.2.2
def up2 {α : Type} (f : Nat → Nat → α) (a k : Nat) (v : α) : Nat → Nat → α := fun b j => if b = a ∧ j = k then v else f b j
def up1 {α : Type} (f : Nat → Nat → α) (a : Nat) (g : Nat → α) : Nat → Nat → α := fun b => if b = a then g else f b
def sI (m : AM) (a k : Nat) (v : Int32) : AM := (mL m, mX m, mK m, mR m, up2 (mI m) a k v, mJ m)
def sJ (m : AM) (a k : Nat) (v : Int64) : AM := (mL m, mX m, mK m, mR m, mI m, up2 (mJ m) a k v)
def sR (m : AM) (a k : Nat) (v : Option Nat) : AM := (mL m, mX m, mK m, up2 (mR m) a k v, mI m, mJ m)
def sX (m : AM) : AM := (mL m, mX m + 1, mK m, mR m, mI m, mJ m)
def sIc (m : AM) (a : Nat) (g : Nat → Int32) : AM := (mL m, mX m, mK m, mR m, up1 (mI m) a g, mJ m)
def XB : Nat := 1000000
/-- kinds: (0, class), (1, n) ints, (2, n) bytes, (3, n) longs, (4, n) rows of ints, (5, n) ints that are only read, (6, i) String constant i, (7, n) its bytes -/
def kd (m : AM) (a : Nat) : Option (Nat × Nat) := if a < XB then (mK m)[a]? else if a = XB then some (5, mL m) else extK[a - XB]?
/-- a new cell of a kind: zero everywhere -/
def mk1 (m : AM) (k : Nat × Nat) : AM := (mL m, mX m, mK m ++ [k], up1 (mR m) (mK m).length (fun _ => none), up1 (mI m) (mK m).length (fun _ => 0), up1 (mJ m) (mK m).length (fun _ => 0))
def mk2 (m : AM) (n k : Nat) : AM := (mL m, mX m, mK m ++ (4, n) :: List.replicate n (1, k), up1 (mR m) (mK m).length (fun i => if i < n then some ((mK m).length + 1 + i) else none), (fun b => if (mK m).length < b ∧ b ≤ (mK m).length + n then (fun _ => 0) else mI m b), mJ m)
def inb (i : Int32) (n : Nat) : Bool := !decide (i < 0) && decide (i.toNatClampNeg < n)
theorem inb_in {i : Int32} {n : Nat} (h : inb i n = true) : vp_in i n := by
  simp only [inb, Bool.and_eq_true, Bool.not_eq_true', decide_eq_false_iff_not, decide_eq_true_eq] at h
  intro q
  rcases q with q | q
  · exact h.1 q
  · exact absurd h.2 (Nat.not_lt.mpr q)
abbrev RS : Type := Option Value ⊕ Nat
abbrev CF : Type := Nat × List (Option Value) × List Value × AM
abbrev ST : Type := Option (CF ⊕ (RS × AM))
abbrev CALL : Type := Nat → List Value → AM → Option (RS × AM)
def nx (pc : Nat) (L : List (Option Value)) (st : List Value) (m : AM) : ST := some (.inl (pc, L, st, m))
def fin (v : Option Value) (m : AM) : ST := some (.inr (.inl v, m))
def ld (L : List (Option Value)) (k : Nat) : Option Value := (L[k]?).join
def okSt (L : List (Option Value)) : Nat → Bool
  | 0 => true
  | j + 1 => match ld L j with
    | some v => v.category == 1
    | none => true
def jmp (pc : Nat) (off : Int) (L : List (Option Value)) (st : List Value) (m : AM) : ST := if 0 ≤ (pc : Int) + off then nx ((pc : Int) + off).toNat L st m else none
def cnd (c : ClassFile.Cond) (x y : Int32) : Bool := match c with
  | .eq => decide (x = y)
  | .ne => decide (¬ x = y)
  | .lt => decide (x < y)
  | .ge => decide (y ≤ x)
  | .gt => decide (y < x)
  | .le => decide (x ≤ y)
def lenI (i : Instr) (n : Nat) : Bool := match i with
  | .tableswitch _ _ _ _ => true
  | .lookupswitch _ _ => true
  | .multianewarray _ _ => n == 4
  | .getfield _ | .putfield _ | .getstatic _ | .invokevirtual _ | .invokestatic _ | .invokespecial _ | .new _ | .ifCond _ _ | .if_icmp _ _ | .goto _ | .sipush _ | .iinc _ _ | .ldc_w _ => n == 3
  | .aload _ | .iload _ | .lload _ | .astore _ | .istore _ | .lstore _ | .bipush _ | .ldc _ | .newarray _ => n == 2
  | _ => n == 1
def xload (pc : Nat) (L : List (Option Value)) (st : List Value) (m : AM) (k ty : Nat) : ST := match ld L k with
  | some (.int x) => if ty = 0 then nx pc L (.int x :: st) m else none
  | some (.long x) => if ty = 1 then nx pc L (.long x :: st) m else none
  | some (.ref x) => if ty = 2 then nx pc L (.ref x :: st) m else none
  | _ => none
def xstore (pc : Nat) (L : List (Option Value)) (st : List Value) (m : AM) (k ty : Nat) : ST := match st with
  | .int x :: r => if ty = 0 ∧ k < L.length ∧ okSt L k = true then nx pc (L.set k (some (.int x))) r m else none
  | .long x :: r => if ty = 1 ∧ k + 1 < L.length ∧ okSt L k = true then nx pc ((L.set k (some (.long x))).set (k + 1) none) r m else none
  | .ref x :: r => if ty = 2 ∧ k < L.length ∧ okSt L k = true then nx pc (L.set k (some (.ref x))) r m else none
  | _ => none
def xinc (pc : Nat) (L : List (Option Value)) (st : List Value) (m : AM) (k : Nat) (z : Int) : ST := match ld L k with
  | some (.int x) => if k < L.length ∧ okSt L k = true then nx pc (L.set k (some (.int (x + Int32.ofInt z)))) st m else none
  | _ => none
def xii (pc : Nat) (L : List (Option Value)) (st : List Value) (m : AM) (f : Int32 → Int32 → Int32) : ST := match st with
  | .int y :: .int x :: r => nx pc L (.int (f x y) :: r) m
  | _ => none
def xdv (pc : Nat) (L : List (Option Value)) (st : List Value) (m : AM) (f : Int32 → Int32 → Int32) : ST := match st with
  | .int y :: .int x :: r => if y = 0 then none else nx pc L (.int (f x y) :: r) m
  | _ => none
def xll (pc : Nat) (L : List (Option Value)) (st : List Value) (m : AM) (f : Int64 → Int64 → Int64) : ST := match st with
  | .long y :: .long x :: r => nx pc L (.long (f x y) :: r) m
  | _ => none
def xldv (pc : Nat) (L : List (Option Value)) (st : List Value) (m : AM) (f : Int64 → Int64 → Int64) : ST := match st with
  | .long y :: .long x :: r => if y = 0 then none else nx pc L (.long (f x y) :: r) m
  | _ => none
def xli (pc : Nat) (L : List (Option Value)) (st : List Value) (m : AM) (f : Int64 → Int32 → Int64) : ST := match st with
  | .int y :: .long x :: r => nx pc L (.long (f x y) :: r) m
  | _ => none
def xcm (pc : Nat) (L : List (Option Value)) (st : List Value) (m : AM) : ST := match st with
  | .long y :: .long x :: r => nx pc L (.int (lg_cmp x y) :: r) m
  | _ => none
def xi (pc : Nat) (L : List (Option Value)) (st : List Value) (m : AM) (f : Int32 → Value) : ST := match st with
  | .int x :: r => nx pc L (f x :: r) m
  | _ => none
def xif (pc : Nat) (L : List (Option Value)) (st : List Value) (m : AM) (c : ClassFile.Cond) (off : Int) : ST := match st with
  | .int x :: r => if 0 ≤ (pc : Int) + off then (if cnd c x 0 = true then nx ((pc : Int) + off).toNat L r m else nx (pc + 3) L r m) else none
  | _ => none
def xicmp (pc : Nat) (L : List (Option Value)) (st : List Value) (m : AM) (c : ClassFile.Cond) (off : Int) : ST := match st with
  | .int y :: .int x :: r => if 0 ≤ (pc : Int) + off then (if cnd c x y = true then nx ((pc : Int) + off).toNat L r m else nx (pc + 3) L r m) else none
  | _ => none
def xts (pc : Nat) (L : List (Option Value)) (st : List Value) (m : AM) (d lo hi : Int) (offs : Array Int) : ST := match st with
  | .int x :: r => if x.toInt < lo ∨ hi < x.toInt then jmp pc d L r m else match offs[(x.toInt - lo).toNat]? with
    | some off => jmp pc off L r m
    | none => none
  | _ => none
def xls (pc : Nat) (L : List (Option Value)) (st : List Value) (m : AM) (d : Int) (ps : Array (Int × Int)) : ST := match st with
  | .int x :: r => if (ps.toList.zip (ps.toList.drop 1)).all (fun (a, next) => a.1 < next.1) = true then jmp pc (Op.lookupswitch.offset ps.toList d x.toInt) L r m else none
  | _ => none
def xdup (pc : Nat) (L : List (Option Value)) (st : List Value) (m : AM) : ST := match st with
  | v :: r => if v.category = 1 then nx pc L (v :: v :: r) m else none
  | _ => none
def xdup2 (pc : Nat) (L : List (Option Value)) (st : List Value) (m : AM) : ST := match st with
  | v :: w :: r => if v.category = 1 ∧ w.category = 1 then nx pc L (v :: w :: v :: w :: r) m else none
  | _ => none
def xpop (pc : Nat) (L : List (Option Value)) (st : List Value) (m : AM) : ST := match st with
  | v :: r => if v.category = 1 then nx pc L r m else none
  | _ => none
def xget (ow pc : Nat) (L : List (Option Value)) (st : List Value) (m : AM) (idx : Nat) : ST := match st with
  | .ref a :: r => match cp ow idx with
    | some (0, ci, k, _) => if kd m a = some (0, ci) ∧ a < XB then
        (if fk ci k = 2 then match mR m a k with
          | some q => nx (pc + 3) L (.ref q :: r) m
          | none => none
        else if fk ci k = 0 ∨ fk ci k = 3 then nx (pc + 3) L (.int (mI m a k) :: r) m else none)
      else none
    | some (20, z, _, _) => match kd m a with
      | some (6, _) => if a < XB then none else if z = 0 then nx (pc + 3) L (.int 0 :: r) m else nx (pc + 3) L (.ref (a + 1) :: r) m
      | _ => none
    | _ => none
  | _ => none
def xput (ow ty pc : Nat) (L : List (Option Value)) (st : List Value) (m : AM) (idx : Nat) : ST := match st with
  | .int x :: .ref a :: r => match cp ow idx with
    | some (0, ci, k, _) => if kd m a = some (0, ci) ∧ a < XB ∧ (fk ci k = 0 ∨ (fk ci k = 3 ∧ (x = 0 ∨ x = 1))) then nx (pc + 3) L r (sI m a k x) else none
    | _ => none
  | .ref q :: .ref a :: r => match cp ow idx with
    | some (0, ci, k, _) => if kd m a = some (0, ci) ∧ a < XB ∧ fk ci k = 2 ∧ q < XB ∧ ow = ci ∧ ty = 6 then nx (pc + 3) L r (sR m a k (some q)) else none
    | _ => none
  | _ => none
def xgs (ow pc : Nat) (L : List (Option Value)) (st : List Value) (m : AM) (idx : Nat) : ST := match cp ow idx with
  | some (16, _, _, _) => nx (pc + 3) L (.ref (XB + 1) :: st) m
  | some (19, _, _, _) => nx (pc + 3) L (.int 1 :: st) m
  | some (21, _, _, _) => nx (pc + 3) L (.retAddr 0 :: st) m
  | _ => none
def xldc (ow pc : Nat) (L : List (Option Value)) (st : List Value) (m : AM) (idx : Nat) (w : Bool) : ST := match cp ow idx with
  | some (14, v, _, _) => nx pc L (.int (Int32.ofNat v) :: st) m
  | some (15, j, _, _) => if w = true then none else nx pc L (.ref (XB + 2 + 2 * j) :: st) m
  | _ => none
def xald (pc : Nat) (L : List (Option Value)) (st : List Value) (m : AM) (ty : Nat) : ST := match st with
  | .int i :: .ref a :: r => match kd m a with
    | some (t, n) => if inb i n = true then
        (if (t = 1 ∧ a < XB ∨ t = 5 ∧ XB ≤ a) ∧ ty = 1 then nx (pc + 1) L (.int (mI m a i.toNatClampNeg) :: r) m
        else if (t = 2 ∧ a < XB ∨ t = 7 ∧ XB ≤ a) ∧ ty = 2 then nx (pc + 1) L (.int (mI m a i.toNatClampNeg) :: r) m
        else if t = 3 ∧ a < XB ∧ ty = 3 then nx (pc + 1) L (.long (mJ m a i.toNatClampNeg) :: r) m
        else if t = 4 ∧ a < XB ∧ ty = 4 then match mR m a i.toNatClampNeg with
          | some q => nx (pc + 1) L (.ref q :: r) m
          | none => none
        else none)
      else none
    | none => none
  | _ => none
def xast (pc : Nat) (L : List (Option Value)) (st : List Value) (m : AM) (ty : Nat) : ST := match st with
  | .int x :: .int i :: .ref a :: r => match kd m a with
    | some (t, n) => if inb i n = true ∧ a < XB then
        (if t = 1 ∧ ty = 1 then nx (pc + 1) L r (sI m a i.toNatClampNeg x)
        else if t = 2 ∧ ty = 2 then nx (pc + 1) L r (sI m a i.toNatClampNeg (vp_nar .byte x)) else none)
      else none
    | none => none
  | .long x :: .int i :: .ref a :: r => match kd m a with
    | some (t, n) => if inb i n = true ∧ a < XB ∧ t = 3 ∧ ty = 3 then nx (pc + 1) L r (sJ m a i.toNatClampNeg x) else none
    | none => none
  | _ => none
def xlen (pc : Nat) (L : List (Option Value)) (st : List Value) (m : AM) : ST := match st with
  | .ref a :: r => match kd m a with
    | some (t, n) => if (a < XB ∧ (t = 1 ∨ t = 2 ∨ t = 3 ∨ t = 4)) ∨ (XB ≤ a ∧ (t = 5 ∨ t = 7)) then nx (pc + 1) L (.int (Int32.ofNat n) :: r) m else none
    | none => none
  | _ => none
def xna (pc : Nat) (L : List (Option Value)) (st : List Value) (m : AM) (ty : ArrayType) : ST := match st with
  | .int i :: r => if ¬ i < 0 ∧ i.toNatClampNeg ≤ 100000 ∧ mX m = 0 ∧ (mK m).length < 900000 then match ty with
      | .int => nx (pc + 2) L (.ref (mK m).length :: r) (mk1 m (1, i.toNatClampNeg))
      | .byte => nx (pc + 2) L (.ref (mK m).length :: r) (mk1 m (2, i.toNatClampNeg))
      | .long => nx (pc + 2) L (.ref (mK m).length :: r) (mk1 m (3, i.toNatClampNeg))
      | _ => none
    else none
  | _ => none
def xmna (ow pc : Nat) (L : List (Option Value)) (st : List Value) (m : AM) (idx dims : Nat) : ST := match st with
  | .int k :: .int n :: r => if dims = 2 ∧ ¬ n < 0 ∧ ¬ k < 0 ∧ n.toNatClampNeg ≤ 100000 ∧ k.toNatClampNeg ≤ 100000 ∧ mX m = 0 ∧ (mK m).length + n.toNatClampNeg < 900000 then match cp ow idx with
      | some (17, _, _, _) => nx (pc + 4) L (.ref (mK m).length :: r) (mk2 m n.toNatClampNeg k.toNatClampNeg)
      | _ => none
    else none
  | _ => none
/-- new: an object of ours; or, with the four instructions behind it, an exception that is thrown -/
def xnew (mi : MI) (pc : Nat) (L : List (Option Value)) (st : List Value) (m : AM) (idx : Nat) : ST := match cp mi.1 idx with
  | some (12, ci, _, _) => if mX m = 0 ∧ (mK m).length < 900000 then nx (pc + 3) L (.ref (mK m).length :: st) (mk1 m (0, ci)) else none
  | some (13, e, _, _) => if st = [] ∧ mi.2.2.2 = [] then match decode mi.2.1 (pc + 3), decode mi.2.1 (pc + 4), decode mi.2.1 (pc + 7), decode mi.2.1 (pc + 10) with
      | .ok (.dup, 1), .ok (.ldc_w is, 3), .ok (.invokespecial ic, 3), .ok (.athrow, 1) => if thrT e = some (mi.1, is, ic) then some (.inr (.inr e, sX m)) else none
      | _, _, _, _ => none
    else none
  | _ => none
/-- the first handler that catches e at pc: its place -/
def hnd (ow pc e : Nat) : List (Nat × Nat × Nat × Nat) → Option Nat
  | [] => none
  | (b, z, h, ct) :: r => if b ≤ pc ∧ pc < z then (match cp ow ct with
      | some (18, e2, _, _) => if e2 = e then some h else hnd ow pc e r
      | _ => none)
    else hnd ow pc e r
/-- at a handler: the exception goes into a local, and is forgotten -/
def xcat (mi : MI) (h : Nat) (L : List (Option Value)) (m : AM) : ST := match decode mi.2.1 h with
  | .ok (.astore k, 2) => if k < L.length ∧ okSt L k = true then nx (h + 2) (L.set k none) [] m else none
  | .ok (.astore_n k, 1) => if k.val < L.length ∧ okSt L k.val = true then nx (h + 1) (L.set k.val none) [] m else none
  | _ => none
def wds (r : List Value) : Nat := (r.map fun v => v.category).sum
def bck (mi : MI) (pc : Nat) (L : List (Option Value)) (r : List Value) (x : Option (RS × AM)) : ST := match x with
  | some (.inl v, m') => nx (pc + 3) L (v.toList ++ r) m'
  | some (.inr e, m') => match mi.2.2.2 with
    | [] => some (.inr (.inr e, m'))
    | hs => match hnd mi.1 pc e hs with
      | some h => xcat mi h L m'
      | none => none
  | none => none
def bckN (pc : Nat) (L : List (Option Value)) (r : List Value) (x : Option (RS × AM)) : ST := match x with
  | some (.inl v, m') => nx (pc + 3) L (v.toList ++ r) m'
  | _ => none
def xiv (call : CALL) (mi : MI) (pc : Nat) (L : List (Option Value)) (st : List Value) (m : AM) (idx : Nat) : ST := match cp mi.1 idx with
  | some (1, id, n, ci) => match st.drop n with
    | .ref a :: r => if kd m a = some (0, ci) ∧ a < XB ∧ wds r ≤ 8 then bck mi pc L r (call id (.ref a :: (st.take n).reverse) m) else none
    | _ => none
  | some (10, id, n, _) => match st.drop n with
    | .ref a :: r => match kd m a with
      | some (6, _) => if wds r ≤ 8 ∧ XB ≤ a then bckN pc L r (call id (.ref a :: (st.take n).reverse) m) else none
      | _ => none
    | _ => none
  | _ => none
def xcpy (pc : Nat) (L : List (Option Value)) (st : List Value) (m : AM) : ST := match st with
  | .int n :: .int dp :: .ref a :: .int sp :: .ref a0 :: r => match kd m a0, kd m a with
    | some (1, n0), some (1, n1) => if a < XB ∧ a0 < XB ∧ ¬ sp < 0 ∧ ¬ dp < 0 ∧ ¬ n < 0 ∧ sp.toNatClampNeg + n.toNatClampNeg ≤ n0 ∧ dp.toNatClampNeg + n.toNatClampNeg ≤ n1 ∧ wds r ≤ 8 then
        nx (pc + 3) L r (sIc m a (va_cpy (mI m a0) (mI m a) sp.toNatClampNeg dp.toNatClampNeg n.toNatClampNeg)) else none
    | _, _ => none
  | _ => none
def xis (call : CALL) (mi : MI) (pc : Nat) (L : List (Option Value)) (st : List Value) (m : AM) (idx : Nat) : ST := match cp mi.1 idx with
  | some (2, id, n, _) => if n ≤ st.length ∧ wds (st.drop n) ≤ 8 then bckN pc L (st.drop n) (call id (st.take n).reverse m) else none
  | some (3, id, n, _) => if n ≤ st.length ∧ wds (st.drop n) ≤ 8 then bckN pc L (st.drop n) (call id (st.take n).reverse m) else none
  | some (7, _, _, _) => xcpy pc L st m
  | some (8, _, _, _) => match st with
    | .int y :: .int x :: r => if wds r ≤ 8 then nx (pc + 3) L (.int (if x < y then y else x) :: r) m else none
    | _ => none
  | some (9, _, _, _) => match st with
    | .int y :: .int x :: r => if wds r ≤ 8 then nx (pc + 3) L (.int (if y < x then y else x) :: r) m else none
    | _ => none
  | _ => none
def xip (call : CALL) (mi : MI) (pc : Nat) (L : List (Option Value)) (st : List Value) (m : AM) (idx : Nat) : ST := match cp mi.1 idx with
  | some (4, id, n, _) => match st.drop n with
    | .ref a :: r => if wds r ≤ 8 then bckN pc L r (call id (.ref a :: (st.take n).reverse) m) else none
    | _ => none
  | some (5, id, n, _) => match st.drop n with
    | .ref a :: r => if wds r ≤ 8 then bckN pc L r (call id (.ref a :: (st.take n).reverse) m) else none
    | _ => none
  | some (6, _, _, _) => match st with
    | .ref _ :: r => if wds r ≤ 8 then nx (pc + 3) L r m else none
    | _ => none
  | _ => none
def xret (ty : Nat) (st : List Value) (m : AM) : ST := match st with
  | [.int x] => if ty = 0 ∨ (ty = 1 ∧ (x = 0 ∨ x = 1)) ∨ (ty = 4 ∧ narrow .char (.int x) = .int x) ∨ (ty = 5 ∧ narrow .byte (.int x) = .int x) then fin (some (.int x)) m else none
  | _ => none
def exec1 (call : CALL) (mi : MI) (pc n : Nat) (L : List (Option Value)) (st : List Value) (m : AM) (i : Instr) : ST := match i with
  | .aload_n k => xload (pc + 1) L st m k.val 2
  | .aload k => xload (pc + 2) L st m k 2
  | .iload_n k => xload (pc + 1) L st m k.val 0
  | .iload k => xload (pc + 2) L st m k 0
  | .lload_n k => xload (pc + 1) L st m k.val 1
  | .lload k => xload (pc + 2) L st m k 1
  | .astore_n k => xstore (pc + 1) L st m k.val 2
  | .astore k => xstore (pc + 2) L st m k 2
  | .istore_n k => xstore (pc + 1) L st m k.val 0
  | .istore k => xstore (pc + 2) L st m k 0
  | .lstore_n k => xstore (pc + 1) L st m k.val 1
  | .lstore k => xstore (pc + 2) L st m k 1
  | .iinc k z => xinc (pc + 3) L st m k z
  | .iconst z => nx (pc + 1) L (.int (Int32.ofInt z) :: st) m
  | .bipush z => nx (pc + 2) L (.int (Int8.ofInt z).toInt32 :: st) m
  | .sipush z => nx (pc + 3) L (.int (Int16.ofInt z).toInt32 :: st) m
  | .lconst z => nx (pc + 1) L (.long (Int64.ofNat z.val) :: st) m
  | .iadd => xii (pc + 1) L st m (fun x y => x + y)
  | .isub => xii (pc + 1) L st m (fun x y => x - y)
  | .imul => xii (pc + 1) L st m (fun x y => x * y)
  | .iand => xii (pc + 1) L st m (fun x y => x &&& y)
  | .ior => xii (pc + 1) L st m (fun x y => x ||| y)
  | .ixor => xii (pc + 1) L st m (fun x y => x ^^^ y)
  | .ishl => xii (pc + 1) L st m (fun x y => x <<< (y &&& 31))
  | .ishr => xii (pc + 1) L st m (fun x y => x >>> (y &&& 31))
  | .iushr => xii (pc + 1) L st m (fun x y => (x.toUInt32 >>> (y.toUInt32 &&& Int32.toUInt32 31)).toInt32)
  | .idiv => xdv (pc + 1) L st m (fun x y => x / y)
  | .irem => xdv (pc + 1) L st m (fun x y => x - x / y * y)
  | .ineg => xi (pc + 1) L st m (fun x => .int (-x))
  | .i2l => xi (pc + 1) L st m (fun x => .long x.toInt64)
  | .i2b => xi (pc + 1) L st m (fun x => .int x.toInt8.toInt32)
  | .i2c => xi (pc + 1) L st m (fun x => .int (x.toUInt32 % 65536).toInt32)
  | .ladd => xll (pc + 1) L st m (fun x y => x + y)
  | .lmul => xll (pc + 1) L st m (fun x y => x * y)
  | .land => xll (pc + 1) L st m (fun x y => x &&& y)
  | .lor => xll (pc + 1) L st m (fun x y => x ||| y)
  | .ldiv => xldv (pc + 1) L st m (fun x y => x / y)
  | .lrem => xldv (pc + 1) L st m (fun x y => x - x / y * y)
  | .lshl => xli (pc + 1) L st m (fun x y => x <<< (y.toInt64 &&& 63))
  | .lshr => xli (pc + 1) L st m (fun x y => x >>> (y.toInt64 &&& 63))
  | .lcmp => xcm (pc + 1) L st m
  | .ifCond c off => xif pc L st m c off
  | .if_icmp c off => xicmp pc L st m c off
  | .goto off => jmp pc off L st m
  | .tableswitch d lo hi offs => xts pc L st m d lo hi offs
  | .lookupswitch d ps => xls pc L st m d ps
  | .dup => xdup (pc + 1) L st m
  | .dup2 => xdup2 (pc + 1) L st m
  | .pop => xpop (pc + 1) L st m
  | .getfield idx => xget mi.1 pc L st m idx
  | .putfield idx => xput mi.1 mi.2.2.1 pc L st m idx
  | .getstatic idx => xgs mi.1 pc L st m idx
  | .ldc idx => xldc mi.1 (pc + 2) L st m idx false
  | .ldc_w idx => xldc mi.1 (pc + 3) L st m idx true
  | .iaload => xald pc L st m 1
  | .baload => xald pc L st m 2
  | .laload => xald pc L st m 3
  | .aaload => xald pc L st m 4
  | .iastore => xast pc L st m 1
  | .bastore => xast pc L st m 2
  | .lastore => xast pc L st m 3
  | .arraylength => xlen pc L st m
  | .newarray ty => xna pc L st m ty
  | .multianewarray idx d => xmna mi.1 pc L st m idx d
  | .new idx => xnew mi pc L st m idx
  | .invokevirtual idx => xiv call mi pc L st m idx
  | .invokestatic idx => xis call mi pc L st m idx
  | .invokespecial idx => xip call mi pc L st m idx
  | .ireturn => xret mi.2.2.1 st m
  | .lreturn => match st with
    | [.long x] => if mi.2.2.1 = 2 then fin (some (.long x)) m else none
    | _ => none
  | .return_ => if st = [] ∧ (mi.2.2.1 = 3 ∨ mi.2.2.1 = 6) then fin none m else none
  | _ => none
def step (call : CALL) (mi : MI) (c : CF) : ST := match decode mi.2.1 c.1 with
  | .ok (i, n) => if lenI i n = true then exec1 call mi c.1 n c.2.1 c.2.2.1 c.2.2.2 i else none
  | _ => none
def iter (call : CALL) (mi : MI) : Nat → CF → Option (RS × AM)
  | 0, _ => none
  | k + 1, c => match step call mi c with
    | some (.inl c') => iter call mi k c'
    | some (.inr r) => some r
    | none => none
