/-! THE LAW'S START, RECKONED ON DATA -/
abbrev Ev : Type := Nat × Nat × Nat × Nat × Int32
/-- kinds of cells; what was done, the last first: 0 a cell a of kind (b, c), 1 a grid a of b rows of c, 2 a reference, 3 an int -/
abbrev DM : Type := List (Nat × Nat) × List Ev
abbrev DF : Type := Nat × List (Option Value) × List Value × DM
abbrev DS : Type := Option (DF ⊕ DM)
abbrev DC : Type := Nat → List Value → DM → Option DM
def rE : List Ev → Nat → Nat → Option Nat
  | [], _, _ => none
  | e :: E, a, k => if e.1 = 0 then (if a = e.2.1 then none else rE E a k) else if e.1 = 1 then (if a = e.2.1 then (if k < e.2.2.1 then some (e.2.1 + 1 + k) else none) else rE E a k) else if e.1 = 2 then (if a = e.2.1 ∧ k = e.2.2.1 then some e.2.2.2.1 else rE E a k) else rE E a k
def iE : List Ev → Nat → Nat → Option Int32
  | [], _, _ => none
  | e :: E, a, k => if e.1 = 0 then (if a = e.2.1 then some 0 else iE E a k) else if e.1 = 1 then (if e.2.1 < a ∧ a ≤ e.2.1 + e.2.2.1 then some 0 else iE E a k) else if e.1 = 2 then iE E a k else (if a = e.2.1 ∧ k = e.2.2.1 then some e.2.2.2.2 else iE E a k)
def ap (m : AM) (e : Ev) : AM := if e.1 = 0 then mk1 m (e.2.2.1, e.2.2.2.1) else if e.1 = 1 then mk2 m e.2.2.1 e.2.2.2.1 else if e.1 = 2 then sR m e.2.1 e.2.2.1 (some e.2.2.2.1) else sI m e.2.1 e.2.2.1 e.2.2.2.2
def den (m : AM) : List Ev → AM
  | [] => m
  | e :: E => ap (den m E) e
/-- the data tell the memory -/
def WE (m : AM) (D : DM) : Prop := mK (den m D.2) = D.1 ∧ mX (den m D.2) = 0 ∧ mL (den m D.2) = mL m ∧ (∀ a k, mR (den m D.2) a k = rE D.2 a k) ∧ (∀ a k v, iE D.2 a k = some v → mI (den m D.2) a k = v) ∧ (∀ a k, XB ≤ a → mI (den m D.2) a k = mI m a k)
def dNew (D : DM) (t n : Nat) : DM := (D.1 ++ [(t, n)], (0, D.1.length, t, n, 0) :: D.2)
def dGrid (D : DM) (n k : Nat) : DM := (D.1 ++ (4, n) :: List.replicate n (1, k), (1, D.1.length, n, k, 0) :: D.2)
def dR (D : DM) (a k q : Nat) : DM := (D.1, (2, a, k, q, 0) :: D.2)
def dI (D : DM) (a k : Nat) (v : Int32) : DM := (D.1, (3, a, k, 0, v) :: D.2)
section WE1
variable {m : AM} {D : DM}
theorem we_new {t n : Nat} (H : WE m D) (hl : D.1.length < XB) : den m (dNew D t n).2 = mk1 (den m D.2) (t, n) ∧ WE m (dNew D t n) := by
  obtain ⟨h1, h2, h3, h4, h5, h6⟩ := H
  have e : den m (dNew D t n).2 = mk1 (den m D.2) (t, n) := rfl
  refine ⟨e, ?_, ?_, ?_, fun a k => ?_, fun a k v q => ?_, fun a k ha => ?_⟩
  · rw [e]
    show mK (den m D.2) ++ [(t, n)] = D.1 ++ [(t, n)]
    rw [h1]
  · rw [e]
    exact h2
  · rw [e]
    exact h3
  · rw [e]
    show up1 (mR (den m D.2)) (mK (den m D.2)).length (fun _ => none) a k = if a = D.1.length then none else rE D.2 a k
    rw [h1]
    by_cases q : a = D.1.length
    · rw [if_pos q, q, up1_s]
    · rw [if_neg q, up1_n q, h4]
  · rw [e]
    have q' : (if a = D.1.length then some 0 else iE D.2 a k) = some v := q
    show up1 (mI (den m D.2)) (mK (den m D.2)).length (fun _ => 0) a k = v
    rw [h1]
    by_cases c : a = D.1.length
    · rw [if_pos c] at q'
      rw [c, up1_s]
      exact Option.some.inj q'
    · rw [if_neg c] at q'
      rw [up1_n c]
      exact h5 a k v q'
  · rw [e]
    show up1 (mI (den m D.2)) (mK (den m D.2)).length (fun _ => 0) a k = mI m a k
    rw [h1, up1_n (by omega)]
    exact h6 a k ha
theorem we_grid {n k0 : Nat} (H : WE m D) (hl : D.1.length + n < XB) : den m (dGrid D n k0).2 = mk2 (den m D.2) n k0 ∧ WE m (dGrid D n k0) := by
  obtain ⟨h1, h2, h3, h4, h5, h6⟩ := H
  have e : den m (dGrid D n k0).2 = mk2 (den m D.2) n k0 := rfl
  refine ⟨e, ?_, ?_, ?_, fun a k => ?_, fun a k v q => ?_, fun a k ha => ?_⟩
  · rw [e]
    show mK (den m D.2) ++ (4, n) :: List.replicate n (1, k0) = D.1 ++ (4, n) :: List.replicate n (1, k0)
    rw [h1]
  · rw [e]
    exact h2
  · rw [e]
    exact h3
  · rw [e]
    show up1 (mR (den m D.2)) (mK (den m D.2)).length (fun i => if i < n then some ((mK (den m D.2)).length + 1 + i) else none) a k = if a = D.1.length then (if k < n then some (D.1.length + 1 + k) else none) else rE D.2 a k
    rw [h1]
    by_cases q : a = D.1.length
    · rw [if_pos q, q, up1_s]
    · rw [if_neg q, up1_n q, h4]
  · rw [e]
    have q' : (if D.1.length < a ∧ a ≤ D.1.length + n then some 0 else iE D.2 a k) = some v := q
    show (if (mK (den m D.2)).length < a ∧ a ≤ (mK (den m D.2)).length + n then (fun _ => 0) else mI (den m D.2) a) k = v
    rw [h1]
    by_cases c : D.1.length < a ∧ a ≤ D.1.length + n
    · rw [if_pos c] at q' ⊢
      exact Option.some.inj q'
    · rw [if_neg c] at q' ⊢
      exact h5 a k v q'
  · rw [e]
    show (if (mK (den m D.2)).length < a ∧ a ≤ (mK (den m D.2)).length + n then (fun _ => 0) else mI (den m D.2) a) k = mI m a k
    rw [h1, if_neg (by omega)]
    exact h6 a k ha
theorem we_R {a0 k0 q0 : Nat} (H : WE m D) : den m (dR D a0 k0 q0).2 = sR (den m D.2) a0 k0 (some q0) ∧ WE m (dR D a0 k0 q0) := by
  obtain ⟨h1, h2, h3, h4, h5, h6⟩ := H
  have e : den m (dR D a0 k0 q0).2 = sR (den m D.2) a0 k0 (some q0) := rfl
  refine ⟨e, ?_, ?_, ?_, fun a k => ?_, fun a k v q => ?_, fun a k ha => ?_⟩
  · rw [e]
    exact h1
  · rw [e]
    exact h2
  · rw [e]
    exact h3
  · rw [e]
    show (if a = a0 ∧ k = k0 then some q0 else mR (den m D.2) a k) = if a = a0 ∧ k = k0 then some q0 else rE D.2 a k
    rw [h4]
  · rw [e]
    exact h5 a k v q
  · rw [e]
    exact h6 a k ha
theorem we_I {a0 k0 : Nat} {v0 : Int32} (H : WE m D) (ha0 : a0 < XB) : den m (dI D a0 k0 v0).2 = sI (den m D.2) a0 k0 v0 ∧ WE m (dI D a0 k0 v0) := by
  obtain ⟨h1, h2, h3, h4, h5, h6⟩ := H
  have e : den m (dI D a0 k0 v0).2 = sI (den m D.2) a0 k0 v0 := rfl
  refine ⟨e, ?_, ?_, ?_, fun a k => ?_, fun a k v q => ?_, fun a k ha => ?_⟩
  · rw [e]
    exact h1
  · rw [e]
    exact h2
  · rw [e]
    exact h3
  · rw [e]
    exact h4 a k
  · rw [e]
    have q' : (if a = a0 ∧ k = k0 then some v0 else iE D.2 a k) = some v := q
    show (if a = a0 ∧ k = k0 then v0 else mI (den m D.2) a k) = v
    by_cases c : a = a0 ∧ k = k0
    · rw [if_pos c] at q' ⊢
      exact Option.some.inj q'
    · rw [if_neg c] at q' ⊢
      exact h5 a k v q'
  · rw [e]
    show (if a = a0 ∧ k = k0 then v0 else mI (den m D.2) a k) = mI m a k
    rw [if_neg (by omega)]
    exact h6 a k ha
def kdD (D : DM) (a : Nat) : Option (Nat × Nat) := if a < XB then D.1[a]? else none
theorem kdD_k {a : Nat} {x : Nat × Nat} (H : WE m D) (h : kdD D a = some x) : a < XB ∧ kd (den m D.2) a = some x := by
  unfold kdD at h
  by_cases q : a < XB
  · rw [if_pos q] at h
    refine ⟨q, ?_⟩
    unfold kd
    rw [if_pos q, H.1]
    exact h
  · rw [if_neg q] at h
    cases h
theorem kd_unt : kd (den m D.2) (XB + 1) = some (5, 11) := rfl
end WE1
def m0D : AM := m00 0 (fun _ => 0)
def dgo (pc : Nat) (L : List (Option Value)) (st : List Value) (D : DM) : DS := some (.inl (pc, L, st, D))
def dnm (x : ST) (D : DM) : DS := match x with
  | some (.inl c) => some (.inl (c.1, c.2.1, c.2.2.1, D))
  | _ => none
def dcl (x : Option DM) (pc : Nat) (L : List (Option Value)) (r : List Value) : DS := match x with
  | some D' => dgo pc L r D'
  | none => none
def gF (own pc : Nat) (L : List (Option Value)) (st : List Value) (D : DM) (idx : Nat) : DS := match st with
  | .ref a :: r => match cp own idx with
    | some (0, ci, k, _) => if kdD D a = some (0, ci) then (if fk ci k = 2 then match rE D.2 a k with
        | some q => dgo (pc + 3) L (.ref q :: r) D
        | none => none
      else if fk ci k = 0 then match iE D.2 a k with
        | some v => dgo (pc + 3) L (.int v :: r) D
        | none => none
      else none) else none
    | _ => none
  | _ => none
def pF (own ret pc : Nat) (L : List (Option Value)) (st : List Value) (D : DM) (idx : Nat) : DS := match st with
  | .int x :: .ref a :: r => match cp own idx with
    | some (0, ci, k, _) => if kdD D a = some (0, ci) ∧ fk ci k = 0 then dgo (pc + 3) L r (dI D a k x) else none
    | _ => none
  | .ref q :: .ref a :: r => match cp own idx with
    | some (0, ci, k, _) => if kdD D a = some (0, ci) ∧ fk ci k = 2 ∧ q < XB ∧ own = ci ∧ ret = 6 then dgo (pc + 3) L r (dR D a k q) else none
    | _ => none
  | _ => none
def lA (pc : Nat) (L : List (Option Value)) (st : List Value) (D : DM) : DS := match st with
  | .int i :: .ref a :: r => if a = XB + 1 then (if inb i 11 = true then dgo (pc + 1) L (.int (untL.getD i.toNatClampNeg 0) :: r) D else none) else match kdD D a with
    | some (1, n) => if inb i n = true then match iE D.2 a i.toNatClampNeg with
        | some v => dgo (pc + 1) L (.int v :: r) D
        | none => none
      else none
    | _ => none
  | _ => none
def sA (pc : Nat) (L : List (Option Value)) (st : List Value) (D : DM) : DS := match st with
  | .int x :: .int i :: .ref a :: r => match kdD D a with
    | some (1, n) => if inb i n = true then dgo (pc + 1) L r (dI D a i.toNatClampNeg x) else none
    | _ => none
  | _ => none
def nA (pc : Nat) (L : List (Option Value)) (st : List Value) (D : DM) : DS := match st with
  | .ref a :: r => if a = XB + 1 then dgo (pc + 1) L (.int (Int32.ofNat 11) :: r) D else match kdD D a with
    | some (1, n) => dgo (pc + 1) L (.int (Int32.ofNat n) :: r) D
    | _ => none
  | _ => none
def mA (pc : Nat) (L : List (Option Value)) (st : List Value) (D : DM) (ty : ArrayType) : DS := match st with
  | .int i :: r => if ¬ i < 0 ∧ i.toNatClampNeg ≤ 100000 ∧ D.1.length < 900000 then match ty with
      | .int => dgo (pc + 2) L (.ref D.1.length :: r) (dNew D 1 i.toNatClampNeg)
      | .byte => dgo (pc + 2) L (.ref D.1.length :: r) (dNew D 2 i.toNatClampNeg)
      | .long => dgo (pc + 2) L (.ref D.1.length :: r) (dNew D 3 i.toNatClampNeg)
      | _ => none
    else none
  | _ => none
def mG (own pc : Nat) (L : List (Option Value)) (st : List Value) (D : DM) (idx dims : Nat) : DS := match st with
  | .int k :: .int n :: r => if dims = 2 ∧ ¬ n < 0 ∧ ¬ k < 0 ∧ n.toNatClampNeg ≤ 100000 ∧ k.toNatClampNeg ≤ 100000 ∧ D.1.length + n.toNatClampNeg < 900000 then match cp own idx with
      | some (17, _, _, _) => dgo (pc + 4) L (.ref D.1.length :: r) (dGrid D n.toNatClampNeg k.toNatClampNeg)
      | _ => none
    else none
  | _ => none
def mN (own pc : Nat) (L : List (Option Value)) (st : List Value) (D : DM) (idx : Nat) : DS := match cp own idx with
  | some (12, ci, _, _) => if D.1.length < 900000 then dgo (pc + 3) L (.ref D.1.length :: st) (dNew D 0 ci) else none
  | _ => none
def vC (cl : DC) (own pc : Nat) (L : List (Option Value)) (st : List Value) (D : DM) (idx : Nat) : DS := match cp own idx with
  | some (1, id, n, ci) => match st.drop n with
    | .ref a :: r => if kdD D a = some (0, ci) ∧ wds r ≤ 8 then dcl (cl id (.ref a :: (st.take n).reverse) D) (pc + 3) L r else none
    | _ => none
  | _ => none
def sC (cl : DC) (own pc : Nat) (L : List (Option Value)) (st : List Value) (D : DM) (idx : Nat) : DS := match cp own idx with
  | some (2, id, n, _) => if n ≤ st.length ∧ wds (st.drop n) ≤ 8 then dcl (cl id (st.take n).reverse D) (pc + 3) L (st.drop n) else none
  | _ => none
def pC (cl : DC) (own pc : Nat) (L : List (Option Value)) (st : List Value) (D : DM) (idx : Nat) : DS := match cp own idx with
  | some (4, id, n, _) => match st.drop n with
    | .ref a :: r => if wds r ≤ 8 then dcl (cl id (.ref a :: (st.take n).reverse) D) (pc + 3) L r else none
    | _ => none
  | some (5, id, n, _) => match st.drop n with
    | .ref a :: r => if wds r ≤ 8 then dcl (cl id (.ref a :: (st.take n).reverse) D) (pc + 3) L r else none
    | _ => none
  | some (6, _, _, _) => match st with
    | .ref _ :: r => if wds r ≤ 8 then dgo (pc + 3) L r D else none
    | _ => none
  | _ => none
def dx (cl : DC) (own ret pc : Nat) (L : List (Option Value)) (st : List Value) (D : DM) (i : Instr) : DS := match i with
  | .aload_n k => dnm (xload (pc + 1) L st m0D k.val 2) D
  | .iload_n k => dnm (xload (pc + 1) L st m0D k.val 0) D
  | .istore_n k => dnm (xstore (pc + 1) L st m0D k.val 0) D
  | .istore k => dnm (xstore (pc + 2) L st m0D k 0) D
  | .astore_n k => dnm (xstore (pc + 1) L st m0D k.val 2) D
  | .iinc k z => dnm (xinc (pc + 3) L st m0D k z) D
  | .iconst z => dgo (pc + 1) L (.int (Int32.ofInt z) :: st) D
  | .bipush z => dgo (pc + 2) L (.int (Int8.ofInt z).toInt32 :: st) D
  | .sipush z => dgo (pc + 3) L (.int (Int16.ofInt z).toInt32 :: st) D
  | .iadd => dnm (xii (pc + 1) L st m0D (fun x y => x + y)) D
  | .ishl => dnm (xii (pc + 1) L st m0D (fun x y => x <<< (y &&& 31))) D
  | .if_icmp c off => dnm (xicmp pc L st m0D c off) D
  | .goto off => dnm (jmp pc off L st m0D) D
  | .dup => dnm (xdup (pc + 1) L st m0D) D
  | .getstatic idx => match cp own idx with
    | some (16, _, _, _) => dgo (pc + 3) L (.ref (XB + 1) :: st) D
    | _ => none
  | .getfield idx => gF own pc L st D idx
  | .putfield idx => pF own ret pc L st D idx
  | .iaload => lA pc L st D
  | .iastore => sA pc L st D
  | .arraylength => nA pc L st D
  | .newarray ty => mA pc L st D ty
  | .multianewarray idx d => mG own pc L st D idx d
  | .new idx => mN own pc L st D idx
  | .invokevirtual idx => vC cl own pc L st D idx
  | .invokestatic idx => sC cl own pc L st D idx
  | .invokespecial idx => pC cl own pc L st D idx
  | .return_ => if st = [] ∧ (ret = 3 ∨ ret = 6) then some (.inr D) else none
  | _ => none
/-- a step on data is the machine's -/
def okX (m : AM) (x : ST) (y : DF ⊕ DM) : Prop := match y with
  | .inl c => x = some (.inl (c.1, c.2.1, c.2.2.1, den m c.2.2.2.2)) ∧ WE m c.2.2.2
  | .inr D' => x = some (.inr (.inl none, den m D'.2)) ∧ WE m D'
section SND
variable {m : AM} {D : DM} {pc : Nat} {L : List (Option Value)} {st : List Value} {y : DF ⊕ DM} {own ret idx : Nat} {call : CALL} {cl : DC} {mi : MI}
theorem nm_ok {g : AM → ST} (hg : ∀ m', (∃ c : CF, g m0D = some (.inl c)) → ∃ c : CF, g m0D = some (.inl c) ∧ g m' = some (.inl (c.1, c.2.1, c.2.2.1, m'))) (H : WE m D) (h : dnm (g m0D) D = some y) : okX m (g (den m D.2)) y := by
  unfold dnm at h
  split at h
  · rename_i c hc
    cases h
    obtain ⟨c', h1, h2⟩ := hg (den m D.2) ⟨c, hc⟩
    rw [hc] at h1
    cases h1
    exact ⟨h2, H⟩
  · cases h
theorem nm_load {k ty : Nat} : ∀ m', (∃ c : CF, xload pc L st m0D k ty = some (.inl c)) → ∃ c : CF, xload pc L st m0D k ty = some (.inl c) ∧ xload pc L st m' k ty = some (.inl (c.1, c.2.1, c.2.2.1, m')) := by
  intro m' ⟨c, hc⟩
  refine ⟨c, hc, ?_⟩
  unfold xload at hc ⊢
  repeat' split at hc
  all_goals first | (cases hc; done) | (unfold nx at hc; cases hc; simp_all [nx])
theorem nm_store {k ty : Nat} : ∀ m', (∃ c : CF, xstore pc L st m0D k ty = some (.inl c)) → ∃ c : CF, xstore pc L st m0D k ty = some (.inl c) ∧ xstore pc L st m' k ty = some (.inl (c.1, c.2.1, c.2.2.1, m')) := by
  intro m' ⟨c, hc⟩
  refine ⟨c, hc, ?_⟩
  unfold xstore at hc ⊢
  repeat' split at hc
  all_goals first | (cases hc; done) | (unfold nx at hc; cases hc; simp_all [nx])
theorem nm_inc {k : Nat} {z : Int} : ∀ m', (∃ c : CF, xinc pc L st m0D k z = some (.inl c)) → ∃ c : CF, xinc pc L st m0D k z = some (.inl c) ∧ xinc pc L st m' k z = some (.inl (c.1, c.2.1, c.2.2.1, m')) := by
  intro m' ⟨c, hc⟩
  refine ⟨c, hc, ?_⟩
  unfold xinc at hc ⊢
  repeat' split at hc
  all_goals first | (cases hc; done) | (unfold nx at hc; cases hc; simp_all [nx])
theorem nm_ii {f : Int32 → Int32 → Int32} : ∀ m', (∃ c : CF, xii pc L st m0D f = some (.inl c)) → ∃ c : CF, xii pc L st m0D f = some (.inl c) ∧ xii pc L st m' f = some (.inl (c.1, c.2.1, c.2.2.1, m')) := by
  intro m' ⟨c, hc⟩
  refine ⟨c, hc, ?_⟩
  unfold xii at hc ⊢
  repeat' split at hc
  all_goals first | (cases hc; done) | (unfold nx at hc; cases hc; simp_all [nx])
theorem nm_icmp {c0 : ClassFile.Cond} {off : Int} : ∀ m', (∃ c : CF, xicmp pc L st m0D c0 off = some (.inl c)) → ∃ c : CF, xicmp pc L st m0D c0 off = some (.inl c) ∧ xicmp pc L st m' c0 off = some (.inl (c.1, c.2.1, c.2.2.1, m')) := by
  intro m' ⟨c, hc⟩
  refine ⟨c, hc, ?_⟩
  unfold xicmp at hc ⊢
  repeat' split at hc
  all_goals first | (cases hc; done) | (unfold nx at hc; cases hc; simp_all [nx])
theorem nm_jmp {off : Int} : ∀ m', (∃ c : CF, jmp pc off L st m0D = some (.inl c)) → ∃ c : CF, jmp pc off L st m0D = some (.inl c) ∧ jmp pc off L st m' = some (.inl (c.1, c.2.1, c.2.2.1, m')) := by
  intro m' ⟨c, hc⟩
  refine ⟨c, hc, ?_⟩
  unfold jmp at hc ⊢
  repeat' split at hc
  all_goals first | (cases hc; done) | (unfold nx at hc; cases hc; simp_all [nx])
theorem nm_dup : ∀ m', (∃ c : CF, xdup pc L st m0D = some (.inl c)) → ∃ c : CF, xdup pc L st m0D = some (.inl c) ∧ xdup pc L st m' = some (.inl (c.1, c.2.1, c.2.2.1, m')) := by
  intro m' ⟨c, hc⟩
  refine ⟨c, hc, ?_⟩
  unfold xdup at hc ⊢
  repeat' split at hc
  all_goals first | (cases hc; done) | (unfold nx at hc; cases hc; simp_all [nx])
end SND
