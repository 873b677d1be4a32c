/-! THE LAW'S START, RECKONED ON DATA: a step on data is the machine's -/
section SND2
variable {m : AM} {D : DM} {pc : Nat} {L : List (Option Value)} {st : List Value} {y : DF ⊕ DM} {own ret idx : Nat} {call : CALL} {cl : DC} {mi : MI}
theorem okT {x x' : ST} (h : x = x') (h2 : okX m x' y) : okX m x y := by rw [h]; exact h2
theorem gF_ok (H : WE m D) (h : gF own pc L st D idx = some y) : okX m (xget own pc L st (den m D.2) idx) y := by
  unfold gF at h
  unfold xget
  split at h
  · rename_i a r
    split at h
    · rename_i ci k z hc
      rw [hc]
      try dsimp only
      split at h
      · rename_i hk
        obtain ⟨ha, hkd⟩ := kdD_k H hk
        refine okT (if_pos (c := kd (den m D.2) a = some (0, ci) ∧ a < XB) ⟨hkd, ha⟩) ?_
        split at h
        · rename_i hf
          rw [if_pos hf]
          split at h
          · rename_i q hq
            unfold dgo at h
            cases h
            rw [H.2.2.2.1, hq]
            exact ⟨rfl, H⟩
          · cases h
        · rename_i hf
          rw [if_neg hf]
          split at h
          · rename_i hf0
            rw [if_pos (Or.inl hf0)]
            split at h
            · rename_i v hv
              unfold dgo at h
              cases h
              rw [H.2.2.2.2.1 _ _ _ hv]
              exact ⟨rfl, H⟩
            · cases h
          · cases h
      · cases h
    · cases h
  · cases h
theorem pF_ok (H : WE m D) (h : pF own ret pc L st D idx = some y) : okX m (xput own ret pc L st (den m D.2) idx) y := by
  unfold pF at h
  unfold xput
  split at h
  · rename_i x a r
    split at h
    · rename_i ci k z hc
      try dsimp only
      rw [hc]
      try dsimp only
      split at h
      · rename_i hq
        obtain ⟨ha, hkd⟩ := kdD_k H hq.1
        refine okT (if_pos (c := kd (den m D.2) a = some (0, ci) ∧ a < XB ∧ (fk ci k = 0 ∨ (fk ci k = 3 ∧ (x = 0 ∨ x = 1)))) ⟨hkd, ha, Or.inl hq.2⟩) ?_
        unfold dgo at h
        cases h
        exact ⟨rfl, (we_I H ha).2⟩
      · cases h
    · cases h
  · rename_i q a r
    split at h
    · rename_i ci k z hc
      try dsimp only
      rw [hc]
      try dsimp only
      split at h
      · rename_i hq
        obtain ⟨ha, hkd⟩ := kdD_k H hq.1
        refine okT (if_pos (c := kd (den m D.2) a = some (0, ci) ∧ a < XB ∧ fk ci k = 2 ∧ q < XB ∧ own = ci ∧ ret = 6) ⟨hkd, ha, hq.2⟩) ?_
        unfold dgo at h
        cases h
        exact ⟨rfl, (we_R H).2⟩
      · cases h
    · cases h
  · cases h
theorem lA_ok (hU : ∀ k, mI m (XB + 1) k = untL.getD k 0) (H : WE m D) (h : lA pc L st D = some y) : okX m (xald pc L st (den m D.2) 1) y := by
  unfold lA at h
  unfold xald
  split at h
  · rename_i i a r
    try dsimp only
    split at h
    · rename_i ha
      subst ha
      rw [kd_unt]
      try dsimp only
      split at h
      · rename_i hi
        rw [if_pos hi, if_pos ⟨Or.inr ⟨rfl, Nat.le_succ _⟩, rfl⟩]
        unfold dgo at h
        cases h
        rw [H.2.2.2.2.2 _ _ (Nat.le_succ _), hU]
        exact ⟨rfl, H⟩
      · cases h
    · split at h
      · rename_i n hk
        obtain ⟨ha, hkd⟩ := kdD_k H hk
        rw [hkd]
        try dsimp only
        split at h
        · rename_i hi
          rw [if_pos hi, if_pos ⟨Or.inl ⟨rfl, ha⟩, rfl⟩]
          split at h
          · rename_i v hv
            unfold dgo at h
            cases h
            rw [H.2.2.2.2.1 _ _ _ hv]
            exact ⟨rfl, H⟩
          · cases h
        · cases h
      · cases h
  · cases h
theorem sA_ok (H : WE m D) (h : sA pc L st D = some y) : okX m (xast pc L st (den m D.2) 1) y := by
  unfold sA at h
  unfold xast
  split at h
  · rename_i x i a r
    try dsimp only
    split at h
    · rename_i n hk
      obtain ⟨ha, hkd⟩ := kdD_k H hk
      rw [hkd]
      try dsimp only
      split at h
      · rename_i hi
        rw [if_pos ⟨hi, ha⟩, if_pos ⟨rfl, rfl⟩]
        unfold dgo at h
        cases h
        exact ⟨rfl, (we_I H ha).2⟩
      · cases h
    · cases h
  · cases h
theorem nA_ok (H : WE m D) (h : nA pc L st D = some y) : okX m (xlen pc L st (den m D.2)) y := by
  unfold nA at h
  unfold xlen
  split at h
  · rename_i a r
    try dsimp only
    split at h
    · rename_i ha
      subst ha
      rw [kd_unt]
      try dsimp only
      rw [if_pos (Or.inr ⟨Nat.le_succ _, Or.inl rfl⟩)]
      unfold dgo at h
      cases h
      exact ⟨rfl, H⟩
    · split at h
      · rename_i n hk
        obtain ⟨ha, hkd⟩ := kdD_k H hk
        rw [hkd]
        try dsimp only
        rw [if_pos (Or.inl ⟨ha, Or.inl rfl⟩)]
        unfold dgo at h
        cases h
        exact ⟨rfl, H⟩
      · cases h
  · cases h
theorem lt_xb {n : Nat} (h : n < 900000) : n < XB := Nat.lt_trans h (by decide)
theorem mA_ok {ty : ArrayType} (H : WE m D) (h : mA pc L st D ty = some y) : okX m (xna pc L st (den m D.2) ty) y := by
  unfold mA at h
  unfold xna
  split at h
  · rename_i i r
    try dsimp only
    split at h
    · rename_i hq
      have e : (mK (den m D.2)).length = D.1.length := by rw [H.1]
      rw [if_pos ⟨hq.1, hq.2.1, H.2.1, by rw [e]; exact hq.2.2⟩]
      rw [e]
      split at h
      · unfold dgo at h
        cases h
        exact ⟨rfl, (we_new H (lt_xb hq.2.2)).2⟩
      · unfold dgo at h
        cases h
        exact ⟨rfl, (we_new H (lt_xb hq.2.2)).2⟩
      · unfold dgo at h
        cases h
        exact ⟨rfl, (we_new H (lt_xb hq.2.2)).2⟩
      · cases h
    · cases h
  · cases h
theorem mG_ok {dims : Nat} (H : WE m D) (h : mG own pc L st D idx dims = some y) : okX m (xmna own pc L st (den m D.2) idx dims) y := by
  unfold mG at h
  unfold xmna
  split at h
  · rename_i k n r
    try dsimp only
    split at h
    · rename_i hq
      have e : (mK (den m D.2)).length = D.1.length := by rw [H.1]
      rw [if_pos ⟨hq.1, hq.2.1, hq.2.2.1, hq.2.2.2.1, hq.2.2.2.2.1, H.2.1, by rw [e]; exact hq.2.2.2.2.2⟩]
      rw [e]
      split at h
      · rename_i hc
        rw [hc]
        unfold dgo at h
        cases h
        exact ⟨rfl, (we_grid H (lt_xb hq.2.2.2.2.2)).2⟩
      · cases h
    · cases h
  · cases h
theorem mN_ok (H : WE m D) (h : mN mi.1 pc L st D idx = some y) : okX m (xnew mi pc L st (den m D.2) idx) y := by
  unfold mN at h
  unfold xnew
  split at h
  · rename_i ci z1 z2 hc
    rw [hc]
    try dsimp only
    split at h
    · rename_i hq
      have e : (mK (den m D.2)).length = D.1.length := by rw [H.1]
      refine okT (if_pos (c := mX (den m D.2) = 0 ∧ (mK (den m D.2)).length < 900000) ⟨H.2.1, by rw [e]; exact hq⟩) ?_
      rw [e]
      unfold dgo at h
      cases h
      exact ⟨rfl, (we_new H (lt_xb hq)).2⟩
    · cases h
  · cases h
/-- the calls on data are the machine's -/
def OKC (m : AM) (call : CALL) (cl : DC) : Prop := ∀ id vs D D', WE m D → cl id vs D = some D' → call id vs (den m D.2) = some (.inl none, den m D'.2) ∧ WE m D'
theorem cN_ok {id : Nat} {vs : List Value} {r : List Value} (hc : OKC m call cl) (H : WE m D) (h : dcl (cl id vs D) (pc + 3) L r = some y) : okX m (bckN pc L r (call id vs (den m D.2))) y := by
  unfold dcl at h
  split at h
  · rename_i D' hd
    obtain ⟨h1, h2⟩ := hc _ _ _ _ H hd
    rw [h1]
    unfold dgo at h
    cases h
    exact ⟨rfl, h2⟩
  · cases h
theorem cB_ok {id : Nat} {vs : List Value} {r : List Value} (hc : OKC m call cl) (H : WE m D) (h : dcl (cl id vs D) (pc + 3) L r = some y) : okX m (bck mi pc L r (call id vs (den m D.2))) y := by
  unfold dcl at h
  split at h
  · rename_i D' hd
    obtain ⟨h1, h2⟩ := hc _ _ _ _ H hd
    rw [h1]
    unfold dgo at h
    cases h
    exact ⟨rfl, h2⟩
  · cases h
theorem vC_ok (hc : OKC m call cl) (H : WE m D) (h : vC cl mi.1 pc L st D idx = some y) : okX m (xiv call mi pc L st (den m D.2) idx) y := by
  unfold vC at h
  unfold xiv
  split at h
  · rename_i id n ci hcp
    rw [hcp]
    show okX m (match st.drop n with
      | .ref a :: r => if kd (den m D.2) a = some (0, ci) ∧ a < XB ∧ wds r ≤ 8 then bck mi pc L r (call id (.ref a :: (st.take n).reverse) (den m D.2)) else none
      | _ => none) y
    split at h
    · rename_i a r hs
      rw [hs]
      try dsimp only
      split at h
      · rename_i hq
        obtain ⟨ha, hkd⟩ := kdD_k H hq.1
        refine okT (if_pos (c := kd (den m D.2) a = some (0, ci) ∧ a < XB ∧ wds r ≤ 8) ⟨hkd, ha, hq.2⟩) ?_
        exact cB_ok hc H h
      · cases h
    · cases h
  · cases h
theorem sC_ok (hc : OKC m call cl) (H : WE m D) (h : sC cl mi.1 pc L st D idx = some y) : okX m (xis call mi pc L st (den m D.2) idx) y := by
  unfold sC at h
  unfold xis
  split at h
  · rename_i id n ci hcp
    rw [hcp]
    try dsimp only
    split at h
    · rename_i hq
      refine okT (if_pos (c := n ≤ st.length ∧ wds (st.drop n) ≤ 8) hq) ?_
      exact cN_ok hc H h
    · cases h
  · cases h
theorem pC_ok (hc : OKC m call cl) (H : WE m D) (h : pC cl mi.1 pc L st D idx = some y) : okX m (xip call mi pc L st (den m D.2) idx) y := by
  unfold pC at h
  unfold xip
  split at h
  · rename_i id n ci hcp
    rw [hcp]
    show okX m (match st.drop n with
      | .ref a :: r => if wds r ≤ 8 then bckN pc L r (call id (.ref a :: (st.take n).reverse) (den m D.2)) else none
      | _ => none) y
    split at h
    · rename_i a r hs
      rw [hs]
      try dsimp only
      split at h
      · rename_i hq
        refine okT (if_pos (c := wds _ ≤ 8) hq) ?_
        exact cN_ok hc H h
      · cases h
    · cases h
  · rename_i id n ci hcp
    rw [hcp]
    show okX m (match st.drop n with
      | .ref a :: r => if wds r ≤ 8 then bckN pc L r (call id (.ref a :: (st.take n).reverse) (den m D.2)) else none
      | _ => none) y
    split at h
    · rename_i a r hs
      rw [hs]
      try dsimp only
      split at h
      · rename_i hq
        refine okT (if_pos (c := wds _ ≤ 8) hq) ?_
        exact cN_ok hc H h
      · cases h
    · cases h
  · rename_i id n ci hcp
    rw [hcp]
    try dsimp only
    split at h
    · try dsimp only
      split at h
      · rename_i hq
        refine okT (if_pos (c := wds _ ≤ 8) hq) ?_
        unfold dgo at h
        cases h
        exact ⟨rfl, H⟩
      · cases h
    · cases h
  · cases h
theorem dx_ok {i : Instr} {n : Nat} (hU : ∀ k, mI m (XB + 1) k = untL.getD k 0) (hc : OKC m call cl) (H : WE m D) (h : dx cl mi.1 mi.2.2.1 pc L st D i = some y) : okX m (exec1 call mi pc n L st (den m D.2) i) y := by
  unfold dx at h
  split at h
  · exact nm_ok (g := fun m' => xload (pc + 1) L st m' _ 2) nm_load H h
  · exact nm_ok (g := fun m' => xload (pc + 1) L st m' _ 0) nm_load H h
  · exact nm_ok (g := fun m' => xstore (pc + 1) L st m' _ 0) nm_store H h
  · exact nm_ok (g := fun m' => xstore (pc + 2) L st m' _ 0) nm_store H h
  · exact nm_ok (g := fun m' => xstore (pc + 1) L st m' _ 2) nm_store H h
  · exact nm_ok (g := fun m' => xinc (pc + 3) L st m' _ _) nm_inc H h
  · unfold dgo at h
    cases h
    exact ⟨rfl, H⟩
  · unfold dgo at h
    cases h
    exact ⟨rfl, H⟩
  · unfold dgo at h
    cases h
    exact ⟨rfl, H⟩
  · exact nm_ok (g := fun m' => xii (pc + 1) L st m' (fun x y => x + y)) nm_ii H h
  · exact nm_ok (g := fun m' => xii (pc + 1) L st m' (fun x y => x <<< (y &&& 31))) nm_ii H h
  · exact nm_ok (g := fun m' => xicmp pc L st m' _ _) nm_icmp H h
  · exact nm_ok (g := fun m' => jmp pc _ L st m') nm_jmp H h
  · exact nm_ok (g := fun m' => xdup (pc + 1) L st m') nm_dup H h
  · split at h
    · rename_i hcp
      unfold dgo at h
      cases h
      show okX m (xgs mi.1 pc L st (den m D.2) _) _
      unfold xgs
      rw [hcp]
      exact ⟨rfl, H⟩
    · cases h
  · exact gF_ok H h
  · exact pF_ok H h
  · exact lA_ok hU H h
  · exact sA_ok H h
  · exact nA_ok H h
  · exact mA_ok H h
  · exact mG_ok H h
  · exact mN_ok H h
  · exact vC_ok hc H h
  · exact sC_ok hc H h
  · exact pC_ok hc H h
  · split at h
    · rename_i hq
      cases h
      show okX m (if st = [] ∧ (mi.2.2.1 = 3 ∨ mi.2.2.1 = 6) then fin none (den m D.2) else none) _
      rw [if_pos hq]
      exact ⟨rfl, H⟩
    · cases h
  · cases h
end SND2
/-- rows of a method: the place, the instruction, its length -/
abbrev RWD : Type := List (Nat × Instr × Nat)
def fnd (pc : Nat) : RWD → Option Instr
  | [] => none
  | x :: r => if x.1 = pc then some x.2.1 else fnd pc r
def AllR (c : ByteArray) : RWD → Prop
  | [] => True
  | x :: r => (decode c x.1 = .ok (x.2.1, x.2.2) ∧ lenI x.2.1 x.2.2 = true) ∧ AllR c r
theorem fnd_ok {c : ByteArray} {pc : Nat} {i : Instr} : ∀ {rs : RWD}, AllR c rs → fnd pc rs = some i → ∃ n, decode c pc = .ok (i, n) ∧ lenI i n = true
  | [], _, h => by cases h
  | x :: r, H, h => by
    unfold fnd at h
    split at h
    · rename_i hq
      cases h
      exact ⟨x.2.2, by rw [← hq]; exact H.1.1, H.1.2⟩
    · exact fnd_ok H.2 h
def dIt (cl : DC) (own ret : Nat) (rs : RWD) : Nat → DF → Option DM
  | 0, _ => none
  | k + 1, c => match fnd c.1 rs with
    | some i => match dx cl own ret c.1 c.2.1 c.2.2.1 c.2.2.2 i with
      | some (.inl c') => dIt cl own ret rs k c'
      | some (.inr D) => some D
      | none => none
    | none => none
theorem dIt_ok {m : AM} {call : CALL} {cl : DC} {mi : MI} {rs : RWD} (hU : ∀ k, mI m (XB + 1) k = untL.getD k 0) (hc : OKC m call cl) (hr : AllR mi.2.1 rs) : ∀ k c D', WE m c.2.2.2 → dIt cl mi.1 mi.2.2.1 rs k c = some D' → runI call mi (c.1, c.2.1, c.2.2.1, den m c.2.2.2.2) = some (.inl none, den m D'.2) ∧ WE m D'
  | 0, _, _, _, h => by cases h
  | k + 1, c, D', H, h => by
    unfold dIt at h
    split at h
    · rename_i i hi
      obtain ⟨n, hd, hl⟩ := fnd_ok hr hi
      split at h
      · rename_i c' hx
        obtain ⟨e1, e2⟩ := dx_ok (call := call) (n := n) hU hc H hx
        obtain ⟨e3, e4⟩ := dIt_ok hU hc hr k c' D' e2 h
        exact ⟨(st1 hd hl e1).trans e3, e4⟩
      · rename_i D2 hx
        cases h
        obtain ⟨e1, e2⟩ := dx_ok (call := call) (n := n) hU hc H hx
        exact ⟨st0 hd hl e1, e2⟩
      · cases h
    · cases h
/-- on data, until a place -/
def dUn (cl : DC) (own ret stop : Nat) (rs : RWD) : Nat → DF → Option DF
  | 0, _ => none
  | k + 1, c => if c.1 = stop then some c else match fnd c.1 rs with
    | some i => match dx cl own ret c.1 c.2.1 c.2.2.1 c.2.2.2 i with
      | some (.inl c') => dUn cl own ret stop rs k c'
      | _ => none
    | none => none
theorem dUn_ok {m : AM} {call : CALL} {cl : DC} {mi : MI} {rs : RWD} {stop : Nat} (hU : ∀ k, mI m (XB + 1) k = untL.getD k 0) (hc : OKC m call cl) (hr : AllR mi.2.1 rs) : ∀ k c c', WE m c.2.2.2 → dUn cl mi.1 mi.2.2.1 stop rs k c = some c' → runI call mi (c.1, c.2.1, c.2.2.1, den m c.2.2.2.2) = runI call mi (c'.1, c'.2.1, c'.2.2.1, den m c'.2.2.2.2) ∧ WE m c'.2.2.2
  | 0, _, _, _, h => by cases h
  | k + 1, c, c', H, h => by
    unfold dUn at h
    split at h
    · cases h
      exact ⟨rfl, H⟩
    · split at h
      · rename_i i hi
        obtain ⟨n, hd, hl⟩ := fnd_ok hr hi
        split at h
        · rename_i c2 hx
          obtain ⟨e1, e2⟩ := dx_ok (call := call) (n := n) hU hc H hx
          obtain ⟨e3, e4⟩ := dUn_ok hU hc hr k c2 c' e2 h
          exact ⟨(st1 hd hl e1).trans e3, e4⟩
        · cases h
      · cases h
/-- methods: id, own, ret, locals, rows -/
abbrev TBD : Type := List (Nat × Nat × Nat × Nat × RWD)
def fndM (id : Nat) : TBD → Option (Nat × Nat × Nat × RWD)
  | [] => none
  | x :: r => if x.1 = id then some x.2 else fndM id r
def AllM : TBD → Prop
  | [] => True
  | x :: r => (∃ y c, PG[x.1]? = some (y, (x.2.1, c, x.2.2.1, []), x.2.2.2.1) ∧ AllR c x.2.2.2.2) ∧ AllM r
theorem fndM_ok {id : Nat} {e : Nat × Nat × Nat × RWD} : ∀ {tb : TBD}, AllM tb → fndM id tb = some e → ∃ y c, PG[id]? = some (y, (e.1, c, e.2.1, []), e.2.2.1) ∧ AllR c e.2.2.2
  | [], _, h => by cases h
  | x :: r, H, h => by
    unfold fndM at h
    split at h
    · rename_i hq
      cases h
      rw [← hq]
      exact H.1
    · exact fndM_ok H.2 h
def dM (tb : TBD) : Nat → DC
  | 0, _, _, _ => none
  | d + 1, id, vs, D => match fndM id tb with
    | some e => if (slA vs).length ≤ e.2.2.1 then dIt (dM tb d) e.1 e.2.1 e.2.2.2 3000 (0, entL vs e.2.2.1, [], D) else none
    | none => none
theorem dM_ok {m : AM} {tb : TBD} (hU : ∀ k, mI m (XB + 1) k = untL.getD k 0) (ht : AllM tb) : ∀ d, OKC m (runM d) (dM tb d)
  | 0 => fun _ _ _ _ _ h => by cases h
  | d + 1 => fun id vs D D' H h => by
    have h' : (match fndM id tb with
      | some e => if (slA vs).length ≤ e.2.2.1 then dIt (dM tb d) e.1 e.2.1 e.2.2.2 3000 (0, entL vs e.2.2.1, [], D) else none
      | none => none) = some D' := h
    split at h'
    · rename_i e he
      obtain ⟨y, c, hp, hr⟩ := fndM_ok ht he
      split at h'
      · rename_i hq
        have := dIt_ok (mi := (e.1, c, e.2.1, [])) hU (dM_ok hU ht d) hr 3000 (0, entL vs e.2.2.1, [], D) D' H h'
        refine ⟨?_, this.2⟩
        show (match PG[id]? with
          | some pe => if (slA vs).length ≤ pe.2.2 then runI (runM d) pe.2.1 (0, entL vs pe.2.2, [], den m D.2) else none
          | none => none) = _
        rw [hp]
        try dsimp only
        rw [if_pos hq]
        exact this.1
      · cases h'
    · cases h'
