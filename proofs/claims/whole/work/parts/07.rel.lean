/-! WHAT THE ABSTRACT MACHINE SAYS OF THE REAL ONE: values, cells, locals -/
def cv (ρ : Nat → Nat) (vF : Value) : Value → Value
  | .ref a => .ref (ρ a)
  | .retAddr _ => vF
  | .int x => .int x
  | .long x => .long x
  | .float x => .float x
  | .double x => .double x
  | .null => .null
theorem cv_cat {ρ : Nat → Nat} {vF : Value} (hF : vF.category = 1) (v : Value) : (cv ρ vF v).category = v.category := by
  cases v <;> first | rfl | exact hF
def nF (ci : Nat) : Nat := (fkT.getD ci []).length
def fval (ρ : Nat → Nat) (m : AM) (a k t : Nat) : Value := if t = 2 then va_rf ((mR m a k).map ρ) else if t = 1 then .long (mJ m a k) else .int (mI m a k)
def flds (ρ : Nat → Nat) (m : AM) (a ci : Nat) : List Value := (List.range (nF ci)).map (fun k => fval ρ m a k (fk ci k))
def enc (ρ : Nat → Nat) (cs : Nat → ClassId) (m : AM) (a : Nat) : Nat × Nat → va_E
  | (0, ci) => .inr (ci, flds ρ m a ci)
  | (1, n) => .inl (cs 1, n, .inl (mI m a))
  | (2, n) => .inl (cs 2, n, .inl (mI m a))
  | (3, n) => .inl (cs 3, n, .inr (.inl (mJ m a)))
  | (_, n) => .inl (cs 4, n, .inr (.inr (.inr (.inr (fun j => (mR m a j).map ρ)))))
def wsA (base : Nat) (ρ : Nat → Nat) (cs : Nat → ClassId) (m : AM) : va_W := (mK m).mapIdx (fun a k => (base + a, enc ρ cs m a k))
def tysA (cs : Nat → ClassId) : List (ClassId × FieldType) := [(cs 1, .int), (cs 2, .byte), (cs 3, .long), (cs 4, .array .int)]
def Aq (base : Nat) : Nat → Prop := fun q => base ≤ q
section REL
variable {base : Nat} {ρ : Nat → Nat} {cs : Nat → ClassId} {m : AM}
theorem kd_in {a : Nat} {k : Nat × Nat} (h : kd m a = some k) (ha : a < XB) : (mK m)[a]? = some k := by
  unfold kd at h
  rwa [if_pos ha] at h
theorem wsA_get {a : Nat} {k : Nat × Nat} (h : (mK m)[a]? = some k) : (wsA base ρ cs m)[a]? = some (base + a, enc ρ cs m a k) := by
  unfold wsA
  rw [List.getElem?_mapIdx, h]
  rfl
theorem wsA_at {a : Nat} {q : Nat × va_E} (h : (wsA base ρ cs m)[a]? = some q) : ∃ k, (mK m)[a]? = some k ∧ q = (base + a, enc ρ cs m a k) := by
  unfold wsA at h
  rw [List.getElem?_mapIdx] at h
  obtain ⟨k, h1, h2⟩ := Option.map_eq_some_iff.mp h
  exact ⟨k, h1, h2.symm⟩
theorem wsA_D : va_D (Aq base) (wsA base ρ cs m) := by
  refine ⟨fun i j p q hp hq h => ?_, fun k q hq => ?_⟩
  · obtain ⟨k1, -, rfl⟩ := wsA_at hp
    obtain ⟨k2, -, rfl⟩ := wsA_at hq
    have : base + i = base + j := h
    omega
  · obtain ⟨k1, -, rfl⟩ := wsA_at hq
    exact Nat.le_add_right _ _
theorem wsA_set {m' : AM} {a : Nat} {k : Nat × Nat} (hK : mK m' = mK m) (h : (mK m)[a]? = some k) (hne : ∀ b k', b ≠ a → enc ρ cs m' b k' = enc ρ cs m b k') : wsA base ρ cs m' = (wsA base ρ cs m).set a (base + a, enc ρ cs m' a k) := by
  apply List.ext_getElem?
  intro i
  by_cases hi : i = a
  · subst hi
    rw [wsA_get (by rw [hK]; exact h), List.getElem?_set_self]
    obtain ⟨h1, -⟩ := List.getElem?_eq_some_iff.mp (wsA_get (base := base) (ρ := ρ) (cs := cs) h)
    exact h1
  · rw [List.getElem?_set_ne (fun q => hi q.symm)]
    unfold wsA
    rw [List.getElem?_mapIdx, List.getElem?_mapIdx, hK]
    cases (mK m)[i]? with
    | none => rfl
    | some k' => simp only [Option.map_some, hne i k' hi]
theorem up2_ne {α : Type} {f : Nat → Nat → α} {a k b : Nat} {v : α} (h : b ≠ a) : up2 f a k v b = f b := by
  funext j
  unfold up2
  rw [if_neg (fun q => h q.1)]
theorem up1_ne {α : Type} {f : Nat → Nat → α} {a b : Nat} {g : Nat → α} (h : b ≠ a) : up1 f a g b = f b := if_neg h
theorem up1_self {α : Type} {f : Nat → Nat → α} {a : Nat} {g : Nat → α} : up1 f a g a = g := if_pos rfl
theorem up2_upd {f : Nat → Nat → Int32} {a k : Nat} {v : Int32} : up2 f a k v a = upd (f a) k v := by
  funext j
  unfold up2 upd
  simp only [true_and]
theorem up2_updL {f : Nat → Nat → Int64} {a k : Nat} {v : Int64} : up2 f a k v a = vp_updL (f a) k v := by
  funext j
  unfold up2 vp_updL
  simp only [true_and]
theorem flds_ext {m' : AM} {a : Nat} (hR : mR m' a = mR m a) (hI : mI m' a = mI m a) (hJ : mJ m' a = mJ m a) (ci : Nat) : flds ρ m' a ci = flds ρ m a ci := by
  unfold flds fval
  rw [hR, hI, hJ]
theorem enc_ext {m' : AM} {a : Nat} (hR : mR m' a = mR m a) (hI : mI m' a = mI m a) (hJ : mJ m' a = mJ m a) (k : Nat × Nat) : enc ρ cs m' a k = enc ρ cs m a k := by
  unfold enc
  split
  · rw [flds_ext hR hI hJ]
  · rw [hI]
  · rw [hI]
  · rw [hJ]
  · rw [hR]
theorem ws_sI {a i n : Nat} {x : Int32} (h : (mK m)[a]? = some (1, n)) : wsA base ρ cs (sI m a i x) = (wsA base ρ cs m).set a (base + a, .inl (cs 1, n, .inl (upd (mI m a) i x))) := by
  rw [wsA_set (m := m) (m' := sI m a i x) rfl h (fun b k' hb => enc_ext (m := m) (m' := sI m a i x) rfl (up2_ne hb) rfl k')]
  show List.set _ _ (base + a, Sum.inl (cs 1, n, Sum.inl (up2 (mI m) a i x a))) = _
  rw [up2_upd]
theorem ws_sIb {a i n : Nat} {x : Int32} (h : (mK m)[a]? = some (2, n)) : wsA base ρ cs (sI m a i x) = (wsA base ρ cs m).set a (base + a, .inl (cs 2, n, .inl (upd (mI m a) i x))) := by
  rw [wsA_set (m := m) (m' := sI m a i x) rfl h (fun b k' hb => enc_ext (m := m) (m' := sI m a i x) rfl (up2_ne hb) rfl k')]
  show List.set _ _ (base + a, Sum.inl (cs 2, n, Sum.inl (up2 (mI m) a i x a))) = _
  rw [up2_upd]
theorem ws_sJ {a i n : Nat} {x : Int64} (h : (mK m)[a]? = some (3, n)) : wsA base ρ cs (sJ m a i x) = (wsA base ρ cs m).set a (base + a, .inl (cs 3, n, .inr (.inl (vp_updL (mJ m a) i x)))) := by
  rw [wsA_set (m := m) (m' := sJ m a i x) rfl h (fun b k' hb => enc_ext (m := m) (m' := sJ m a i x) rfl rfl (up2_ne hb) k')]
  show List.set _ _ (base + a, Sum.inl (cs 3, n, Sum.inr (Sum.inl (up2 (mJ m) a i x a)))) = _
  rw [up2_updL]
theorem ws_sIc {a n : Nat} {g : Nat → Int32} (h : (mK m)[a]? = some (1, n)) : wsA base ρ cs (sIc m a g) = (wsA base ρ cs m).set a (base + a, .inl (cs 1, n, .inl g)) := by
  rw [wsA_set (m := m) (m' := sIc m a g) rfl h (fun b k' hb => enc_ext (m := m) (m' := sIc m a g) rfl (up1_ne hb) rfl k')]
  show List.set _ _ (base + a, Sum.inl (cs 1, n, Sum.inl (up1 (mI m) a g a))) = _
  rw [up1_self]
theorem flds_get {a ci k : Nat} (h : k < nF ci) : (flds ρ m a ci)[k]? = some (fval ρ m a k (fk ci k)) := by
  unfold flds
  rw [List.getElem?_map, List.getElem?_range h]
  rfl
theorem flds_len {a ci : Nat} : (flds ρ m a ci).length = nF ci := by
  unfold flds
  rw [List.length_map, List.length_range]
theorem flds_sI {a ci k : Nat} {x : Int32} (hk : fk ci k = 0 ∨ fk ci k = 3) : flds ρ (sI m a k x) a ci = (flds ρ m a ci).set k (.int x) := by
  apply List.ext_getElem?
  intro j
  by_cases hj : j < nF ci
  · rw [flds_get hj]
    by_cases hjk : j = k
    · subst hjk
      rw [List.getElem?_set_self (by rw [flds_len]; exact hj)]
      unfold fval
      rw [if_neg (by omega), if_neg (by omega)]
      show some (Value.int (up2 (mI m) a j x a j)) = _
      rw [show up2 (mI m) a j x a j = x from if_pos ⟨rfl, rfl⟩]
    · rw [List.getElem?_set_ne (fun q => hjk q.symm), flds_get hj]
      unfold fval
      have : mI (sI m a k x) a j = mI m a j := if_neg (fun q => hjk q.2)
      rw [this]
      rfl
  · rw [List.getElem?_eq_none (by rw [flds_len]; omega), List.getElem?_eq_none (by rw [List.length_set, flds_len]; omega)]
theorem flds_sR {a ci k : Nat} {q : Nat} (hk : fk ci k = 2) : flds ρ (sR m a k (some q)) a ci = (flds ρ m a ci).set k (.ref (ρ q)) := by
  apply List.ext_getElem?
  intro j
  by_cases hj : j < nF ci
  · rw [flds_get hj]
    by_cases hjk : j = k
    · subst hjk
      rw [List.getElem?_set_self (by rw [flds_len]; exact hj)]
      unfold fval
      rw [if_pos hk]
      show some (va_rf ((up2 (mR m) a j (some q) a j).map ρ)) = _
      rw [show up2 (mR m) a j (some q) a j = some q from if_pos ⟨rfl, rfl⟩]
      rfl
    · rw [List.getElem?_set_ne (fun q => hjk q.symm), flds_get hj]
      unfold fval
      have : mR (sR m a k (some q)) a j = mR m a j := if_neg (fun q => hjk q.2)
      rw [this]
      rfl
  · rw [List.getElem?_eq_none (by rw [flds_len]; omega), List.getElem?_eq_none (by rw [List.length_set, flds_len]; omega)]
theorem ws_fI {a ci k : Nat} {x : Int32} (h : (mK m)[a]? = some (0, ci)) (hk : fk ci k = 0 ∨ fk ci k = 3) : wsA base ρ cs (sI m a k x) = (wsA base ρ cs m).set a (base + a, .inr (ci, (flds ρ m a ci).set k (.int x))) := by
  rw [wsA_set (m := m) (m' := sI m a k x) rfl h (fun b k' hb => enc_ext (m := m) (m' := sI m a k x) rfl (up2_ne hb) rfl k')]
  show List.set _ _ (base + a, Sum.inr (ci, flds ρ (sI m a k x) a ci)) = _
  rw [flds_sI hk]
theorem ws_fR {a ci k q : Nat} (h : (mK m)[a]? = some (0, ci)) (hk : fk ci k = 2) : wsA base ρ cs (sR m a k (some q)) = (wsA base ρ cs m).set a (base + a, .inr (ci, (flds ρ m a ci).set k (.ref (ρ q)))) := by
  rw [wsA_set (m := m) (m' := sR m a k (some q)) rfl h (fun b k' hb => enc_ext (m := m) (m' := sR m a k (some q)) (up2_ne hb) rfl rfl k')]
  show List.set _ _ (base + a, Sum.inr (ci, flds ρ (sR m a k (some q)) a ci)) = _
  rw [flds_sR hk]
/-- what the world's classes and the table of kinds of fields have in common -/
theorem fk_ok : ∀ ci, ci < 13 → (clT ci).2.2 = nF ci ∧ ∀ k, k < nF ci → ((clT ci).2.1 k).2.2.2 = decide (fk ci k = 2) ∧ (fk ci k = 0 → ((clT ci).2.1 k).2.2.1 = "I") ∧ (fk ci k = 3 → ((clT ci).2.1 k).2.2.1 = "Z") ∧ ((clT ci).2.1 k).1 = (clT ci).1 := by
  decide +kernel
theorem fk_rf0 : ∀ ci, ci < 13 → ∀ k, k < nF ci → fk ci k = 2 → (match parseFieldDescriptor ((clT ci).2.1 k).2.2.1 with
  | some (.object _) => true
  | some (.array _) => true
  | _ => false) = true := by decide +kernel
theorem fk_rf {ci k : Nat} (h : ci < 13) (hk : k < nF ci) (h2 : fk ci k = 2) : ∃ ty : FieldType, parseFieldDescriptor ((clT ci).2.1 k).2.2.1 = some ty ∧ ∀ q, narrow ty (.ref q) = .ref q ∧ fits ty (.ref q) = true := by
  have h3 := fk_rf0 ci h k hk h2
  split at h3
  · rename_i ty e
    exact ⟨_, e, fun q => ⟨rfl, rfl⟩⟩
  · rename_i ty e
    exact ⟨_, e, fun q => ⟨rfl, rfl⟩⟩
  · cases h3
end REL
/-- the locals as a list of places -/
def asc (ρ : Nat → Nat) (vF : Value) (L : List (Option Value)) : List (Nat × Value) := (List.range L.length).filterMap (fun i => (ld L i).map (fun v => (i, cv ρ vF v)))
section LOC
variable {ρ : Nat → Nat} {vF : Value} {L : List (Option Value)}
theorem asc_mem {i : Nat} {w : Value} : (i, w) ∈ asc ρ vF L ↔ ∃ v, ld L i = some v ∧ w = cv ρ vF v := by
  unfold asc
  rw [List.mem_filterMap]
  constructor
  · rintro ⟨j, -, hj⟩
    obtain ⟨v, h1, h2⟩ := Option.map_eq_some_iff.mp hj
    cases h2
    exact ⟨v, h1, rfl⟩
  · rintro ⟨v, h1, rfl⟩
    refine ⟨i, ?_, by rw [h1]; rfl⟩
    rw [List.mem_range]
    unfold ld at h1
    cases h : L[i]? with
    | none => rw [h] at h1; cases h1
    | some x => exact (List.getElem?_eq_some_iff.mp h).1
def Rl (ρ : Nat → Nat) (vF : Value) (nL : Nat) (L : List (Option Value)) (ls : Array Slot) : Prop := L.length = nL ∧ lv_has ls nL (asc ρ vF L)
theorem Rl.get {nL : Nat} {ls : Array Slot} (h : Rl ρ vF nL L ls) {i : Nat} {v : Value} (hi : ld L i = some v) : ls[i]? = some (.val (cv ρ vF v)) := h.2.2.2 (i, cv ρ vF v) (asc_mem.mpr ⟨v, hi, rfl⟩)
theorem ld_set_ne {i k : Nat} {x : Option Value} (h : i ≠ k) : ld (L.set k x) i = ld L i := by
  unfold ld
  rw [List.getElem?_set_ne (fun q => h q.symm)]
theorem ld_set_self {k : Nat} {x : Option Value} (h : k < L.length) : ld (L.set k x) k = x := by
  unfold ld
  rw [List.getElem?_set_self h]
  rfl
theorem okSt_ne {k i : Nat} {v : Value} (h : okSt L k = true) (hi : i + 1 = k) (hv : ld L i = some v) : v.category = 1 := by
  subst hi
  simp only [okSt, hv] at h
  simpa using h
/-- behind a store of one place -/
theorem Rl.set1 (hF : vF.category = 1) {nL : Nat} {ls ls' : Array Slot} (h : Rl ρ vF nL L ls) {k : Nat} {x : Option Value} (hk : k < L.length) (ho : okSt L k = true) {v : Value} (hx : ∀ z, x = some z → cv ρ vF z = v)
    (h' : lv_has ls' nL ((k, v) :: (asc ρ vF L).filter (fun q => !(q.1 == k) && !(q.1 + 1 == k && q.2.category == 2)))) : Rl ρ vF nL (L.set k x) ls' := by
  refine ⟨by rw [List.length_set]; exact h.1, h'.1, h'.2.1, ?_⟩
  rintro ⟨i, w⟩ hq
  obtain ⟨z, hz, rfl⟩ := asc_mem.mp hq
  apply h'.2.2 (i, cv ρ vF z)
  by_cases hi : i = k
  · subst hi
    rw [ld_set_self hk] at hz
    rw [hx z hz]
    exact List.mem_cons_self
  · rw [ld_set_ne hi] at hz
    refine List.mem_cons_of_mem _ (List.mem_filter.mpr ⟨asc_mem.mpr ⟨z, hz, rfl⟩, ?_⟩)
    have h1 : (i == k) = false := by simpa using hi
    simp only [h1, Bool.not_false, Bool.true_and, Bool.not_eq_true', Bool.and_eq_false_iff, beq_eq_false_iff_ne]
    by_cases h2 : i + 1 = k
    · right
      rw [cv_cat hF, okSt_ne ho h2 hz]
      decide
    · exact Or.inl h2
theorem Rl.set2 (hF : vF.category = 1) {nL : Nat} {ls ls' : Array Slot} (h : Rl ρ vF nL L ls) {k : Nat} {x : Int64} (hk : k + 1 < L.length) (ho : okSt L k = true)
    (h' : lv_has ls' nL ((k, .long x) :: (asc ρ vF L).filter (fun q => !(q.1 == k) && (!(q.1 == k + 1) && !(q.1 + 1 == k && q.2.category == 2))))) : Rl ρ vF nL ((L.set k (some (.long x))).set (k + 1) none) ls' := by
  refine ⟨by rw [List.length_set, List.length_set]; exact h.1, h'.1, h'.2.1, ?_⟩
  rintro ⟨i, w⟩ hq
  obtain ⟨z, hz, rfl⟩ := asc_mem.mp hq
  apply h'.2.2 (i, cv ρ vF z)
  by_cases hi1 : i = k + 1
  · subst hi1
    rw [ld_set_self (by rw [List.length_set]; exact hk)] at hz
    cases hz
  rw [ld_set_ne hi1] at hz
  by_cases hi : i = k
  · subst hi
    rw [ld_set_self (by omega)] at hz
    cases hz
    exact List.mem_cons_self
  · rw [ld_set_ne hi] at hz
    refine List.mem_cons_of_mem _ (List.mem_filter.mpr ⟨asc_mem.mpr ⟨z, hz, rfl⟩, ?_⟩)
    have h1 : (i == k) = false := by simpa using hi
    have h1' : (i == k + 1) = false := by simpa using hi1
    simp only [h1, h1', Bool.not_false, Bool.true_and, Bool.not_eq_true', Bool.and_eq_false_iff, beq_eq_false_iff_ne]
    by_cases h2 : i + 1 = k
    · right
      rw [cv_cat hF, okSt_ne ho h2 hz]
      decide
    · exact Or.inl h2
/-- the locals at a method's entry -/
def slA (args : List Value) : List (Option Value) := args.flatMap fun v => if v.category = 2 then [some v, none] else [some v]
def entL (args : List Value) (n : Nat) : List (Option Value) := slA args ++ List.replicate (n - (slA args).length) none
theorem slA_len (hF : vF.category = 1) (args : List Value) : (lg_sl (args.map (cv ρ vF))).length = (slA args).length := by
  unfold lg_sl slA
  induction args with
  | nil => rfl
  | cons v t ih =>
    simp only [List.map_cons, List.flatMap_cons, List.length_append, ih, cv_cat hF]
    split <;> rfl
theorem ent_in (hF : vF.category = 1) (k : Nat) : ∀ (args : List Value) (i off : Nat) (v : Value), ld (slA args ++ List.replicate k none) i = some v → (off + i, cv ρ vF v) ∈ lv_args off (args.map (cv ρ vF)) := by
  intro args
  induction args with
  | nil =>
    intro i off v h
    unfold ld slA at h
    simp only [List.flatMap_nil, List.nil_append] at h
    by_cases hi : i < k
    · rw [List.getElem?_replicate, if_pos hi] at h
      cases h
    · rw [List.getElem?_replicate, if_neg hi] at h
      cases h
  | cons w t ih =>
    intro i off v h
    unfold slA at h
    rw [List.flatMap_cons] at h
    rw [List.map_cons]
    unfold lv_args
    rw [cv_cat hF]
    by_cases hc : w.category = 2
    · rw [if_pos hc] at h ⊢
      match i, h with
      | 0, h =>
        have : some w = some v := h
        cases this
        exact List.mem_cons_self
      | 1, h => cases h
      | j + 2, h =>
        have h2 : ld (slA t ++ List.replicate k none) j = some v := h
        have := ih j (off + 2) v h2
        rw [show off + (j + 2) = off + 2 + j by omega]
        exact List.mem_cons_of_mem _ this
    · rw [if_neg hc] at h ⊢
      match i, h with
      | 0, h =>
        have : some w = some v := h
        cases this
        exact List.mem_cons_self
      | j + 1, h =>
        have h2 : ld (slA t ++ List.replicate k none) j = some v := h
        have := ih j (off + 1) v h2
        rw [show off + (j + 1) = off + 1 + j by omega]
        exact List.mem_cons_of_mem _ this
theorem ent_rl (hF : vF.category = 1) {args : List Value} {n : Nat} (h : (slA args).length ≤ n) : Rl ρ vF n (entL args n) ((lg_sl (args.map (cv ρ vF)) ++ List.replicate (n - (lg_sl (args.map (cv ρ vF))).length) Slot.unset).toArray) := by
  have h1 := lv_entry (args.map (cv ρ vF)) (n := n) (by rw [slA_len hF]; exact h)
  refine ⟨?_, h1.1, h1.2.1, ?_⟩
  · unfold entL
    rw [List.length_append, List.length_replicate]
    omega
  · rintro ⟨i, w⟩ hq
    obtain ⟨v, hv, rfl⟩ := asc_mem.mp hq
    have h2 := ent_in (ρ := ρ) hF (n - (slA args).length) args i 0 v hv
    rw [Nat.zero_add] at h2
    exact h1.2.2 _ h2
end LOC
