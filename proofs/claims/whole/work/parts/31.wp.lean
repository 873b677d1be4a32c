/-! RUNS THAT END: words and rules -/
/-- a truth as the machine answers it -/
def bI (b : Bool) : Int32 := if b = true then nI 1 else nI 0
theorem bI_b01 {b : Bool} : b01 (bI b) = true := by cases b <;> rfl
theorem bI_t : bI true = nI 1 := rfl
theorem bI_f : bI false = nI 0 := rfl
theorem bI_0 {b : Bool} : bI b = nI 0 ↔ b = false := by cases b <;> decide
theorem bI_1 {b : Bool} : bI b = nI 1 ↔ b = true := by cases b <;> decide
abbrev MI32 : Type := Nat → Nat → Int32
abbrev MI64 : Type := Nat → Nat → Int64
abbrev rI (v : Int32) (m : AM) : Option (RS × AM) := some (.inl (some (.int v)), m)
abbrev rL (v : Int64) (m : AM) : Option (RS × AM) := some (.inl (some (.long v)), m)
abbrev rV (m : AM) : Option (RS × AM) := some (.inl none, m)
abbrev rB (b : Bool) (m : AM) : Option (RS × AM) := some (.inl (some (.int (bI b))), m)
theorem bnd_e {x : Option (RS × AM)} {v : Option Value} {m' : AM} {k : Option Value → AM → Option (RS × AM)} (h : x = some (.inl v, m')) : bnd x k = k v m' := by rw [h]; rfl
theorem bndN_e {x : Option (RS × AM)} {v : Option Value} {m' : AM} {k : Option Value → AM → Option (RS × AM)} (h : x = some (.inl v, m')) : bndN x k = k v m' := by rw [h]; rfl
theorem bnd_x {x : Option (RS × AM)} {e : Nat} {m' : AM} {k : Option Value → AM → Option (RS × AM)} (h : x = some (.inr e, m')) : bnd x k = some (.inr e, m') := by rw [h]; rfl
/-- it ends with r, ints and longs then being as Q says -/
def Rt (L X : Nat) (x : Option (RS × AM)) (r : Option Value) (Q : MI32 → MI64 → Prop) : Prop := ∃ (I' : MI32) (J' : MI64), x = some (.inl r, mm L X I' J') ∧ Q I' J'
section RT
variable {L X : Nat} {I : MI32} {J : MI64} {x y : Option (RS × AM)} {r r0 : Option Value} {Q Q0 : MI32 → MI64 → Prop} {f : Option Value → AM → Option (RS × AM)}
theorem rt_eq (h : x = y) (g : Rt L X y r Q) : Rt L X x r Q := h ▸ g
theorem rt_ret (h : Q I J) : Rt L X (some (.inl r, mm L X I J)) r Q := ⟨I, J, rfl, h⟩
theorem rt_end (e : x = some (.inl r, mm L X I J)) (h : Q I J) : Rt L X x r Q := ⟨I, J, e, h⟩
theorem rt_gd {b : Bool} (h : b = true) (g : Rt L X x r Q) : Rt L X (gd b x) r Q := by rw [gd_t h]; exact g
theorem rt_t {p : Prop} [Decidable p] (h : p) (g : Rt L X x r Q) : Rt L X (if p then x else y) r Q := by rw [if_pos h]; exact g
theorem rt_f {p : Prop} [Decidable p] (h : ¬ p) (g : Rt L X y r Q) : Rt L X (if p then x else y) r Q := by rw [if_neg h]; exact g
theorem rt_if {p : Prop} [Decidable p] (h : p → Rt L X x r Q) (g : ¬ p → Rt L X y r Q) : Rt L X (if p then x else y) r Q := by
  by_cases hp : p
  · exact rt_t hp (h hp)
  · exact rt_f hp (g hp)
theorem rt_bnd (g : Rt L X x r0 Q0) (k : ∀ I' J', Q0 I' J' → Rt L X (f r0 (mm L X I' J')) r Q) : Rt L X (bnd x f) r Q := by
  obtain ⟨I', J', e, h⟩ := g
  rw [e]
  exact k I' J' h
theorem rt_bndN (g : Rt L X x r0 Q0) (k : ∀ I' J', Q0 I' J' → Rt L X (f r0 (mm L X I' J')) r Q) : Rt L X (bndN x f) r Q := by
  obtain ⟨I', J', e, h⟩ := g
  rw [e]
  exact k I' J' h
theorem rt_be (g : x = some (.inl r0, mm L X I J)) (k : Rt L X (f r0 (mm L X I J)) r Q) : Rt L X (bnd x f) r Q := by
  rw [g]
  exact k
theorem rt_bne (g : x = some (.inl r0, mm L X I J)) (k : Rt L X (f r0 (mm L X I J)) r Q) : Rt L X (bndN x f) r Q := by
  rw [g]
  exact k
theorem rt_mono (g : Rt L X x r Q0) (h : ∀ I' J', Q0 I' J' → Q I' J') : Rt L X x r Q := by
  obtain ⟨I', J', e, q⟩ := g
  exact ⟨I', J', e, h _ _ q⟩
theorem rt_r {r' : Option Value} (g : Rt L X x r Q) (h : r = r') : Rt L X x r' Q := h ▸ g
end RT
/-! cells -/
section UP
variable {α : Type} {f : Nat → Nat → α} {a b k j : Nat} {v : α} {g : Nat → α}
theorem up2_s : up2 f a k v a k = v := if_pos ⟨rfl, rfl⟩
theorem up2_n (h : ¬ b = a) : up2 f a k v b = f b := funext fun _ => if_neg (fun q => h q.1)
theorem up2_k (h : ¬ j = k) : up2 f a k v b j = f b j := if_neg (fun q => h q.2)
theorem up2_ap : up2 f a k v b j = if b = a ∧ j = k then v else f b j := rfl
theorem up2_at : up2 f a k v a j = if j = k then v else f a j := by
  unfold up2
  by_cases h : j = k
  · rw [if_pos ⟨rfl, h⟩, if_pos h]
  · rw [if_neg (fun q => h q.2), if_neg h]
theorem up1_s : up1 f a g a = g := if_pos rfl
theorem up1_n (h : ¬ b = a) : up1 f a g b = f b := if_neg h
end UP
/-- frames: (a, 0) all of cell a, (a, k + 1) its place k -/
abbrev Fls : Type := List (Nat × Nat)
def inF (l : Fls) (a k : Nat) : Bool := l.any fun e => e.1 == a && (e.2 == 0 || e.2 == k + 1)
/-- all but l is as it was -/
def Fr (l : Fls) (I I' : MI32) : Prop := ∀ a k, inF l a k = false → I' a k = I a k
/-- all of l is as it was -/
def Ag (l : Fls) (I I' : MI32) : Prop := ∀ a k, inF l a k = true → I' a k = I a k
def dj (l s : Fls) : Bool := l.all fun e => s.all fun g => !(e.1 == g.1 && (e.2 == 0 || g.2 == 0 || e.2 == g.2))
def sbF (l s : Fls) : Bool := l.all fun e => s.any fun g => e.1 == g.1 && (g.2 == 0 || e.2 == g.2)
section FR
variable {l s : Fls} {I I' I'' : MI32} {a k : Nat} {v : Int32}
theorem fr_rfl : Fr l I I := fun _ _ _ => rfl
theorem fr_tr (h : Fr l I I') (g : Fr l I' I'') : Fr l I I'' := fun a k q => (g a k q).trans (h a k q)
theorem inF_t : inF l a k = true ↔ ∃ e, e ∈ l ∧ e.1 = a ∧ (e.2 = 0 ∨ e.2 = k + 1) := by
  simp only [inF, List.any_eq_true, Bool.and_eq_true, beq_iff_eq, Bool.or_eq_true]
theorem sb_in (h : sbF l s = true) (q : inF l a k = true) : inF s a k = true := by
  rw [inF_t] at q ⊢
  obtain ⟨e, h1, h2, h3⟩ := q
  simp only [sbF, List.all_eq_true, List.any_eq_true, Bool.and_eq_true, beq_iff_eq, Bool.or_eq_true] at h
  obtain ⟨g, g1, g2, g3⟩ := h e h1
  refine ⟨g, g1, g2 ▸ h2, ?_⟩
  rcases g3 with g3 | g3
  · exact .inl g3
  · rw [g3] at h3
    exact h3
theorem fr_mono (h : Fr l I I') (g : sbF l s = true) : Fr s I I' := by
  intro a k q
  refine h a k ?_
  by_cases hc : inF l a k = true
  · rw [sb_in g hc] at q
    cases q
  · simpa using hc
theorem fr_tr2 {l2 : Fls} (h : Fr l I I') (g : Fr l2 I' I'') (q : sbF l2 l = true) : Fr l I I'' := fr_tr h (fr_mono g q)
theorem fr_up (h : Fr l I I') (g : inF l a k = true) : Fr l I (up2 I' a k v) := by
  intro b j q
  refine Eq.trans ?_ (h b j q)
  refine if_neg (fun e => ?_)
  rw [e.1, e.2, g] at q
  cases q
theorem fr_upc (h : Fr l I I') (g : ∀ j, inF l a j = true) : Fr l I (up2 I' a k v) := fr_up h (g k)
theorem fr_up1 {w : Nat → Int32} (h : Fr l I I') (g : ∀ j, inF l a j = true) : Fr l I (up1 I' a w) := by
  intro b j q
  refine Eq.trans ?_ (h b j q)
  refine congrFun (up1_n (fun e => ?_)) j
  rw [e, g] at q
  cases q
theorem ag_of (h : Fr l I I') (d : dj l s = true) : Ag s I I' := by
  intro a k q
  refine h a k ?_
  by_cases hc : inF l a k = true
  · rw [inF_t] at hc q
    obtain ⟨e, h1, h2, h3⟩ := hc
    obtain ⟨g, g1, g2, g3⟩ := q
    simp only [dj, List.all_eq_true, Bool.not_eq_true', Bool.and_eq_false_iff, beq_eq_false_iff_ne, Bool.or_eq_false_iff] at d
    rcases d e h1 g g1 with d | d
    · exact absurd (h2.trans g2.symm) d
    · exfalso
      omega
  · simpa using hc
theorem ag_sub (h : Ag s I I') (g : sbF l s = true) : Ag l I I' := fun a k q => h a k (sb_in g q)
theorem ag_rfl : Ag s I I := fun _ _ _ => rfl
theorem ag_tr (h : Ag s I I') (g : Ag s I' I'') : Ag s I I'' := fun a k q => (g a k q).trans (h a k q)
end FR
/-- the cells b, b + 1 .. b + n - 1 -/
def cells (b n : Nat) : Fls := (List.range n).map fun j => (b + j, 0)
theorem in_cells {b n j k : Nat} (h : j < n) : inF (cells b n) (b + j) k = true := by
  rw [inF_t]
  exact ⟨(b + j, 0), List.mem_map.mpr ⟨j, List.mem_range.mpr h, rfl⟩, rfl, .inl rfl⟩
theorem inF_app {l s : Fls} {a k : Nat} : inF (l ++ s) a k = (inF l a k || inF s a k) := by
  simp [inF]
/-! numbers -/
section NU
variable {a b k n : Nat}
theorem inb_n (h : k < n) (hn : n < 2 ^ 31) : inb (nI k) n = true := by
  have h1 : ¬ nI k < 0 := nI_pos (by omega)
  have h2 : (nI k).toNatClampNeg = k := nI_clamp (by omega)
  simp only [inb, h1, h2, decide_false, Bool.not_false, Bool.true_and, decide_eq_true_eq]
  exact h
theorem inb_f (h : n ≤ k) (hk : k < 2 ^ 31) : inb (nI k) n = false := by
  have h2 : (nI k).toNatClampNeg = k := nI_clamp hk
  simp only [inb, h2, Bool.and_eq_false_iff, decide_eq_false_iff_not]
  exact .inr (by omega)
theorem inb_of {x : Int32} (h : inb x n = true) (hn : n < 2 ^ 31) : ∃ j, j < n ∧ x = nI j := vp_in_of (inb_in h) hn
theorem nI_m1 : ∀ n : Nat, n < 2 ^ 31 → ¬ nI n = -1 := by
  intro n hn h
  have := congrArg Int32.toInt h
  rw [nI_toInt hn] at this
  have h2 : (-1 : Int32).toInt = -1 := by decide
  omega
theorem inb_m1 : inb (-1) n = false := by
  have : ((-1 : Int32) < 0) = True := by decide
  simp [inb, this]
end NU
/-- going on n times -/
def itN {α : Type} (f : Nat → α → α) : Nat → α → α
  | 0, a => a
  | n + 1, a => f n (itN f n a)
theorem itN_s {α : Type} {f : Nat → α → α} {n : Nat} {a : α} : itN f (n + 1) a = f n (itN f n a) := rfl
theorem itN_congr {α : Type} {f g : Nat → α → α} {a : α} : ∀ n, (∀ k, k < n → ∀ x, f k x = g k x) → itN f n a = itN g n a
  | 0, _ => rfl
  | n + 1, h => by rw [itN_s, itN_s, itN_congr n (fun k hk => h k (by omega)), h n (by omega)]
