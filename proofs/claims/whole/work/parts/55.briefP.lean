/-! SHORT: what both sides reckon -/
def pcN (u : Nat) : Nat := accF (fun p a => a + tb u p) 6 0 0
def lnN (h : Hs) (u : Nat) : Nat := accF (fun p a => a + tb u p * h 1 p) 6 0 0
theorem tb_or {u p q : Nat} : tb (u ||| 2 ^ p) q = if q = p then 1 else tb u q := by
  rw [tb_eq, tb_eq, Nat.testBit_or, Nat.testBit_two_pow]
  by_cases e : q = p
  · subst e
    simp
  · have : ¬ p = q := fun z => e z.symm
    simp [e, this]
theorem pc_or {u p : Nat} (hp : p < 6) (hb : u.testBit p = false) : pcN (u ||| 2 ^ p) = pcN u + 1 := by
  have h0 := tb_test0.mpr hb
  unfold pcN accF accF accF accF accF accF accF
  simp only [tb_or]
  have : p = 0 ∨ p = 1 ∨ p = 2 ∨ p = 3 ∨ p = 4 ∨ p = 5 := by omega
  rcases this with rfl | rfl | rfl | rfl | rfl | rfl <;> simp <;> omega
theorem ln_or {h : Hs} {u p : Nat} (hp : p < 6) (hb : u.testBit p = false) : lnN h (u ||| 2 ^ p) = lnN h u + h 1 p := by
  have h0 := tb_test0.mpr hb
  unfold lnN accF accF accF accF accF accF accF
  simp only [tb_or]
  have : p = 0 ∨ p = 1 ∨ p = 2 ∨ p = 3 ∨ p = 4 ∨ p = 5 := by omega
  rcases this with rfl | rfl | rfl | rfl | rfl | rfl <;> simp [h0] <;> omega
theorem pc_le {u np : Nat} (h6 : np ≤ 6) (hu : u < 2 ^ np) : pcN u ≤ np := by
  have key : ∀ p, tb u p ≤ if p < np then 1 else 0 := by
    intro p
    by_cases z : p < np
    · rw [if_pos z]
      have := tb_lt (b := u) (k := p)
      omega
    · rw [if_neg z, tb_test0.mpr (Nat.testBit_lt_two_pow (Nat.lt_of_lt_of_le hu (Nat.pow_le_pow_right (by decide) (by omega))))]
      exact Nat.le_refl _
  have k0 := key 0
  have k1 := key 1
  have k2 := key 2
  have k3 := key 3
  have k4 := key 4
  have k5 := key 5
  unfold pcN accF accF accF accF accF accF accF
  have : np = 0 ∨ np = 1 ∨ np = 2 ∨ np = 3 ∨ np = 4 ∨ np = 5 ∨ np = 6 := by omega
  rcases this with rfl | rfl | rfl | rfl | rfl | rfl | rfl <;> simp at k0 k1 k2 k3 k4 k5 <;> simp <;> omega
theorem ln_le {h : Hs} {u : Nat} (ok : HOK h) (hu : u < 2 ^ h 0 0) : lnN h u ≤ 180 := by
  have h6 := ok.1
  have key : ∀ p, tb u p * h 1 p ≤ 30 := by
    intro p
    by_cases z : p < h 0 0
    · have h1 := (ok.2.2.2.1 p z).2.1
      have h2 := tb_lt (b := u) (k := p)
      have : tb u p = 0 ∨ tb u p = 1 := by omega
      rcases this with e | e
      · rw [e]; omega
      · rw [e]; omega
    · rw [tb_test0.mpr (Nat.testBit_lt_two_pow (Nat.lt_of_lt_of_le hu (Nat.pow_le_pow_right (by decide) (by omega))))]
      omega
  have k0 := key 0
  have k1 := key 1
  have k2 := key 2
  have k3 := key 3
  have k4 := key 4
  have k5 := key 5
  unfold lnN accF accF accF accF accF accF accF
  simp only [Nat.reduceAdd, Nat.zero_add]
  omega
/-- the first by which g tells a row -/
def srF (g : Nat → Option (List Nat)) : Nat → Nat → Option (List Nat)
  | 0, _ => none
  | q + 1, w => match g w with
    | some s => some (w :: s)
    | none => srF g q (w + 1)
section BP
variable (h : Hs) (m nL : Nat) (cd : Cd) (N : Nt) (f : Nat)
/-- what is left behind way w as the k-th, flow fl coming -/
def lfN (w fl k : Nat) : Nat := nv (lwl cd nL (nI fl) (nI (h 4 (w / 2))) (nI (h 1 (w / 2))) (N (12 + w / 2)) (N (18 + w / 2)) (nI k) (nI (w % 2)) (N 29) (nI (w / 2)))
def rcN (u fl : Nat) : Bool := decide (h 7 f ≤ lnN h u) && decide (h 8 f ≤ fl)
/-- the first row of k ways more by which the fire is reached -/
def sE : Nat → Nat → Option Nat → Nat → Option (List Nat)
  | 0, u, _, fl => if rcN h f u fl = true then some [] else none
  | k + 1, u, l, fl => srF (fun w => if cfw h m u l w = true then sE k (u ||| 2 ^ (w / 2)) (some w) (lfN h nL cd N w fl (pcN u)) else none) (2 * h 0 0) 0
/-- the shortest: from k on, K looked at -/
def shF (u : Nat) (l : Option Nat) (fl : Nat) : Nat → Nat → Option (Nat × List Nat)
  | 0, _ => none
  | K + 1, k => match sE h m nL cd N f k u l fl with
    | some s => some (k, s)
    | none => shF u l fl K (k + 1)
def shN (K u : Nat) (l : Option Nat) (fl : Nat) : Option (Nat × List Nat) := shF h m nL cd N f u l fl K 0
end BP
/-- a better one is taken -/
def btr (b o : Option (Nat × List Nat)) : Option (Nat × List Nat) := match o with
  | none => b
  | some y => match b with
    | none => some y
    | some z => if y.1 < z.1 then some y else some z
/-- behind a row that is there -/
def shf (j : Nat) (pre : List Nat) (o : Option (Nat × List Nat)) : Option (Nat × List Nat) := o.map fun y => (j + y.1, pre ++ y.2)
theorem btr_none {b : Option (Nat × List Nat)} : btr b none = b := rfl
theorem srF_some {g : Nat → Option (List Nat)} {s : List Nat} : ∀ q w, srF g q w = some s → ∃ w' s', s = w' :: s' ∧ w ≤ w' ∧ w' < w + q ∧ g w' = some s' ∧ ∀ i, w ≤ i → i < w' → g i = none
  | 0, w, e => by cases e
  | q + 1, w, e => by
    unfold srF at e
    rcases hg : g w with _ | s'
    · rw [hg] at e
      obtain ⟨w', s', h1, h2, h3, h4, h5⟩ := srF_some q (w + 1) e
      refine ⟨w', s', h1, by omega, by omega, h4, fun i i1 i2 => ?_⟩
      rcases Nat.eq_or_lt_of_le i1 with z | z
      · subst z
        exact hg
      · exact h5 i z i2
    · rw [hg] at e
      cases e
      exact ⟨w, s', rfl, Nat.le_refl _, by omega, hg, fun i i1 i2 => by omega⟩
theorem srF_none {g : Nat → Option (List Nat)} : ∀ q w, srF g q w = none ↔ ∀ i, w ≤ i → i < w + q → g i = none
  | 0, w => ⟨fun _ i h1 h2 => (by omega), fun _ => rfl⟩
  | q + 1, w => by
    unfold srF
    rcases hg : g w with _ | s'
    · simp only
      rw [srF_none q (w + 1)]
      constructor
      · intro hi i h1 h2
        rcases Nat.eq_or_lt_of_le h1 with z | z
        · subst z
          exact hg
        · exact hi i z (by omega)
      · intro hi i h1 h2
        exact hi i (by omega) (by omega)
    · simp only
      constructor
      · intro e
        cases e
      · intro hi
        rw [hi w (Nat.le_refl _) (by omega)] at hg
        cases hg
section BQ
variable {h : Hs} {m nL : Nat} {cd : Cd} {N : Nt} {f u fl : Nat} {l : Option Nat}
theorem lf_eq {w k : Nat} : lwl cd nL (nI fl) (nI (h 4 (w / 2))) (nI (h 1 (w / 2))) (N (12 + w / 2)) (N (18 + w / 2)) (nI k) (nI (w % 2)) (N 29) (nI (w / 2)) = nI (lfN h nL cd N w fl k) ∧ lfN h nL cd N w fl k ≤ 99 := by
  obtain ⟨v, h1, h2⟩ := lwl_le (cd := cd) (nL := nL) (fl := nI fl) (lo := nI (h 4 (w / 2))) (le := nI (h 1 (w / 2))) (be := N (12 + w / 2)) (bu := N (18 + w / 2)) (pl := nI k) (tu := nI (w % 2)) (ho := N 29) (pi := nI (w / 2))
  unfold lfN
  rw [h2, nv_n (by omega)]
  exact ⟨rfl, h1⟩
theorem sE_len : ∀ k u l fl s, sE h m nL cd N f k u l fl = some s → s.length = k
  | 0, u, l, fl, s, e => by
    unfold sE at e
    by_cases z : rcN h f u fl = true
    · rw [if_pos z] at e
      cases e
      rfl
    · rw [if_neg z] at e
      cases e
  | k + 1, u, l, fl, s, e => by
    unfold sE at e
    obtain ⟨w', s', h1, h2, h3, h4, -⟩ := srF_some _ _ e
    subst h1
    by_cases z : cfw h m u l w' = true
    · rw [if_pos z] at h4
      rw [List.length_cons, sE_len k _ _ _ s' h4]
    · rw [if_neg z] at h4
      cases h4
theorem sE_far (ok : HOK h) : ∀ k u l fl, u < 2 ^ h 0 0 → h 0 0 < k + pcN u → sE h m nL cd N f k u l fl = none
  | 0, u, l, fl, hu, hk => by
    have := pc_le ok.1 hu
    omega
  | k + 1, u, l, fl, hu, hk => by
    have h6 := ok.1
    unfold sE
    rw [srF_none]
    intro w _ hw
    by_cases z : cfw h m u l w = true
    · rw [if_pos z]
      have e := pc_or (u := u) (p := w / 2) (by omega) (cfw_bit z)
      exact sE_far ok k _ _ _ (or_np hu (by omega)) (by omega)
    · rw [if_neg z]
theorem shF_some {k : Nat} {s : List Nat} : ∀ K j, shF h m nL cd N f u l fl K j = some (k, s) ↔ j ≤ k ∧ k < j + K ∧ sE h m nL cd N f k u l fl = some s ∧ ∀ i, j ≤ i → i < k → sE h m nL cd N f i u l fl = none
  | 0, j => ⟨fun e => (by cases e), fun ⟨h1, h2, _⟩ => (by omega)⟩
  | K + 1, j => by
    unfold shF
    rcases hs : sE h m nL cd N f j u l fl with _ | s'
    · simp only
      rw [shF_some K (j + 1)]
      constructor
      · rintro ⟨h1, h2, h3, h4⟩
        refine ⟨by omega, by omega, h3, fun i i1 i2 => ?_⟩
        rcases Nat.eq_or_lt_of_le i1 with z | z
        · subst z
          exact hs
        · exact h4 i z i2
      · rintro ⟨h1, h2, h3, h4⟩
        have : ¬ k = j := by
          intro e
          subst e
          rw [hs] at h3
          cases h3
        exact ⟨by omega, by omega, h3, fun i i1 i2 => h4 i (by omega) i2⟩
    · simp only [Option.some.injEq, Prod.mk.injEq]
      constructor
      · rintro ⟨h1, h2⟩
        subst h1 h2
        exact ⟨Nat.le_refl _, by omega, hs, fun i i1 i2 => by omega⟩
      · rintro ⟨h1, h2, h3, h4⟩
        rcases Nat.eq_or_lt_of_le h1 with z | z
        · subst z
          rw [hs] at h3
          exact ⟨rfl, Option.some.inj h3⟩
        · have := h4 j (Nat.le_refl _) z
          rw [hs] at this
          cases this
theorem shF_none : ∀ K j, shF h m nL cd N f u l fl K j = none ↔ ∀ i, j ≤ i → i < j + K → sE h m nL cd N f i u l fl = none
  | 0, j => ⟨fun _ i h1 h2 => (by omega), fun _ => rfl⟩
  | K + 1, j => by
    unfold shF
    rcases hs : sE h m nL cd N f j u l fl with _ | s'
    · simp only
      rw [shF_none K (j + 1)]
      constructor
      · intro hi i h1 h2
        rcases Nat.eq_or_lt_of_le h1 with z | z
        · subst z
          exact hs
        · exact hi i z (by omega)
      · intro hi i h1 h2
        exact hi i (by omega) (by omega)
    · simp only
      constructor
      · intro e
        cases e
      · intro hi
        rw [hi j (Nat.le_refl _) (by omega)] at hs
        cases hs
theorem shN_some {K k : Nat} {s : List Nat} : shN h m nL cd N f K u l fl = some (k, s) ↔ k < K ∧ sE h m nL cd N f k u l fl = some s ∧ ∀ i, i < k → sE h m nL cd N f i u l fl = none := by
  unfold shN
  rw [shF_some]
  constructor
  · rintro ⟨-, h2, h3, h4⟩
    exact ⟨by omega, h3, fun i hi => h4 i (Nat.zero_le _) hi⟩
  · rintro ⟨h2, h3, h4⟩
    exact ⟨Nat.zero_le _, by omega, h3, fun i _ hi => h4 i hi⟩
theorem shN_none {K : Nat} : shN h m nL cd N f K u l fl = none ↔ ∀ i, i < K → sE h m nL cd N f i u l fl = none := by
  unfold shN
  rw [shF_none]
  constructor
  · intro hi i h1
    exact hi i (Nat.zero_le _) (by omega)
  · intro hi i _ h1
    exact hi i (by omega)
/-- one way of going on -/
def chl (h : Hs) (m nL : Nat) (cd : Cd) (N : Nt) (f u : Nat) (l : Option Nat) (fl K w : Nat) : Option (Nat × List Nat) := if cfw h m u l w = true then shf 1 [w] (shN h m nL cd N f K (u ||| 2 ^ (w / 2)) (some w) (lfN h nL cd N w fl (pcN u))) else none
/-- all ways from w on, tried one after the other -/
def flB (h : Hs) (m nL : Nat) (cd : Cd) (N : Nt) (f u : Nat) (l : Option Nat) (fl K : Nat) (j : Nat) (pre : List Nat) (w : Nat) (B : Option (Nat × List Nat)) : Option (Nat × List Nat) := btr B (shf j pre (chl h m nL cd N f u l fl K w))
theorem bs_reach {K : Nat} (hr : rcN h f u fl = true) : shN h m nL cd N f (K + 1) u l fl = some (0, []) := by
  rw [shN_some]
  refine ⟨by omega, ?_, fun i hi => by omega⟩
  unfold sE
  rw [if_pos hr]
/-- what the shortest is, by its first way -/
theorem bs_step {K : Nat} (hr : rcN h f u fl = false) (y : Nat × List Nat) : shN h m nL cd N f (K + 1) u l fl = some y ↔ ∃ w, w < 2 * h 0 0 ∧ chl h m nL cd N f u l fl K w = some y ∧ (∀ i, i < w → ∀ z, chl h m nL cd N f u l fl K i = some z → y.1 < z.1) ∧ ∀ i, i < 2 * h 0 0 → ∀ z, chl h m nL cd N f u l fl K i = some z → y.1 ≤ z.1 := by
  have h0 : sE h m nL cd N f 0 u l fl = none := by
    unfold sE
    rw [if_neg (by rw [hr]; decide)]
  have hch : ∀ w k s, chl h m nL cd N f u l fl K w = some (k, s) ↔ ∃ k' s', k = k' + 1 ∧ s = w :: s' ∧ cfw h m u l w = true ∧ shN h m nL cd N f K (u ||| 2 ^ (w / 2)) (some w) (lfN h nL cd N w fl (pcN u)) = some (k', s') := by
    intro w k s
    unfold chl shf
    by_cases z : cfw h m u l w = true
    · rw [if_pos z]
      rcases shN h m nL cd N f K (u ||| 2 ^ (w / 2)) (some w) (lfN h nL cd N w fl (pcN u)) with _ | ⟨k', s'⟩
      · simp
      · simp only [Option.map_some, Option.some.injEq, Prod.mk.injEq]
        constructor
        · rintro ⟨e1, e2⟩
          exact ⟨k', s', by omega, e2.symm, z, rfl, rfl⟩
        · rintro ⟨k2, s2, e1, e2, -, e3, e4⟩
          subst e3 e4
          exact ⟨by omega, e2.symm⟩
    · rw [if_neg z]
      simp [z]
  have hsE : ∀ k w, (if cfw h m u l w = true then sE h m nL cd N f k (u ||| 2 ^ (w / 2)) (some w) (lfN h nL cd N w fl (pcN u)) else none) = none ↔ (cfw h m u l w = true → sE h m nL cd N f k (u ||| 2 ^ (w / 2)) (some w) (lfN h nL cd N w fl (pcN u)) = none) := by
    intro k w
    by_cases z : cfw h m u l w = true
    · rw [if_pos z]
      exact ⟨fun e _ => e, fun e => e z⟩
    · rw [if_neg z]
      exact ⟨fun _ q => absurd q z, fun _ => rfl⟩
  obtain ⟨k, s⟩ := y
  rw [shN_some]
  constructor
  · rintro ⟨hk, hs, hl⟩
    rcases k with _ | k
    · rw [h0] at hs
      cases hs
    · unfold sE at hs
      obtain ⟨w, s', e1, -, e3, e4, e5⟩ := srF_some _ _ hs
      by_cases z : cfw h m u l w = true
      · rw [if_pos z] at e4
        have low : ∀ i, i < k → ∀ w', w' < 2 * h 0 0 → cfw h m u l w' = true → sE h m nL cd N f i (u ||| 2 ^ (w' / 2)) (some w') (lfN h nL cd N w' fl (pcN u)) = none := by
          intro i hi w' hw' z'
          have := hl (i + 1) (by omega)
          unfold sE at this
          rw [srF_none] at this
          exact (hsE i w').mp (this w' (by omega) (by omega)) z'
        refine ⟨w, by omega, (hch w _ _).mpr ⟨k, s', rfl, e1, z, ?_⟩, ?_, ?_⟩
        · rw [shN_some]
          exact ⟨by omega, e4, fun i hi => low i hi w (by omega) z⟩
        · rintro i hi ⟨kz, sz⟩ hz
          obtain ⟨k2, s2, a1, a2, a3, a4⟩ := (hch i kz sz).mp hz
          rw [shN_some] at a4
          show k + 1 < kz
          have n1 := (hsE k i).mp (e5 i (by omega) hi) a3
          rcases Nat.lt_trichotomy k2 k with q | q | q
          · have := low k2 q i (by omega) a3
            rw [a4.2.1] at this
            cases this
          · subst q
            rw [a4.2.1] at n1
            cases n1
          · omega
        · rintro i hi ⟨kz, sz⟩ hz
          obtain ⟨k2, s2, a1, a2, a3, a4⟩ := (hch i kz sz).mp hz
          rw [shN_some] at a4
          show k + 1 ≤ kz
          rcases Nat.lt_or_ge k2 k with q | q
          · have := low k2 q i hi a3
            rw [a4.2.1] at this
            cases this
          · omega
      · rw [if_neg z] at e4
        cases e4
  · rintro ⟨w, hw, hc, hlt, hle⟩
    obtain ⟨k', s', e1, e2, e3, e4⟩ := (hch w k s).mp hc
    subst e1 e2
    rw [shN_some] at e4
    have low : ∀ i, i < k' → ∀ w', w' < 2 * h 0 0 → cfw h m u l w' = true → sE h m nL cd N f i (u ||| 2 ^ (w' / 2)) (some w') (lfN h nL cd N w' fl (pcN u)) = none := by
      intro i hi w' hw' z'
      rcases hb : shN h m nL cd N f K (u ||| 2 ^ (w' / 2)) (some w') (lfN h nL cd N w' fl (pcN u)) with _ | ⟨kz, sz⟩
      · rw [shN_none] at hb
        exact hb i (by omega)
      · have := hle w' hw' (kz + 1, w' :: sz) ((hch w' _ _).mpr ⟨kz, sz, rfl, rfl, z', hb⟩)
        have : k' + 1 ≤ kz + 1 := this
        rw [shN_some] at hb
        exact hb.2.2 i (by omega)
    refine ⟨by omega, ?_, fun i hi => ?_⟩
    · unfold sE
      have key : ∀ q v, v ≤ w → v + q = 2 * h 0 0 → srF (fun w => if cfw h m u l w = true then sE h m nL cd N f k' (u ||| 2 ^ (w / 2)) (some w) (lfN h nL cd N w fl (pcN u)) else none) q v = some (w :: s') := by
        intro q
        induction q with
        | zero => intro v h1 h2; omega
        | succ q ih =>
          intro v h1 h2
          unfold srF
          rcases Nat.eq_or_lt_of_le h1 with z | z
          · subst z
            rw [if_pos e3, e4.2.1]
          · have n1 : (if cfw h m u l v = true then sE h m nL cd N f k' (u ||| 2 ^ (v / 2)) (some v) (lfN h nL cd N v fl (pcN u)) else none) = none := by
              rw [hsE]
              intro z'
              rcases hb : shN h m nL cd N f K (u ||| 2 ^ (v / 2)) (some v) (lfN h nL cd N v fl (pcN u)) with _ | ⟨kz, sz⟩
              · rw [shN_none] at hb
                exact hb k' (by omega)
              · have := hlt v z (kz + 1, v :: sz) ((hch v _ _).mpr ⟨kz, sz, rfl, rfl, z', hb⟩)
                have : k' + 1 < kz + 1 := this
                rw [shN_some] at hb
                exact hb.2.2 k' (by omega)
            rw [n1]
            exact ih (v + 1) (by omega) (by omega)
      exact key (2 * h 0 0) 0 (by omega) (by omega)
    · rcases i with _ | i
      · exact h0
      · unfold sE
        rw [srF_none]
        intro w' _ hw'
        exact (hsE i w').mpr (fun z' => low i (by omega) w' (by omega) z')
end BQ
