/-! ROWS THAT CAN BE JOINED: what both sides reckon -/
/-- may w come behind l -/
def nxt (h : Hs) (m : Nat) (l : Option Nat) (w : Nat) : Bool := match l with
  | none => true
  | some v => fol h m v w
def cfw (h : Hs) (m u : Nat) (l : Option Nat) (w : Nat) : Bool := !u.testBit (w / 2) && nxt h m l w
def mxA (P : Nat → Bool) (g : Nat → Nat) (w a : Nat) : Nat := if P w = true then Nat.max a (g w) else a
theorem mx_ge {P : Nat → Bool} {g : Nat → Nat} : ∀ q j a, a ≤ accF (mxA P g) q j a
  | 0, _, _ => Nat.le_refl _
  | q + 1, j, a => by
    refine Nat.le_trans ?_ (mx_ge q (j + 1) (mxA P g j a))
    unfold mxA
    by_cases hp : P j = true
    · rw [if_pos hp]
      exact Nat.le_max_left _ _
    · rw [if_neg hp]
      exact Nat.le_refl _
theorem mx_all {P : Nat → Bool} {g : Nat → Nat} : ∀ q j a w, j ≤ w → w < j + q → P w = true → g w ≤ accF (mxA P g) q j a
  | 0, _, _, _, h1, h2, _ => by omega
  | q + 1, j, a, w, h1, h2, hp => by
    rcases Nat.eq_or_lt_of_le h1 with e | e
    · subst e
      refine Nat.le_trans ?_ (mx_ge q (j + 1) (mxA P g j a))
      unfold mxA
      rw [if_pos hp]
      exact Nat.le_max_right _ _
    · exact mx_all q (j + 1) _ w e (by omega) hp
theorem mx_at {P : Nat → Bool} {g : Nat → Nat} : ∀ q j a, accF (mxA P g) q j a = a ∨ ∃ w, j ≤ w ∧ w < j + q ∧ P w = true ∧ g w = accF (mxA P g) q j a
  | 0, _, _ => .inl rfl
  | q + 1, j, a => by
    show accF (mxA P g) q (j + 1) (mxA P g j a) = a ∨ ∃ w, j ≤ w ∧ w < j + (q + 1) ∧ P w = true ∧ g w = accF (mxA P g) q (j + 1) (mxA P g j a)
    rcases mx_at (P := P) (g := g) q (j + 1) (mxA P g j a) with e | ⟨w, h1, h2, h3, h4⟩
    · rw [e]
      unfold mxA
      by_cases hp : P j = true
      · rw [if_pos hp]
        by_cases hm : a ≤ g j
        · exact .inr ⟨j, Nat.le_refl _, by omega, hp, (Nat.max_eq_right hm).symm⟩
        · exact .inl (Nat.max_eq_left (by omega))
      · rw [if_neg hp]
        exact .inl rfl
    · exact .inr ⟨w, by omega, by omega, h3, h4⟩
theorem or_gt {u p : Nat} (hb : u.testBit p = false) : u < u ||| 2 ^ p := by
  refine Nat.lt_of_le_of_ne Nat.left_le_or (fun e => ?_)
  rw [e, Nat.testBit_or, Nat.testBit_two_pow_self, Bool.or_true] at hb
  cases hb
theorem or_64 {u p : Nat} (hu : u < 64) (hp : p < 6) : u ||| 2 ^ p < 64 := Nat.or_lt_two_pow (n := 6) hu (Nat.pow_lt_pow_right (by decide) hp)
/-- how much can be joined behind l at the most -/
def lgF (h : Hs) (m : Nat) : Nat → Nat → Option Nat → Nat
  | 0, _, _ => 0
  | k + 1, u, l => accF (mxA (cfw h m u l) (fun w => h 1 (w / 2) + lgF h m k (u ||| 2 ^ (w / 2)) (some w))) (2 * h 0 0) 0 0
def lg (h : Hs) (m u : Nat) (l : Option Nat) : Nat := lgF h m (64 - u) u l
theorem mxA_congr {P : Nat → Bool} {g g' : Nat → Nat} {q j a : Nat} (e : ∀ w, j ≤ w → w < j + q → P w = true → g w = g' w) : accF (mxA P g) q j a = accF (mxA P g') q j a := by
  refine accF_congr q j a (fun w h1 h2 x => ?_)
  unfold mxA
  by_cases hp : P w = true
  · rw [if_pos hp, if_pos hp, e w h1 h2 hp]
  · rw [if_neg hp, if_neg hp]
section LG
variable {h : Hs} {m u : Nat} {l : Option Nat}
theorem cfw_bit {w : Nat} (hc : cfw h m u l w = true) : u.testBit (w / 2) = false := by
  unfold cfw at hc
  rw [Bool.and_eq_true, Bool.not_eq_true'] at hc
  exact hc.1
theorem lgF_st (ok : HOK h) : ∀ k k' u l, u < 64 → 64 - u ≤ k → 64 - u ≤ k' → lgF h m k u l = lgF h m k' u l
  | 0, _, u, l, hu, h1, _ => by omega
  | k + 1, 0, u, l, hu, _, h2 => by omega
  | k + 1, k' + 1, u, l, hu, h1, h2 => by
    have h6 := ok.1
    unfold lgF
    refine mxA_congr (fun w w1 w2 hp => ?_)
    have b1 := or_gt (cfw_bit hp)
    have b2 := or_64 (p := w / 2) hu (by omega)
    rw [lgF_st ok k k' _ _ b2 (by omega) (by omega)]
theorem lg_eq (ok : HOK h) (hu : u < 64) : lg h m u l = accF (mxA (cfw h m u l) (fun w => h 1 (w / 2) + lg h m (u ||| 2 ^ (w / 2)) (some w))) (2 * h 0 0) 0 0 := by
  have h6 := ok.1
  unfold lg
  obtain ⟨k, hk⟩ : ∃ k, 64 - u = k + 1 := ⟨63 - u, by omega⟩
  rw [hk]
  show accF (mxA (cfw h m u l) (fun w => h 1 (w / 2) + lgF h m k (u ||| 2 ^ (w / 2)) (some w))) (2 * h 0 0) 0 0 = _
  refine mxA_congr (fun w w1 w2 hp => ?_)
  have b1 := or_gt (cfw_bit hp)
  have b2 := or_64 (p := w / 2) hu (by omega)
  rw [lgF_st ok k _ _ _ b2 (by omega) (Nat.le_refl _)]
/-- what joining w leads to -/
def lw (h : Hs) (m u w : Nat) : Nat := h 1 (w / 2) + lg h m (u ||| 2 ^ (w / 2)) (some w)
theorem lg_max (ok : HOK h) (hu : u < 64) {w : Nat} (hw : w < 2 * h 0 0) (hc : cfw h m u l w = true) : lw h m u w ≤ lg h m u l := by
  rw [lg_eq ok hu]
  exact mx_all (P := cfw h m u l) (g := fun w => h 1 (w / 2) + lg h m (u ||| 2 ^ (w / 2)) (some w)) _ 0 0 w (by omega) (by omega) hc
theorem lg_at (ok : HOK h) (hu : u < 64) (h0 : 0 < lg h m u l) : ∃ w, w < 2 * h 0 0 ∧ cfw h m u l w = true ∧ lw h m u w = lg h m u l := by
  rw [lg_eq ok hu] at h0 ⊢
  rcases mx_at (P := cfw h m u l) (g := fun w => h 1 (w / 2) + lg h m (u ||| 2 ^ (w / 2)) (some w)) (2 * h 0 0) 0 0 with e | ⟨w, h1, h2, h3, h4⟩
  · omega
  · exact ⟨w, by omega, h3, h4⟩
/-- none is longer than all that are not used -/
def unL (h : Hs) (u : Nat) : Nat := accF (fun p a => a + (if u.testBit p = true then 0 else h 1 p)) (h 0 0) 0 0
theorem sum_ge {f g : Nat → Nat} : ∀ q j a b, a ≤ b → (∀ p, j ≤ p → p < j + q → f p ≤ g p) → accF (fun p a => a + f p) q j a ≤ accF (fun p a => a + g p) q j b
  | 0, _, _, _, e, _ => e
  | q + 1, j, a, b, e, hf => sum_ge q (j + 1) _ _ (Nat.add_le_add e (hf j (by omega) (by omega))) (fun p h1 h2 => hf p (by omega) (by omega))
theorem sum_ge1 {f g : Nat → Nat} {c p : Nat} : ∀ q j a b, a ≤ b → j ≤ p → p < j + q → (∀ i, j ≤ i → i < j + q → f i ≤ g i) → f p + c ≤ g p → accF (fun p a => a + f p) q j a + c ≤ accF (fun p a => a + g p) q j b
  | 0, _, _, _, _, h1, h2, _, _ => by omega
  | q + 1, j, a, b, e, h1, h2, hf, hp => by
    show accF (fun p a => a + f p) q (j + 1) (a + f j) + c ≤ accF (fun p a => a + g p) q (j + 1) (b + g j)
    rcases Nat.eq_or_lt_of_le h1 with z | z
    · subst z
      have h3 := sum_ge (f := f) (g := g) q (j + 1) (a + f j) (a + f j) (Nat.le_refl _) (fun p h1 h2 => hf p (by omega) (by omega))
      have h4 : ∀ q j a c, accF (fun p a => a + g p) q j (a + c) = accF (fun p a => a + g p) q j a + c := by
        intro q
        induction q with
        | zero => intro j a c; rfl
        | succ q ih =>
          intro j a c
          show accF (fun p a => a + g p) q (j + 1) (a + c + g j) = accF (fun p a => a + g p) q (j + 1) (a + g j) + c
          rw [show a + c + g j = a + g j + c by omega, ih]
      have h5 := h4 q (j + 1) (a + f j) c
      have h6 : accF (fun p a => a + g p) q (j + 1) (a + f j + c) ≤ accF (fun p a => a + g p) q (j + 1) (b + g j) := sum_ge (f := g) (g := g) q (j + 1) _ _ (by omega) (fun p _ _ => Nat.le_refl _)
      omega
    · exact sum_ge1 q (j + 1) _ _ (Nat.add_le_add e (hf j (by omega) (by omega))) z (by omega) (fun i h1 h2 => hf i (by omega) (by omega)) hp
theorem unL_or {p : Nat} (hp : p < h 0 0) (hb : u.testBit p = false) : unL h (u ||| 2 ^ p) + h 1 p ≤ unL h u := by
  unfold unL
  refine sum_ge1 (p := p) (h 0 0) 0 0 0 (Nat.le_refl _) (by omega) (by omega) (fun i _ _ => ?_) ?_
  · rw [Nat.testBit_or]
    by_cases z : u.testBit i = true
    · rw [z, Bool.true_or, if_pos rfl]
      exact Nat.zero_le _
    · rw [if_neg z]
      by_cases y : (u.testBit i || (2 ^ p).testBit i) = true
      · rw [if_pos y]
        exact Nat.zero_le _
      · rw [if_neg y]
        exact Nat.le_refl _
  · rw [Nat.testBit_or, Nat.testBit_two_pow_self, Bool.or_true, if_pos rfl, hb, if_neg (by decide)]
    omega
theorem lg_un (ok : HOK h) : ∀ k u l, u < 64 → 64 - u ≤ k → lg h m u l ≤ unL h u
  | 0, u, l, hu, h1 => by omega
  | k + 1, u, l, hu, h1 => by
    have h6 := ok.1
    rcases Nat.eq_or_lt_of_le (Nat.zero_le (lg h m u l)) with z | z
    · omega
    · obtain ⟨w, w1, w2, w3⟩ := lg_at ok hu z
      have b1 := or_gt (cfw_bit w2)
      have b2 := or_64 (p := w / 2) hu (by omega)
      have b3 := lg_un ok k (u ||| 2 ^ (w / 2)) (some w) b2 (by omega)
      have b4 := unL_or (h := h) (p := w / 2) (by omega) (cfw_bit w2)
      unfold lw at w3
      omega
theorem un_le (ok : HOK h) : unL h u ≤ 180 := by
  have h6 := ok.1
  have key : ∀ q j a, j + q ≤ h 0 0 → accF (fun p a => a + (if u.testBit p = true then 0 else h 1 p)) q j a ≤ a + 30 * q := by
    intro q
    induction q with
    | zero => intro j a _; exact Nat.le_refl _
    | succ q ih =>
      intro j a hj
      have h1 := ih (j + 1) (a + (if u.testBit j = true then 0 else h 1 j)) (by omega)
      have h2 : (if u.testBit j = true then 0 else h 1 j) ≤ 30 := by
        have := (ok.2.2.2.1 j (by omega)).2.1
        by_cases z : u.testBit j = true
        · rw [if_pos z]; omega
        · rw [if_neg z]; exact this
      show accF (fun p a => a + (if u.testBit p = true then 0 else h 1 p)) q (j + 1) (a + (if u.testBit j = true then 0 else h 1 j)) ≤ _
      omega
  have := key (h 0 0) 0 0 (by omega)
  unfold unL
  omega
theorem lg_le (ok : HOK h) (hu : u < 64) : lg h m u l ≤ 180 := Nat.le_trans (lg_un ok 64 u l hu (by omega)) (un_le ok)
end LG
/-! the chain, way by way -/
abbrev Chs : Type := Nat × Option Nat × Nat
def chW (h : Hs) (m : Nat) (s : Chs) : Nat := (fndF (fun w => cfw h m s.1 s.2.1 w && decide (lw h m s.1 w = s.2.2)) (2 * h 0 0) 0).getD 0
def chN (h : Hs) (m : Nat) (s : Chs) : Chs := (s.1 ||| 2 ^ (chW h m s / 2), some (chW h m s), s.2.2 - h 1 (chW h m s / 2))
def chK (h : Hs) (m : Nat) (k : Nat) : Chs := accF (fun _ s => chN h m s) k 0 (0, none, lg h m 0 none)
theorem chK_s {h : Hs} {m k : Nat} : chK h m (k + 1) = chN h m (chK h m k) := accF_last
def chM (h : Hs) (m : Nat) : Nat := ((fndF (fun k => decide ((chK h m k).2.2 = 0)) 7 0).getD 0)
section CH
variable {h : Hs} {m : Nat}
/-- a chain's state is well: what is left is what can be had -/
def chOK (h : Hs) (m : Nat) (s : Chs) : Prop := s.1 < 64 ∧ s.2.2 = lg h m s.1 s.2.1
theorem chW_ok (ok : HOK h) {s : Chs} (hs : chOK h m s) (h0 : 0 < s.2.2) : fndF (fun w => cfw h m s.1 s.2.1 w && decide (lw h m s.1 w = s.2.2)) (2 * h 0 0) 0 = some (chW h m s) ∧ chW h m s < 2 * h 0 0 ∧ cfw h m s.1 s.2.1 (chW h m s) = true ∧ lw h m s.1 (chW h m s) = s.2.2 := by
  obtain ⟨s1, s2⟩ := hs
  unfold chW
  rcases hf : fndF (fun w => cfw h m s.1 s.2.1 w && decide (lw h m s.1 w = s.2.2)) (2 * h 0 0) 0 with _ | w
  · exfalso
    obtain ⟨w, w1, w2, w3⟩ := lg_at (m := m) (l := s.2.1) ok s1 (by omega)
    have := fndF_non _ 0 hf w (by omega) (by omega)
    rw [w2, Bool.true_and, decide_eq_false_iff_not] at this
    exact this (by omega)
  · obtain ⟨q1, q2, q3, -⟩ := fndF_some _ 0 hf
    rw [Bool.and_eq_true, decide_eq_true_eq] at q3
    exact ⟨rfl, by simpa using q2, q3.1, q3.2⟩
theorem chN_ok (ok : HOK h) {s : Chs} (hs : chOK h m s) (h0 : 0 < s.2.2) : chOK h m (chN h m s) := by
  have h6 := ok.1
  obtain ⟨-, w1, w2, w3⟩ := chW_ok ok hs h0
  refine ⟨or_64 hs.1 (by omega), ?_⟩
  show s.2.2 - h 1 (chW h m s / 2) = lg h m (s.1 ||| 2 ^ (chW h m s / 2)) (some (chW h m s))
  unfold lw at w3
  omega
theorem chK_ok (ok : HOK h) : ∀ k, (∀ i, i < k → 0 < (chK h m i).2.2) → chOK h m (chK h m k)
  | 0, _ => ⟨show 0 < 64 by decide, rfl⟩
  | k + 1, hi => by
    rw [chK_s]
    exact chN_ok ok (chK_ok ok k (fun i h1 => hi i (by omega))) (hi k (by omega))
theorem chK_bit {i : Nat} : ∀ j, i < j → (chK h m j).1.testBit (chW h m (chK h m i) / 2) = true
  | 0, hj => by omega
  | j + 1, hj => by
    rw [chK_s]
    show ((chK h m j).1 ||| 2 ^ (chW h m (chK h m j) / 2)).testBit _ = true
    rw [Nat.testBit_or]
    rcases Nat.eq_or_lt_of_le (Nat.le_of_lt_succ hj) with e | e
    · subst e
      rw [Nat.testBit_two_pow_self, Bool.or_true]
    · rw [chK_bit j e, Bool.true_or]
theorem ch_end (ok : HOK h) : ∃ k, k ≤ h 0 0 ∧ (chK h m k).2.2 = 0 ∧ ∀ i, i < k → 0 < (chK h m i).2.2 := by
  have h6 := ok.1
  have key : ¬ ∀ i, i ≤ h 0 0 → 0 < (chK h m i).2.2 := by
    intro hi
    have : h 0 0 + 1 ≤ h 0 0 := by
      refine fb_holes (h 0 0) (h 0 0 + 1) (fun i => chW h m (chK h m i) / 2) ?_ ?_
      · intro i hl
        have := (chW_ok ok (chK_ok ok i (fun j hj => hi j (by omega))) (hi i (by omega))).2.1
        show chW h m (chK h m i) / 2 < h 0 0
        omega
      · intro i j hij hl e
        have q := (chW_ok ok (chK_ok ok j (fun j' hj => hi j' (by omega))) (hi j (by omega))).2.2.1
        have b := cfw_bit q
        have e2 : chW h m (chK h m i) / 2 = chW h m (chK h m j) / 2 := e
        rw [← e2, chK_bit j hij] at b
        cases b
    omega
  have h2 : ∃ k, k ≤ h 0 0 ∧ (chK h m k).2.2 = 0 := by
    refine Classical.byContradiction (fun hn => key (fun i hi => ?_))
    rcases Nat.eq_zero_or_pos (chK h m i).2.2 with z | z
    · exact absurd ⟨i, hi, z⟩ hn
    · exact z
  obtain ⟨k, ⟨k1, k2⟩, k3⟩ := pk_least (fun k => k ≤ h 0 0 ∧ (chK h m k).2.2 = 0) h2
  refine ⟨k, k1, k2, fun i hi => ?_⟩
  have := k3 i hi
  rcases Nat.eq_zero_or_pos (chK h m i).2.2 with z | z
  · exact absurd ⟨by omega, z⟩ this
  · exact z
theorem chM_ok (ok : HOK h) : chM h m ≤ h 0 0 ∧ (chK h m (chM h m)).2.2 = 0 ∧ ∀ i, i < chM h m → 0 < (chK h m i).2.2 := by
  have h6 := ok.1
  obtain ⟨k, k1, k2, k3⟩ := ch_end (m := m) ok
  have e : fndF (fun k => decide ((chK h m k).2.2 = 0)) 7 0 = some k := by
    rcases hf : fndF (fun k => decide ((chK h m k).2.2 = 0)) 7 0 with _ | j
    · have := fndF_non _ 0 hf k (by omega) (by omega)
      rw [decide_eq_false_iff_not] at this
      exact absurd k2 this
    · obtain ⟨q1, q2, q3, q4⟩ := fndF_some _ 0 hf
      rw [decide_eq_true_eq] at q3
      rcases Nat.lt_trichotomy j k with z | z | z
      · have := k3 j z
        omega
      · rw [z]
      · have := q4 k (by omega) z
        rw [decide_eq_false_iff_not] at this
        exact absurd k2 this
  have e2 : chM h m = k := by
    unfold chM
    rw [e]
    rfl
  rw [e2]
  exact ⟨k1, k2, k3⟩
end CH
