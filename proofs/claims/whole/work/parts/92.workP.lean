/-! THE READER OF WORK, PURE -/
theorem n10 {α : Type} {x : α} : ¬ ((1 : Nat), x).1 = 0 := Nat.one_ne_zero
theorem n30 {α : Type} {x : α} : ¬ ((3 : Nat), x).1 = 0 := by
  show ¬ 3 = 0
  decide
section WQ
variable {W : Nat → Nat} {z np a o : Nat}
theorem plA_len {t e : Nat} : ∀ (ws : List (List Nat)) i, (∀ w, w ∈ ws → 3 ≤ w.length) → ¬ plA W t e ws i = -1 → t + 3 ≤ e
  | [], i, _, q => absurd rfl q
  | w :: ws, i, h, q => by
    unfold plA at q
    by_cases e1 : mt W e w t = true ∧ t + w.length = e
    · have := h w List.mem_cons_self
      omega
    · rw [if_neg e1] at q
      exact plA_len ws (i + 1) (fun x hx => h x (List.mem_cons_of_mem _ hx)) q
/-- which word of work stands here -/
def wkI (W : Nat → Nat) (z a : Nat) : Int32 := plA W (sk W z a) (wE W z a) wdW 0
def wkN (W : Nat → Nat) (z a : Nat) : Nat := (wkI W z a).toNatClampNeg
theorem wk_n (q : ¬ wkI W z a = -1) : wkI W z a = nI (wkN W z a) ∧ wkN W z a < 9 ∧ sk W z a + 3 ≤ wE W z a := by
  have hl := plA_len (W := W) (t := sk W z a) (e := wE W z a) wdW 0 (by decide) q
  unfold wkN
  rcases plA_or (W := W) (t := sk W z a) (e := wE W z a) wdW 0 with q1 | ⟨j, q1, q2⟩
  · exact absurd q1 q
  · have e1 : wkI W z a = nI (0 + j) := q1
    have h9 : wdW.length = 9 := rfl
    rw [e1, nI_clamp (by omega)]
    exact ⟨rfl, by omega, hl⟩
/-- the sign c stands here -/
abbrev sgn (W : Nat → Nat) (z b c : Nat) : Prop := sk W z b < z ∧ W (sk W z b) = c
/-- FAULT, where; place behind; kind, number, second number -/
abbrev Cs : Type := Nat × Nat × Nat × Nat × Nat × Nat
def clE (W : Nat → Nat) (z b k p v c : Nat) : Cs := if sgn W z b c then (0, 0, sk W z b + 1, k, p, v) else (1, sk W z b, 0, k, p, v)
def hiW (np k : Nat) : Int32 := if k = 6 then nI 99 else nI np - nI 1
/-- a step as far as it is no body: its word, its numbers, its sign -/
def clS (W : Nat → Nat) (z np o a : Nat) : Cs :=
  if wkI W z a = -1 then (1, sk W z a, 0, 0, 0, 0)
  else if wkN W z a = 8 then (if o = 6 then (3, sk W z a, 0, 0, 0, 0) else if ¬ nmF W z (wE W z a) (nI 0) (nI 30) = 0 then (nmF W z (wE W z a) (nI 0) (nI 30), sk W z (wE W z a), 0, 0, 0, 0) else clE W z (nmV W z (wE W z a)).1 8 (nmV W z (wE W z a)).2 0 91)
  else if wkN W z a = 2 ∨ wkN W z a = 7 then clE W z (wE W z a) (wkN W z a) 0 0 59
  else if ¬ nmF W z (wE W z a) (nI 0) (hiW np (wkN W z a)) = 0 then (nmF W z (wE W z a) (nI 0) (hiW np (wkN W z a)), sk W z (wE W z a), 0, 0, 0, 0)
  else if wkN W z a = 3 then (if ¬ nmF W z (nmV W z (wE W z a)).1 (nI 0) (nI 9) = 0 then (nmF W z (nmV W z (wE W z a)).1 (nI 0) (nI 9), sk W z (nmV W z (wE W z a)).1, 0, 0, 0, 0) else clE W z (nmV W z (nmV W z (wE W z a)).1).1 3 (nmV W z (wE W z a)).2 (nmV W z (nmV W z (wE W z a)).1).2 59)
  else clE W z (nmV W z (wE W z a)).1 (wkN W z a) (nmV W z (wE W z a)).2 0 59
theorem clS_sk (ha : a ≤ z) : clS W z np o (sk W z a) = clS W z np o a := by
  have e1 : wkI W z (sk W z a) = wkI W z a := by
    unfold wkI
    rw [sk_sk ha, wE_sk ha]
  have e2 : wkN W z (sk W z a) = wkN W z a := by
    unfold wkN
    rw [e1]
  unfold clS
  rw [e1, e2, sk_sk ha, wE_sk ha]
theorem nmF_3 {lo hi : Int32} : nmF W z a lo hi ≤ 2 := by
  unfold nmF
  by_cases q : sk W z a < z ∧ isG W (sk W z a) = true
  · rw [if_pos q]
    by_cases q2 : lo ≤ nI (nmV W z a).2 ∧ nI (nmV W z a).2 ≤ hi
    · rw [if_pos q2]
      decide
    · rw [if_neg q2]
      decide
  · rw [if_neg q]
    decide
theorem nm_np {k : Nat} (hn : np ≤ 6) (ha : a ≤ z) (e : nmF W z a (nI 0) (hiW np k) = 0) : (k = 6 → (nmV W z a).2 ≤ 99) ∧ (¬ k = 6 → (nmV W z a).2 < np) := by
  unfold hiW at e
  by_cases q : k = 6
  · rw [if_pos q] at e
    exact ⟨fun _ => (nm_in ha (by decide) (by decide) e).2.1, fun q2 => absurd q q2⟩
  · rw [if_neg q] at e
    refine ⟨fun q2 => absurd q2 q, fun _ => ?_⟩
    have hv := nmV_le (W := W) ha
    have e2 : nI 0 ≤ nI (nmV W z a).2 ∧ nI (nmV W z a).2 ≤ nI np - nI 1 := by
      unfold nmF at e
      by_cases q1 : sk W z a < z ∧ isG W (sk W z a) = true
      · rw [if_pos q1] at e
        by_cases q2 : nI 0 ≤ nI (nmV W z a).2 ∧ nI (nmV W z a).2 ≤ nI np - nI 1
        · exact q2
        · rw [if_neg q2] at e
          exact absurd e (by decide)
      · rw [if_neg q1] at e
        exact absurd e (by decide)
    obtain ⟨p, hp, ep⟩ := (in_np hn).mp e2
    have := (nI_eq (by omega) (by omega)).mp ep
    omega
theorem clE_ok {b k p v c : Nat} (hb : b ≤ z) (q : (clE W z b k p v c).1 = 0) : sgn W z b c ∧ clE W z b k p v c = (0, 0, sk W z b + 1, k, p, v) := by
  unfold clE at q ⊢
  by_cases e : sgn W z b c
  · rw [if_pos e]
    exact ⟨e, rfl⟩
  · rw [if_neg e] at q
    exact absurd (show 1 = 0 from q) (by decide)
theorem clE_3 {b k p v c : Nat} : (clE W z b k p v c).1 ≤ 3 := by
  unfold clE
  by_cases e : sgn W z b c
  · rw [if_pos e]
    show 0 ≤ 3
    decide
  · rw [if_neg e]
    show 1 ≤ 3
    decide
theorem clS_3 : (clS W z np o a).1 ≤ 3 := by
  have n1 := nmF_3 (W := W) (z := z) (a := wE W z a) (lo := nI 0) (hi := nI 30)
  have n2 := nmF_3 (W := W) (z := z) (a := wE W z a) (lo := nI 0) (hi := hiW np (wkN W z a))
  have n3 := nmF_3 (W := W) (z := z) (a := (nmV W z (wE W z a)).1) (lo := nI 0) (hi := nI 9)
  unfold clS
  repeat' split
  all_goals first | exact clE_3 | (dsimp only; omega)
/-- what a good step tells -/
theorem clS_ok (hn : np ≤ 6) (ha : a ≤ z) (q : (clS W z np o a).1 = 0) : a + 4 ≤ (clS W z np o a).2.2.1 ∧ (clS W z np o a).2.2.1 ≤ z ∧ (clS W z np o a).2.2.2.1 ≤ 8 ∧ ((clS W z np o a).2.2.2.1 = 8 → ¬ o = 6 ∧ (clS W z np o a).2.2.2.2.1 ≤ 30) ∧ (¬ (clS W z np o a).2.2.2.1 = 8 → stOK np (clS W z np o a).2.2.2.1 (clS W z np o a).2.2.2.2.1 (clS W z np o a).2.2.2.2.2) := by
  have hs := sk_le (W := W) ha
  have he := wE_le (W := W) ha
  have v1 := nmV_le (W := W) he.2
  have v2 := nmV_le (W := W) v1.2.1
  unfold clS at q ⊢
  by_cases c1 : wkI W z a = -1
  · rw [if_pos c1] at q
    exact absurd (show 1 = 0 from q) (by decide)
  · obtain ⟨w1, w2, w3⟩ := wk_n c1
    rw [if_neg c1] at q ⊢
    by_cases c2 : wkN W z a = 8
    · rw [if_pos c2] at q ⊢
      by_cases c3 : o = 6
      · rw [if_pos c3] at q
        exact absurd (show 3 = 0 from q) (by decide)
      · rw [if_neg c3] at q ⊢
        by_cases c4 : nmF W z (wE W z a) (nI 0) (nI 30) = 0
        · rw [if_neg (not_not_intro c4)] at q ⊢
          obtain ⟨g1, g2⟩ := clE_ok v1.2.1 q
          have k1 := sk_le (W := W) v1.2.1
          rw [g2]
          refine ⟨?_, ?_, Nat.le_refl _, fun _ => ⟨c3, (nm_in he.2 (by decide) (by decide) c4).2.1⟩, fun h => absurd rfl h⟩
          · show a + 4 ≤ sk W z _ + 1
            omega
          · show sk W z _ + 1 ≤ z
            omega
        · rw [if_pos c4] at q
          exact absurd q c4
    · rw [if_neg c2] at q ⊢
      by_cases c3 : wkN W z a = 2 ∨ wkN W z a = 7
      · rw [if_pos c3] at q ⊢
        obtain ⟨g1, g2⟩ := clE_ok he.2 q
        have k1 := sk_le (W := W) he.2
        rw [g2]
        refine ⟨?_, ?_, ?_, fun h => absurd h c2, fun _ => ⟨?_, fun h => ?_, fun h => ?_, fun h => ?_⟩⟩
        · show a + 4 ≤ sk W z _ + 1
          omega
        · show sk W z _ + 1 ≤ z
          omega
        · show wkN W z a ≤ 8
          omega
        · show wkN W z a ≤ 7
          omega
        · exfalso
          dsimp only at h
          omega
        · exfalso
          dsimp only at h
          omega
        · exfalso
          dsimp only at h
          omega
      · rw [if_neg c3] at q ⊢
        by_cases c4 : nmF W z (wE W z a) (nI 0) (hiW np (wkN W z a)) = 0
        · rw [if_neg (not_not_intro c4)] at q ⊢
          have b1 := nm_np hn he.2 c4
          by_cases c5 : wkN W z a = 3
          · rw [if_pos c5] at q ⊢
            by_cases c6 : nmF W z (nmV W z (wE W z a)).1 (nI 0) (nI 9) = 0
            · rw [if_neg (not_not_intro c6)] at q ⊢
              obtain ⟨g1, g2⟩ := clE_ok v2.2.1 q
              have k1 := sk_le (W := W) v2.2.1
              have b2 := nm_in v1.2.1 (by decide) (by decide) c6
              rw [g2]
              refine ⟨?_, ?_, by show 3 ≤ 8; decide, fun h => absurd (show 3 = 8 from h) (by decide), fun _ => ⟨by show 3 ≤ 7; decide, fun _ => b1.2 (by omega), fun _ => b2.2.1, fun h => absurd (show 3 = 6 from h) (by decide)⟩⟩
              · show a + 4 ≤ sk W z _ + 1
                omega
              · show sk W z _ + 1 ≤ z
                omega
            · rw [if_pos c6] at q
              exact absurd q c6
          · rw [if_neg c5] at q ⊢
            obtain ⟨g1, g2⟩ := clE_ok v1.2.1 q
            have k1 := sk_le (W := W) v1.2.1
            rw [g2]
            refine ⟨?_, ?_, ?_, fun h => absurd h c2, fun _ => ⟨?_, fun h => b1.2 ?_, fun h => absurd h c5, fun h => b1.1 h⟩⟩
            · show a + 4 ≤ sk W z _ + 1
              omega
            · show sk W z _ + 1 ≤ z
              omega
            · show wkN W z a ≤ 8
              omega
            · show wkN W z a ≤ 7
              omega
            · dsimp only at h
              omega
        · rw [if_pos c4] at q
          exact absurd q c4
/-- a row of the model -/
def row4 (k p v t j : Nat) : Nat := if j = 0 then k else if j = 1 then p else if j = 2 then v else t
abbrev TT : Type := Nat → Nat → Nat
def setT (T : TT) (s : Nat) (r : Nat → Nat) : TT := fun i => if i = s then r else T i
theorem setT_s {T : TT} {s : Nat} {r : Nat → Nat} : setT T s r s = r := if_pos rfl
theorem setT_n {T : TT} {s i : Nat} {r : Nat → Nat} (h : ¬ i = s) : setT T s r i = T i := if_neg h
/-- FAULT, where; place behind, next row, rows -/
abbrev Rs : Type := Nat × Nat × Nat × Nat × TT
abbrev RecT : Type := Nat → Nat → Nat → TT → Rs
/-- the body of an again has been read: R -/
def rdB (W : Nat → Nat) (z s v : Nat) (R : Rs) : Rs := if ¬ R.1 = 0 then R else if sgn W z (sk W z R.2.2.1 + 1) 59 then (0, 0, sk W z (sk W z R.2.2.1 + 1) + 1, R.2.2.2.1, setT R.2.2.2.2 s (row4 8 v 0 R.2.2.2.1)) else (1, sk W z (sk W z R.2.2.1 + 1), 0, 0, R.2.2.2.2)
def rd1 (W : Nat → Nat) (z np : Nat) (rec : RecT) (o a s : Nat) (T : TT) : Rs := if ¬ (clS W z np o a).1 = 0 then ((clS W z np o a).1, (clS W z np o a).2.1, 0, s, T) else if (clS W z np o a).2.2.2.1 = 8 then rdB W z s (clS W z np o a).2.2.2.2.1 (rec (o + 1) (clS W z np o a).2.2.1 (s + 1) (setT T s (row4 8 (clS W z np o a).2.2.2.2.1 0 0))) else (0, 0, (clS W z np o a).2.2.1, s + 1, setT T s (row4 (clS W z np o a).2.2.2.1 (clS W z np o a).2.2.2.2.1 (clS W z np o a).2.2.2.2.2 (s + 1)))
theorem rd1_sk {rec : RecT} {s : Nat} {T : TT} (ha : a ≤ z) : rd1 W z np rec o (sk W z a) s T = rd1 W z np rec o a s T := by
  unfold rd1
  rw [clS_sk ha]
/-- here no step is read -/
abbrev stpW (W : Nat → Nat) (z o a : Nat) : Prop := (o = 0 ∧ sk W z a = z) ∨ (¬ o = 0 ∧ sgn W z a 93)
def rd (W : Nat → Nat) (z np : Nat) : Nat → RecT
  | 0, _, a, s, T => (1, 0, a, s, T)
  | f + 1, o, a, s, T => if stpW W z o a then (0, 0, a, s, T) else if ¬ (rd1 W z np (rd W z np f) o a s T).1 = 0 then rd1 W z np (rd W z np f) o a s T else rd W z np f o (rd1 W z np (rd W z np f) o a s T).2.2.1 (rd1 W z np (rd W z np f) o a s T).2.2.2.1 (rd1 W z np (rd W z np f) o a s T).2.2.2.2
/-- good reading: on, within the text; the rows ahead as they were -/
def rdG (W : Nat → Nat) (z a s : Nat) (T : TT) (R : Rs) : Prop := a ≤ R.2.2.1 ∧ R.2.2.1 ≤ z ∧ s ≤ R.2.2.2.1 ∧ 2 * R.2.2.2.1 + a ≤ R.2.2.1 + 2 * s ∧ ∀ i, i < s → R.2.2.2.2 i = T i
theorem rd1_3 {rec : RecT} (h : ∀ o a s T, (rec o a s T).1 ≤ 3) {s : Nat} {T : TT} : (rd1 W z np rec o a s T).1 ≤ 3 := by
  have h0 := clS_3 (W := W) (z := z) (np := np) (o := o) (a := a)
  unfold rd1 rdB
  repeat' split
  all_goals first | exact h0 | exact h _ _ _ _ | (dsimp only; omega)
theorem rd_3 : ∀ f o a s T, (rd W z np f o a s T).1 ≤ 3
  | 0, o, a, s, T => by
    show 1 ≤ 3
    decide
  | f + 1, o, a, s, T => by
    have ih := rd_3 f
    have h1 := rd1_3 (W := W) (z := z) (np := np) (o := o) (a := a) ih (s := s) (T := T)
    unfold rd
    repeat' split
    all_goals first | exact h1 | exact ih _ _ _ _ | (dsimp only; omega)
theorem rdB_ok {s v : Nat} {R : Rs} (q : (rdB W z s v R).1 = 0) : R.1 = 0 ∧ sgn W z (sk W z R.2.2.1 + 1) 59 ∧ rdB W z s v R = (0, 0, sk W z (sk W z R.2.2.1 + 1) + 1, R.2.2.2.1, setT R.2.2.2.2 s (row4 8 v 0 R.2.2.2.1)) := by
  unfold rdB at q ⊢
  by_cases c1 : R.1 = 0
  · rw [if_neg (not_not_intro c1)] at q ⊢
    by_cases c2 : sgn W z (sk W z R.2.2.1 + 1) 59
    · rw [if_pos c2]
      exact ⟨c1, c2, rfl⟩
    · rw [if_neg c2] at q
      exact absurd (show 1 = 0 from q) (by decide)
  · rw [if_pos c1] at q
    exact absurd q c1
theorem rd1_ok (hn : np ≤ 6) {rec : RecT} {s : Nat} {T : TT} (ha : a ≤ z) (h : ∀ b T, a < b → b ≤ z → (rec (o + 1) b (s + 1) T).1 = 0 → rdG W z b (s + 1) T (rec (o + 1) b (s + 1) T) ∧ sgn W z (rec (o + 1) b (s + 1) T).2.2.1 93) (q : (rd1 W z np rec o a s T).1 = 0) : rdG W z a s T (rd1 W z np rec o a s T) ∧ s < (rd1 W z np rec o a s T).2.2.2.1 ∧ a + 4 ≤ (rd1 W z np rec o a s T).2.2.1 := by
  unfold rd1 at q ⊢
  by_cases c1 : (clS W z np o a).1 = 0
  · obtain ⟨k1, k2, k3, k4, k5⟩ := clS_ok hn ha c1
    rw [if_neg (not_not_intro c1)] at q ⊢
    by_cases c2 : (clS W z np o a).2.2.2.1 = 8
    · rw [if_pos c2] at q ⊢
      obtain ⟨g1, g2, g3⟩ := rdB_ok q
      rw [g3]
      obtain ⟨⟨e1, e2, e3, e4, e5⟩, e6⟩ := h _ _ (by omega) k2 g1
      generalize rec (o + 1) (clS W z np o a).2.2.1 (s + 1) (setT T s (row4 8 (clS W z np o a).2.2.2.2.1 0 0)) = R at g1 g2 e1 e2 e3 e4 e5 e6 ⊢
      have l1 := sk_le (W := W) e2
      have l2 := sk_le (W := W) (show sk W z R.2.2.1 + 1 ≤ z by omega)
      refine ⟨⟨?_, ?_, ?_, ?_, fun i hi => ?_⟩, ?_, ?_⟩
      · show a ≤ sk W z _ + 1
        omega
      · show sk W z _ + 1 ≤ z
        omega
      · show s ≤ R.2.2.2.1
        omega
      · show 2 * R.2.2.2.1 + a ≤ sk W z _ + 1 + 2 * s
        omega
      · show setT R.2.2.2.2 s (row4 8 (clS W z np o a).2.2.2.2.1 0 R.2.2.2.1) i = T i
        rw [setT_n (by omega), e5 i (by omega), setT_n (by omega)]
      · show s < R.2.2.2.1
        omega
      · show a + 4 ≤ sk W z _ + 1
        omega
    · rw [if_neg c2]
      refine ⟨⟨?_, k2, ?_, ?_, fun i hi => setT_n (by omega)⟩, ?_, k1⟩
      · show a ≤ (clS W z np o a).2.2.1
        omega
      · show s ≤ s + 1
        omega
      · show 2 * (s + 1) + a ≤ (clS W z np o a).2.2.1 + 2 * s
        omega
      · show s < s + 1
        omega
  · rw [if_pos c1] at q
    exact absurd q c1
theorem rd_ok (hn : np ≤ 6) : ∀ f o a s T, a ≤ z → (rd W z np f o a s T).1 = 0 → rdG W z a s T (rd W z np f o a s T) ∧ stpW W z o (rd W z np f o a s T).2.2.1
  | 0, o, a, s, T, ha, q => absurd (show 1 = 0 from q) (by decide)
  | f + 1, o, a, s, T, ha, q => by
    have ih := rd_ok hn f
    unfold rd at q ⊢
    by_cases c1 : stpW W z o a
    · rw [if_pos c1]
      exact ⟨⟨Nat.le_refl _, ha, Nat.le_refl _, by show 2 * s + a ≤ a + 2 * s; omega, fun _ _ => rfl⟩, c1⟩
    · rw [if_neg c1] at q ⊢
      by_cases c2 : (rd1 W z np (rd W z np f) o a s T).1 = 0
      · rw [if_neg (not_not_intro c2)] at q ⊢
        obtain ⟨⟨r1, r2, r3, r4, r5⟩, r6, r7⟩ := rd1_ok hn ha (fun b T' hb hb2 q2 => by
          obtain ⟨g1, g2⟩ := ih (o + 1) b (s + 1) T' hb2 q2
          refine ⟨g1, ?_⟩
          rcases g2 with g2 | g2
          · exact absurd g2.1 (by omega)
          · exact g2.2) c2
        obtain ⟨⟨g1, g2, g3, g4, g5⟩, g6⟩ := ih o _ _ _ r2 q
        exact ⟨⟨by omega, g2, by omega, by omega, fun i hi => (g5 i (by omega)).trans (r5 i hi)⟩, g6⟩
      · rw [if_pos c2] at q
        exact absurd q c2
end WQ
