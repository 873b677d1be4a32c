/-! THE READER OF A LAW, PURE -/
section LP
variable {W : Nat → Nat} {z a b c e o n : Nat} {cd : Cd}
/-- which word of a law stands here -/
def lkI (W : Nat → Nat) (z a : Nat) : Int32 := plA W (sk W z a) (wE W z a) wdL 0
def lkN (W : Nat → Nat) (z a : Nat) : Nat := (lkI W z a).toNatClampNeg
theorem lk_n (q : ¬ lkI W z a = -1) : lkI W z a = nI (lkN W z a) ∧ lkN W z a < 11 ∧ sk W z a + 3 ≤ wE W z a := by
  have hl := plA_len (W := W) (t := sk W z a) (e := wE W z a) wdL 0 (by decide) q
  unfold lkN
  rcases plA_or (W := W) (t := sk W z a) (e := wE W z a) wdL 0 with q1 | ⟨j, q1, q2⟩
  · exact absurd q1 q
  · have e1 : lkI W z a = nI (0 + j) := q1
    have h9 : wdL.length = 11 := rfl
    rw [e1, nI_clamp (by omega)]
    exact ⟨rfl, by omega, hl⟩
/-- FAULT, where; place behind; how many parts; the parts -/
abbrev Ls : Type := Nat × Nat × Nat × Nat × Cd
abbrev LRec : Type := Nat → Nat → Nat → Cd → Ls
def setC (cd : Cd) (e : Nat) (x : Nat × Nat) : Cd := fun j => if j = e then x else cd j
theorem setC_s {x : Nat × Nat} : setC cd e x e = x := if_pos rfl
theorem setC_n {x : Nat × Nat} {j : Nat} (h : ¬ j = e) : setC cd e x j = cd j := if_neg h
/-- behind R the sign c, then g -/
def lb (W : Nat → Nat) (z : Nat) (R : Ls) (c : Nat) (g : Nat → Nat → Cd → Ls) : Ls := if ¬ R.1 = 0 then R else if sgn W z R.2.2.1 c then g (sk W z R.2.2.1 + 1) R.2.2.2.1 R.2.2.2.2 else (1, sk W z R.2.2.1, 0, R.2.2.2.1, R.2.2.2.2)
abbrev dgt (W : Nat → Nat) (z a : Nat) : Prop := sk W z a < z ∧ isG W (sk W z a) = true
def lMost (W : Nat → Nat) (z : Nat) (rec : LRec) (o a e : Nat) (cd : Cd) : Ls := if sgn W z (wE W z a) 91 then lb W z (rec (o + 1) (sk W z (wE W z a) + 1) e cd) 44 (fun a' e' cd' => lb W z (rec (o + 1) a' e' cd') 93 (fun a2 e2 cd2 => (0, 0, a2, e2 + 1, setC cd2 e2 (lkN W z a - 2, 0)))) else (1, sk W z (wE W z a), 0, e, cd)
def lu (W : Nat → Nat) (z : Nat) (rec : LRec) (o a e : Nat) (cd : Cd) : Ls :=
  if dgt W z a then (if nmF W z a (nI 0) (nI 999) = 0 then (0, 0, (nmV W z a).1, e + 1, setC cd e (0, (nmV W z a).2)) else (nmF W z a (nI 0) (nI 999), sk W z a, 0, e, cd))
  else if sgn W z a 40 then (if o = 6 then (3, sk W z a, 0, e, cd) else lb W z (rec (o + 1) (sk W z a + 1) e cd) 41 (fun a' e' cd' => (0, 0, a', e', cd')))
  else if lkI W z a = -1 then (1, sk W z a, 0, e, cd)
  else if lkN W z a < 9 then (0, 0, wE W z a, e + 1, setC cd e (1, lkN W z a))
  else if o = 6 then (3, sk W z a, 0, e, cd)
  else lMost W z rec o a e cd
def opP (W : Nat → Nat) (z a : Nat) : Nat := if sk W z a < z then (if W (sk W z a) = 42 then 4 else if W (sk W z a) = 47 then 5 else if W (sk W z a) = 37 then 6 else 0) else 0
def opS (W : Nat → Nat) (z a : Nat) : Nat := if sk W z a < z then (if W (sk W z a) = 43 then 2 else if W (sk W z a) = 45 then 3 else 0) else 0
/-- on while a sign stands here: unit by u, sign by op -/
def lL (W : Nat → Nat) (z : Nat) (op : Nat → Nat) (u : LRec) : Nat → LRec
  | 0, _, _, e, cd => (1, 0, 0, e, cd)
  | f + 1, o, a, e, cd => if op a = 0 then (0, 0, sk W z a, e, cd) else if ¬ (u o (sk W z a + 1) e cd).1 = 0 then u o (sk W z a + 1) e cd else lL W z op u f o (u o (sk W z a + 1) e cd).2.2.1 ((u o (sk W z a + 1) e cd).2.2.2.1 + 1) (setC (u o (sk W z a + 1) e cd).2.2.2.2 (u o (sk W z a + 1) e cd).2.2.2.1 (op a, 0))
def lT (W : Nat → Nat) (z : Nat) (op : Nat → Nat) (u : LRec) (o a e : Nat) (cd : Cd) : Ls := if ¬ (u o a e cd).1 = 0 then u o a e cd else lL W z op u (z + 1) o (u o a e cd).2.2.1 (u o a e cd).2.2.2.1 (u o a e cd).2.2.2.2
def lp (W : Nat → Nat) (z : Nat) (rec : LRec) : LRec := lT W z (opP W z) (lu W z rec)
def lsZ (W : Nat → Nat) (z : Nat) (rec : LRec) : LRec := lT W z (opS W z) (lp W z rec)
def lsumK (W : Nat → Nat) (z : Nat) : Nat → LRec
  | 0 => lsZ W z (fun _ _ e cd => (1, 0, 0, e, cd))
  | k + 1 => lsZ W z (lsumK W z k)
def recK (W : Nat → Nat) (z k : Nat) : LRec := match k with
  | 0 => fun _ _ e cd => (1, 0, 0, e, cd)
  | k + 1 => lsumK W z k
theorem lsumK_r {k : Nat} : lsumK W z k = lsZ W z (recK W z k) := by
  cases k <;> rfl
/-! well made -/
def W2 (cd : Cd) (e n e' n' : Nat) : Prop := ∀ cd' : Cd, (∀ j, e ≤ j → j < e' → cd' j = cd j) → ∀ m, wfC cd' m e' n' → wfC cd' ((e' - e) + m) e n
theorem W2_tr {e1 e2 n1 n2 : Nat} (h1 : W2 cd e n e1 n1) (h2 : W2 cd e1 n1 e2 n2) (q1 : e ≤ e1) (q2 : e1 ≤ e2) : W2 cd e n e2 n2 := by
  intro cd' hc m hw
  have a2 := h2 cd' (fun j j1 j2 => hc j (by omega) j2) m hw
  have a1 := h1 cd' (fun j j1 j2 => hc j j1 (by omega)) _ a2
  rw [show e2 - e + m = e1 - e + (e2 - e1 + m) by omega]
  exact a1
theorem W2_co {cd2 : Cd} {e1 n1 : Nat} (h : W2 cd e n e1 n1) (hc : ∀ j, e ≤ j → j < e1 → cd2 j = cd j) : W2 cd2 e n e1 n1 := fun cd' q m hw => h cd' (fun j j1 j2 => (q j j1 j2).trans (hc j j1 j2)) m hw
theorem W2_num {v : Nat} (hv : v ≤ 999) (hn : n < 30) : W2 (setC cd e (0, v)) e n (e + 1) (n + 1) := by
  intro cd' hc m hw
  have q := hc e (Nat.le_refl _) (by omega)
  rw [setC_s] at q
  rw [show e + 1 - e + m = m + 1 by omega]
  unfold wfC
  rw [q, if_pos (show (0 : Nat) < 2 by decide)]
  exact ⟨hn, fun _ => hv, fun h => absurd (show 0 = 1 from h) (by decide), hw⟩
theorem W2_nam {v : Nat} (hv : v < 9) (hn : n < 30) : W2 (setC cd e (1, v)) e n (e + 1) (n + 1) := by
  intro cd' hc m hw
  have q := hc e (Nat.le_refl _) (by omega)
  rw [setC_s] at q
  rw [show e + 1 - e + m = m + 1 by omega]
  unfold wfC
  rw [q, if_pos (show (1 : Nat) < 2 by decide)]
  exact ⟨hn, fun h => absurd (show 1 = 0 from h) (by decide), fun _ => hv, hw⟩
theorem W2_op {p : Nat} (h2 : 2 ≤ p) (h8 : p ≤ 8) (hn : n + 2 ≤ 30) : W2 (setC cd e (p, 0)) e (n + 2) (e + 1) (n + 1) := by
  intro cd' hc m hw
  have q := hc e (Nat.le_refl _) (by omega)
  rw [setC_s] at q
  rw [show e + 1 - e + m = m + 1 by omega]
  unfold wfC
  rw [q, if_neg (by show ¬ p < 2; omega)]
  exact ⟨h8, by omega, hn, hw⟩
/-- good reading -/
def gL (z a e n : Nat) (cd : Cd) (R : Ls) : Prop := a < R.2.2.1 ∧ R.2.2.1 ≤ z ∧ e < R.2.2.2.1 ∧ R.2.2.2.1 + a ≤ R.2.2.1 + e ∧ (∀ j, j < e → R.2.2.2.2 j = cd j) ∧ W2 R.2.2.2.2 e n R.2.2.2.1 (n + 1)
/-- a reader that is good: pending parts at most m o -/
def gR (z : Nat) (m : Nat → Nat) (u : LRec) : Prop := ∀ o a e cd n, o ≤ 6 → n ≤ m o → a ≤ z → (u o a e cd).1 = 0 → gL z a e n cd (u o a e cd)
theorem lb_ok {R : Ls} {g : Nat → Nat → Cd → Ls} (q : (lb W z R c g).1 = 0) : R.1 = 0 ∧ sgn W z R.2.2.1 c ∧ lb W z R c g = g (sk W z R.2.2.1 + 1) R.2.2.2.1 R.2.2.2.2 := by
  unfold lb at q ⊢
  by_cases c1 : R.1 = 0
  · rw [if_neg (not_not_intro c1)] at q ⊢
    by_cases c2 : sgn W z R.2.2.1 c
    · rw [if_pos c2]
      exact ⟨c1, c2, rfl⟩
    · rw [if_neg c2] at q
      exact absurd (show 1 = 0 from q) (by decide)
  · rw [if_pos c1] at q
    exact absurd q c1
theorem ar2 {z a b r s e x : Nat} (h1 : a ≤ b) (h2 : b + 1 < r) (h3 : r ≤ s) (h4 : s < z) (h5 : x + (b + 1) ≤ r + e) : a < s + 1 ∧ s + 1 ≤ z ∧ x + a ≤ s + 1 + e := by omega
theorem ar3 {z a b r s r2 s2 e x x2 : Nat} (h1 : a ≤ b) (h2 : b + 1 < r) (h3 : r ≤ s) (h4 : s < z) (h5 : x + (b + 1) ≤ r + e) (h6 : s + 1 < r2) (h7 : r2 ≤ s2) (h8 : s2 < z) (h9 : x2 + (s + 1) ≤ r2 + x) : a < s2 + 1 ∧ s2 + 1 ≤ z ∧ x2 + 1 + a ≤ s2 + 1 + e := by omega
theorem lu_ok {rec : LRec} (hr : gR z (fun o => 3 * o) rec) : gR z (fun o => 3 * o + 2) (lu W z rec) := by
  intro o a e cd n ho hn ha q
  have hs := sk_le (W := W) ha
  have he := wE_le (W := W) ha
  have v := nmV_le (W := W) ha
  dsimp only at hn
  unfold lu at q ⊢
  by_cases c1 : dgt W z a
  · rw [if_pos c1] at q ⊢
    by_cases c2 : nmF W z a (nI 0) (nI 999) = 0
    · rw [if_pos c2]
      have m := nm_in ha (by decide) (by decide) c2
      have lt : sk W z a < (nmV W z a).1 := by
        unfold nmV
        obtain ⟨r, er⟩ : ∃ r, z - sk W z a = r + 1 := ⟨z - sk W z a - 1, by have := c1.1; omega⟩
        rw [er]
        unfold nmL
        rw [if_pos c1.2]
        have := (nmL_le (W := W) r (sk W z a + 1) (if 10 * 0 + (W (sk W z a) - 48) ≤ 100000 then 10 * 0 + (W (sk W z a) - 48) else 100000) (by
          by_cases q : 10 * 0 + (W (sk W z a) - 48) ≤ 100000
          · rw [if_pos q]
            exact q
          · rw [if_neg q]
            exact Nat.le_refl _)).1
        omega
      refine ⟨?_, v.2.1, ?_, ?_, fun j hj => setC_n (by omega), W2_num m.2.1 (by omega)⟩
      · show a < (nmV W z a).1
        omega
      · show e < e + 1
        omega
      · show e + 1 + a ≤ (nmV W z a).1 + e
        omega
    · rw [if_neg c2] at q
      exact absurd q c2
  · rw [if_neg c1] at q ⊢
    by_cases c2 : sgn W z a 40
    · rw [if_pos c2] at q ⊢
      by_cases c3 : o = 6
      · rw [if_pos c3] at q
        exact absurd (show 3 = 0 from q) (by decide)
      · rw [if_neg c3] at q ⊢
        obtain ⟨g1, g2, g3⟩ := lb_ok q
        rw [g3]
        obtain ⟨k1, k2, k3, k4, k5, k6⟩ := hr (o + 1) (sk W z a + 1) e cd n (by omega) (by show n ≤ 3 * (o + 1); omega) (by have := c2.1; omega) g1
        generalize rec (o + 1) (sk W z a + 1) e cd = R at g1 g2 k1 k2 k3 k4 k5 k6
        have ls := sk_le (W := W) k2
        have ar := ar2 hs.1 k1 ls.1 g2.1 k4
        exact ⟨ar.1, ar.2.1, k3, ar.2.2, k5, k6⟩
    · rw [if_neg c2] at q ⊢
      by_cases c3 : lkI W z a = -1
      · rw [if_pos c3] at q
        exact absurd (show 1 = 0 from q) (by decide)
      · obtain ⟨w1, w2, w3⟩ := lk_n c3
        rw [if_neg c3] at q ⊢
        by_cases c4 : lkN W z a < 9
        · rw [if_pos c4]
          refine ⟨?_, he.2, ?_, ?_, fun j hj => setC_n (by omega), W2_nam c4 (by omega)⟩
          · show a < wE W z a
            omega
          · show e < e + 1
            omega
          · show e + 1 + a ≤ wE W z a + e
            omega
        · rw [if_neg c4] at q ⊢
          by_cases c5 : o = 6
          · rw [if_pos c5] at q
            exact absurd (show 3 = 0 from q) (by decide)
          · rw [if_neg c5] at q ⊢
            unfold lMost at q ⊢
            by_cases c6 : sgn W z (wE W z a) 91
            · rw [if_pos c6] at q ⊢
              obtain ⟨g1, g2, g3⟩ := lb_ok q
              rw [g3] at q ⊢
              have we := sk_le (W := W) he.2
              have c61 := c6.1
              obtain ⟨k1, k2, k3, k4, k5, k6⟩ := hr (o + 1) (sk W z (wE W z a) + 1) e cd n (by omega) (by show n ≤ 3 * (o + 1); omega) c61 g1
              generalize rec (o + 1) (sk W z (wE W z a) + 1) e cd = R at g1 g2 g3 k1 k2 k3 k4 k5 k6 q ⊢
              obtain ⟨p1, p2, p3⟩ := lb_ok q
              rw [p3]
              have g21 := g2.1
              obtain ⟨m1, m2, m3, m4, m5, m6⟩ := hr (o + 1) (sk W z R.2.2.1 + 1) R.2.2.2.1 R.2.2.2.2 (n + 1) (by omega) (by show n + 1 ≤ 3 * (o + 1); omega) g21 p1
              generalize rec (o + 1) (sk W z R.2.2.1 + 1) R.2.2.2.1 R.2.2.2.2 = R2 at p1 p2 m1 m2 m3 m4 m5 m6
              have ls := sk_le (W := W) k2
              have ls2 := sk_le (W := W) m2
              have ar := ar3 (a := a) (show a ≤ sk W z (wE W z a) by omega) k1 ls.1 g21 k4 m1 ls2.1 p2.1 m4
              clear c1 c2 c6 g2 p2 q p3 g3
              refine ⟨ar.1, ar.2.1, ?_, ar.2.2, fun j hj => ?_, ?_⟩
              · show e < R2.2.2.2.1 + 1
                omega
              · show setC R2.2.2.2.2 R2.2.2.2.1 (lkN W z a - 2, 0) j = cd j
                rw [setC_n (by omega), m5 j (by omega), k5 j hj]
              · show W2 (setC R2.2.2.2.2 R2.2.2.2.1 (lkN W z a - 2, 0)) e n (R2.2.2.2.1 + 1) (n + 1)
                have t1 : W2 (setC R2.2.2.2.2 R2.2.2.2.1 (lkN W z a - 2, 0)) e n R.2.2.2.1 (n + 1) := W2_co k6 (fun j j1 j2 => by rw [setC_n (by omega), m5 j j2])
                have t2 : W2 (setC R2.2.2.2.2 R2.2.2.2.1 (lkN W z a - 2, 0)) R.2.2.2.1 (n + 1) R2.2.2.2.1 (n + 1 + 1) := W2_co m6 (fun j j1 j2 => by rw [setC_n (by omega)])
                have t3 : W2 (setC R2.2.2.2.2 R2.2.2.2.1 (lkN W z a - 2, 0)) R2.2.2.2.1 (n + 2) (R2.2.2.2.1 + 1) (n + 1) := W2_op (by omega) (by omega) (by omega)
                exact W2_tr (W2_tr t1 t2 (by omega) (by omega)) t3 (by omega) (by omega)
            · rw [if_neg c6] at q
              exact absurd (show 1 = 0 from q) (by decide)
theorem opP_8 : ¬ opP W z a = 0 → 2 ≤ opP W z a ∧ opP W z a ≤ 8 ∧ sk W z a < z := by
  unfold opP
  intro q
  by_cases c : sk W z a < z
  · rw [if_pos c] at q ⊢
    repeat' split
    all_goals first | omega | (simp_all)
  · rw [if_neg c] at q
    exact absurd rfl q
theorem opS_8 : ¬ opS W z a = 0 → 2 ≤ opS W z a ∧ opS W z a ≤ 8 ∧ sk W z a < z := by
  unfold opS
  intro q
  by_cases c : sk W z a < z
  · rw [if_pos c] at q ⊢
    repeat' split
    all_goals first | omega | (simp_all)
  · rw [if_neg c] at q
    exact absurd rfl q
/-- going on: n + 1 parts wait -/
theorem lL_ok {op : Nat → Nat} {u : LRec} {m : Nat → Nat} (hm : ∀ o, o ≤ 6 → m o ≤ 20) (hop : ∀ a, ¬ op a = 0 → 2 ≤ op a ∧ op a ≤ 8 ∧ sk W z a < z) (hu : gR z m u) : ∀ f o a e cd n, o ≤ 6 → n + 1 ≤ m o → a ≤ z → (lL W z op u f o a e cd).1 = 0 → a ≤ (lL W z op u f o a e cd).2.2.1 ∧ (lL W z op u f o a e cd).2.2.1 ≤ z ∧ e ≤ (lL W z op u f o a e cd).2.2.2.1 ∧ (lL W z op u f o a e cd).2.2.2.1 + a ≤ (lL W z op u f o a e cd).2.2.1 + e ∧ (∀ j, j < e → (lL W z op u f o a e cd).2.2.2.2 j = cd j) ∧ W2 (lL W z op u f o a e cd).2.2.2.2 e (n + 1) (lL W z op u f o a e cd).2.2.2.1 (n + 1)
  | 0, o, a, e, cd, n, ho, hn, ha, q => absurd (show 1 = 0 from q) (by decide)
  | f + 1, o, a, e, cd, n, ho, hn, ha, q => by
    have ih := lL_ok hm hop hu f
    have hs := sk_le (W := W) ha
    have h20 := hm o ho
    unfold lL at q ⊢
    by_cases c1 : op a = 0
    · rw [if_pos c1]
      refine ⟨hs.1, hs.2, Nat.le_refl _, ?_, fun j hj => rfl, ?_⟩
      · show e + a ≤ sk W z a + e
        omega
      · intro cd' hc m' hw
        show wfC cd' (e - e + m') e (n + 1)
        rw [Nat.sub_self, Nat.zero_add]
        exact hw
    · obtain ⟨p1, p2, p3⟩ := hop a c1
      rw [if_neg c1] at q ⊢
      have ok := hu o (sk W z a + 1) e cd (n + 1) ho hn p3
      generalize u o (sk W z a + 1) e cd = R at ok q ⊢
      by_cases c2 : R.1 = 0
      · rw [if_neg (not_not_intro c2)] at q ⊢
        obtain ⟨k1, k2, k3, k4, k5, k6⟩ := ok c2
        obtain ⟨g1, g2, g3, g4, g5, g6⟩ := ih o R.2.2.1 (R.2.2.2.1 + 1) (setC R.2.2.2.2 R.2.2.2.1 (op a, 0)) n ho hn k2 q
        generalize lL W z op u f o R.2.2.1 (R.2.2.2.1 + 1) (setC R.2.2.2.2 R.2.2.2.1 (op a, 0)) = R2 at g1 g2 g3 g4 g5 g6 ⊢
        refine ⟨by omega, g2, by omega, by omega, fun j hj => ?_, ?_⟩
        · rw [g5 j (by omega), setC_n (by omega), k5 j hj]
        · have t1 : W2 R2.2.2.2.2 e (n + 1) R.2.2.2.1 (n + 1 + 1) := W2_co k6 (fun j j1 j2 => by rw [g5 j (by omega), setC_n (by omega)])
          have t2 : W2 R2.2.2.2.2 R.2.2.2.1 (n + 2) (R.2.2.2.1 + 1) (n + 1) := W2_co (W2_op (cd := R.2.2.2.2) p1 p2 (by omega)) (fun j j1 j2 => by rw [g5 j (by omega)])
          exact W2_tr (W2_tr t1 t2 (by omega) (by omega)) g6 (by omega) (by omega)
      · rw [if_pos c2] at q
        exact absurd q c2
theorem lT_ok {op : Nat → Nat} {u : LRec} {m : Nat → Nat} (hm : ∀ o, o ≤ 6 → m o + 1 ≤ 20) (hop : ∀ a, ¬ op a = 0 → 2 ≤ op a ∧ op a ≤ 8 ∧ sk W z a < z) (hu : gR z (fun o => m o + 1) u) : gR z m (lT W z op u) := by
  intro o a e cd n ho hn ha q
  unfold lT at q ⊢
  have ok := hu o a e cd n ho (by show n ≤ m o + 1; omega) ha
  generalize u o a e cd = R at ok q ⊢
  by_cases c2 : R.1 = 0
  · rw [if_neg (not_not_intro c2)] at q ⊢
    obtain ⟨k1, k2, k3, k4, k5, k6⟩ := ok c2
    obtain ⟨g1, g2, g3, g4, g5, g6⟩ := lL_ok (m := fun o => m o + 1) hm hop hu (z + 1) o R.2.2.1 R.2.2.2.1 R.2.2.2.2 n ho (by show n + 1 ≤ m o + 1; omega) k2 q
    generalize lL W z op u (z + 1) o R.2.2.1 R.2.2.2.1 R.2.2.2.2 = R2 at g1 g2 g3 g4 g5 g6 ⊢
    refine ⟨by omega, g2, by omega, by omega, fun j hj => ?_, ?_⟩
    · rw [g5 j (by omega), k5 j hj]
    · exact W2_tr (W2_co k6 (fun j j1 j2 => g5 j j2)) g6 (by omega) (by omega)
  · rw [if_pos c2] at q
    exact absurd q c2
theorem lp_ok {rec : LRec} (hr : gR z (fun o => 3 * o) rec) : gR z (fun o => 3 * o + 1) (lp W z rec) := lT_ok (fun o ho => by show 3 * o + 1 + 1 ≤ 20; omega) (fun a q => opP_8 q) (lu_ok hr)
theorem lsZ_ok {rec : LRec} (hr : gR z (fun o => 3 * o) rec) : gR z (fun o => 3 * o) (lsZ W z rec) := lT_ok (fun o ho => by show 3 * o + 1 ≤ 20; omega) (fun a q => opS_8 q) (lp_ok hr)
theorem lsumK_ok : ∀ k, gR z (fun o => 3 * o) (lsumK W z k)
  | 0 => lsZ_ok (fun o a e cd n _ _ _ q => absurd (show 1 = 0 from q) (by decide))
  | k + 1 => lsZ_ok (lsumK_ok k)
theorem recK_ok {k : Nat} : gR z (fun o => 3 * o) (recK W z k) := by
  cases k with
  | zero => exact fun o a e cd n _ _ _ q => absurd (show 1 = 0 from q) (by decide)
  | succ k => exact lsumK_ok k
/-! FAULTS are at most 3 -/
def r3 (u : LRec) : Prop := ∀ o a e cd, (u o a e cd).1 ≤ 3
theorem lb_3 {R : Ls} {g : Nat → Nat → Cd → Ls} (h1 : R.1 ≤ 3) (h2 : ∀ a e cd, (g a e cd).1 ≤ 3) : (lb W z R c g).1 ≤ 3 := by
  unfold lb
  repeat' split
  all_goals first | exact h1 | exact h2 _ _ _ | (dsimp only; omega)
theorem lu_3 {rec : LRec} (hr : r3 rec) : r3 (lu W z rec) := by
  intro o a e cd
  have n1 := nmF_3 (W := W) (z := z) (a := a) (lo := nI 0) (hi := nI 999)
  unfold lu lMost
  repeat' split
  all_goals first | exact lb_3 (hr _ _ _ _) (fun _ _ _ => lb_3 (hr _ _ _ _) (fun _ _ _ => Nat.zero_le _)) | exact lb_3 (hr _ _ _ _) (fun _ _ _ => Nat.zero_le _) | (dsimp only; omega)
theorem lL_3 {op : Nat → Nat} {u : LRec} (hu : r3 u) : ∀ f, r3 (lL W z op u f)
  | 0 => fun o a e cd => by
    show 1 ≤ 3
    decide
  | f + 1 => fun o a e cd => by
    have ih := lL_3 (op := op) hu f
    have h1 := hu o (sk W z a + 1) e cd
    unfold lL
    repeat' split
    all_goals first | exact h1 | exact ih _ _ _ _ | (dsimp only; omega)
theorem lT_3 {op : Nat → Nat} {u : LRec} (hu : r3 u) : r3 (lT W z op u) := by
  intro o a e cd
  have h1 := hu o a e cd
  unfold lT
  repeat' split
  all_goals first | exact h1 | exact lL_3 hu _ _ _ _ _
theorem lsumK_3 : ∀ k, r3 (lsumK W z k)
  | 0 => lT_3 (lT_3 (lu_3 (fun _ _ _ _ => by show 1 ≤ 3; decide)))
  | k + 1 => lT_3 (lT_3 (lu_3 (lsumK_3 k)))
end LP
