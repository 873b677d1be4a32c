/-! THE READER OF A HOUSE, PURE -/
section HP
variable {W : Nat → Nat} {z a b c : Nat} {h : Hs}
/-- which word of a house stands here -/
def hkI (W : Nat → Nat) (z a : Nat) : Int32 := plA W (sk W z a) (wE W z a) wdH 0
def hkN (W : Nat → Nat) (z a : Nat) : Nat := (hkI W z a).toNatClampNeg
theorem hk_n (q : ¬ hkI W z a = -1) : hkI W z a = nI (hkN W z a) ∧ hkN W z a < 4 ∧ sk W z a + 3 ≤ wE W z a := by
  have hl := plA_len (W := W) (t := sk W z a) (e := wE W z a) wdH 0 (by decide) q
  unfold hkN
  rcases plA_or (W := W) (t := sk W z a) (e := wE W z a) wdH 0 with q1 | ⟨j, q1, q2⟩
  · exact absurd q1 q
  · have e1 : hkI W z a = nI (0 + j) := q1
    have h9 : wdH.length = 4 := rfl
    rw [e1, nI_clamp (by omega)]
    exact ⟨rfl, by omega, hl⟩
/-- numbers one behind another: FAULT, where, place -/
def nq (W : Nat → Nat) (z : Nat) : List (Nat × Nat) → Nat → Nat × Nat × Nat
  | [], b => (0, 0, b)
  | e :: l, b => if nmF W z b (nI e.1) (nI e.2) = 0 then nq W z l (nmV W z b).1 else (nmF W z b (nI e.1) (nI e.2), sk W z b, 0)
theorem nq_t {lo hi : Nat} {l : List (Nat × Nat)} (q : nmF W z b (nI lo) (nI hi) = 0) : nq W z ((lo, hi) :: l) b = nq W z l (nmV W z b).1 := if_pos q
theorem nq_f {lo hi : Nat} {l : List (Nat × Nat)} (q : ¬ nmF W z b (nI lo) (nI hi) = 0) : nq W z ((lo, hi) :: l) b = (nmF W z b (nI lo) (nI hi), sk W z b, 0) := if_neg q
theorem nq_le : ∀ l b, b ≤ z → (nq W z l b).1 = 0 → b ≤ (nq W z l b).2.2 ∧ (nq W z l b).2.2 ≤ z
  | [], b, hb, _ => ⟨Nat.le_refl _, hb⟩
  | (lo, hi) :: l, b, hb, q => by
    by_cases c : nmF W z b (nI lo) (nI hi) = 0
    · rw [nq_t c] at q ⊢
      have v := nmV_le (W := W) hb
      have := nq_le l _ v.2.1 q
      omega
    · rw [nq_f c] at q
      exact absurd q c
theorem nq_3 : ∀ l b, (nq W z l b).1 ≤ 3
  | [], b => by
    show 0 ≤ 3
    decide
  | (lo, hi) :: l, b => by
    by_cases c : nmF W z b (nI lo) (nI hi) = 0
    · rw [nq_t c]
      exact nq_3 l _
    · rw [nq_f c]
      have := nmF_3 (W := W) (z := z) (a := b) (lo := nI lo) (hi := nI hi)
      show nmF W z b (nI lo) (nI hi) ≤ 3
      omega
abbrev nP (W : Nat → Nat) (z b : Nat) : Nat := (nmV W z b).1
abbrev nV (W : Nat → Nat) (z b : Nat) : Nat := (nmV W z b).2
def nms (K : Nat) : List (Nat × Nat) := if K = 0 then [(1, 30), (0, 9), (0, 9), (0, 9)] else if K = 1 then [(0, 9), (0, 9)] else if K = 2 then [(0, 200), (1, 99)] else [(0, 99)]
/-- the numbers of a clause, and that a collar joins unlike threads -/
def hm (W : Nat → Nat) (z K b : Nat) : Nat × Nat × Nat := if ¬ (nq W z (nms K) b).1 = 0 then nq W z (nms K) b else if K = 1 ∧ nV W z b = nV W z (nP W z b) then (2, sk W z (nP W z b), 0) else nq W z (nms K) b
abbrev hFull (h : Hs) (c K : Nat) : Prop := c = 60 ∨ (K = 0 ∧ h 0 0 = 6) ∨ (K = 1 ∧ h 0 1 = 4) ∨ (K = 2 ∧ h 0 2 = 5)
def hp (h : Hs) (l u v w : Nat) : Hs := up2 (up2 (up2 (up2 (up2 h 1 (h 0 0) l) 2 (h 0 0) u) 3 (h 0 0) v) 4 (h 0 0) w) 0 0 (h 0 0 + 1)
def hc (h : Hs) (s t : Nat) : Hs := up2 (addC h s t) 0 1 (h 0 1 + 1)
def hf (h : Hs) (u v : Nat) : Hs := up2 (up2 (up2 h 7 (h 0 2) u) 8 (h 0 2) v) 0 2 (h 0 2 + 1)
def hh (h : Hs) (v : Nat) : Hs := up2 h 0 3 v
def hAdd (W : Nat → Nat) (z : Nat) (h : Hs) (K b : Nat) : Hs := if K = 0 then hp h (nV W z b) (nV W z (nP W z b)) (nV W z (nP W z (nP W z b))) (nV W z (nP W z (nP W z (nP W z b)))) else if K = 1 then hc h (nV W z b) (nV W z (nP W z b)) else if K = 2 then hf h (nV W z b) (nV W z (nP W z b)) else hh h (nV W z b)
def hcl (W : Nat → Nat) (z c a : Nat) (h : Hs) : Nat × Nat × Nat × Hs := if hkI W z a = -1 then (1, sk W z a, 0, h) else if hFull h c (hkN W z a) then (3, sk W z a, 0, h) else if ¬ (hm W z (hkN W z a) (wE W z a)).1 = 0 then ((hm W z (hkN W z a) (wE W z a)).1, (hm W z (hkN W z a) (wE W z a)).2.1, 0, h) else if sgn W z (hm W z (hkN W z a) (wE W z a)).2.2 59 then (0, 0, sk W z (hm W z (hkN W z a) (wE W z a)).2.2 + 1, hAdd W z h (hkN W z a) (wE W z a)) else (1, sk W z (hm W z (hkN W z a) (wE W z a)).2.2, 0, h)
theorem hcl_sk (ha : a ≤ z) : hcl W z c (sk W z a) h = hcl W z c a h := by
  have e1 : hkI W z (sk W z a) = hkI W z a := by
    unfold hkI
    rw [sk_sk ha, wE_sk ha]
  have e2 : hkN W z (sk W z a) = hkN W z a := by
    unfold hkN
    rw [e1]
  unfold hcl
  rw [e1, e2, sk_sk ha, wE_sk ha]
def hP (W : Nat → Nat) (z : Nat) : Nat → Nat → Nat → Hs → Nat × Nat × Hs
  | 0, _, _, h => (1, 0, h)
  | f + 1, c, a, h => if sk W z a = z then (0, 0, h) else if ¬ (hcl W z c a h).1 = 0 then ((hcl W z c a h).1, (hcl W z c a h).2.1, h) else hP W z f (c + 1) (hcl W z c a h).2.2.1 (hcl W z c a h).2.2.2
/-- a house that can stand -/
def hOK (h : Hs) : Prop := HOK h ∧ (∀ e, e < h 0 1 → h 5 e ≤ 9 ∧ h 6 e ≤ 9) ∧ h 0 3 ≤ 99
theorem hm_ok {K : Nat} (q : (hm W z K b).1 = 0) : (nq W z (nms K) b).1 = 0 ∧ hm W z K b = nq W z (nms K) b ∧ ¬ (K = 1 ∧ nV W z b = nV W z (nP W z b)) := by
  unfold hm at q ⊢
  by_cases c1 : (nq W z (nms K) b).1 = 0
  · rw [if_neg (not_not_intro c1)] at q ⊢
    by_cases c2 : K = 1 ∧ nV W z b = nV W z (nP W z b)
    · rw [if_pos c2] at q
      exact absurd (show 2 = 0 from q) (by decide)
    · rw [if_neg c2]
      exact ⟨c1, rfl, c2⟩
  · rw [if_pos c1] at q
    exact absurd q c1
theorem hm_3 {K : Nat} : (hm W z K b).1 ≤ 3 := by
  unfold hm
  have := nq_3 (W := W) (z := z) (nms K) b
  repeat' split
  all_goals first | exact this | (dsimp only; omega)
theorem hcl_3 : (hcl W z c a h).1 ≤ 3 := by
  have := hm_3 (W := W) (z := z) (b := wE W z a) (K := hkN W z a)
  unfold hcl
  repeat' split
  all_goals first | exact this | (dsimp only; omega)
theorem hP_3 : ∀ f c a h, (hP W z f c a h).1 ≤ 3
  | 0, c, a, h => by
    show 1 ≤ 3
    decide
  | f + 1, c, a, h => by
    have ih := hP_3 f
    have h1 := hcl_3 (W := W) (z := z) (c := c) (a := a) (h := h)
    unfold hP
    repeat' split
    all_goals first | exact h1 | exact ih _ _ _ | (dsimp only; omega)
theorem hp_0 {l u v w k : Nat} : hp h l u v w 0 k = if k = 0 then h 0 0 + 1 else h 0 k := by simp [hp, up2]
theorem hp_1 {l u v w k : Nat} : hp h l u v w 1 k = if k = h 0 0 then l else h 1 k := by simp [hp, up2]
theorem hp_2 {l u v w k : Nat} : hp h l u v w 2 k = if k = h 0 0 then u else h 2 k := by simp [hp, up2]
theorem hp_3 {l u v w k : Nat} : hp h l u v w 3 k = if k = h 0 0 then v else h 3 k := by simp [hp, up2]
theorem hp_4 {l u v w k : Nat} : hp h l u v w 4 k = if k = h 0 0 then w else h 4 k := by simp [hp, up2]
theorem hp_5 {l u v w i k : Nat} (hi : 5 ≤ i) : hp h l u v w i k = h i k := by
  unfold hp
  rw [up2_n (by omega), up2_n (by omega), up2_n (by omega), up2_n (by omega), up2_n (by omega)]
theorem hc_0 {s t k : Nat} : hc h s t 0 k = if k = 1 then h 0 1 + 1 else h 0 k := by simp [hc, up2, addC]
theorem hc_i {s t i k : Nat} (h0 : ¬ i = 0) (h5 : ¬ i = 5) (h6 : ¬ i = 6) : hc h s t i k = h i k := by simp [hc, up2, addC, h0, h5, h6]
theorem hc_5 {s t k : Nat} : hc h s t 5 k = if k = h 0 1 then s else h 5 k := by simp [hc, up2, addC]
theorem hc_6 {s t k : Nat} : hc h s t 6 k = if k = h 0 1 then t else h 6 k := by simp [hc, up2, addC]
theorem hf_0 {u v k : Nat} : hf h u v 0 k = if k = 2 then h 0 2 + 1 else h 0 k := by simp [hf, up2]
theorem hf_7 {u v k : Nat} : hf h u v 7 k = if k = h 0 2 then u else h 7 k := by simp [hf, up2]
theorem hf_8 {u v k : Nat} : hf h u v 8 k = if k = h 0 2 then v else h 8 k := by simp [hf, up2]
theorem hf_i {u v i k : Nat} (h0 : ¬ i = 0) (h5 : ¬ i = 7) (h6 : ¬ i = 8) : hf h u v i k = h i k := by
  unfold hf
  rw [up2_n h0, up2_n h6, up2_n h5]
theorem hh_0 {v k : Nat} : hh h v 0 k = if k = 3 then v else h 0 k := by simp [hh, up2]
theorem hh_i {v i k : Nat} (h0 : ¬ i = 0) : hh h v i k = h i k := by
  unfold hh
  rw [up2_n h0]
theorem nq_1 {lo hi : Nat} {l : List (Nat × Nat)} (q : (nq W z ((lo, hi) :: l) b).1 = 0) : nmF W z b (nI lo) (nI hi) = 0 ∧ (nq W z l (nP W z b)).1 = 0 := by
  by_cases c : nmF W z b (nI lo) (nI hi) = 0
  · rw [nq_t c] at q
    exact ⟨c, q⟩
  · rw [nq_f c] at q
    exact absurd q c
theorem hAdd_ok {K : Nat} (hK : K < 4) (hb : b ≤ z) (ok : hOK h) (hn : ¬ hFull h c K) (q : (hm W z K b).1 = 0) : hOK (hAdd W z h K b) := by
  obtain ⟨⟨o1, o2, o3, o4, o5⟩, o6, o7⟩ := ok
  obtain ⟨q1, q2, q3⟩ := hm_ok q
  have v1 := nmV_le (W := W) hb
  have v2 := nmV_le (W := W) v1.2.1
  have v3 := nmV_le (W := W) v2.2.1
  unfold hAdd
  by_cases k0 : K = 0
  · rw [if_pos k0]
    rw [k0] at q1
    obtain ⟨n1, q1⟩ := nq_1 q1
    obtain ⟨n2, q1⟩ := nq_1 q1
    obtain ⟨n3, q1⟩ := nq_1 q1
    obtain ⟨n4, q1⟩ := nq_1 q1
    have m1 := nm_in hb (by decide) (by decide) n1
    have m2 := nm_in v1.2.1 (by decide) (by decide) n2
    have m3 := nm_in v2.2.1 (by decide) (by decide) n3
    have m4 := nm_in v3.2.1 (by decide) (by decide) n4
    have hlt : h 0 0 < 6 := by
      have : ¬ h 0 0 = 6 := fun e => hn (.inr (.inl ⟨k0, e⟩))
      omega
    refine ⟨⟨?_, ?_, ?_, fun p hp' => ?_, fun f hf' => ?_⟩, fun e he => ?_, ?_⟩
    · rw [hp_0, if_pos rfl]
      omega
    · rw [hp_0, if_neg (by decide)]
      exact o2
    · rw [hp_0, if_neg (by decide)]
      exact o3
    · rw [hp_0, if_pos rfl] at hp'
      rw [hp_1, hp_2, hp_3, hp_4]
      by_cases e : p = h 0 0
      · rw [if_pos e, if_pos e, if_pos e, if_pos e]
        exact ⟨m1.1, m1.2.1, m2.2.1, m3.2.1, m4.2.1⟩
      · rw [if_neg e, if_neg e, if_neg e, if_neg e]
        exact o4 p (by omega)
    · rw [hp_0, if_neg (by decide)] at hf'
      rw [hp_5 (by decide), hp_5 (by decide)]
      exact o5 f hf'
    · rw [hp_0, if_neg (by decide)] at he
      rw [hp_5 (by decide), hp_5 (by decide)]
      exact o6 e he
    · rw [hp_0, if_neg (by decide)]
      exact o7
  · rw [if_neg k0]
    by_cases k1 : K = 1
    · rw [if_pos k1]
      rw [k1] at q1
      obtain ⟨n1, q1⟩ := nq_1 q1
      obtain ⟨n2, q1⟩ := nq_1 q1
      have m1 := nm_in hb (by decide) (by decide) n1
      have m2 := nm_in v1.2.1 (by decide) (by decide) n2
      have hlt : h 0 1 < 4 := by
        have : ¬ h 0 1 = 4 := fun e => hn (.inr (.inr (.inl ⟨k1, e⟩)))
        omega
      refine ⟨⟨?_, ?_, ?_, fun p hp' => ?_, fun f hf' => ?_⟩, fun e he => ?_, ?_⟩
      · rw [hc_0, if_neg (by decide)]
        exact o1
      · rw [hc_0, if_pos rfl]
        omega
      · rw [hc_0, if_neg (by decide)]
        exact o3
      · rw [hc_0, if_neg (by decide)] at hp'
        rw [hc_i (by decide) (by decide) (by decide), hc_i (by decide) (by decide) (by decide), hc_i (by decide) (by decide) (by decide), hc_i (by decide) (by decide) (by decide)]
        exact o4 p hp'
      · rw [hc_0, if_neg (by decide)] at hf'
        rw [hc_i (by decide) (by decide) (by decide), hc_i (by decide) (by decide) (by decide)]
        exact o5 f hf'
      · rw [hc_0, if_pos rfl] at he
        rw [hc_5, hc_6]
        by_cases e' : e = h 0 1
        · rw [if_pos e', if_pos e']
          exact ⟨m1.2.1, m2.2.1⟩
        · rw [if_neg e', if_neg e']
          exact o6 e (by omega)
      · rw [hc_0, if_neg (by decide)]
        exact o7
    · rw [if_neg k1]
      by_cases k2 : K = 2
      · rw [if_pos k2]
        rw [k2] at q1
        obtain ⟨n1, q1⟩ := nq_1 q1
        obtain ⟨n2, q1⟩ := nq_1 q1
        have m1 := nm_in hb (by decide) (by decide) n1
        have m2 := nm_in v1.2.1 (by decide) (by decide) n2
        have hlt : h 0 2 < 5 := by
          have : ¬ h 0 2 = 5 := fun e => hn (.inr (.inr (.inr ⟨k2, e⟩)))
          omega
        refine ⟨⟨?_, ?_, ?_, fun p hp' => ?_, fun f hf' => ?_⟩, fun e he => ?_, ?_⟩
        · rw [hf_0, if_neg (by decide)]
          exact o1
        · rw [hf_0, if_neg (by decide)]
          exact o2
        · rw [hf_0, if_pos rfl]
          omega
        · rw [hf_0, if_neg (by decide)] at hp'
          rw [hf_i (by decide) (by decide) (by decide), hf_i (by decide) (by decide) (by decide), hf_i (by decide) (by decide) (by decide), hf_i (by decide) (by decide) (by decide)]
          exact o4 p hp'
        · rw [hf_0, if_pos rfl] at hf'
          rw [hf_7, hf_8]
          by_cases e' : f = h 0 2
          · rw [if_pos e', if_pos e']
            exact ⟨m1.2.1, m2.1, m2.2.1⟩
          · rw [if_neg e', if_neg e']
            exact o5 f (by omega)
        · rw [hf_0, if_neg (by decide)] at he
          rw [hf_i (by decide) (by decide) (by decide), hf_i (by decide) (by decide) (by decide)]
          exact o6 e he
        · rw [hf_0, if_neg (by decide)]
          exact o7
      · rw [if_neg k2]
        have k3 : K = 3 := by omega
        rw [k3] at q1
        obtain ⟨n1, q1⟩ := nq_1 q1
        have m1 := nm_in hb (by decide) (by decide) n1
        refine ⟨⟨?_, ?_, ?_, fun p hp' => ?_, fun f hf' => ?_⟩, fun e he => ?_, ?_⟩
        · rw [hh_0, if_neg (by decide)]
          exact o1
        · rw [hh_0, if_neg (by decide)]
          exact o2
        · rw [hh_0, if_neg (by decide)]
          exact o3
        · rw [hh_0, if_neg (by decide)] at hp'
          rw [hh_i (by decide), hh_i (by decide), hh_i (by decide), hh_i (by decide)]
          exact o4 p hp'
        · rw [hh_0, if_neg (by decide)] at hf'
          rw [hh_i (by decide), hh_i (by decide)]
          exact o5 f hf'
        · rw [hh_0, if_neg (by decide)] at he
          rw [hh_i (by decide), hh_i (by decide)]
          exact o6 e he
        · rw [hh_0, if_pos rfl]
          exact m1.2.1
theorem hcl_ok (ha : a ≤ z) (ok : hOK h) (q : (hcl W z c a h).1 = 0) : (hcl W z c a h).2.2.1 ≤ z ∧ ¬ c = 60 ∧ hOK (hcl W z c a h).2.2.2 := by
  have he := wE_le (W := W) ha
  unfold hcl at q ⊢
  by_cases c1 : hkI W z a = -1
  · rw [if_pos c1] at q
    exact absurd (show 1 = 0 from q) (by decide)
  · obtain ⟨w1, w2, w3⟩ := hk_n c1
    rw [if_neg c1] at q ⊢
    by_cases c2 : hFull h c (hkN W z a)
    · rw [if_pos c2] at q
      exact absurd (show 3 = 0 from q) (by decide)
    · rw [if_neg c2] at q ⊢
      by_cases c3 : (hm W z (hkN W z a) (wE W z a)).1 = 0
      · rw [if_neg (not_not_intro c3)] at q ⊢
        by_cases c4 : sgn W z (hm W z (hkN W z a) (wE W z a)).2.2 59
        · rw [if_pos c4]
          refine ⟨?_, fun e => c2 (.inl e), hAdd_ok w2 he.2 ok c2 c3⟩
          have := c4.1
          show sk W z _ + 1 ≤ z
          omega
        · rw [if_neg c4] at q
          exact absurd (show 1 = 0 from q) (by decide)
      · rw [if_pos c3] at q
        exact absurd q c3
theorem jn_cong {h' : Hs} {m : Nat} (h5 : ∀ e, e < m → h' 5 e = h 5 e ∧ h' 6 e = h 6 e) : ∀ s t, jn h' m s t = jn h m s t := by
  intro s t
  have e : jn h' m s t = true ↔ jn h m s t = true := by
    rw [jn_iff, jn_iff]
    constructor
    · rintro (⟨e, h1, h2⟩ | h1)
      · refine .inl ⟨e, h1, ?_⟩
        unfold jnP at h2 ⊢
        rw [(h5 e h1).1, (h5 e h1).2] at h2
        exact h2
      · exact .inr h1
    · rintro (⟨e, h1, h2⟩ | h1)
      · refine .inl ⟨e, h1, ?_⟩
        unfold jnP at h2 ⊢
        rw [(h5 e h1).1, (h5 e h1).2]
        exact h2
      · exact .inr h1
  exact Bool.eq_iff_iff.mpr e
end HP
