/-! TEXT IS READ, BY BOTH: bytes W, size z, place a -/
section TX
variable {d L X : Nat} {I : MI32} {J : MI64} {W : Nat → Nat} {z a : Nat}
def byT (W : Nat → Nat) (z k : Nat) : Int32 := if k < z then nI (W k) else -1
def BC (I : MI32) (W : Nat → Nat) : Prop := ∀ k, k < 600 → I 2 k &&& nI 255 = nI (W k) ∧ W k < 256
def BM (I : MI32) (W : Nat → Nat) : Prop := ∀ k, k < 600 → I 73 k = nI (W k)
/-- on while P holds -/
def adv (P : Nat → Bool) : Nat → Nat → Nat
  | 0, a => a
  | r + 1, a => if P a = true then adv P r (a + 1) else a
def isB (W : Nat → Nat) (k : Nat) : Bool := decide (W k = 32)
def isG (W : Nat → Nat) (k : Nat) : Bool := decide (48 ≤ W k ∧ W k ≤ 57)
def isS (W : Nat → Nat) (k : Nat) : Bool := decide (97 ≤ W k ∧ W k ≤ 122)
theorem adv_le {P : Nat → Bool} : ∀ r a, a ≤ adv P r a ∧ adv P r a ≤ a + r
  | 0, a => ⟨Nat.le_refl _, Nat.le_refl _⟩
  | r + 1, a => by
    have := adv_le (P := P) r (a + 1)
    unfold adv
    by_cases e : P a = true
    · rw [if_pos e]
      omega
    · rw [if_neg e]
      omega
theorem adv_in {P : Nat → Bool} : ∀ r a i, a ≤ i → i < adv P r a → P i = true
  | 0, a, i, h1, h2 => by
    exfalso
    exact absurd h1 (Nat.not_le.mpr h2)
  | r + 1, a, i, h1, h2 => by
    unfold adv at h2
    by_cases e : P a = true
    · rw [if_pos e] at h2
      by_cases q : i = a
      · rw [q]
        exact e
      · exact adv_in r (a + 1) i (by omega) h2
    · rw [if_neg e] at h2
      omega
theorem adv_out {P : Nat → Bool} : ∀ r a, adv P r a < a + r → P (adv P r a) = false
  | 0, a, h => absurd h (Nat.lt_irrefl _)
  | r + 1, a, h => by
    unfold adv at h ⊢
    by_cases e : P a = true
    · rw [if_pos e] at h ⊢
      exact adv_out r (a + 1) (by omega)
    · rw [if_neg e]
      exact Bool.eq_false_iff.mpr e
/-- behind blanks -/
def sk (W : Nat → Nat) (z a : Nat) : Nat := adv (isB W) (z - a) a
theorem sk_le (h : a ≤ z) : a ≤ sk W z a ∧ sk W z a ≤ z := by
  have := adv_le (P := isB W) (z - a) a
  unfold sk
  omega
theorem sk_sk (h : a ≤ z) : sk W z (sk W z a) = sk W z a := by
  have h1 := sk_le (W := W) h
  by_cases e : sk W z a = z
  · rw [e]
    unfold sk
    rw [Nat.sub_self]
    rfl
  · have h2 : isB W (sk W z a) = false := adv_out (z - a) a (by show sk W z a < _; omega)
    obtain ⟨r, er⟩ : ∃ r, z - sk W z a = r + 1 := ⟨z - sk W z a - 1, by omega⟩
    show adv (isB W) (z - sk W z a) (sk W z a) = sk W z a
    rw [er]
    unfold adv
    rw [h2]
    rfl
theorem sp_byteC {k : Nat} (B : BC I W) (hk : k < 600) : runM (d + 1) nX7_byteAt [.ref 1, .int (nI k)] (mm L X I J) = rI (nI (W k)) (mm L X I J) := by
  rw [e_X7_byteAt]
  (first | refine Eq.trans (q_X7_byteAt_0) ?_)
  rw [if_neg (by ((try simp (disch := omega) only [nI_leI, nI_ltI, nI_eq, nI_add, pk_mul, n_0add, Nat.zero_add, nI_clamp]) <;> omega)), if_neg (by ((try simp (disch := omega) only [nI_leI, nI_ltI, nI_eq, nI_add, pk_mul, n_0add, Nat.zero_add, nI_clamp]) <;> omega)), gd_t (inb_n hk (by decide)), nI_clamp (by omega), (B k hk).1]
theorem sp_byteM {k : Nat} (B : BM I W) (hz : I 72 2 = nI z) (hz2 : z ≤ 600) (hk : k < 2 ^ 31) : runM (d + 1) nX12_byteAt [.ref 72, .int (nI k)] (mm L X I J) = rI (byT W z k) (mm L X I J) := by
  rw [e_X12_byteAt]
  (first | refine Eq.trans (q_X12_byteAt_0) ?_)
  rw [hz]
  unfold byT
  by_cases e : k < z
  · rw [if_pos (by ((try simp (disch := omega) only [nI_leI, nI_ltI, nI_eq, nI_add, pk_mul, n_0add, Nat.zero_add, nI_clamp]) <;> omega)), if_pos e, gd_t (inb_n (by omega) (by decide)), nI_clamp (by omega), B k (by omega)]
  · rw [if_neg (by ((try simp (disch := omega) only [nI_leI, nI_ltI, nI_eq, nI_add, pk_mul, n_0add, Nat.zero_add, nI_clamp]) <;> omega)), if_neg e]
theorem byT_32 (hW : W a < 256) : byT W z a = nI 32 ↔ a < z ∧ isB W a = true := by
  unfold byT isB
  by_cases e : a < z
  · rw [if_pos e, nI_eq (by omega) (by decide), decide_eq_true_eq]
    exact ⟨fun q => ⟨e, q⟩, fun q => q.2⟩
  · rw [if_neg e]
    exact ⟨fun q => absurd q (by decide), fun q => absurd q.1 e⟩
/-! the class -/
theorem lp_peek (B : BC I W) (hz : I 1 6 = nI z) (hz2 : z ≤ 600) : ∀ r a I', z - a = r → a ≤ z → Fr [(1, 6), (1, 8)] I I' → I' 1 5 = nI a → Rt L X (c_X7_peek_0 (d + 1) L X I' J) (some (.int (byT W z (sk W z a)))) (fun I'' J' => (Fr [(1, 6), (1, 8)] I I'' ∧ I'' 1 5 = nI (sk W z a) ∧ I'' 1 7 = nI (sk W z a)) ∧ J' = J) := by
  intro r
  have fin : ∀ a I', a ≤ z → sk W z a = a → Fr [(1, 6), (1, 8)] I I' → I' 1 5 = nI a → Rt L X (runI (runM (d + 1)) iX7_peek (37, [some (.ref 1)], [], mm L X I' J)) (some (.int (byT W z a))) (fun I'' J' => (Fr [(1, 6), (1, 8)] I I'' ∧ I'' 1 5 = nI a ∧ I'' 1 7 = nI a) ∧ J' = J) := by
    intro a I' ha ea hf h5
    have B' : BC (up2 I' 1 7 (I' 1 5)) W := fun k hk => by
      rw [up2_n (by decide), hf 2 k rfl]
      exact B k hk
    have q : (Fr [(1, 6), (1, 8)] I (up2 I' 1 7 (I' 1 5)) ∧ (up2 I' 1 7 (I' 1 5)) 1 5 = nI a ∧ (up2 I' 1 7 (I' 1 5)) 1 7 = nI a) ∧ J = J := ⟨⟨fr_up hf rfl, by rw [up2_k (by decide), h5], by rw [up2_s, h5]⟩, rfl⟩
    (first | refine rt_eq (q_X7_peek_0) ?_ | refine rt_eq (q_X7_peek_37) ?_ | refine rt_eq (q_X7_peek_19) ?_ | refine rt_eq (q_X7_peek_64) ?_)
    rw [show (up2 I' 1 7 (I' 1 5)) 1 5 = nI a from q.1.2.1, show (up2 I' 1 7 (I' 1 5)) 1 6 = nI z by rw [up2_k (by decide), hf 1 6 rfl, hz]]
    unfold byT
    by_cases e : a < z
    · rw [if_pos e]
      refine rt_f (by (try simp (disch := omega) only [nI_leI, nI_ltI, nI_eq, nI_add, pk_mul, n_0add, Nat.zero_add, nI_clamp]) <;> omega) ?_
      refine rt_be (sp_byteC B' (by omega)) ?_
      (first | refine rt_eq (q_X7_peek_0) ?_ | refine rt_eq (q_X7_peek_37) ?_ | refine rt_eq (q_X7_peek_19) ?_ | refine rt_eq (q_X7_peek_64) ?_)
      exact rt_ret q
    · rw [if_neg e]
      exact rt_t (by (try simp (disch := omega) only [nI_leI, nI_ltI, nI_eq, nI_add, pk_mul, n_0add, Nat.zero_add, nI_clamp]) <;> omega) (rt_ret q)
  induction r with
  | zero =>
    intro a I' hr ha hf h5
    have ea : sk W z a = a := by
      unfold sk
      rw [hr]
      rfl
    (first | refine rt_eq (q_X7_peek_0) ?_ | refine rt_eq (q_X7_peek_37) ?_ | refine rt_eq (q_X7_peek_19) ?_ | refine rt_eq (q_X7_peek_64) ?_)
    rw [h5, hf 1 6 rfl, hz, ea]
    refine rt_t (by (try simp (disch := omega) only [nI_leI, nI_ltI, nI_eq, nI_add, pk_mul, n_0add, Nat.zero_add, nI_clamp]) <;> omega) ?_
    exact fin a I' ha ea hf h5
  | succ r ih =>
    intro a I' hr ha hf h5
    have es : sk W z a = if isB W a = true then sk W z (a + 1) else a := by
      unfold sk
      rw [hr, show z - (a + 1) = r by omega]
      rfl
    have B' : BC I' W := fun k hk => by
      rw [hf 2 k rfl]
      exact B k hk
    (first | refine rt_eq (q_X7_peek_0) ?_ | refine rt_eq (q_X7_peek_37) ?_ | refine rt_eq (q_X7_peek_19) ?_ | refine rt_eq (q_X7_peek_64) ?_)
    rw [h5, hf 1 6 rfl, hz]
    refine rt_f (by (try simp (disch := omega) only [nI_leI, nI_ltI, nI_eq, nI_add, pk_mul, n_0add, Nat.zero_add, nI_clamp]) <;> omega) ?_
    refine rt_be (sp_byteC B' (by omega)) ?_
    (first | refine rt_eq (q_X7_peek_0) ?_ | refine rt_eq (q_X7_peek_37) ?_ | refine rt_eq (q_X7_peek_19) ?_ | refine rt_eq (q_X7_peek_64) ?_)
    have hb := (B a (by omega)).2
    by_cases e : W a = 32
    · rw [e]
      refine rt_t rfl ?_
      rw [es, if_pos (show isB W a = true from decide_eq_true e)]
      refine rt_eq (q_X7_peek_0).symm ?_
      exact ih (a + 1) _ (by omega) (by omega) (fr_up hf rfl) (by rw [up2_s, h5, nI_add])
    · refine rt_f (by (try simp (disch := omega) only [nI_leI, nI_ltI, nI_eq, nI_add, pk_mul, n_0add, Nat.zero_add, nI_clamp]) <;> omega) ?_
      have es' : sk W z a = a := by
        rw [es, if_neg (show ¬ isB W a = true from fun q => e (of_decide_eq_true q))]
      rw [es']
      exact fin a I' ha es' hf h5
theorem sp_peek (B : BC I W) (hz : I 1 6 = nI z) (hz2 : z ≤ 600) (ha : a ≤ z) (h5 : I 1 5 = nI a) : Rt L X (runM (d + 2) nX7_peek [.ref 1] (mm L X I J)) (some (.int (byT W z (sk W z a)))) (fun I'' J' => (Fr [(1, 6), (1, 8)] I I'' ∧ I'' 1 5 = nI (sk W z a) ∧ I'' 1 7 = nI (sk W z a)) ∧ J' = J) := by
  rw [e_X7_peek]
  exact lp_peek B hz hz2 (z - a) a I rfl ha fr_rfl h5
/-! the model -/
theorem lp_blanks (B : BM I W) (B2 : ∀ k, k < 600 → W k < 256) (hz : I 72 2 = nI z) (hz2 : z ≤ 600) : ∀ r a I', z - a = r → a ≤ z → Fr [(72, 5)] I I' → I' 72 4 = nI a → Rt L X (c_X12_blanks_0 (d + 1) L X I' J) none (fun I'' J' => (Fr [(72, 5)] I I'' ∧ I'' 72 4 = nI (sk W z a)) ∧ J' = J) := by
  intro r
  induction r with
  | zero =>
    intro a I' hr ha hf h4
    have B' : BM I' W := fun k hk => by
      rw [hf 73 k rfl]
      exact B k hk
    have ea : sk W z a = a := by
      unfold sk
      rw [hr]
      rfl
    (first | refine rt_eq (q_X12_blanks_0) ?_ | refine rt_eq (q_X12_blanks_8) ?_)
    rw [h4]
    refine rt_be (sp_byteM B' ((hf 72 2 rfl).trans hz) hz2 (by omega)) ?_
    (first | refine rt_eq (q_X12_blanks_0) ?_ | refine rt_eq (q_X12_blanks_8) ?_)
    have e1 : byT W z a = -1 := if_neg (by omega)
    rw [e1, ea]
    exact rt_f (by decide) (rt_ret ⟨⟨hf, h4⟩, rfl⟩)
  | succ r ih =>
    intro a I' hr ha hf h4
    have B' : BM I' W := fun k hk => by
      rw [hf 73 k rfl]
      exact B k hk
    have es : sk W z a = if isB W a = true then sk W z (a + 1) else a := by
      unfold sk
      rw [hr, show z - (a + 1) = r by omega]
      rfl
    (first | refine rt_eq (q_X12_blanks_0) ?_ | refine rt_eq (q_X12_blanks_8) ?_)
    rw [h4]
    refine rt_be (sp_byteM B' ((hf 72 2 rfl).trans hz) hz2 (by omega)) ?_
    (first | refine rt_eq (q_X12_blanks_0) ?_ | refine rt_eq (q_X12_blanks_8) ?_)
    have e1 : byT W z a = nI (W a) := if_pos (by omega)
    have hb := B2 a (by omega)
    rw [e1]
    by_cases e : W a = 32
    · rw [e]
      refine rt_t rfl ?_
      rw [es, if_pos (show isB W a = true from decide_eq_true e)]
      refine rt_eq (q_X12_blanks_0).symm ?_
      exact ih (a + 1) _ (by omega) (by omega) (fr_up hf rfl) (by rw [up2_s, h4, nI_add])
    · refine rt_f (by (try simp (disch := omega) only [nI_leI, nI_ltI, nI_eq, nI_add, pk_mul, n_0add, Nat.zero_add, nI_clamp]) <;> omega) ?_
      rw [es, if_neg (show ¬ isB W a = true from fun q => e (of_decide_eq_true q))]
      exact rt_ret ⟨⟨hf, h4⟩, rfl⟩
theorem sp_blanks (B : BM I W) (B2 : ∀ k, k < 600 → W k < 256) (hz : I 72 2 = nI z) (hz2 : z ≤ 600) (ha : a ≤ z) (h4 : I 72 4 = nI a) : Rt L X (runM (d + 2) nX12_blanks [.ref 72] (mm L X I J)) none (fun I'' J' => (Fr [(72, 5)] I I'' ∧ I'' 72 4 = nI (sk W z a)) ∧ J' = J) := by
  rw [e_X12_blanks]
  exact lp_blanks B B2 hz hz2 (z - a) a I rfl ha fr_rfl h4
/-! numbers -/
def nmL (W : Nat → Nat) : Nat → Nat → Nat → Nat × Nat
  | 0, a, v => (a, v)
  | r + 1, a, v => if isG W a = true then nmL W r (a + 1) (if 10 * v + (W a - 48) ≤ 100000 then 10 * v + (W a - 48) else 100000) else (a, v)
theorem nmL_le : ∀ r a v, v ≤ 100000 → a ≤ (nmL W r a v).1 ∧ (nmL W r a v).1 ≤ a + r ∧ (nmL W r a v).2 ≤ 100000
  | 0, a, v, h => ⟨Nat.le_refl _, Nat.le_refl _, h⟩
  | r + 1, a, v, h => by
    unfold nmL
    by_cases e : isG W a = true
    · rw [if_pos e]
      have := nmL_le r (a + 1) (if 10 * v + (W a - 48) ≤ 100000 then 10 * v + (W a - 48) else 100000) (by
        by_cases q : 10 * v + (W a - 48) ≤ 100000
        · rw [if_pos q]
          exact q
        · rw [if_neg q]
          exact Nat.le_refl _)
      exact ⟨by omega, by omega, this.2.2⟩
    · rw [if_neg e]
      exact ⟨Nat.le_refl _, by omega, h⟩
/-- a number: what stands there, and behind it -/
def nmV (W : Nat → Nat) (z a : Nat) : Nat × Nat := nmL W (z - sk W z a) (sk W z a) 0
/-- its FAULT: 0 none -/
def nmF (W : Nat → Nat) (z a : Nat) (lo hi : Int32) : Nat := if sk W z a < z ∧ isG W (sk W z a) = true then (if lo ≤ nI (nmV W z a).2 ∧ nI (nmV W z a).2 ≤ hi then 0 else 2) else 1
theorem nmV_le (h : a ≤ z) : a ≤ (nmV W z a).1 ∧ (nmV W z a).1 ≤ z ∧ (nmV W z a).2 ≤ 100000 := by
  have h1 := sk_le (W := W) h
  have h2 := nmL_le (W := W) (z - sk W z a) (sk W z a) 0 (by decide)
  unfold nmV
  exact ⟨by omega, by omega, h2.2.2⟩
theorem sp_isDigC {x : Int32} : runM (d + 1) nX7_isDigit [.int x] (mm L X I J) = rB (decide (nI 48 ≤ x ∧ x ≤ nI 57)) (mm L X I J) := by
  rw [e_X7_isDigit]
  (first | refine Eq.trans (q_X7_isDigit_0) ?_)
  by_cases e1 : x < nI 48
  · rw [if_pos e1, decide_eq_false (by rintro ⟨q, _⟩; exact Int32.not_lt.mpr q e1)]
    rfl
  · rw [if_neg e1]
    by_cases e2 : nI 57 < x
    · rw [if_pos e2, decide_eq_false (by rintro ⟨_, q⟩; exact Int32.not_lt.mpr q e2)]
      rfl
    · rw [if_neg e2, decide_eq_true ⟨Int32.not_lt.mp e1, Int32.not_lt.mp e2⟩]
      rfl
theorem sp_isDigM {x : Int32} : runM (d + 1) nX12_isDigit [.int x] (mm L X I J) = rB (decide (nI 48 ≤ x ∧ x ≤ nI 57)) (mm L X I J) := by
  rw [e_X12_isDigit]
  (first | refine Eq.trans (q_X12_isDigit_0) ?_)
  by_cases e1 : x < nI 48
  · rw [if_pos e1, decide_eq_false (by rintro ⟨q, _⟩; exact Int32.not_lt.mpr q e1)]
    rfl
  · rw [if_neg e1]
    by_cases e2 : nI 57 < x
    · rw [if_pos e2, decide_eq_false (by rintro ⟨_, q⟩; exact Int32.not_lt.mpr q e2)]
      rfl
    · rw [if_neg e2, decide_eq_true ⟨Int32.not_lt.mp e1, Int32.not_lt.mp e2⟩]
      rfl
theorem sp_isSml {x : Int32} : runM (d + 1) nX12_isSmall [.int x] (mm L X I J) = rB (decide (nI 97 ≤ x ∧ x ≤ nI 122)) (mm L X I J) := by
  rw [e_X12_isSmall]
  (first | refine Eq.trans (q_X12_isSmall_0) ?_)
  by_cases e1 : x < nI 97
  · rw [if_pos e1, decide_eq_false (by rintro ⟨q, _⟩; exact Int32.not_lt.mpr q e1)]
    rfl
  · rw [if_neg e1]
    by_cases e2 : nI 122 < x
    · rw [if_pos e2, decide_eq_false (by rintro ⟨_, q⟩; exact Int32.not_lt.mpr q e2)]
      rfl
    · rw [if_neg e2, decide_eq_true ⟨Int32.not_lt.mp e1, Int32.not_lt.mp e2⟩]
      rfl
theorem dig_W (h : W a < 256) : decide (nI 48 ≤ nI (W a) ∧ nI (W a) ≤ nI 57) = isG W a := by
  unfold isG
  refine decide_eq_decide.mpr ⟨fun q => ?_, fun q => ?_⟩
  · obtain ⟨q1, q2⟩ := q
    rw [nI_leI (by decide) (by omega)] at q1
    rw [nI_leI (by omega) (by decide)] at q2
    exact ⟨q1, q2⟩
  · rw [nI_leI (by decide) (by omega), nI_leI (by omega) (by decide)]
    exact q
theorem sml_W (h : W a < 256) : decide (nI 97 ≤ nI (W a) ∧ nI (W a) ≤ nI 122) = isS W a := by
  unfold isS
  refine decide_eq_decide.mpr ⟨fun q => ?_, fun q => ?_⟩
  · obtain ⟨q1, q2⟩ := q
    rw [nI_leI (by decide) (by omega)] at q1
    rw [nI_leI (by omega) (by decide)] at q2
    exact ⟨q1, q2⟩
  · rw [nI_leI (by decide) (by omega), nI_leI (by omega) (by decide)]
    exact q
theorem dig_n : decide (nI 48 ≤ (-1 : Int32) ∧ (-1 : Int32) ≤ nI 57) = false := by decide
theorem sml_n : decide (nI 97 ≤ (-1 : Int32) ∧ (-1 : Int32) ≤ nI 122) = false := by decide
theorem sp_blame {x : Int32} : runM (d + 1) nX7_blame [.ref 1, .int x] (mm L X I J) = rI (nI 0) (mm L X (up2 (up2 I 1 2 x) 1 3 (I 1 7)) J) := by
  rw [e_X7_blame]
  (first | refine Eq.trans (q_X7_blame_0) ?_)
  rw [up2_k (by decide)]
def fTC : Fls := [(1, 3), (1, 4), (1, 5), (1, 6), (1, 8)]
theorem BC_fr {I' : MI32} {l : Fls} (B : BC I W) (g : Fr l I I') (h : dj l [(2, 0)] = true) : BC I' W := fun k hk => by
  rw [ag_of (s := [(2, 0)]) g h 2 k rfl]
  exact B k hk
theorem BM_fr {I' : MI32} {l : Fls} (B : BM I W) (g : Fr l I I') (h : dj l [(73, 0)] = true) : BM I' W := fun k hk => by
  rw [ag_of (s := [(73, 0)]) g h 73 k rfl]
  exact B k hk
theorem lp_numeral {lo hi : Int32} {rr : Option Value} {Q : MI32 → MI64 → Prop} (B : BC I W) (hz : I 1 6 = nI z) (hz2 : z ≤ 600) : ∀ r e v I', z - e = r → e ≤ z → v ≤ 100000 → Fr fTC I I' → I' 1 5 = nI e → (∀ I'', Fr fTC I I'' → I'' 1 5 = nI (nmL W r e v).1 → I'' 1 7 = I' 1 7 → I'' 1 2 = I' 1 2 → I'' 1 3 = I' 1 3 → Rt L X (runI (runM (d + 1)) iX7_numeral (78, [some (.ref 1), some (.int lo), some (.int hi), some (.int (nI (nmL W r e v).2))], [], mm L X I'' J)) rr Q) → Rt L X (c_X7_numeral_18 (d + 1) L X I' J lo hi (nI v)) rr Q
  | 0, e, v, I', hr, he, hv, hf, h5, k => by
    (first | refine rt_eq (q_X7_numeral_0) ?_ | refine rt_eq (q_X7_numeral_4) ?_ | refine rt_eq (q_X7_numeral_7) ?_ | refine rt_eq (q_X7_numeral_18) ?_ | refine rt_eq (q_X7_numeral_15) ?_ | refine rt_eq (q_X7_numeral_78) ?_ | refine rt_eq (q_X7_numeral_37) ?_ | refine rt_eq (q_X7_numeral_89) ?_ | refine rt_eq (q_X7_numeral_40) ?_ | refine rt_eq (q_X7_numeral_97) ?_ | refine rt_eq (q_X7_numeral_57) ?_)
    rw [h5, hf 1 6 rfl, hz]
    exact rt_t (by (try simp (disch := omega) only [nI_leI, nI_ltI, nI_eq, nI_add, pk_mul, n_0add, Nat.zero_add, nI_clamp]) <;> omega) (k I' hf h5 rfl rfl rfl)
  | r + 1, e, v, I', hr, he, hv, hf, h5, k => by
    have ih := lp_numeral (lo := lo) (hi := hi) (rr := rr) (Q := Q) B hz hz2 r (e + 1)
    have B' := BC_fr B hf (by decide)
    have hb := (B e (by omega)).2
    (first | refine rt_eq (q_X7_numeral_0) ?_ | refine rt_eq (q_X7_numeral_4) ?_ | refine rt_eq (q_X7_numeral_7) ?_ | refine rt_eq (q_X7_numeral_18) ?_ | refine rt_eq (q_X7_numeral_15) ?_ | refine rt_eq (q_X7_numeral_78) ?_ | refine rt_eq (q_X7_numeral_37) ?_ | refine rt_eq (q_X7_numeral_89) ?_ | refine rt_eq (q_X7_numeral_40) ?_ | refine rt_eq (q_X7_numeral_97) ?_ | refine rt_eq (q_X7_numeral_57) ?_)
    rw [h5, hf 1 6 rfl, hz]
    refine rt_f (by (try simp (disch := omega) only [nI_leI, nI_ltI, nI_eq, nI_add, pk_mul, n_0add, Nat.zero_add, nI_clamp]) <;> omega) (rt_be (sp_byteC B' (by omega)) ?_)
    (first | refine rt_eq (q_X7_numeral_0) ?_ | refine rt_eq (q_X7_numeral_4) ?_ | refine rt_eq (q_X7_numeral_7) ?_ | refine rt_eq (q_X7_numeral_18) ?_ | refine rt_eq (q_X7_numeral_15) ?_ | refine rt_eq (q_X7_numeral_78) ?_ | refine rt_eq (q_X7_numeral_37) ?_ | refine rt_eq (q_X7_numeral_89) ?_ | refine rt_eq (q_X7_numeral_40) ?_ | refine rt_eq (q_X7_numeral_97) ?_ | refine rt_eq (q_X7_numeral_57) ?_)
    refine rt_bne sp_isDigC ?_
    rw [dig_W hb]
    (first | refine rt_eq (q_X7_numeral_0) ?_ | refine rt_eq (q_X7_numeral_4) ?_ | refine rt_eq (q_X7_numeral_7) ?_ | refine rt_eq (q_X7_numeral_18) ?_ | refine rt_eq (q_X7_numeral_15) ?_ | refine rt_eq (q_X7_numeral_78) ?_ | refine rt_eq (q_X7_numeral_37) ?_ | refine rt_eq (q_X7_numeral_89) ?_ | refine rt_eq (q_X7_numeral_40) ?_ | refine rt_eq (q_X7_numeral_97) ?_ | refine rt_eq (q_X7_numeral_57) ?_)
    by_cases q : isG W e = true
    · rw [q]
      refine rt_f (show ¬ bI true = nI 0 by decide) ?_
      rw [h5]
      refine rt_be (sp_byteC B' (by omega)) ?_
      (first | refine rt_eq (q_X7_numeral_0) ?_ | refine rt_eq (q_X7_numeral_4) ?_ | refine rt_eq (q_X7_numeral_7) ?_ | refine rt_eq (q_X7_numeral_18) ?_ | refine rt_eq (q_X7_numeral_15) ?_ | refine rt_eq (q_X7_numeral_78) ?_ | refine rt_eq (q_X7_numeral_37) ?_ | refine rt_eq (q_X7_numeral_89) ?_ | refine rt_eq (q_X7_numeral_40) ?_ | refine rt_eq (q_X7_numeral_97) ?_ | refine rt_eq (q_X7_numeral_57) ?_)
      have q2 : 48 ≤ W e ∧ W e ≤ 57 := of_decide_eq_true q
      have e1 : nI v * nI 10 + nI (W e) - nI 48 = nI (10 * v + (W e - 48)) := by
        rw [pk_mul, nI_add, show v * 10 + W e = (10 * v + (W e - 48)) + 48 by omega, ← nI_add, Int32.add_sub_cancel]
      have e2 : (if nI v * nI 10 + nI (W e) - nI 48 < nI 100000 then nI v * nI 10 + nI (W e) - nI 48 else nI 100000) = nI (if 10 * v + (W e - 48) ≤ 100000 then 10 * v + (W e - 48) else 100000) := by
        rw [e1]
        by_cases q3 : 10 * v + (W e - 48) < 100000
        · rw [if_pos (by ((try simp (disch := omega) only [nI_leI, nI_ltI, nI_eq, nI_add, pk_mul, n_0add, Nat.zero_add, nI_clamp]) <;> omega)), if_pos (by omega)]
        · rw [if_neg (by ((try simp (disch := omega) only [nI_leI, nI_ltI, nI_eq, nI_add, pk_mul, n_0add, Nat.zero_add, nI_clamp]) <;> omega))]
          by_cases q4 : 10 * v + (W e - 48) ≤ 100000
          · rw [if_pos q4, show 10 * v + (W e - 48) = 100000 by omega]
          · rw [if_neg q4]
      rw [e2]
      have en : nmL W (r + 1) e v = nmL W r (e + 1) (if 10 * v + (W e - 48) ≤ 100000 then 10 * v + (W e - 48) else 100000) := if_pos q
      rw [en] at k
      refine ih _ _ (by omega) (by omega) ?_ (fr_up hf rfl) (by rw [up2_s, h5, nI_add]) (fun I'' g1 g2 g3 g4 g5 => k I'' g1 g2 ?_ ?_ ?_)
      · by_cases q4 : 10 * v + (W e - 48) ≤ 100000
        · rw [if_pos q4]
          exact q4
        · rw [if_neg q4]
          exact Nat.le_refl _
      · rw [g3, up2_k (by decide)]
      · rw [g4, up2_k (by decide)]
      · rw [g5, up2_k (by decide)]
    · rw [Bool.eq_false_iff.mpr q]
      refine rt_t bI_f ?_
      have en : nmL W (r + 1) e v = (e, v) := if_neg q
      rw [en] at k
      exact k I' hf h5 rfl rfl rfl
theorem sp_numeral {lo hi : Int32} (B : BC I W) (hz : I 1 6 = nI z) (hz2 : z ≤ 600) (ha : a ≤ z) (h5 : I 1 5 = nI a) : Rt L X (runM (d + 3) nX7_numeral [.ref 1, .int lo, .int hi] (mm L X I J)) (some (.int (bI (decide (nmF W z a lo hi = 0))))) (fun I' J' => (Fr fTC I I' ∧ (nmF W z a lo hi = 0 → I' 1 5 = nI (nmV W z a).1 ∧ I' 1 4 = nI (nmV W z a).2 ∧ I' 1 2 = I 1 2 ∧ I' 1 3 = I 1 3 ∧ I' 1 7 = nI (sk W z a)) ∧ (¬ nmF W z a lo hi = 0 → I' 1 2 = nI (nmF W z a lo hi) ∧ I' 1 3 = nI (sk W z a))) ∧ J' = J) := by
  have hs := sk_le (W := W) ha
  rw [e_X7_numeral]
  (first | refine rt_eq (q_X7_numeral_0) ?_ | refine rt_eq (q_X7_numeral_4) ?_ | refine rt_eq (q_X7_numeral_7) ?_ | refine rt_eq (q_X7_numeral_18) ?_ | refine rt_eq (q_X7_numeral_15) ?_ | refine rt_eq (q_X7_numeral_78) ?_ | refine rt_eq (q_X7_numeral_37) ?_ | refine rt_eq (q_X7_numeral_89) ?_ | refine rt_eq (q_X7_numeral_40) ?_ | refine rt_eq (q_X7_numeral_97) ?_ | refine rt_eq (q_X7_numeral_57) ?_)
  refine rt_bnd (sp_peek B hz hz2 ha h5) ?_
  rintro I1 J1 ⟨⟨f1, f2, f3⟩, rfl⟩
  have f1' : Fr fTC I I1 := fr_mono f1 (by decide)
  (first | refine rt_eq (q_X7_numeral_0) ?_ | refine rt_eq (q_X7_numeral_4) ?_ | refine rt_eq (q_X7_numeral_7) ?_ | refine rt_eq (q_X7_numeral_18) ?_ | refine rt_eq (q_X7_numeral_15) ?_ | refine rt_eq (q_X7_numeral_78) ?_ | refine rt_eq (q_X7_numeral_37) ?_ | refine rt_eq (q_X7_numeral_89) ?_ | refine rt_eq (q_X7_numeral_40) ?_ | refine rt_eq (q_X7_numeral_97) ?_ | refine rt_eq (q_X7_numeral_57) ?_)
  refine rt_bne sp_isDigC ?_
  (first | refine rt_eq (q_X7_numeral_0) ?_ | refine rt_eq (q_X7_numeral_4) ?_ | refine rt_eq (q_X7_numeral_7) ?_ | refine rt_eq (q_X7_numeral_18) ?_ | refine rt_eq (q_X7_numeral_15) ?_ | refine rt_eq (q_X7_numeral_78) ?_ | refine rt_eq (q_X7_numeral_37) ?_ | refine rt_eq (q_X7_numeral_89) ?_ | refine rt_eq (q_X7_numeral_40) ?_ | refine rt_eq (q_X7_numeral_97) ?_ | refine rt_eq (q_X7_numeral_57) ?_)
  have ed : decide (nI 48 ≤ byT W z (sk W z a) ∧ byT W z (sk W z a) ≤ nI 57) = decide (sk W z a < z ∧ isG W (sk W z a) = true) := by
    by_cases e : sk W z a < z
    · rw [show byT W z (sk W z a) = nI (W (sk W z a)) from if_pos e, dig_W (B _ (by omega)).2]
      cases isG W (sk W z a) with
      | true => exact (decide_eq_true ⟨e, rfl⟩).symm
      | false => exact (decide_eq_false (fun q => absurd q.2 (by decide))).symm
    · rw [show byT W z (sk W z a) = -1 from if_neg e, dig_n]
      exact (decide_eq_false (fun q => e q.1)).symm
  rw [ed]
  by_cases e : sk W z a < z ∧ isG W (sk W z a) = true
  · rw [decide_eq_true e]
    refine rt_f (show ¬ bI true = nI 0 by decide) ?_
    have en : nmF W z a lo hi = if lo ≤ nI (nmV W z a).2 ∧ nI (nmV W z a).2 ≤ hi then 0 else 2 := if_pos e
    refine lp_numeral B hz hz2 (z - sk W z a) (sk W z a) 0 I1 rfl hs.2 (by decide) f1' f2 ?_
    intro I2 g1 g2 g3 g4 g5
    (first | refine rt_eq (q_X7_numeral_0) ?_ | refine rt_eq (q_X7_numeral_4) ?_ | refine rt_eq (q_X7_numeral_7) ?_ | refine rt_eq (q_X7_numeral_18) ?_ | refine rt_eq (q_X7_numeral_15) ?_ | refine rt_eq (q_X7_numeral_78) ?_ | refine rt_eq (q_X7_numeral_37) ?_ | refine rt_eq (q_X7_numeral_89) ?_ | refine rt_eq (q_X7_numeral_40) ?_ | refine rt_eq (q_X7_numeral_97) ?_ | refine rt_eq (q_X7_numeral_57) ?_)
    refine rt_bne sp_within ?_
    (first | refine rt_eq (q_X7_numeral_0) ?_ | refine rt_eq (q_X7_numeral_4) ?_ | refine rt_eq (q_X7_numeral_7) ?_ | refine rt_eq (q_X7_numeral_18) ?_ | refine rt_eq (q_X7_numeral_15) ?_ | refine rt_eq (q_X7_numeral_78) ?_ | refine rt_eq (q_X7_numeral_37) ?_ | refine rt_eq (q_X7_numeral_89) ?_ | refine rt_eq (q_X7_numeral_40) ?_ | refine rt_eq (q_X7_numeral_97) ?_ | refine rt_eq (q_X7_numeral_57) ?_)
    by_cases e3 : lo ≤ nI (nmL W (z - sk W z a) (sk W z a) 0).2 ∧ nI (nmL W (z - sk W z a) (sk W z a) 0).2 ≤ hi
    · rw [decide_eq_true e3]
      refine rt_f (show ¬ bI true = nI 0 by decide) ?_
      have en2 : nmF W z a lo hi = 0 := en.trans (if_pos e3)
      rw [en2]
      refine rt_ret ⟨⟨fr_up g1 rfl, fun _ => ⟨?_, up2_s, ?_, ?_, ?_⟩, fun q => absurd rfl q⟩, rfl⟩
      · rw [up2_k (by decide)]
        exact g2
      · rw [up2_k (by decide), g4]
        exact f1 1 2 rfl
      · rw [up2_k (by decide), g5]
        exact f1 1 3 rfl
      · rw [up2_k (by decide), g3, f3]
    · rw [decide_eq_false e3]
      refine rt_t bI_f ?_
      refine rt_be sp_blame ?_
      (first | refine rt_eq (q_X7_numeral_0) ?_ | refine rt_eq (q_X7_numeral_4) ?_ | refine rt_eq (q_X7_numeral_7) ?_ | refine rt_eq (q_X7_numeral_18) ?_ | refine rt_eq (q_X7_numeral_15) ?_ | refine rt_eq (q_X7_numeral_78) ?_ | refine rt_eq (q_X7_numeral_37) ?_ | refine rt_eq (q_X7_numeral_89) ?_ | refine rt_eq (q_X7_numeral_40) ?_ | refine rt_eq (q_X7_numeral_97) ?_ | refine rt_eq (q_X7_numeral_57) ?_)
      refine rt_t rfl ?_
      have en2 : nmF W z a lo hi = 2 := en.trans (if_neg e3)
      rw [en2]
      refine rt_ret ⟨⟨fr_up (fr_up (fr_up g1 rfl) rfl) rfl, fun q => absurd q (by decide), fun _ => ⟨?_, ?_⟩⟩, rfl⟩
      · rw [up2_k (by decide), up2_s]
      · rw [up2_s, up2_k (by decide), g3, f3]
  · rw [decide_eq_false e]
    refine rt_t bI_f ?_
    refine rt_be sp_blame ?_
    (first | refine rt_eq (q_X7_numeral_0) ?_ | refine rt_eq (q_X7_numeral_4) ?_ | refine rt_eq (q_X7_numeral_7) ?_ | refine rt_eq (q_X7_numeral_18) ?_ | refine rt_eq (q_X7_numeral_15) ?_ | refine rt_eq (q_X7_numeral_78) ?_ | refine rt_eq (q_X7_numeral_37) ?_ | refine rt_eq (q_X7_numeral_89) ?_ | refine rt_eq (q_X7_numeral_40) ?_ | refine rt_eq (q_X7_numeral_97) ?_ | refine rt_eq (q_X7_numeral_57) ?_)
    have en : nmF W z a lo hi = 1 := if_neg e
    rw [en]
    refine rt_gd (by decide) (rt_ret ⟨⟨fr_up (fr_up f1' rfl) rfl, fun q => absurd q (by decide), fun _ => ⟨?_, ?_⟩⟩, rfl⟩)
    · rw [up2_k (by decide), up2_s]
    · rw [up2_s, f3]
end TX
