/-! THE OTHER STEPS, BY BOTH -/
def stD (h : Hs) (m k p v n : Nat) (N : Nt) : Bool := if k = 0 then !inRow n N p else if k = 1 then canL h m n N (2 * p + nv (N (6 + p))) else if k = 2 then !decide (n = 0) else if k = 3 then !decide (N (12 + p) = nI v) else if k = 4 then decide (nv (N (18 + p)) < 9) else if k = 5 then decide (0 < nv (N (18 + p))) else if k = 6 then !decide (N 29 = nI p) else decide (N 30 < nI 500)
def stn (k n : Nat) : Nat := if k = 1 then n + 1 else if k = 2 then n - 1 else n
def stN (R : Nat → Bool) (nf k p v n : Nat) (N : Nt) : Nt := if k = 0 then upd N (6 + p) (nI 1 - N (6 + p)) else if k = 1 then upd N n (nI p) else if k = 2 then upd N (n - 1) (-1) else if k = 3 then upd N (12 + p) (nI v) else if k = 4 then upd N (18 + p) (nI (nv (N (18 + p)) + 1)) else if k = 5 then upd N (18 + p) (nI (nv (N (18 + p)) - 1)) else if k = 6 then upd N 29 (nI p) else hourN R nf N
theorem tb_xor {T p q : Nat} : tb (T ^^^ 2 ^ p) q = if q = p then 1 - tb T p else tb T q := by
  rw [tb_eq, tb_eq, tb_eq, Nat.testBit_xor, Nat.testBit_two_pow]
  by_cases e : q = p
  · subst e
    rw [if_pos rfl]
    cases T.testBit q <;> simp
  · rw [if_neg e]
    have : ¬ p = q := fun x => e x.symm
    simp [this]
theorem oc3_u {a : Nat} (h : oc3 a) : a = 43 ∨ a = 67 := h
theorem sNC_in {a b k : Nat} (hb : (b = a ∧ (k = 4 ∨ k = 5 ∨ k = 6 ∨ k = 7)) ∨ b = a + 1 ∨ b = a + 2 ∨ b = a + 3 ∨ b = a + 4) : inF (sNC a) b k = true := by
  rw [inF_t]
  rcases hb with ⟨rfl, rfl | rfl | rfl | rfl⟩ | rfl | rfl | rfl | rfl
  · exact ⟨(b, 5), by simp [sNC], rfl, .inr rfl⟩
  · exact ⟨(b, 6), by simp [sNC], rfl, .inr rfl⟩
  · exact ⟨(b, 7), by simp [sNC], rfl, .inr rfl⟩
  · exact ⟨(b, 8), by simp [sNC], rfl, .inr rfl⟩
  · exact ⟨(a + 1, 0), by simp [sNC], rfl, .inl rfl⟩
  · exact ⟨(a + 2, 0), by simp [sNC], rfl, .inl rfl⟩
  · exact ⟨(a + 3, 0), by simp [sNC], rfl, .inl rfl⟩
  · exact ⟨(a + 4, 0), by simp [sNC], rfl, .inl rfl⟩
section SB
variable {d L X : Nat} {I : MI32} {J : MI64} {a n np nL : Nat} {N : Nt} {h : Hs} {m r p t v : Nat} {cd : Cd}
theorem sp_turnC (h0 : oc3 a) (C : NC I a n N) (hn : n ≤ 6) (hp : p < 6) : Rt L X (runM (d + 2) nX3_turnRound [.ref a, .int (nI p)] (mm L X I J)) (some (.int (bI (!inRow n N p)))) (fun I' J' => (Fr (sNC a) I I' ∧ NC I' a n (if (!inRow n N p) = true then upd N (6 + p) (nI 1 - N (6 + p)) else N)) ∧ J' = J) := by
  rw [e_X3_turnRound]
  (first | refine rt_eq (q_X3_turnRound_0 (by first | assumption | rfl | exact .inl rfl | exact .inr rfl)) ?_ | refine rt_eq (q_X3_turnRound_5 (by first | assumption | rfl | exact .inl rfl | exact .inr rfl)) ?_)
  refine rt_be (sp_placeC h0 C hn) ?_
  (first | refine rt_eq (q_X3_turnRound_0 (by first | assumption | rfl | exact .inl rfl | exact .inr rfl)) ?_ | refine rt_eq (q_X3_turnRound_5 (by first | assumption | rfl | exact .inl rfl | exact .inr rfl)) ?_)
  by_cases hs : inRow n N p = false
  · refine rt_t ((o2i_none (fnd_small (by omega))).mpr hs) ?_
    rw [hs]
    refine rt_ret ⟨⟨fr_up fr_rfl (sNC_in (.inl ⟨rfl, .inl rfl⟩)), ?_⟩, rfl⟩
    rw [if_pos (show (!false) = true from rfl)]
    obtain ⟨c1, c2, c3, c4, c5, c6, c7, T, c8, c9, c10⟩ := C
    refine ⟨by rw [up2_k (by decide), c1], fun k hk => by rw [up2_n (by omega), c2 k hk, upd_n (by omega)], fun q hq => by rw [up2_n (by omega), c3 q hq, upd_n (by omega)], fun q hq => by rw [up2_n (by omega), c4 q hq, upd_n (by omega)], fun q hq => by rw [up2_n (by omega), c5 q hq, upd_n (by omega)], by rw [up2_k (by decide), c6, upd_n (by omega)], by rw [up2_k (by decide), c7, upd_n (by omega)], T ^^^ 2 ^ p, ?_, ?_, ?_⟩
    · exact Nat.xor_lt_two_pow (n := 6) c8 (Nat.pow_lt_pow_right (by decide) hp)
    · rw [up2_s, c9, n_pow (by omega), n_xor]
    · intro q hq
      rw [tb_xor]
      by_cases e : q = p
      · rw [if_pos e, e, upd_s, c10 p hp, pk_sub (Nat.le_of_lt_succ tb_lt)]
      · rw [if_neg e, upd_n (by omega), c10 q hq]
  · refine rt_f (fun q => hs ((o2i_none (fnd_small (by omega))).mp q)) ?_
    rw [Bool.not_eq_false] at hs
    rw [hs]
    exact rt_ret ⟨⟨fr_rfl, C⟩, rfl⟩
theorem sp_layC (h0 : oc3 a) (C : NC I a n N) (R : NR (h 0 0) n N) (K : HC I h m) (ok : HOK h) (hp : p < h 0 0) : Rt L X (runM (d + 5) nX3_layDown [.ref a, .ref 3, .int (nI p)] (mm L X I J)) (some (.int (bI (canL h m n N (2 * p + nv (N (6 + p))))))) (fun I' J' => (Fr (sNC a) I I' ∧ NC I' a (if canL h m n N (2 * p + nv (N (6 + p))) = true then n + 1 else n) (if canL h m n N (2 * p + nv (N (6 + p))) = true then upd N n (nI p) else N)) ∧ J' = J) := by
  have h6 := ok.1
  have hn6 := R.1.1
  have ht := (R.2.2.2.2 p (by omega)).2
  rw [e_X3_layDown]
  (first | refine rt_eq (q_X3_layDown_0 (by first | assumption | rfl | exact .inl rfl | exact .inr rfl) (by first | assumption | rfl | exact .inl rfl | exact .inr rfl)) ?_ | refine rt_eq (q_X3_layDown_7 (by first | assumption | rfl | exact .inl rfl | exact .inr rfl) (by first | assumption | rfl | exact .inl rfl | exact .inr rfl)) ?_ | refine rt_eq (q_X3_layDown_10 (by first | assumption | rfl | exact .inl rfl | exact .inr rfl)) ?_ | refine rt_eq (q_X3_layDown_27 (by first | assumption | rfl | exact .inl rfl | exact .inr rfl)) ?_)
  refine rt_be (sp_wayOf h0 C (by omega)) ?_
  (first | refine rt_eq (q_X3_layDown_0 (by first | assumption | rfl | exact .inl rfl | exact .inr rfl) (by first | assumption | rfl | exact .inl rfl | exact .inr rfl)) ?_ | refine rt_eq (q_X3_layDown_7 (by first | assumption | rfl | exact .inl rfl | exact .inr rfl) (by first | assumption | rfl | exact .inl rfl | exact .inr rfl)) ?_ | refine rt_eq (q_X3_layDown_10 (by first | assumption | rfl | exact .inl rfl | exact .inr rfl)) ?_ | refine rt_eq (q_X3_layDown_27 (by first | assumption | rfl | exact .inl rfl | exact .inr rfl)) ?_)
  refine rt_be (sp_canLayC h0 C R K ok (by omega)) ?_
  (first | refine rt_eq (q_X3_layDown_0 (by first | assumption | rfl | exact .inl rfl | exact .inr rfl) (by first | assumption | rfl | exact .inl rfl | exact .inr rfl)) ?_ | refine rt_eq (q_X3_layDown_7 (by first | assumption | rfl | exact .inl rfl | exact .inr rfl) (by first | assumption | rfl | exact .inl rfl | exact .inr rfl)) ?_ | refine rt_eq (q_X3_layDown_10 (by first | assumption | rfl | exact .inl rfl | exact .inr rfl)) ?_ | refine rt_eq (q_X3_layDown_27 (by first | assumption | rfl | exact .inl rfl | exact .inr rfl)) ?_)
  by_cases hs : canL h m n N (2 * p + nv (N (6 + p))) = true
  · rw [hs]
    have hn5 : n < 6 := by
      rcases Nat.lt_or_ge n 6 with q | q
      · exact q
      · have e : n = 6 := by omega
        subst e
        unfold canL at hs
        rw [show (2 * p + nv (N (6 + p))) / 2 = p by omega, row_full R hp] at hs
        cases hs
    refine rt_f (by decide) ?_
    rw [C.1]
    refine rt_bne (sp_put (ks3_1 h0) (by decide)) ?_
    rw [pt_n hn5 (by decide)]
    (first | refine rt_eq (q_X3_layDown_0 (by first | assumption | rfl | exact .inl rfl | exact .inr rfl) (by first | assumption | rfl | exact .inl rfl | exact .inr rfl)) ?_ | refine rt_eq (q_X3_layDown_7 (by first | assumption | rfl | exact .inl rfl | exact .inr rfl) (by first | assumption | rfl | exact .inl rfl | exact .inr rfl)) ?_ | refine rt_eq (q_X3_layDown_10 (by first | assumption | rfl | exact .inl rfl | exact .inr rfl)) ?_ | refine rt_eq (q_X3_layDown_27 (by first | assumption | rfl | exact .inl rfl | exact .inr rfl)) ?_)
    obtain ⟨c1, c2, c3, c4, c5, c6, c7, T, c8, c9, c10⟩ := C
    refine rt_ret ⟨⟨fr_up (fr_up fr_rfl (sNC_in (.inr (.inl rfl)))) (sNC_in (.inl ⟨rfl, .inr (.inl rfl)⟩)), ?_⟩, rfl⟩
    rw [if_pos rfl, if_pos rfl]
    refine ⟨by rw [up2_s, up2_n (by omega), c1, nI_add], fun k hk => ?_, fun q hq => by rw [up2_n (by omega), up2_n (by omega), c3 q hq, upd_n (by omega)], fun q hq => by rw [up2_n (by omega), up2_n (by omega), c4 q hq, upd_n (by omega)], fun q hq => by rw [up2_n (by omega), up2_n (by omega), c5 q hq, upd_n (by omega)], by rw [up2_k (by decide), up2_n (by omega), c6, upd_n (by omega)], by rw [up2_k (by decide), up2_n (by omega), c7, upd_n (by omega)], T, c8, by rw [up2_k (by decide), up2_n (by omega), c9], fun q hq => by rw [upd_n (by omega)]; exact c10 q hq⟩
    rw [up2_n (by omega), up2_at]
    by_cases e : k = n
    · rw [if_pos e, e, upd_s]
    · rw [if_neg e, upd_n e, c2 k (by omega)]
  · refine rt_t (by rw [Bool.not_eq_true] at hs; rw [hs]; rfl) ?_
    rw [Bool.not_eq_true] at hs
    rw [hs]
    exact rt_ret ⟨⟨fr_rfl, C⟩, rfl⟩
theorem sp_liftC (h0 : oc3 a) (C : NC I a n N) (hn : n ≤ 6) : Rt L X (runM (d + 1) nX3_liftLast [.ref a] (mm L X I J)) (some (.int (bI (!decide (n = 0))))) (fun I' J' => (Fr (sNC a) I I' ∧ NC I' a (n - 1) (if (!decide (n = 0)) = true then upd N (n - 1) (-1) else N)) ∧ J' = J) := by
  rw [e_X3_liftLast]
  (first | refine rt_eq (q_X3_liftLast_0 (by first | assumption | rfl | exact .inl rfl | exact .inr rfl)) ?_)
  rw [C.1]
  rcases n with _ | n
  · refine rt_t rfl ?_
    exact rt_ret ⟨⟨fr_rfl, C⟩, rfl⟩
  · refine rt_f (by (try simp (disch := omega) only [nI_leI, nI_ltI, nI_eq, nI_add, pk_mul, n_0add, Nat.zero_add, nI_clamp]) <;> omega) ?_
    obtain ⟨c1, c2, c3, c4, c5, c6, c7, T, c8, c9, c10⟩ := C
    refine rt_ret ⟨⟨fr_up fr_rfl (sNC_in (.inl ⟨rfl, .inr (.inl rfl)⟩)), ?_⟩, rfl⟩
    rw [if_pos (by simp), Nat.add_sub_cancel]
    exact ⟨by rw [up2_s, n_sub1], fun k hk => by rw [up2_n (by omega), c2 k (by omega), upd_n (by omega)], fun q hq => by rw [up2_n (by omega), c3 q hq, upd_n (by omega)], fun q hq => by rw [up2_n (by omega), c4 q hq, upd_n (by omega)], fun q hq => by rw [up2_n (by omega), c5 q hq, upd_n (by omega)], by rw [up2_k (by decide), c6, upd_n (by omega)], by rw [up2_k (by decide), c7, upd_n (by omega)], T, c8, by rw [up2_k (by decide), c9], fun q hq => by rw [upd_n (by omega)]; exact c10 q hq⟩
theorem NC_bend (C : NC I a n N) (hn : n ≤ 6) (hp : p < 6) {x : Int32} : NC (up2 I (a + 2) p x) a n (upd N (12 + p) x) := by
  obtain ⟨c1, c2, c3, c4, c5, c6, c7, T, c8, c9, c10⟩ := C
  refine ⟨by rw [up2_n (by omega), c1], fun k hk => by rw [up2_n (by omega), c2 k (by omega), upd_n (by omega)], fun q hq => ?_, fun q hq => by rw [up2_n (by omega), c4 q hq, upd_n (by omega)], fun q hq => by rw [up2_n (by omega), c5 q hq, upd_n (by omega)], by rw [up2_n (by omega), c6, upd_n (by omega)], by rw [up2_n (by omega), c7, upd_n (by omega)], T, c8, by rw [up2_n (by omega), c9], fun q hq => by rw [upd_n (by omega)]; exact c10 q hq⟩
  rw [up2_at]
  by_cases e : q = p
  · rw [if_pos e, e, upd_s]
  · rw [if_neg e, upd_n (by omega), c3 q hq]
theorem NC_burst (C : NC I a n N) (hn : n ≤ 6) (hp : p < 6) {x : Int32} : NC (up2 I (a + 3) p x) a n (upd N (18 + p) x) := by
  obtain ⟨c1, c2, c3, c4, c5, c6, c7, T, c8, c9, c10⟩ := C
  refine ⟨by rw [up2_n (by omega), c1], fun k hk => by rw [up2_n (by omega), c2 k (by omega), upd_n (by omega)], fun q hq => by rw [up2_n (by omega), c3 q hq, upd_n (by omega)], fun q hq => ?_, fun q hq => by rw [up2_n (by omega), c5 q hq, upd_n (by omega)], by rw [up2_n (by omega), c6, upd_n (by omega)], by rw [up2_n (by omega), c7, upd_n (by omega)], T, c8, by rw [up2_n (by omega), c9], fun q hq => by rw [upd_n (by omega)]; exact c10 q hq⟩
  rw [up2_at]
  by_cases e : q = p
  · rw [if_pos e, e, upd_s]
  · rw [if_neg e, upd_n (by omega), c4 q hq]
theorem sp_bendC (h0 : oc3 a) (C : NC I a n N) (hn : n ≤ 6) (hp : p < 6) : Rt L X (runM (d + 2) nX3_bendTo [.ref a, .int (nI p), .int (nI v)] (mm L X I J)) (some (.int (bI (!decide (N (12 + p) = nI v))))) (fun I' J' => (Fr (sNC a) I I' ∧ NC I' a n (if (!decide (N (12 + p) = nI v)) = true then upd N (12 + p) (nI v) else N)) ∧ J' = J) := by
  rw [e_X3_bendTo]
  (first | refine rt_eq (q_X3_bendTo_0 (by first | assumption | rfl | exact .inl rfl | exact .inr rfl)) ?_ | refine rt_eq (q_X3_bendTo_8 (by first | assumption | rfl | exact .inl rfl | exact .inr rfl)) ?_ | refine rt_eq (q_X3_bendTo_23) ?_)
  refine rt_bne (sp_pick (ks3_2 h0) (by decide)) ?_
  rw [pk_n hp (by decide), C.2.2.1 p hp]
  (first | refine rt_eq (q_X3_bendTo_0 (by first | assumption | rfl | exact .inl rfl | exact .inr rfl)) ?_ | refine rt_eq (q_X3_bendTo_8 (by first | assumption | rfl | exact .inl rfl | exact .inr rfl)) ?_ | refine rt_eq (q_X3_bendTo_23) ?_)
  by_cases hs : N (12 + p) = nI v
  · refine rt_t hs ?_
    rw [decide_eq_true hs]
    exact rt_ret ⟨⟨fr_rfl, C⟩, rfl⟩
  · refine rt_f hs ?_
    refine rt_bne (sp_put (ks3_2 h0) (by decide)) ?_
    rw [pt_n hp (by decide), decide_eq_false hs]
    (first | refine rt_eq (q_X3_bendTo_0 (by first | assumption | rfl | exact .inl rfl | exact .inr rfl)) ?_ | refine rt_eq (q_X3_bendTo_8 (by first | assumption | rfl | exact .inl rfl | exact .inr rfl)) ?_ | refine rt_eq (q_X3_bendTo_23) ?_)
    exact rt_ret ⟨⟨fr_up fr_rfl (sNC_in (.inr (.inr (.inl rfl)))), NC_bend C hn hp⟩, rfl⟩
theorem sp_burstC (h0 : oc3 a) (C : NC I a n N) (hn : n ≤ 6) (hp : p < 6) (hb : N (18 + p) = nI (nv (N (18 + p))) ∧ nv (N (18 + p)) ≤ 9) : Rt L X (runM (d + 2) nX3_burstOnce [.ref a, .int (nI p)] (mm L X I J)) (some (.int (bI (decide (nv (N (18 + p)) < 9))))) (fun I' J' => (Fr (sNC a) I I' ∧ NC I' a n (if decide (nv (N (18 + p)) < 9) = true then upd N (18 + p) (nI (nv (N (18 + p)) + 1)) else N)) ∧ J' = J) := by
  have hpk : pk (I (a + 3)) 6 (nI p) = nI (nv (N (18 + p))) := by rw [pk_n hp (by decide), C.2.2.2.1 p hp, hb.1, nv_n (by omega)]
  rw [e_X3_burstOnce]
  (first | refine rt_eq (q_X3_burstOnce_0 (by first | assumption | rfl | exact .inl rfl | exact .inr rfl)) ?_ | refine rt_eq (q_X3_burstOnce_8 (by first | assumption | rfl | exact .inl rfl | exact .inr rfl)) ?_ | refine rt_eq (q_X3_burstOnce_28 (by first | assumption | rfl | exact .inl rfl | exact .inr rfl)) ?_ | refine rt_eq (q_X3_burstOnce_33) ?_)
  refine rt_bne (sp_pick (ks3_3 h0) (by decide)) ?_
  rw [hpk]
  (first | refine rt_eq (q_X3_burstOnce_0 (by first | assumption | rfl | exact .inl rfl | exact .inr rfl)) ?_ | refine rt_eq (q_X3_burstOnce_8 (by first | assumption | rfl | exact .inl rfl | exact .inr rfl)) ?_ | refine rt_eq (q_X3_burstOnce_28 (by first | assumption | rfl | exact .inl rfl | exact .inr rfl)) ?_ | refine rt_eq (q_X3_burstOnce_33) ?_)
  by_cases hs : nv (N (18 + p)) < 9
  · refine rt_t (by (try simp (disch := omega) only [nI_leI, nI_ltI, nI_eq, nI_add, pk_mul, n_0add, Nat.zero_add, nI_clamp]) <;> omega) ?_
    refine rt_bne (sp_pick (ks3_3 h0) (by decide)) ?_
    rw [hpk]
    (first | refine rt_eq (q_X3_burstOnce_0 (by first | assumption | rfl | exact .inl rfl | exact .inr rfl)) ?_ | refine rt_eq (q_X3_burstOnce_8 (by first | assumption | rfl | exact .inl rfl | exact .inr rfl)) ?_ | refine rt_eq (q_X3_burstOnce_28 (by first | assumption | rfl | exact .inl rfl | exact .inr rfl)) ?_ | refine rt_eq (q_X3_burstOnce_33) ?_)
    refine rt_bne (sp_put (ks3_3 h0) (by decide)) ?_
    rw [pt_n hp (by decide), decide_eq_true hs, nI_add]
    (first | refine rt_eq (q_X3_burstOnce_0 (by first | assumption | rfl | exact .inl rfl | exact .inr rfl)) ?_ | refine rt_eq (q_X3_burstOnce_8 (by first | assumption | rfl | exact .inl rfl | exact .inr rfl)) ?_ | refine rt_eq (q_X3_burstOnce_28 (by first | assumption | rfl | exact .inl rfl | exact .inr rfl)) ?_ | refine rt_eq (q_X3_burstOnce_33) ?_)
    exact rt_ret ⟨⟨fr_up fr_rfl (sNC_in (.inr (.inr (.inr (.inl rfl))))), NC_burst C hn hp⟩, rfl⟩
  · refine rt_f (by (try simp (disch := omega) only [nI_leI, nI_ltI, nI_eq, nI_add, pk_mul, n_0add, Nat.zero_add, nI_clamp]) <;> omega) ?_
    rw [decide_eq_false hs]
    exact rt_ret ⟨⟨fr_rfl, C⟩, rfl⟩
theorem sp_patchC (h0 : oc3 a) (C : NC I a n N) (hn : n ≤ 6) (hp : p < 6) (hb : N (18 + p) = nI (nv (N (18 + p))) ∧ nv (N (18 + p)) ≤ 9) : Rt L X (runM (d + 2) nX3_patchOnce [.ref a, .int (nI p)] (mm L X I J)) (some (.int (bI (decide (0 < nv (N (18 + p))))))) (fun I' J' => (Fr (sNC a) I I' ∧ NC I' a n (if decide (0 < nv (N (18 + p))) = true then upd N (18 + p) (nI (nv (N (18 + p)) - 1)) else N)) ∧ J' = J) := by
  have hpk : pk (I (a + 3)) 6 (nI p) = nI (nv (N (18 + p))) := by rw [pk_n hp (by decide), C.2.2.2.1 p hp, hb.1, nv_n (by omega)]
  rw [e_X3_patchOnce]
  (first | refine rt_eq (q_X3_patchOnce_0 (by first | assumption | rfl | exact .inl rfl | exact .inr rfl)) ?_ | refine rt_eq (q_X3_patchOnce_8 (by first | assumption | rfl | exact .inl rfl | exact .inr rfl)) ?_ | refine rt_eq (q_X3_patchOnce_26 (by first | assumption | rfl | exact .inl rfl | exact .inr rfl)) ?_ | refine rt_eq (q_X3_patchOnce_31) ?_)
  refine rt_bne (sp_pick (ks3_3 h0) (by decide)) ?_
  rw [hpk]
  (first | refine rt_eq (q_X3_patchOnce_0 (by first | assumption | rfl | exact .inl rfl | exact .inr rfl)) ?_ | refine rt_eq (q_X3_patchOnce_8 (by first | assumption | rfl | exact .inl rfl | exact .inr rfl)) ?_ | refine rt_eq (q_X3_patchOnce_26 (by first | assumption | rfl | exact .inl rfl | exact .inr rfl)) ?_ | refine rt_eq (q_X3_patchOnce_31) ?_)
  by_cases hs : 0 < nv (N (18 + p))
  · refine rt_t (by (try simp (disch := omega) only [nI_leI, nI_ltI, nI_eq, nI_add, pk_mul, n_0add, Nat.zero_add, nI_clamp]) <;> omega) ?_
    refine rt_bne (sp_pick (ks3_3 h0) (by decide)) ?_
    rw [hpk]
    (first | refine rt_eq (q_X3_patchOnce_0 (by first | assumption | rfl | exact .inl rfl | exact .inr rfl)) ?_ | refine rt_eq (q_X3_patchOnce_8 (by first | assumption | rfl | exact .inl rfl | exact .inr rfl)) ?_ | refine rt_eq (q_X3_patchOnce_26 (by first | assumption | rfl | exact .inl rfl | exact .inr rfl)) ?_ | refine rt_eq (q_X3_patchOnce_31) ?_)
    refine rt_bne (sp_put (ks3_3 h0) (by decide)) ?_
    rw [pt_n hp (by decide), decide_eq_true hs, pk_sub hs]
    (first | refine rt_eq (q_X3_patchOnce_0 (by first | assumption | rfl | exact .inl rfl | exact .inr rfl)) ?_ | refine rt_eq (q_X3_patchOnce_8 (by first | assumption | rfl | exact .inl rfl | exact .inr rfl)) ?_ | refine rt_eq (q_X3_patchOnce_26 (by first | assumption | rfl | exact .inl rfl | exact .inr rfl)) ?_ | refine rt_eq (q_X3_patchOnce_31) ?_)
    exact rt_ret ⟨⟨fr_up fr_rfl (sNC_in (.inr (.inr (.inr (.inl rfl))))), NC_burst C hn hp⟩, rfl⟩
  · refine rt_f (by (try simp (disch := omega) only [nI_leI, nI_ltI, nI_eq, nI_add, pk_mul, n_0add, Nat.zero_add, nI_clamp]) <;> omega) ?_
    rw [decide_eq_false hs]
    exact rt_ret ⟨⟨fr_rfl, C⟩, rfl⟩
theorem sp_hopeC (h0 : oc3 a) (C : NC I a n N) (hn : n ≤ 6) : Rt L X (runM (d + 1) nX3_hopeFor [.ref a, .int (nI p)] (mm L X I J)) (some (.int (bI (!decide (N 29 = nI p))))) (fun I' J' => (Fr (sNC a) I I' ∧ NC I' a n (if (!decide (N 29 = nI p)) = true then upd N 29 (nI p) else N)) ∧ J' = J) := by
  rw [e_X3_hopeFor]
  (first | refine rt_eq (q_X3_hopeFor_0 (by first | assumption | rfl | exact .inl rfl | exact .inr rfl)) ?_)
  rw [C.2.2.2.2.2.1]
  by_cases hs : N 29 = nI p
  · refine rt_t hs ?_
    rw [decide_eq_true hs]
    exact rt_ret ⟨⟨fr_rfl, C⟩, rfl⟩
  · refine rt_f hs ?_
    rw [decide_eq_false hs]
    obtain ⟨c1, c2, c3, c4, c5, c6, c7, T, c8, c9, c10⟩ := C
    refine rt_ret ⟨⟨fr_up fr_rfl (sNC_in (.inl ⟨rfl, .inr (.inr (.inr rfl))⟩)), ?_⟩, rfl⟩
    rw [if_pos (show (!false) = true from rfl)]
    exact ⟨by rw [up2_k (by decide), c1], fun k hk => by rw [up2_n (by omega), c2 k (by omega), upd_n (by omega)], fun q hq => by rw [up2_n (by omega), c3 q hq, upd_n (by omega)], fun q hq => by rw [up2_n (by omega), c4 q hq, upd_n (by omega)], fun q hq => by rw [up2_n (by omega), c5 q hq, upd_n (by omega)], by rw [up2_s, upd_s], by rw [up2_k (by decide), c7, upd_n (by omega)], T, c8, by rw [up2_k (by decide), c9], fun q hq => by rw [upd_n (by omega)]; exact c10 q hq⟩
/-! the model -/
theorem sp_turnM (hr : om r) (R : NR np n (I r)) (hp : p < 6) : Rt L X (runM (d + 2) nX12_turns [.ref 72, .ref r, .int (nI p)] (mm L X I J)) (some (.int (bI (!inRow n (I r) p)))) (fun I' J' => (Fr [(r, 0)] I I' ∧ I' r = if (!inRow n (I r) p) = true then upd (I r) (6 + p) (nI 1 - I r (6 + p)) else I r) ∧ J' = J) := by
  have k1 := om_ka hr
  have hn6 := R.1.1
  rw [e_X12_turns]
  (first | refine rt_eq (q_X12_turns_0 (by first | assumption | rfl | exact .inl rfl | exact .inr rfl)) ?_ | refine rt_eq (q_X12_turns_5 (by first | assumption | rfl | exact .inl rfl | exact .inr rfl)) ?_)
  refine rt_bne (sp_placeM k1) ?_
  rw [inRow6 R (by omega)]
  (first | refine rt_eq (q_X12_turns_0 (by first | assumption | rfl | exact .inl rfl | exact .inr rfl)) ?_ | refine rt_eq (q_X12_turns_5 (by first | assumption | rfl | exact .inl rfl | exact .inr rfl)) ?_)
  by_cases hs : inRow n (I r) p = false
  · refine rt_t ((o2i_none (fnd_small (by omega))).mpr hs) ?_
    rw [hs, nI_add]
    refine rt_gd (inb_n (by omega) (by decide)) ?_
    rw [nI_clamp (by omega)]
    exact rt_ret ⟨⟨fr_up fr_rfl (inF_t.mpr ⟨(r, 0), by simp, rfl, .inl rfl⟩), by rw [u2upd]; rfl⟩, rfl⟩
  · refine rt_f (fun q => hs ((o2i_none (fnd_small (by omega))).mp q)) ?_
    rw [Bool.not_eq_false] at hs
    rw [hs]
    exact rt_ret ⟨⟨fr_rfl, rfl⟩, rfl⟩
theorem sp_layM (hr : om r) (H : HM I h m) (ok : HOK h) (R : NR (h 0 0) n (I r)) (hp : p < h 0 0) : Rt L X (runM (d + 3) nX12_laysOne [.ref 72, .ref r, .int (nI p)] (mm L X I J)) (some (.int (bI (canL h m n (I r) (2 * p + nv (I r (6 + p))))))) (fun I' J' => (Fr [(r, 0)] I I' ∧ I' r = if canL h m n (I r) (2 * p + nv (I r (6 + p))) = true then upd (I r) n (nI p) else I r) ∧ J' = J) := by
  have k1 := om_ka hr
  have h6 := ok.1
  have hn6 := R.1.1
  obtain ⟨t1, t2⟩ := R.2.2.2.2 p (by omega)
  rw [e_X12_laysOne]
  (first | refine rt_eq (q_X12_laysOne_0 (by first | assumption | rfl | exact .inl rfl | exact .inr rfl)) ?_ | refine rt_eq (q_X12_laysOne_12 (by first | assumption | rfl | exact .inl rfl | exact .inr rfl)) ?_ | refine rt_eq (q_X12_laysOne_23 (by first | assumption | rfl | exact .inl rfl | exact .inr rfl)) ?_)
  rw [nI_add]
  refine rt_gd (inb_n (by omega) (by decide)) ?_
  rw [nI_clamp (by omega), t1, nv_n (by omega)]
  refine rt_be (sp_canLayM k1 H ok R hp t2) ?_
  (first | refine rt_eq (q_X12_laysOne_0 (by first | assumption | rfl | exact .inl rfl | exact .inr rfl)) ?_ | refine rt_eq (q_X12_laysOne_12 (by first | assumption | rfl | exact .inl rfl | exact .inr rfl)) ?_ | refine rt_eq (q_X12_laysOne_23 (by first | assumption | rfl | exact .inl rfl | exact .inr rfl)) ?_)
  by_cases hs : canL h m n (I r) (2 * p + nv (I r (6 + p))) = true
  · rw [hs]
    refine rt_f (by decide) ?_
    refine rt_bne (sp_manyIn k1 R) ?_
    (first | refine rt_eq (q_X12_laysOne_0 (by first | assumption | rfl | exact .inl rfl | exact .inr rfl)) ?_ | refine rt_eq (q_X12_laysOne_12 (by first | assumption | rfl | exact .inl rfl | exact .inr rfl)) ?_ | refine rt_eq (q_X12_laysOne_23 (by first | assumption | rfl | exact .inl rfl | exact .inr rfl)) ?_)
    rw [nI_add, Nat.zero_add]
    refine rt_gd (inb_n (by omega) (by decide)) ?_
    rw [nI_clamp (by omega)]
    exact rt_ret ⟨⟨fr_up fr_rfl (inF_t.mpr ⟨(r, 0), by simp, rfl, .inl rfl⟩), by rw [u2upd]; rfl⟩, rfl⟩
  · rw [Bool.not_eq_true] at hs
    rw [hs]
    refine rt_t rfl ?_
    exact rt_ret ⟨⟨fr_rfl, rfl⟩, rfl⟩
theorem sp_liftM (hr : om r) (R : NR np n (I r)) : Rt L X (runM (d + 2) nX12_lifts [.ref r] (mm L X I J)) (some (.int (bI (!decide (n = 0))))) (fun I' J' => (Fr [(r, 0)] I I' ∧ I' r = if (!decide (n = 0)) = true then upd (I r) (n - 1) (-1) else I r) ∧ J' = J) := by
  have k1 := om_ka hr
  have hn6 := R.1.1
  rw [e_X12_lifts]
  (first | refine rt_eq (q_X12_lifts_0 (by first | assumption | rfl | exact .inl rfl | exact .inr rfl)) ?_ | refine rt_eq (q_X12_lifts_4 (by first | assumption | rfl | exact .inl rfl | exact .inr rfl)) ?_)
  refine rt_bne (sp_manyIn k1 R) ?_
  (first | refine rt_eq (q_X12_lifts_0 (by first | assumption | rfl | exact .inl rfl | exact .inr rfl)) ?_ | refine rt_eq (q_X12_lifts_4 (by first | assumption | rfl | exact .inl rfl | exact .inr rfl)) ?_)
  rcases n with _ | n
  · refine rt_t rfl ?_
    exact rt_ret ⟨⟨fr_rfl, rfl⟩, rfl⟩
  · refine rt_f (by (try simp (disch := omega) only [nI_leI, nI_ltI, nI_eq, nI_add, pk_mul, n_0add, Nat.zero_add, nI_clamp]) <;> omega) ?_
    rw [n_0add, n_sub1]
    refine rt_gd (inb_n (by omega) (by decide)) ?_
    rw [nI_clamp (by omega)]
    exact rt_ret ⟨⟨fr_up fr_rfl (inF_t.mpr ⟨(r, 0), by simp, rfl, .inl rfl⟩), by rw [u2upd]; rfl⟩, rfl⟩
theorem sp_becomeM {w : Nat} {x : Int32} (hr : om r) (hw : w < 31) : Rt L X (runM (d + 1) nX12_becomes [.ref r, .int (nI w), .int x] (mm L X I J)) (some (.int (bI (!decide (I r w = x))))) (fun I' J' => (Fr [(r, 0)] I I' ∧ I' r = if (!decide (I r w = x)) = true then upd (I r) w x else I r) ∧ J' = J) := by
  have k1 := om_ka hr
  rw [e_X12_becomes]
  (first | refine rt_eq (q_X12_becomes_0 (by first | assumption | rfl | exact .inl rfl | exact .inr rfl)) ?_)
  refine rt_gd (inb_n (by omega) (by decide)) ?_
  rw [nI_clamp (by omega)]
  by_cases hs : I r w = x
  · refine rt_t hs ?_
    rw [decide_eq_true hs]
    exact rt_ret ⟨⟨fr_rfl, rfl⟩, rfl⟩
  · refine rt_f hs ?_
    rw [decide_eq_false hs]
    exact rt_ret ⟨⟨fr_up fr_rfl (inF_t.mpr ⟨(r, 0), by simp, rfl, .inl rfl⟩), by rw [u2upd]; rfl⟩, rfl⟩
theorem sp_burstM (hr : om r) (hp : p < 6) (hb : I r (18 + p) = nI (nv (I r (18 + p))) ∧ nv (I r (18 + p)) ≤ 9) : Rt L X (runM (d + 2) nX12_bursts [.ref r, .int (nI p), .int (nI 1)] (mm L X I J)) (some (.int (bI (decide (nv (I r (18 + p)) < 9))))) (fun I' J' => (Fr [(r, 0)] I I' ∧ I' r = if decide (nv (I r (18 + p)) < 9) = true then upd (I r) (18 + p) (nI (nv (I r (18 + p)) + 1)) else I r) ∧ J' = J) := by
  have k1 := om_ka hr
  generalize hq : nv (I r (18 + p)) = q at hb
  rw [e_X12_bursts]
  (first | refine rt_eq (q_X12_bursts_0 (by first | assumption | rfl | exact .inl rfl | exact .inr rfl)) ?_ | refine rt_eq (q_X12_bursts_14 (by first | assumption | rfl | exact .inl rfl | exact .inr rfl)) ?_)
  rw [nI_add]
  refine rt_gd (inb_n (by omega) (by decide)) ?_
  rw [nI_clamp (by omega), hb.1, nI_add]
  refine rt_bne sp_in ?_
  (first | refine rt_eq (q_X12_bursts_0 (by first | assumption | rfl | exact .inl rfl | exact .inr rfl)) ?_ | refine rt_eq (q_X12_bursts_14 (by first | assumption | rfl | exact .inl rfl | exact .inr rfl)) ?_)
  by_cases hs : q < 9
  · refine rt_f (by rw [decide_eq_true (show nI 0 ≤ nI (q + 1) ∧ nI (q + 1) ≤ nI 9 from ⟨nI_le (by omega) (by omega), nI_le (by omega) (by omega)⟩)]; decide) ?_
    rw [nI_add]
    refine rt_gd (inb_n (by omega) (by decide)) ?_
    rw [nI_clamp (by omega), hb.1, nI_add, decide_eq_true hs]
    exact rt_ret ⟨⟨fr_up fr_rfl (inF_t.mpr ⟨(r, 0), by simp, rfl, .inl rfl⟩), by rw [u2upd]; rfl⟩, rfl⟩
  · refine rt_t (by rw [decide_eq_false (fun e => absurd e.2 (nI_ge (by omega) (by omega)))]; rfl) ?_
    rw [decide_eq_false hs]
    exact rt_ret ⟨⟨fr_rfl, rfl⟩, rfl⟩
theorem sp_patchM (hr : om r) (hp : p < 6) (hb : I r (18 + p) = nI (nv (I r (18 + p))) ∧ nv (I r (18 + p)) ≤ 9) : Rt L X (runM (d + 2) nX12_bursts [.ref r, .int (nI p), .int (-1)] (mm L X I J)) (some (.int (bI (decide (0 < nv (I r (18 + p))))))) (fun I' J' => (Fr [(r, 0)] I I' ∧ I' r = if decide (0 < nv (I r (18 + p))) = true then upd (I r) (18 + p) (nI (nv (I r (18 + p)) - 1)) else I r) ∧ J' = J) := by
  have k1 := om_ka hr
  generalize hq : nv (I r (18 + p)) = q at hb
  rw [e_X12_bursts]
  (first | refine rt_eq (q_X12_bursts_0 (by first | assumption | rfl | exact .inl rfl | exact .inr rfl)) ?_ | refine rt_eq (q_X12_bursts_14 (by first | assumption | rfl | exact .inl rfl | exact .inr rfl)) ?_)
  rw [nI_add]
  refine rt_gd (inb_n (by omega) (by decide)) ?_
  rw [nI_clamp (by omega), hb.1]
  refine rt_bne sp_in ?_
  (first | refine rt_eq (q_X12_bursts_0 (by first | assumption | rfl | exact .inl rfl | exact .inr rfl)) ?_ | refine rt_eq (q_X12_bursts_14 (by first | assumption | rfl | exact .inl rfl | exact .inr rfl)) ?_)
  rcases q with _ | q
  · refine rt_t (by decide) ?_
    exact rt_ret ⟨⟨fr_rfl, rfl⟩, rfl⟩
  · rw [n_addm1]
    refine rt_f (by rw [decide_eq_true (show nI 0 ≤ nI q ∧ nI q ≤ nI 9 from ⟨nI_le (by omega) (by omega), nI_le (by omega) (by omega)⟩)]; decide) ?_
    rw [nI_add]
    refine rt_gd (inb_n (by omega) (by decide)) ?_
    rw [nI_clamp (by omega), hb.1, n_addm1, decide_eq_true (show 0 < q + 1 by omega)]
    exact rt_ret ⟨⟨fr_up fr_rfl (inF_t.mpr ⟨(r, 0), by simp, rfl, .inl rfl⟩), by rw [u2upd]; rfl⟩, rfl⟩
end SB
