/-! THE TAPE IS FED -/
section FD
variable {d L X : Nat} {I : MI32} {J : MI64} {W : Nat → Nat} {tp : Nat}
theorem and255 {y : Int32} : ∃ c, c < 256 ∧ y &&& nI 255 = nI c := by
  refine ⟨y.toBitVec.toNat % 256, Nat.mod_lt _ (by decide), ?_⟩
  refine Int32.toBitVec_inj.mp ?_
  have e : (nI 255).toBitVec = 255#32 := by decide
  have e2 : (nI (y.toBitVec.toNat % 256)).toBitVec = BitVec.ofNat 32 (y.toBitVec.toNat % 256) := rfl
  rw [Int32.toBitVec_and, e, e2]
  refine BitVec.eq_of_toNat_eq ?_
  rw [BitVec.toNat_and, BitVec.toNat_ofNat, BitVec.toNat_ofNat, Nat.and_two_pow_sub_one_eq_mod _ 8]
  omega
theorem byte255 {y : Int32} : y.toInt8.toInt32 &&& nI 255 = y &&& nI 255 := by
  refine Int32.toBitVec_inj.mp ?_
  have e : (nI 255).toBitVec = 255#32 := by decide
  rw [Int32.toBitVec_and, Int32.toBitVec_and, e, Int8.toBitVec_toInt32, Int32.toBitVec_toInt8]
  refine BitVec.eq_of_getLsbD_eq (fun i hi => ?_)
  rw [BitVec.getLsbD_and, BitVec.getLsbD_and]
  by_cases q : i < 8
  · rw [BitVec.getLsbD_signExtend, if_pos q, BitVec.getLsbD_signExtend, if_pos hi, decide_eq_true hi, decide_eq_true q, Bool.true_and, Bool.true_and]
  · have : (255#32).getLsbD i = false := by
      rw [BitVec.getLsbD_ofNat]
      have : (255 : Nat).testBit i = false := Nat.testBit_lt_two_pow (Nat.lt_of_lt_of_le (by decide : 255 < 2 ^ 8) (Nat.pow_le_pow_right (by decide) (by omega)))
      rw [this, Bool.and_false]
    rw [this, Bool.and_false, Bool.and_false]
theorem nar_b {y : Int32} : vp_nar .byte y = y.toInt8.toInt32 := rfl
/-- byte j of a word -/
def byb (x : Int32) (j : Nat) : Nat := nv ((x >>> (nI (24 - 8 * j) &&& 31)) &&& nI 255)
theorem byb_n {x : Int32} {j : Nat} : (x >>> (nI (24 - 8 * j) &&& 31)) &&& nI 255 = nI (byb x j) ∧ byb x j < 256 := by
  obtain ⟨c, hc, e⟩ := and255 (y := x >>> (nI (24 - 8 * j) &&& 31))
  have e2 : byb x j = c := by
    unfold byb nv
    rw [e, nI_clamp (by omega)]
  rw [e, e2]
  exact ⟨rfl, hc⟩
/-- m bytes f behind tp -/
def fdW (W : Nat → Nat) (tp : Nat) (f : Nat → Nat) (m : Nat) : Nat → Nat := fun k => if tp ≤ k ∧ k < tp + m then f (k - tp) else W k
theorem BC_put {p : Nat} {f : Nat → Nat} {m : Nat} {x : Int32} (B : BC I (fdW W tp f m)) (hp : p = tp + m) (hx : x &&& nI 255 = nI (f m)) (hc : f m < 256) : BC (up2 I 2 p x) (fdW W tp f (m + 1)) := by
  intro k hk
  rw [up2_at]
  unfold fdW
  by_cases q : k = p
  · rw [if_pos q, if_pos (by omega), q, hp, Nat.add_sub_cancel_left]
    exact ⟨hx, hc⟩
  · rw [if_neg q]
    have := B k hk
    unfold fdW at this
    by_cases q2 : tp ≤ k ∧ k < tp + m
    · rw [if_pos q2] at this
      rw [if_pos (by omega)]
      exact this
    · rw [if_neg q2] at this
      rw [if_neg (by omega)]
      exact this
theorem BM_put {p : Nat} {f : Nat → Nat} {m : Nat} {x : Int32} (B : BM I (fdW W tp f m)) (hp : p = tp + m) (hx : x = nI (f m)) : BM (up2 I 73 p x) (fdW W tp f (m + 1)) := by
  intro k hk
  rw [up2_at]
  unfold fdW
  by_cases q : k = p
  · rw [if_pos q, if_pos (by omega), q, hp, Nat.add_sub_cancel_left]
    exact hx
  · rw [if_neg q]
    have := B k hk
    unfold fdW at this
    by_cases q2 : tp ≤ k ∧ k < tp + m
    · rw [if_pos q2] at this
      rw [if_pos (by omega)]
      exact this
    · rw [if_neg q2] at this
      rw [if_neg (by omega)]
      exact this
theorem lp_append {f : Nat → Nat} {g : Nat} {x : Int32} (hf : ∀ j, j < 4 → f (g + j) = byb x j) (h600 : tp + g + 4 ≤ 600) : ∀ r j I', j + r = 4 → Fr [(2, 0), (1, 2)] I I' → BC I' (fdW W tp f (g + j)) → I' 1 1 = nI (tp + g + j) → Rt L X (c_X7_append_3 d L X I' J x (if j = 4 then -8 else nI (24 - 8 * j))) none (fun I'' J' => (Fr [(2, 0), (1, 2)] I I'' ∧ BC I'' (fdW W tp f (g + 4)) ∧ I'' 1 1 = nI (tp + g + 4)) ∧ J' = J)
  | 0, j, I', hj, f1, B, h1 => by
    have ej : j = 4 := by omega
    subst ej
    rw [if_pos rfl]
    (first | refine rt_eq (q_X7_append_0) ?_ | refine rt_eq (q_X7_append_3) ?_ | refine rt_eq (q_X7_append_47) ?_)
    exact rt_t (by decide) (rt_ret ⟨⟨f1, B, h1⟩, rfl⟩)
  | r + 1, j, I', hj, f1, B, h1 => by
    have ih := lp_append (f := f) (g := g) (x := x) hf h600 r (j + 1)
    rw [if_neg (by omega)]
    (first | refine rt_eq (q_X7_append_0) ?_ | refine rt_eq (q_X7_append_3) ?_ | refine rt_eq (q_X7_append_47) ?_)
    rw [h1]
    refine rt_f (by (try simp (disch := omega) only [nI_leI, nI_ltI, nI_eq, nI_add, pk_mul, n_0add, Nat.zero_add, nI_clamp]) <;> omega) (rt_f (by (try simp (disch := omega) only [nI_leI, nI_ltI, nI_eq, nI_add, pk_mul, n_0add, Nat.zero_add, nI_clamp]) <;> omega) (rt_f (by (try simp (disch := omega) only [nI_leI, nI_ltI, nI_eq, nI_add, pk_mul, n_0add, Nat.zero_add, nI_clamp]) <;> omega) (rt_gd (inb_n (by omega) (by decide)) ?_)))
    (first | refine rt_eq (q_X7_append_0) ?_ | refine rt_eq (q_X7_append_3) ?_ | refine rt_eq (q_X7_append_47) ?_)
    rw [nI_clamp (by omega), up2_n (by decide), h1, nI_add]
    have e8 : nI (24 - 8 * j) + (-8 : Int32) = if j + 1 = 4 then -8 else nI (24 - 8 * (j + 1)) := by
      have q : ∀ j, j < 4 → nI (24 - 8 * j) + (-8 : Int32) = if j + 1 = 4 then -8 else nI (24 - 8 * (j + 1)) := by decide +kernel
      exact q j (by omega)
    rw [e8]
    obtain ⟨y1, y2⟩ := byb_n (x := x) (j := j)
    refine ih _ (by omega) (fr_up (fr_up f1 rfl) rfl) ?_ up2_s
    have B2 := BC_put (x := vp_nar .byte (x >>> (nI (24 - 8 * j) &&& 31)).toInt8.toInt32) B (p := tp + g + j) (by omega) (by rw [nar_b, byte255, byte255, hf j (by omega)]; exact y1) (by rw [hf j (by omega)]; exact y2)
    intro k hk
    rw [up2_n (by decide)]
    exact B2 k hk
theorem sp_append {f : Nat → Nat} {g : Nat} {x : Int32} (hf : ∀ j, j < 4 → f (g + j) = byb x j) (h600 : tp + g + 4 ≤ 600) (B : BC I (fdW W tp f g)) (h1 : I 1 1 = nI (tp + g)) : Rt L X (runM (d + 1) nX7_append [.ref 1, .int x] (mm L X I J)) none (fun I'' J' => (Fr [(2, 0), (1, 2)] I I'' ∧ BC I'' (fdW W tp f (g + 4)) ∧ I'' 1 1 = nI (tp + g + 4)) ∧ J' = J) := by
  rw [e_X7_append]
  (first | refine rt_eq (q_X7_append_0) ?_ | refine rt_eq (q_X7_append_3) ?_ | refine rt_eq (q_X7_append_47) ?_)
  exact lp_append hf h600 4 0 I (by omega) fr_rfl B h1
/-- the twenty bytes that are fed -/
def f20 (x1 x2 x3 x4 x5 : Int32) (i : Nat) : Nat := byb (if i < 4 then x1 else if i < 8 then x2 else if i < 12 then x3 else if i < 16 then x4 else x5) (i % 4)
theorem c_feed {x1 x2 x3 x4 x5 : Int32} (B : BC I W) (h1 : I 1 1 = nI tp) (h600 : tp + 20 ≤ 600) : Rt L X (runM (d + 2) nX11_feed [.ref 0, .int x1, .int x2, .int x3, .int x4, .int x5] (mm L X I J)) (some (.int (nI (tp + 20)))) (fun I'' J' => (Fr [(2, 0), (1, 2)] I I'' ∧ BC I'' (fdW W tp (f20 x1 x2 x3 x4 x5) 20) ∧ I'' 1 1 = nI (tp + 20)) ∧ J' = J) := by
  have B0 : BC I (fdW W tp (f20 x1 x2 x3 x4 x5) 0) := fun k hk => by
    unfold fdW
    rw [if_neg (by omega)]
    exact B k hk
  have room : runM (d + 1) nX7_hasRoom [.ref 1] (mm L X I J) = rI (nI 1) (mm L X I J) := by
    rw [e_X7_hasRoom]
    (first | refine Eq.trans (q_X7_hasRoom_0) ?_)
    rw [h1]
    exact if_neg (by ((try simp (disch := omega) only [nI_leI, nI_ltI, nI_eq, nI_add, pk_mul, n_0add, Nat.zero_add, nI_clamp]) <;> omega))
  have g1 : ∀ j, j < 4 → f20 x1 x2 x3 x4 x5 (0 + j) = byb x1 j := fun j hj => by
    unfold f20
    rw [if_pos (by omega), show (0 + j) % 4 = j by omega]
  have g2 : ∀ j, j < 4 → f20 x1 x2 x3 x4 x5 (4 + j) = byb x2 j := fun j hj => by
    unfold f20
    rw [if_neg (by omega), if_pos (by omega), show (4 + j) % 4 = j by omega]
  have g3 : ∀ j, j < 4 → f20 x1 x2 x3 x4 x5 (8 + j) = byb x3 j := fun j hj => by
    unfold f20
    rw [if_neg (by omega), if_neg (by omega), if_pos (by omega), show (8 + j) % 4 = j by omega]
  have g4 : ∀ j, j < 4 → f20 x1 x2 x3 x4 x5 (12 + j) = byb x4 j := fun j hj => by
    unfold f20
    rw [if_neg (by omega), if_neg (by omega), if_neg (by omega), if_pos (by omega), show (12 + j) % 4 = j by omega]
  have g5 : ∀ j, j < 4 → f20 x1 x2 x3 x4 x5 (16 + j) = byb x5 j := fun j hj => by
    unfold f20
    rw [if_neg (by omega), if_neg (by omega), if_neg (by omega), if_neg (by omega), show (16 + j) % 4 = j by omega]
  rw [e_X11_feed]
  (first | refine rt_eq (q_X11_feed_0) ?_ | refine rt_eq (q_X11_feed_7) ?_ | refine rt_eq (q_X11_feed_20) ?_ | refine rt_eq (q_X11_feed_28) ?_ | refine rt_eq (q_X11_feed_36) ?_ | refine rt_eq (q_X11_feed_45) ?_ | refine rt_eq (q_X11_feed_54) ?_)
  refine rt_be room ?_
  (first | refine rt_eq (q_X11_feed_0) ?_ | refine rt_eq (q_X11_feed_7) ?_ | refine rt_eq (q_X11_feed_20) ?_ | refine rt_eq (q_X11_feed_28) ?_ | refine rt_eq (q_X11_feed_36) ?_ | refine rt_eq (q_X11_feed_45) ?_ | refine rt_eq (q_X11_feed_54) ?_)
  refine rt_f (by decide) (rt_bnd (sp_append (g := 0) g1 (by omega) B0 h1) ?_)
  rintro I1 J1 ⟨⟨a1, a2, a3⟩, rfl⟩
  (first | refine rt_eq (q_X11_feed_0) ?_ | refine rt_eq (q_X11_feed_7) ?_ | refine rt_eq (q_X11_feed_20) ?_ | refine rt_eq (q_X11_feed_28) ?_ | refine rt_eq (q_X11_feed_36) ?_ | refine rt_eq (q_X11_feed_45) ?_ | refine rt_eq (q_X11_feed_54) ?_)
  refine rt_bnd (sp_append (g := 4) g2 (by omega) a2 a3) ?_
  rintro I2 J2 ⟨⟨b1, b2, b3⟩, rfl⟩
  (first | refine rt_eq (q_X11_feed_0) ?_ | refine rt_eq (q_X11_feed_7) ?_ | refine rt_eq (q_X11_feed_20) ?_ | refine rt_eq (q_X11_feed_28) ?_ | refine rt_eq (q_X11_feed_36) ?_ | refine rt_eq (q_X11_feed_45) ?_ | refine rt_eq (q_X11_feed_54) ?_)
  refine rt_bnd (sp_append (g := 8) g3 (by omega) b2 b3) ?_
  rintro I3 J3 ⟨⟨c1, c2, c3⟩, rfl⟩
  (first | refine rt_eq (q_X11_feed_0) ?_ | refine rt_eq (q_X11_feed_7) ?_ | refine rt_eq (q_X11_feed_20) ?_ | refine rt_eq (q_X11_feed_28) ?_ | refine rt_eq (q_X11_feed_36) ?_ | refine rt_eq (q_X11_feed_45) ?_ | refine rt_eq (q_X11_feed_54) ?_)
  refine rt_bnd (sp_append (g := 12) g4 (by omega) c2 c3) ?_
  rintro I4 J4 ⟨⟨d1, d2, d3⟩, rfl⟩
  (first | refine rt_eq (q_X11_feed_0) ?_ | refine rt_eq (q_X11_feed_7) ?_ | refine rt_eq (q_X11_feed_20) ?_ | refine rt_eq (q_X11_feed_28) ?_ | refine rt_eq (q_X11_feed_36) ?_ | refine rt_eq (q_X11_feed_45) ?_ | refine rt_eq (q_X11_feed_54) ?_)
  refine rt_bnd (sp_append (g := 16) g5 (by omega) d2 d3) ?_
  rintro I5 J5 ⟨⟨e1, e2, e3⟩, rfl⟩
  (first | refine rt_eq (q_X11_feed_0) ?_ | refine rt_eq (q_X11_feed_7) ?_ | refine rt_eq (q_X11_feed_20) ?_ | refine rt_eq (q_X11_feed_28) ?_ | refine rt_eq (q_X11_feed_36) ?_ | refine rt_eq (q_X11_feed_45) ?_ | refine rt_eq (q_X11_feed_54) ?_)
  have e3' : I5 1 1 = nI (tp + 20) := e3
  rw [e3']
  exact rt_ret ⟨⟨fr_tr a1 (fr_tr b1 (fr_tr c1 (fr_tr d1 e1))), e2, e3'⟩, rfl⟩
theorem c_feed0 {x1 x2 x3 x4 x5 : Int32} (h1 : I 1 1 = nI tp) (h600 : 600 < tp + 20) (htp : tp ≤ 600) : runM (d + 2) nX11_feed [.ref 0, .int x1, .int x2, .int x3, .int x4, .int x5] (mm L X I J) = rI (-1) (mm L X I J) := by
  have room : runM (d + 1) nX7_hasRoom [.ref 1] (mm L X I J) = rI (nI 0) (mm L X I J) := by
    rw [e_X7_hasRoom]
    (first | refine Eq.trans (q_X7_hasRoom_0) ?_)
    rw [h1]
    exact if_pos (by ((try simp (disch := omega) only [nI_leI, nI_ltI, nI_eq, nI_add, pk_mul, n_0add, Nat.zero_add, nI_clamp]) <;> omega))
  rw [e_X11_feed]
  (first | refine Eq.trans (q_X11_feed_0) ?_ | refine Eq.trans (q_X11_feed_7) ?_ | refine Eq.trans (q_X11_feed_20) ?_ | refine Eq.trans (q_X11_feed_28) ?_ | refine Eq.trans (q_X11_feed_36) ?_ | refine Eq.trans (q_X11_feed_45) ?_ | refine Eq.trans (q_X11_feed_54) ?_)
  refine Eq.trans (bnd_e room) ?_
  (first | refine Eq.trans (q_X11_feed_0) ?_ | refine Eq.trans (q_X11_feed_7) ?_ | refine Eq.trans (q_X11_feed_20) ?_ | refine Eq.trans (q_X11_feed_28) ?_ | refine Eq.trans (q_X11_feed_36) ?_ | refine Eq.trans (q_X11_feed_45) ?_ | refine Eq.trans (q_X11_feed_54) ?_)
  exact if_pos rfl
end FD
