/-! YEARS, BY BOTH -/
theorem NC_congr {I : MI32} {a n : Nat} {N N' : Nt} (C : NC I a n N) (hn : n ≤ 6) (q : ∀ i, i < 31 → N' i = N i) : NC I a n N' := by
  obtain ⟨c1, c2, c3, c4, c5, c6, c7, T, c8, c9, c10⟩ := C
  exact ⟨c1, fun k hk => by rw [q k (by omega)]; exact c2 k hk, fun p hp => by rw [q _ (by omega)]; exact c3 p hp, fun p hp => by rw [q _ (by omega)]; exact c4 p hp, fun p hp => by rw [q _ (by omega)]; exact c5 p hp, by rw [q _ (by omega)]; exact c6, by rw [q _ (by omega)]; exact c7, T, c8, c9, fun p hp => by rw [q _ (by omega)]; exact c10 p hp⟩
theorem NX_congr {np nf : Nat} {N N' : Nt} (Z : NX np nf N) (q : ∀ i, i < 31 → N' i = N i) : NX np nf N' := by
  obtain ⟨z1, z2, z3, z4, z5⟩ := Z
  exact ⟨fun p hp => by rw [q _ (by omega)]; exact z1 p hp, fun p hp => by rw [q _ (by omega)]; exact z2 p hp, fun p hp h6 => by rw [q _ (by omega)]; exact z3 p hp h6, fun p hp h6 => by rw [q _ (by omega)]; exact z4 p hp h6, by rw [q _ (by omega)]; exact z5⟩
def rnd (s : Int32) : Int32 := s * nI 1103515245 + nI 12345
def rv (s : Int32) : Nat := nv ((s >>> (nI 16 &&& 31)) &&& nI 32767)
theorem rv_eq (s : Int32) : ((s >>> (nI 16 &&& 31)) &&& nI 32767) = nI (rv s) ∧ rv s < 32768 := by
  obtain ⟨j, h1, h2⟩ := pk_andE (s >>> (nI 16 &&& 31)) (m := nI 32767) 15 (by decide)
  unfold rv
  rw [h2, nv_n (by omega)]
  exact ⟨rfl, h1⟩
/-- the night that is tried: the model's copy -/
def cpN (I : MI32) (r r' : Nat) : Nt := fun i => if i < 31 then I r i else I r' i
section YR
variable {d L X : Nat} {I : MI32} {J : MI64} {a n np nL : Nat} {N : Nt} {h : Hs} {m r k p t v : Nat} {cd : Cd}
theorem lp_copies {r0 r1 : Nat} {n0 n1 : Nat} (k0 : ka r0 1 n0) (k1 : ka r1 1 n1) (hne : ¬ r0 = r1) (b0 : 31 ≤ n0) (b1 : 31 ≤ n1) (c0 : n0 < 2 ^ 31) (c1 : n1 < 2 ^ 31) : ∀ q j I', j + q = 31 → Fr [(r1, 0)] I I' → (∀ i, I' r1 i = if i < j then I r0 i else I r1 i) → Rt L X (c_X12_copies_2 d L X I' J r0 r1 (nI j)) none (fun I'' J' => (Fr [(r1, 0)] I I'' ∧ I'' r1 = cpN I r0 r1) ∧ J' = J)
  | 0, j, I', hj, hf, hl => by
    (first | refine rt_eq (q_X12_copies_0 (by first | assumption | rfl | exact .inl rfl | exact .inr rfl) (by first | assumption | rfl | exact .inl rfl | exact .inr rfl)) ?_ | refine rt_eq (q_X12_copies_2 (by first | assumption | rfl | exact .inl rfl | exact .inr rfl) (by first | assumption | rfl | exact .inl rfl | exact .inr rfl)) ?_)
    refine rt_t (by (try simp (disch := omega) only [nI_leI, nI_ltI, nI_eq, nI_add, pk_mul, n_0add, Nat.zero_add, nI_clamp]) <;> omega) ?_
    refine rt_ret ⟨⟨hf, ?_⟩, rfl⟩
    funext i
    rw [hl i, show j = 31 by omega]
    rfl
  | q + 1, j, I', hj, hf, hl => by
    have ih := lp_copies k0 k1 hne b0 b1 c0 c1 q (j + 1)
    (first | refine rt_eq (q_X12_copies_0 (by first | assumption | rfl | exact .inl rfl | exact .inr rfl) (by first | assumption | rfl | exact .inl rfl | exact .inr rfl)) ?_ | refine rt_eq (q_X12_copies_2 (by first | assumption | rfl | exact .inl rfl | exact .inr rfl) (by first | assumption | rfl | exact .inl rfl | exact .inr rfl)) ?_)
    refine rt_f (by (try simp (disch := omega) only [nI_leI, nI_ltI, nI_eq, nI_add, pk_mul, n_0add, Nat.zero_add, nI_clamp]) <;> omega) (rt_gd (inb_n (by omega) c0) (rt_gd (inb_n (by omega) c1) ?_))
    rw [nI_clamp (by omega), nI_add]
    refine ih _ (by omega) (fr_up hf (inF_t.mpr ⟨(r1, 0), by simp, rfl, .inl rfl⟩)) ?_
    intro i
    have h0 : I' r0 j = I r0 j := hf r0 j (by
      rw [Bool.eq_false_iff]
      intro z
      rw [inF_t] at z
      obtain ⟨e, z1, z2, -⟩ := z
      simp only [List.mem_singleton] at z1
      subst z1
      exact hne z2.symm)
    rw [up2_at, h0]
    by_cases e : i = j
    · rw [if_pos e, if_pos (by omega), e]
    · rw [if_neg e, hl i]
      by_cases z : i < j
      · rw [if_pos z, if_pos (by omega)]
      · rw [if_neg z, if_neg (by omega)]
theorem sp_copies {r0 r1 : Nat} {n0 n1 : Nat} (k0 : ka r0 1 n0) (k1 : ka r1 1 n1) (hne : ¬ r0 = r1) (b0 : 31 ≤ n0) (b1 : 31 ≤ n1) (c0 : n0 < 2 ^ 31) (c1 : n1 < 2 ^ 31) : Rt L X (runM (d + 1) nX12_copies [.ref r0, .ref r1] (mm L X I J)) none (fun I'' J' => (Fr [(r1, 0)] I I'' ∧ I'' r1 = cpN I r0 r1) ∧ J' = J) := by
  rw [e_X12_copies]
  (first | refine rt_eq (q_X12_copies_0 (by first | assumption | rfl | exact .inl rfl | exact .inr rfl) (by first | assumption | rfl | exact .inl rfl | exact .inr rfl)) ?_ | refine rt_eq (q_X12_copies_2 (by first | assumption | rfl | exact .inl rfl | exact .inr rfl) (by first | assumption | rfl | exact .inl rfl | exact .inr rfl)) ?_)
  exact lp_copies k0 k1 hne b0 b1 c0 c1 31 0 I (by omega) fr_rfl (fun i => (if_neg (by omega)).symm)
theorem sp_becomeC (C : NC I 43 n N) (hn : n ≤ 6) : Rt L X (runM (d + 1) nX3_become [.ref 67, .ref 43] (mm L X I J)) none (fun I' J' => (Fr (sNC 67) I I' ∧ NC I' 67 n N) ∧ J' = J) := by
  rw [e_X3_become]
  (first | refine rt_eq (q_X3_become_0 (by first | assumption | rfl | exact .inl rfl | exact .inr rfl) (by first | assumption | rfl | exact .inl rfl | exact .inr rfl)) ?_ | refine rt_eq (q_X3_become_30 (by first | assumption | rfl | exact .inl rfl | exact .inr rfl) (by first | assumption | rfl | exact .inl rfl | exact .inr rfl)) ?_ | refine rt_eq (q_X3_become_59 (by first | assumption | rfl | exact .inl rfl | exact .inr rfl) (by first | assumption | rfl | exact .inl rfl | exact .inr rfl)) ?_ | refine rt_eq (q_X3_become_91) ?_)
  refine rt_gd (by decide) (rt_gd (by decide) ?_)
  generalize hI : up1 _ (67 + 2) _ = I2
  have f2 : Fr (sNC 67) I I2 := by
    rw [← hI]
    exact fr_up1 (fr_up1 fr_rfl (fun j => rfl)) (fun j => rfl)
  have r2 : ∀ k, k < 6 → I2 68 k = I 44 k := fun k hk => by
    rw [← hI, up1_n (by decide), up1_s, pk_cpy_in (show (nI 0).toNatClampNeg ≤ k from Nat.zero_le k) (by rw [show (nI 0).toNatClampNeg = 0 by decide, show (nI 6).toNatClampNeg = 6 by decide]; omega), show (nI 0).toNatClampNeg = 0 by decide, Nat.zero_add, Nat.sub_zero]
  have b2 : ∀ k, k < 6 → I2 69 k = I 45 k := fun k hk => by
    rw [← hI, up1_s, pk_cpy_in (show (nI 0).toNatClampNeg ≤ k from Nat.zero_le k) (by rw [show (nI 0).toNatClampNeg = 0 by decide, show (nI 6).toNatClampNeg = 6 by decide]; omega), show (nI 0).toNatClampNeg = 0 by decide, Nat.zero_add, Nat.sub_zero, up1_n (by decide)]
  clear hI
  (first | refine rt_eq (q_X3_become_0 (by first | assumption | rfl | exact .inl rfl | exact .inr rfl) (by first | assumption | rfl | exact .inl rfl | exact .inr rfl)) ?_ | refine rt_eq (q_X3_become_30 (by first | assumption | rfl | exact .inl rfl | exact .inr rfl) (by first | assumption | rfl | exact .inl rfl | exact .inr rfl)) ?_ | refine rt_eq (q_X3_become_59 (by first | assumption | rfl | exact .inl rfl | exact .inr rfl) (by first | assumption | rfl | exact .inl rfl | exact .inr rfl)) ?_ | refine rt_eq (q_X3_become_91) ?_)
  refine rt_gd (by decide) (rt_gd (by decide) ?_)
  generalize hI : up1 _ (67 + 4) _ = I3
  have f3 : Fr (sNC 67) I I3 := by
    rw [← hI]
    exact fr_up1 (fr_up1 f2 (fun j => rfl)) (fun j => rfl)
  have b3 : ∀ k, k < 6 → I3 70 k = I 46 k := fun k hk => by
    rw [← hI, up1_n (by decide), up1_s, pk_cpy_in (show (nI 0).toNatClampNeg ≤ k from Nat.zero_le k) (by rw [show (nI 0).toNatClampNeg = 0 by decide, show (nI 6).toNatClampNeg = 6 by decide]; omega), show (nI 0).toNatClampNeg = 0 by decide, Nat.zero_add, Nat.sub_zero]
    exact f2 46 k rfl
  have o3 : ∀ k, k < 5 → I3 71 k = I 47 k := fun k hk => by
    rw [← hI, up1_s, pk_cpy_in (show (nI 0).toNatClampNeg ≤ k from Nat.zero_le k) (by rw [show (nI 0).toNatClampNeg = 0 by decide, show (nI 5).toNatClampNeg = 5 by decide]; omega), show (nI 0).toNatClampNeg = 0 by decide, Nat.zero_add, Nat.sub_zero, up1_n (by decide)]
    exact f2 47 k rfl
  have r3 : ∀ k, k < 6 → I3 68 k = I 44 k := fun k hk => by
    rw [← hI, up1_n (by decide), up1_n (by decide), r2 k hk]
  have d3 : ∀ k, k < 6 → I3 69 k = I 45 k := fun k hk => by
    rw [← hI, up1_n (by decide), up1_n (by decide), b2 k hk]
  clear hI
  (first | refine rt_eq (q_X3_become_0 (by first | assumption | rfl | exact .inl rfl | exact .inr rfl) (by first | assumption | rfl | exact .inl rfl | exact .inr rfl)) ?_ | refine rt_eq (q_X3_become_30 (by first | assumption | rfl | exact .inl rfl | exact .inr rfl) (by first | assumption | rfl | exact .inl rfl | exact .inr rfl)) ?_ | refine rt_eq (q_X3_become_59 (by first | assumption | rfl | exact .inl rfl | exact .inr rfl) (by first | assumption | rfl | exact .inl rfl | exact .inr rfl)) ?_ | refine rt_eq (q_X3_become_91) ?_)
  (first | refine rt_eq (q_X3_become_0 (by first | assumption | rfl | exact .inl rfl | exact .inr rfl) (by first | assumption | rfl | exact .inl rfl | exact .inr rfl)) ?_ | refine rt_eq (q_X3_become_30 (by first | assumption | rfl | exact .inl rfl | exact .inr rfl) (by first | assumption | rfl | exact .inl rfl | exact .inr rfl)) ?_ | refine rt_eq (q_X3_become_59 (by first | assumption | rfl | exact .inl rfl | exact .inr rfl) (by first | assumption | rfl | exact .inl rfl | exact .inr rfl)) ?_ | refine rt_eq (q_X3_become_91) ?_)
  have u4 : I3 43 4 = I 43 4 := f3 43 4 rfl
  have u5 : I3 43 5 = I 43 5 := f3 43 5 rfl
  have u6 : I3 43 6 = I 43 6 := f3 43 6 rfl
  have u7 : I3 43 7 = I 43 7 := f3 43 7 rfl
  obtain ⟨c1, c2, c3, c4, c5, c6, c7, T, c8, c9, c10⟩ := C
  refine rt_ret ⟨⟨fr_up (fr_up (fr_up (fr_up f3 rfl) rfl) rfl) rfl, ?_⟩, rfl⟩
  exact ⟨u5.trans c1, fun k hk => (r3 k (by omega)).trans (c2 k hk), fun p hp => (d3 p hp).trans (c3 p hp), fun p hp => (b3 p hp).trans (c4 p hp), fun p hp => (o3 p hp).trans (c5 p hp), u7.trans c6, u6.trans c7, T, c8, u4.trans c9, c10⟩
theorem sp_drawC {b : Nat} (hb : 0 < b) (hb2 : b < 2 ^ 31) : runM (d + 1) nX10_drawn [.ref 66, .int (nI b)] (mm L X I J) = rI (nI (rv (rnd (I 66 4)) % b)) (mm L X (up2 I 66 4 (rnd (I 66 4))) J) := by
  obtain ⟨r1, r2⟩ := rv_eq (rnd (I 66 4))
  rw [e_X10_drawn]
  (first | refine Eq.trans (q_X10_drawn_0) ?_)
  rw [if_neg (show ¬ nI b ≤ nI 0 from nI_nle hb hb2), gd_t (nz_iff.mpr (nI_ne0 hb hb2)), up2_s, ush16]
  show rI (((rnd (I 66 4)) >>> (nI 16 &&& 31) &&& nI 32767) - ((rnd (I 66 4)) >>> (nI 16 &&& 31) &&& nI 32767) / nI b * nI b) (mm L X (up2 I 66 4 (rnd (I 66 4))) J) = _
  rw [r1, pk_rem (by omega) hb hb2]
theorem sp_drawM {b : Nat} (hb : 0 < b) (hb2 : b < 2 ^ 31) : runM (d + 1) nX12_draw [.ref 72, .int (nI b)] (mm L X I J) = rI (nI (rv (rnd (I 72 50)) % b)) (mm L X (up2 I 72 50 (rnd (I 72 50))) J) := by
  obtain ⟨r1, r2⟩ := rv_eq (rnd (I 72 50))
  rw [e_X12_draw]
  (first | refine Eq.trans (q_X12_draw_0) ?_)
  rw [gd_t (nz_iff.mpr (nI_ne0 hb hb2)), up2_s]
  show rI (((rnd (I 72 50)) >>> (nI 16 &&& 31) &&& nI 32767) - ((rnd (I 72 50)) >>> (nI 16 &&& 31) &&& nI 32767) / nI b * nI b) (mm L X (up2 I 72 50 (rnd (I 72 50))) J) = _
  rw [r1, pk_rem (by omega) hb hb2]
/-! a year -/
def kdY (k : Nat) : Nat := if k = 0 then 1 else if k = 1 then 0 else if k = 2 then 4 else 5
/-- the seed, how many lie, the night -/
abbrev Ys : Type := Int32 × Nat × Nt
def yrA (h : Hs) (m nL : Nat) (cd : Cd) (y : Ys) : Ys := (rnd (rnd y.1), st2n h m (kdY (rv (rnd (rnd y.1)) % 4)) (rv (rnd y.1) % h 0 0) 0 y.2.1 y.2.2, st2N h m nL cd (kdY (rv (rnd (rnd y.1)) % 4)) (rv (rnd y.1) % h 0 0) 0 y.2.1 y.2.2)
def yrL (h : Hs) (m nL : Nat) (cd : Cd) (q : Nat) (y : Ys) : Ys := if rv (rnd y.1) % 16 < q then (rnd y.1, st2n h m 2 0 0 y.2.1 y.2.2, st2N h m nL cd 2 0 0 y.2.1 y.2.2) else (rnd y.1, y.2)
def yrD (h : Hs) (m nL : Nat) (cd : Cd) (q : Nat) (y : Ys) : Ys := if h 0 0 = 0 then y else yrL h m nL cd q (yrA h m nL cd y)
def yrH (h : Hs) (m nL : Nat) (cd : Cd) (q : Nat) (y : Ys) : Ys := ((yrD h m nL cd q y).1, (yrD h m nL cd q y).2.1, hourN (rchd h nL cd (yrD h m nL cd q y).2.2 (yrD h m nL cd q y).2.1) (h 0 2) (yrD h m nL cd q y).2.2)
def yrP (h : Hs) (m nL : Nat) (cd : Cd) (q : Nat) (y : Ys) (b : Int32) : Int32 := accF (putO (rchd h nL cd (yrD h m nL cd q y).2.2 (yrD h m nL cd q y).2.1) (yrD h m nL cd q y).2.2) (h 0 2) 0 b
def yrZ (h : Hs) (m nL : Nat) (cd : Cd) (q : Nat) (_ : Nat) (z : Ys × Int32) : Ys × Int32 := (yrH h m nL cd q z.1, yrP h m nL cd q z.1 z.2)
def yrs (h : Hs) (m nL : Nat) (cd : Cd) (q hours : Nat) (s : Int32) (n : Nat) (N : Nt) : Ys × Int32 := accF (yrZ h m nL cd q) hours 0 ((s, n, N), nI 0)
theorem putO_add {R : Nat → Bool} {b : Int32} : ∀ q j c, accF (putO R N) q j (b + c) = b + accF (putO R N) q j c
  | 0, _, _ => rfl
  | q + 1, j, c => by
    show accF (putO R N) q (j + 1) (putO R N j (b + c)) = b + accF (putO R N) q (j + 1) (putO R N j c)
    have e : putO R N j (b + c) = b + putO R N j c := by
      unfold putO
      by_cases hr : R j = true
      · rw [if_pos hr, if_pos hr, Int32.add_assoc]
      · rw [if_neg hr, if_neg hr]
    rw [e, putO_add q (j + 1)]
theorem kdY_ok {np k p : Nat} (hp : p < np) : stOK np (kdY k) p 0 := by
  unfold kdY
  by_cases e0 : k = 0
  · rw [if_pos e0]
    exact ⟨by omega, fun _ => hp, fun _ => by omega, fun e => by omega⟩
  · rw [if_neg e0]
    by_cases e1 : k = 1
    · rw [if_pos e1]
      exact ⟨by omega, fun _ => hp, fun _ => by omega, fun e => by omega⟩
    · rw [if_neg e1]
      by_cases e2 : k = 2
      · rw [if_pos e2]
        exact ⟨by omega, fun _ => hp, fun _ => by omega, fun e => by omega⟩
      · rw [if_neg e2]
        exact ⟨by omega, fun _ => hp, fun _ => by omega, fun e => by omega⟩
/-- a night is well in a year -/
def wlY (h : Hs) (y : Ys) : Prop := NR (h 0 0) y.2.1 y.2.2 ∧ NX (h 0 0) (h 0 2) y.2.2
theorem wl_A {y : Ys} (ok : HOK h) (hp : 0 < h 0 0) (w : wlY h y) : wlY h (yrA h m nL cd y) := st_well ok w.1 w.2 (kdY_ok (Nat.mod_lt _ hp))
theorem wl_L {q : Nat} {y : Ys} (ok : HOK h) (w : wlY h y) : wlY h (yrL h m nL cd q y) := by
  unfold yrL
  by_cases e : rv (rnd y.1) % 16 < q
  · rw [if_pos e]
    exact st_well ok w.1 w.2 ⟨by omega, fun e => by omega, fun e => by omega, fun e => by omega⟩
  · rw [if_neg e]
    exact ⟨w.1, w.2⟩
theorem wl_D {q : Nat} {y : Ys} (ok : HOK h) (w : wlY h y) : wlY h (yrD h m nL cd q y) := by
  unfold yrD
  by_cases e : h 0 0 = 0
  · rw [if_pos e]
    exact w
  · rw [if_neg e]
    exact wl_L ok (wl_A ok (by omega) w)
theorem wl_H {q : Nat} {y : Ys} (ok : HOK h) (w : wlY h y) : wlY h (yrH h m nL cd q y) := ⟨NR_hour (wl_D ok w).1 ok.2.2.1, NX_hour (wl_D ok w).2 ok.2.2.1⟩
end YR
