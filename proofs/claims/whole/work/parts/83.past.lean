/-! NIGHTS ARE KEPT, BY THE CLASS -/
section PA
variable {d L X : Nat} {I : MI32} {J : MI64} {n : Nat} {N : Nt}
theorem cpy_n {f g : Nat → Int32} {s t c k : Nat} (hs : s < 2 ^ 31) (ht : t < 2 ^ 31) (hc : c < 2 ^ 31) : va_cpy f g (nI s).toNatClampNeg (nI t).toNatClampNeg (nI c).toNatClampNeg k = if t ≤ k ∧ k < t + c then f (s + (k - t)) else g k := by
  rw [nI_clamp hs, nI_clamp ht, nI_clamp hc]
  by_cases q : t ≤ k ∧ k < t + c
  · rw [if_pos q, pk_cpy_in q.1 q.2]
  · rw [if_neg q]
    unfold va_cpy
    exact if_neg q
theorem cpok_n {s t c n0 n1 : Nat} (h0 : s + c ≤ n0) (h1 : t + c ≤ n1) (h2 : n0 < 2 ^ 31) (h3 : n1 < 2 ^ 31) : cpok (nI s) (nI t) (nI c) n0 n1 = true := by
  unfold cpok
  refine decide_eq_true ⟨?_, ?_, ?_, ?_, ?_⟩
  · rw [← nI_0]
    ((try simp (disch := omega) only [nI_leI, nI_ltI, nI_eq, nI_add, pk_mul, n_0add, Nat.zero_add, nI_clamp]) <;> omega)
  · rw [← nI_0]
    ((try simp (disch := omega) only [nI_leI, nI_ltI, nI_eq, nI_add, pk_mul, n_0add, Nat.zero_add, nI_clamp]) <;> omega)
  · rw [← nI_0]
    ((try simp (disch := omega) only [nI_leI, nI_ltI, nI_eq, nI_add, pk_mul, n_0add, Nat.zero_add, nI_clamp]) <;> omega)
  · rw [nI_clamp (by omega), nI_clamp (by omega)]
    exact h0
  · rw [nI_clamp (by omega), nI_clamp (by omega)]
    exact h1
/-- a night as the class keeps it, from o on -/
def NS (f : Nat → Int32) (o n : Nat) (N : Nt) : Prop := f (o + 24) = nI n ∧ (∀ k, k < n → f (o + k) = N k) ∧ (∀ p, p < 6 → f (o + 6 + p) = N (12 + p)) ∧ (∀ p, p < 6 → f (o + 12 + p) = N (18 + p)) ∧ (∀ q, q < 5 → f (o + 18 + q) = N (24 + q)) ∧ f (o + 26) = N 29 ∧ f (o + 25) = N 30 ∧ ∃ T, T < 64 ∧ f (o + 23) = nI T ∧ ∀ p, p < 6 → N (6 + p) = nI (tb T p)
theorem sp_writeTo {r n1 o : Nat} (k1 : ka r 1 n1) (hr : r = 49 ∨ r = 50) (ho : o + 27 ≤ n1) (hn1 : n1 < 2 ^ 30) (hn : n ≤ 6) (C : NC I 43 n N) : Rt L X (runM (d + 1) nX3_writeTo [.ref 43, .ref r, .int (nI o)] (mm L X I J)) none (fun I' J' => (Fr [(r, 0)] I I' ∧ NS (I' r) o n N ∧ ∀ k, (k < o ∨ o + 27 ≤ k) → I' r k = I r k) ∧ J' = J) := by
  have h0 : oc3 43 := .inl rfl
  have hr1 : ¬ 44 = r ∧ ¬ 45 = r ∧ ¬ 46 = r ∧ ¬ 47 = r ∧ ¬ 43 = r := by omega
  have inr : ∀ j, inF [(r, 0)] r j = true := fun j => by simp [inF]
  obtain ⟨c1, c2, c3, c4, c5, c6, c7, T, t1, t2, t3⟩ := C
  rw [e_X3_writeTo]
  (first | refine rt_eq (q_X3_writeTo_0 (by first | assumption | rfl | exact .inl rfl | exact .inr rfl) (by first | assumption | rfl | exact .inl rfl | exact .inr rfl)) ?_ | refine rt_eq (q_X3_writeTo_41 (by first | assumption | rfl | exact .inl rfl | exact .inr rfl) (by first | assumption | rfl | exact .inl rfl | exact .inr rfl)) ?_ | refine rt_eq (q_X3_writeTo_70 (by first | assumption | rfl | exact .inl rfl | exact .inr rfl) (by first | assumption | rfl | exact .inl rfl | exact .inr rfl)) ?_ | refine rt_eq (q_X3_writeTo_111) ?_)
  have e27 : nI n1 - nI 27 = nI (n1 - 27) := by
    rw [show nI n1 = nI (n1 - 27) + nI 27 by rw [nI_add, show n1 - 27 + 27 = n1 by omega], Int32.add_sub_cancel]
  rw [e27]
  refine rt_f (by (try simp (disch := omega) only [nI_leI, nI_ltI, nI_eq, nI_add, pk_mul, n_0add, Nat.zero_add, nI_clamp]) <;> omega) (rt_t (by (try simp (disch := omega) only [nI_leI, nI_ltI, nI_eq, nI_add, pk_mul, n_0add, Nat.zero_add, nI_clamp]) <;> omega) ?_)
  rw [nI_add]
  refine rt_gd (cpok_n (by omega) (by omega) (by decide) (by omega)) (rt_gd (cpok_n (by omega) (by omega) (by decide) (by omega)) ?_)
  generalize hI : up1 (up1 I r _) r _ = I2
  have f2 : Fr [(r, 0)] I I2 := by
    rw [← hI]
    exact fr_up1 (fr_up1 fr_rfl inr) inr
  have v2 : ∀ k, I2 r k = if o + 6 ≤ k ∧ k < o + 6 + 6 then I 45 (0 + (k - (o + 6))) else if o ≤ k ∧ k < o + 6 then I 44 (0 + (k - o)) else I r k := by
    intro k
    rw [← hI, up1_s, cpy_n (by decide) (by omega) (by decide), up1_n hr1.2.1, up1_s, cpy_n (by decide) (by omega) (by decide)]
  clear hI
  (first | refine rt_eq (q_X3_writeTo_0 (by first | assumption | rfl | exact .inl rfl | exact .inr rfl) (by first | assumption | rfl | exact .inl rfl | exact .inr rfl)) ?_ | refine rt_eq (q_X3_writeTo_41 (by first | assumption | rfl | exact .inl rfl | exact .inr rfl) (by first | assumption | rfl | exact .inl rfl | exact .inr rfl)) ?_ | refine rt_eq (q_X3_writeTo_70 (by first | assumption | rfl | exact .inl rfl | exact .inr rfl) (by first | assumption | rfl | exact .inl rfl | exact .inr rfl)) ?_ | refine rt_eq (q_X3_writeTo_111) ?_)
  rw [nI_add, nI_add]
  refine rt_gd (cpok_n (by omega) (by omega) (by decide) (by omega)) (rt_gd (cpok_n (by omega) (by omega) (by decide) (by omega)) ?_)
  generalize hI : up1 (up1 I2 r _) r _ = I3
  have f3 : Fr [(r, 0)] I I3 := by
    rw [← hI]
    exact fr_up1 (fr_up1 f2 inr) inr
  have o2 : ∀ b k, ¬ b = r → I2 b k = I b k := fun b k hb => f2 b k (by simp [inF]; omega)
  have v3 : ∀ k, I3 r k = if o + 18 ≤ k ∧ k < o + 18 + 5 then I 47 (0 + (k - (o + 18))) else if o + 12 ≤ k ∧ k < o + 12 + 6 then I 46 (0 + (k - (o + 12))) else I2 r k := by
    intro k
    rw [← hI, up1_s, cpy_n (by decide) (by omega) (by decide), up1_n hr1.2.2.2.1, up1_s, cpy_n (by decide) (by omega) (by decide), o2 _ _ hr1.2.2.2.1, o2 _ _ hr1.2.2.1]
  clear hI
  have o3 : ∀ b k, ¬ b = r → I3 b k = I b k := fun b k hb => f3 b k (by simp [inF]; omega)
  (first | refine rt_eq (q_X3_writeTo_0 (by first | assumption | rfl | exact .inl rfl | exact .inr rfl) (by first | assumption | rfl | exact .inl rfl | exact .inr rfl)) ?_ | refine rt_eq (q_X3_writeTo_41 (by first | assumption | rfl | exact .inl rfl | exact .inr rfl) (by first | assumption | rfl | exact .inl rfl | exact .inr rfl)) ?_ | refine rt_eq (q_X3_writeTo_70 (by first | assumption | rfl | exact .inl rfl | exact .inr rfl) (by first | assumption | rfl | exact .inl rfl | exact .inr rfl)) ?_ | refine rt_eq (q_X3_writeTo_111) ?_)
  rw [nI_add, nI_add, nI_add, nI_add, nI_add]
  refine rt_gd (inb_n (by omega) (by omega)) (rt_gd (inb_n (by omega) (by omega)) (rt_gd (inb_n (by omega) (by omega)) (rt_gd (inb_n (by omega) (by omega)) ?_)))
  rw [nI_clamp (by omega), nI_clamp (by omega), nI_clamp (by omega), nI_clamp (by omega)]
  rw [up2_n hr1.2.2.2.2, up2_n hr1.2.2.2.2, up2_n hr1.2.2.2.2, up2_n hr1.2.2.2.2, up2_n hr1.2.2.2.2, up2_n hr1.2.2.2.2, o3 43 4 hr1.2.2.2.2, o3 43 5 hr1.2.2.2.2, o3 43 6 hr1.2.2.2.2, o3 43 7 hr1.2.2.2.2]
  (first | refine rt_eq (q_X3_writeTo_0 (by first | assumption | rfl | exact .inl rfl | exact .inr rfl) (by first | assumption | rfl | exact .inl rfl | exact .inr rfl)) ?_ | refine rt_eq (q_X3_writeTo_41 (by first | assumption | rfl | exact .inl rfl | exact .inr rfl) (by first | assumption | rfl | exact .inl rfl | exact .inr rfl)) ?_ | refine rt_eq (q_X3_writeTo_70 (by first | assumption | rfl | exact .inl rfl | exact .inr rfl) (by first | assumption | rfl | exact .inl rfl | exact .inr rfl)) ?_ | refine rt_eq (q_X3_writeTo_111) ?_)
  have fin : ∀ k, (up2 (up2 (up2 (up2 I3 r (o + 18 + 5) (I 43 4)) r (o + 18 + 5 + 1) (I 43 5)) r (o + 18 + 5 + 2) (I 43 6)) r (o + 18 + 5 + 3) (I 43 7)) r k = if k = o + 26 then I 43 7 else if k = o + 25 then I 43 6 else if k = o + 24 then I 43 5 else if k = o + 23 then I 43 4 else I3 r k := by
    intro k
    rw [up2_at, up2_at, up2_at, up2_at]
  refine rt_ret ⟨⟨fr_up (fr_up (fr_up (fr_up f3 (inr _)) (inr _)) (inr _)) (inr _), ⟨?_, fun k hk => ?_, fun p hp => ?_, fun p hp => ?_, fun q hq => ?_, ?_, ?_, T, t1, ?_, t3⟩, fun k hk => ?_⟩, rfl⟩
  · rw [fin, if_neg (by omega), if_neg (by omega), if_pos rfl, c1]
  · rw [fin, if_neg (by omega), if_neg (by omega), if_neg (by omega), if_neg (by omega), v3, if_neg (by omega), if_neg (by omega), v2, if_neg (by omega), if_pos (by omega), show 0 + (o + k - o) = k by omega]
    exact c2 k hk
  · rw [fin, if_neg (by omega), if_neg (by omega), if_neg (by omega), if_neg (by omega), v3, if_neg (by omega), if_neg (by omega), v2, if_pos (by omega), show 0 + (o + 6 + p - (o + 6)) = p by omega]
    exact c3 p hp
  · rw [fin, if_neg (by omega), if_neg (by omega), if_neg (by omega), if_neg (by omega), v3, if_neg (by omega), if_pos (by omega), show 0 + (o + 12 + p - (o + 12)) = p by omega]
    exact c4 p hp
  · rw [fin, if_neg (by omega), if_neg (by omega), if_neg (by omega), if_neg (by omega), v3, if_pos (by omega), show 0 + (o + 18 + q - (o + 18)) = q by omega]
    exact c5 q hq
  · rw [fin, if_pos rfl, c6]
  · rw [fin, if_neg (by omega), if_pos rfl, c7]
  · rw [fin, if_neg (by omega), if_neg (by omega), if_neg (by omega), if_pos rfl, t2]
  · rw [fin, if_neg (by omega), if_neg (by omega), if_neg (by omega), if_neg (by omega), v3, if_neg (by omega), if_neg (by omega), v2, if_neg (by omega), if_neg (by omega)]
theorem sp_readNight {r n1 o : Nat} (k1 : ka r 1 n1) (hr : r = 49 ∨ r = 50) (ho : o + 27 ≤ n1) (hn1 : n1 < 2 ^ 30) (hn : n ≤ 6) (C : NS (I r) o n N) : Rt L X (runM (d + 1) nX3_readFrom [.ref 43, .ref r, .int (nI o)] (mm L X I J)) none (fun I' J' => (Fr (sNC 43) I I' ∧ NC I' 43 n N) ∧ J' = J) := by
  have h0 : oc3 43 := .inl rfl
  have hr1 : ¬ r = 44 ∧ ¬ r = 45 ∧ ¬ r = 46 ∧ ¬ r = 47 ∧ ¬ r = 43 := by omega
  obtain ⟨c1, c2, c3, c4, c5, c6, c7, T, t1, t2, t3⟩ := C
  rw [e_X3_readFrom]
  (first | refine rt_eq (q_X3_readFrom_0 (by first | assumption | rfl | exact .inl rfl | exact .inr rfl) (by first | assumption | rfl | exact .inl rfl | exact .inr rfl)) ?_ | refine rt_eq (q_X3_readFrom_41 (by first | assumption | rfl | exact .inl rfl | exact .inr rfl) (by first | assumption | rfl | exact .inl rfl | exact .inr rfl)) ?_ | refine rt_eq (q_X3_readFrom_70 (by first | assumption | rfl | exact .inl rfl | exact .inr rfl) (by first | assumption | rfl | exact .inl rfl | exact .inr rfl)) ?_ | refine rt_eq (q_X3_readFrom_111) ?_)
  have e27 : nI n1 - nI 27 = nI (n1 - 27) := by
    rw [show nI n1 = nI (n1 - 27) + nI 27 by rw [nI_add, show n1 - 27 + 27 = n1 by omega], Int32.add_sub_cancel]
  rw [e27]
  refine rt_f (by (try simp (disch := omega) only [nI_leI, nI_ltI, nI_eq, nI_add, pk_mul, n_0add, Nat.zero_add, nI_clamp]) <;> omega) (rt_t (by (try simp (disch := omega) only [nI_leI, nI_ltI, nI_eq, nI_add, pk_mul, n_0add, Nat.zero_add, nI_clamp]) <;> omega) ?_)
  rw [nI_add]
  refine rt_gd (cpok_n (by omega) (by omega) (by omega) (by decide)) (rt_gd (cpok_n (by omega) (by omega) (by omega) (by decide)) ?_)
  generalize hI : up1 (up1 I (43 + 1) _) (43 + 2) _ = I2
  have f2 : Fr (sNC 43) I I2 := by
    rw [← hI]
    exact fr_up1 (fr_up1 fr_rfl (fun j => rfl)) (fun j => rfl)
  have a2 : ∀ k, k < 6 → I2 44 k = I r (o + k) := by
    intro k hk
    rw [← hI, up1_n (by decide), up1_s, cpy_n (by omega) (by decide) (by decide), if_pos (by omega), Nat.sub_zero]
  have b2 : ∀ k, k < 6 → I2 45 k = I r (o + 6 + k) := by
    intro k hk
    rw [← hI, up1_s, cpy_n (by omega) (by decide) (by decide), if_pos (by omega), Nat.sub_zero, up1_n hr1.1]
  have o2 : ∀ k, I2 r k = I r k := fun k => by
    rw [← hI, up1_n hr1.2.1, up1_n hr1.1]
  clear hI
  (first | refine rt_eq (q_X3_readFrom_0 (by first | assumption | rfl | exact .inl rfl | exact .inr rfl) (by first | assumption | rfl | exact .inl rfl | exact .inr rfl)) ?_ | refine rt_eq (q_X3_readFrom_41 (by first | assumption | rfl | exact .inl rfl | exact .inr rfl) (by first | assumption | rfl | exact .inl rfl | exact .inr rfl)) ?_ | refine rt_eq (q_X3_readFrom_70 (by first | assumption | rfl | exact .inl rfl | exact .inr rfl) (by first | assumption | rfl | exact .inl rfl | exact .inr rfl)) ?_ | refine rt_eq (q_X3_readFrom_111) ?_)
  rw [nI_add, nI_add]
  refine rt_gd (cpok_n (by omega) (by omega) (by omega) (by decide)) (rt_gd (cpok_n (by omega) (by omega) (by omega) (by decide)) ?_)
  generalize hI : up1 (up1 I2 (43 + 3) _) (43 + 4) _ = I3
  have f3 : Fr (sNC 43) I I3 := by
    rw [← hI]
    exact fr_up1 (fr_up1 f2 (fun j => rfl)) (fun j => rfl)
  have a3 : ∀ k, k < 6 → I3 44 k = I r (o + k) := by
    intro k hk
    rw [← hI, up1_n (by decide), up1_n (by decide), a2 k hk]
  have b3 : ∀ k, k < 6 → I3 45 k = I r (o + 6 + k) := by
    intro k hk
    rw [← hI, up1_n (by decide), up1_n (by decide), b2 k hk]
  have p3 : ∀ k, k < 6 → I3 46 k = I r (o + 12 + k) := by
    intro k hk
    rw [← hI, up1_n (by decide), up1_s, cpy_n (by omega) (by decide) (by decide), if_pos (by omega), Nat.sub_zero, o2]
  have q3 : ∀ k, k < 5 → I3 47 k = I r (o + 18 + k) := by
    intro k hk
    rw [← hI, up1_s, cpy_n (by omega) (by decide) (by decide), if_pos (by omega), Nat.sub_zero, up1_n hr1.2.2.1, o2]
  have o3 : ∀ k, I3 r k = I r k := fun k => by
    rw [← hI, up1_n hr1.2.2.2.1, up1_n hr1.2.2.1, o2]
  clear hI
  (first | refine rt_eq (q_X3_readFrom_0 (by first | assumption | rfl | exact .inl rfl | exact .inr rfl) (by first | assumption | rfl | exact .inl rfl | exact .inr rfl)) ?_ | refine rt_eq (q_X3_readFrom_41 (by first | assumption | rfl | exact .inl rfl | exact .inr rfl) (by first | assumption | rfl | exact .inl rfl | exact .inr rfl)) ?_ | refine rt_eq (q_X3_readFrom_70 (by first | assumption | rfl | exact .inl rfl | exact .inr rfl) (by first | assumption | rfl | exact .inl rfl | exact .inr rfl)) ?_ | refine rt_eq (q_X3_readFrom_111) ?_)
  rw [nI_add, nI_add, nI_add, nI_add, nI_add]
  refine rt_gd (inb_n (by omega) (by omega)) (rt_gd (inb_n (by omega) (by omega)) (rt_gd (inb_n (by omega) (by omega)) (rt_gd (inb_n (by omega) (by omega)) ?_)))
  rw [nI_clamp (by omega), nI_clamp (by omega), nI_clamp (by omega), nI_clamp (by omega)]
  simp only [up2_n hr1.2.2.2.2, o3]
  (first | refine rt_eq (q_X3_readFrom_0 (by first | assumption | rfl | exact .inl rfl | exact .inr rfl) (by first | assumption | rfl | exact .inl rfl | exact .inr rfl)) ?_ | refine rt_eq (q_X3_readFrom_41 (by first | assumption | rfl | exact .inl rfl | exact .inr rfl) (by first | assumption | rfl | exact .inl rfl | exact .inr rfl)) ?_ | refine rt_eq (q_X3_readFrom_70 (by first | assumption | rfl | exact .inl rfl | exact .inr rfl) (by first | assumption | rfl | exact .inl rfl | exact .inr rfl)) ?_ | refine rt_eq (q_X3_readFrom_111) ?_)
  refine rt_ret ⟨⟨fr_up (fr_up (fr_up (fr_up f3 rfl) rfl) rfl) rfl, ⟨?_, fun k hk => ?_, fun p hp => ?_, fun p hp => ?_, fun q hq => ?_, ?_, ?_, T, t1, ?_, t3⟩⟩, rfl⟩
  · rw [up2_k (by decide), up2_k (by decide), up2_s]
    exact c1
  · rw [up2_n (by decide), up2_n (by decide), up2_n (by decide), up2_n (by decide), a3 k (by omega)]
    exact c2 k hk
  · rw [up2_n (by decide), up2_n (by decide), up2_n (by decide), up2_n (by decide), b3 p hp]
    exact c3 p hp
  · rw [up2_n (by decide), up2_n (by decide), up2_n (by decide), up2_n (by decide), p3 p hp]
    exact c4 p hp
  · rw [up2_n (by decide), up2_n (by decide), up2_n (by decide), up2_n (by decide), q3 q hq]
    exact c5 q hq
  · rw [up2_s]
    exact c6
  · rw [up2_k (by decide), up2_s]
    exact c7
  · rw [up2_k (by decide), up2_k (by decide), up2_k (by decide), up2_s]
    exact t2
end PA
