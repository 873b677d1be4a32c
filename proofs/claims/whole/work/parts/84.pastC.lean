/-! WORKS AND IMAGES, BY THE CLASS -/
section PB
variable {d L X : Nat} {I : MI32} {J : MI64} {n wk im : Nat} {N : Nt}
/-- nights that lie behind: how many lay in each row, and the night -/
abbrev Bn : Type := Nat → Nat × Nt
theorem NS_congr {f g : Nat → Int32} {o o' : Nat} (C : NS f o n N) (hn : n ≤ 6) (h : ∀ k, k < 27 → g (o' + k) = f (o + k)) : NS g o' n N := by
  obtain ⟨c1, c2, c3, c4, c5, c6, c7, T, t1, t2, t3⟩ := C
  refine ⟨(h 24 (by decide)).trans c1, fun k hk => (h k (by omega)).trans (c2 k hk), fun p hp => ?_, fun p hp => ?_, fun q hq => ?_, (h 26 (by decide)).trans c6, (h 25 (by decide)).trans c7, T, t1, (h 23 (by decide)).trans t2, t3⟩
  · rw [Nat.add_assoc, h (6 + p) (by omega), ← Nat.add_assoc]
    exact c3 p hp
  · rw [Nat.add_assoc, h (12 + p) (by omega), ← Nat.add_assoc]
    exact c4 p hp
  · rw [Nat.add_assoc, h (18 + q) (by omega), ← Nat.add_assoc]
    exact c5 q hq
def bnA (B : Bn) (k : Nat) (x : Nat × Nt) : Bn := fun i => if i = k then x else B i
def PC (I : MI32) (wk : Nat) (B : Bn) : Prop := I 48 3 = nI wk ∧ wk ≤ 16 ∧ ∀ i, i < wk → (B i).1 ≤ 6 ∧ NS (I 49) (i * 27) (B i).1 (B i).2
/-- an image: how many works, the night, what lies behind -/
abbrev Im : Type := Nat → Nat × (Nat × Nt) × Bn
def imA (K : Im) (im : Nat) (x : Nat × (Nat × Nt) × Bn) : Im := fun j => if j = im then x else K j
def KC (I : MI32) (im : Nat) (K : Im) : Prop := I 48 4 = nI im ∧ im ≤ 3 ∧ ∀ j, j < im → (K j).1 ≤ 16 ∧ I 51 j = nI (K j).1 ∧ ((K j).2.1.1 ≤ 6 ∧ NS (I 50) (j * 459) (K j).2.1.1 (K j).2.1.2) ∧ ∀ i, i < (K j).1 → ((K j).2.2 i).1 ≤ 6 ∧ NS (I 50) (j * 459 + 27 + i * 27) ((K j).2.2 i).1 ((K j).2.2 i).2
theorem sp_push {B : Bn} (P : PC I wk B) (hw : wk < 16) (hn : n ≤ 6) (C : NC I 43 n N) : Rt L X (runM (d + 2) nX4_push [.ref 48, .ref 43] (mm L X I J)) none (fun I' J' => (Fr [(49, 0), (48, 4)] I I' ∧ PC I' (wk + 1) (bnA B wk (n, N))) ∧ J' = J) := by
  obtain ⟨p1, p2, p3⟩ := P
  have h0 : oc3 43 := .inl rfl
  rw [e_X4_push]
  (first | refine rt_eq (q_X4_push_0 (by first | assumption | rfl | exact .inl rfl | exact .inr rfl)) ?_ | refine rt_eq (q_X4_push_15) ?_)
  rw [p1, pk_mul]
  refine rt_bnd (sp_writeTo ka_49 (.inl rfl) (by omega) (by decide) hn C) ?_
  rintro I1 J1 ⟨⟨f1, f2, f3⟩, rfl⟩
  (first | refine rt_eq (q_X4_push_0 (by first | assumption | rfl | exact .inl rfl | exact .inr rfl)) ?_ | refine rt_eq (q_X4_push_15) ?_)
  rw [f1 48 3 rfl, p1, nI_add]
  refine rt_ret ⟨⟨fr_up (fr_mono f1 (by decide)) rfl, up2_s, by omega, fun i hi => ?_⟩, rfl⟩
  rw [up2_n (by decide)]
  unfold bnA
  by_cases q : i = wk
  · rw [if_pos q, q]
    exact ⟨hn, f2⟩
  · rw [if_neg q]
    obtain ⟨a1, a2⟩ := p3 i (by omega)
    exact ⟨a1, NS_congr a2 a1 (fun k hk => f3 _ (.inl (by omega)))⟩
theorem sp_pop {B : Bn} (P : PC I (wk + 1) B) : Rt L X (runM (d + 2) nX4_pop [.ref 48, .ref 43] (mm L X I J)) none (fun I' J' => (Fr ((48, 4) :: sNC 43) I I' ∧ PC I' wk B ∧ NC I' 43 (B wk).1 (B wk).2) ∧ J' = J) := by
  obtain ⟨p1, p2, p3⟩ := P
  have h0 : oc3 43 := .inl rfl
  rw [e_X4_pop]
  (first | refine rt_eq (q_X4_pop_0 (by first | assumption | rfl | exact .inl rfl | exact .inr rfl)) ?_ | refine rt_eq (q_X4_pop_25) ?_)
  rw [p1, n_sub1, up2_s, pk_mul]
  obtain ⟨a1, a2⟩ := p3 wk (by omega)
  refine rt_bnd (sp_readNight ka_49 (.inl rfl) (by omega) (by decide) a1 (by rw [up2_n (by decide)]; exact a2)) ?_
  rintro I1 J1 ⟨⟨f1, f2⟩, rfl⟩
  (first | refine rt_eq (q_X4_pop_0 (by first | assumption | rfl | exact .inl rfl | exact .inr rfl)) ?_ | refine rt_eq (q_X4_pop_25) ?_)
  refine rt_ret ⟨⟨fr_tr (fr_up fr_rfl rfl) (fr_mono f1 (by decide)), ⟨?_, by omega, fun i hi => ?_⟩, f2⟩, rfl⟩
  · rw [f1 48 3 rfl, up2_s]
  · obtain ⟨b1, b2⟩ := p3 i (by omega)
    refine ⟨b1, NS_congr b2 b1 (fun k hk => ?_)⟩
    rw [f1 49 _ rfl, up2_n (by decide)]
theorem sp_keep {B : Bn} {K : Im} (P : PC I wk B) (Q : KC I im K) (hi : im < 3) (hn : n ≤ 6) (C : NC I 43 n N) : Rt L X (runM (d + 2) nX4_keep [.ref 48, .ref 43] (mm L X I J)) none (fun I' J' => (Fr [(50, 0), (51, 0), (48, 5)] I I' ∧ KC I' (im + 1) (imA K im (wk, (n, N), B))) ∧ J' = J) := by
  obtain ⟨p1, p2, p3⟩ := P
  obtain ⟨q1, q2, q3⟩ := Q
  have h0 : oc3 43 := .inl rfl
  rw [e_X4_keep]
  (first | refine rt_eq (q_X4_keep_0 (by first | assumption | rfl | exact .inl rfl | exact .inr rfl)) ?_ | refine rt_eq (q_X4_keep_32) ?_ | refine rt_eq (q_X4_keep_81) ?_)
  rw [q1]
  refine rt_f (by (try simp (disch := omega) only [nI_leI, nI_ltI, nI_eq, nI_add, pk_mul, n_0add, Nat.zero_add, nI_clamp]) <;> omega) (rt_t (by (try simp (disch := omega) only [nI_leI, nI_ltI, nI_eq, nI_add, pk_mul, n_0add, Nat.zero_add, nI_clamp]) <;> omega) ?_)
  rw [pk_mul]
  refine rt_bnd (sp_writeTo ka_50 (.inr rfl) (by omega) (by decide) hn C) ?_
  rintro I1 J1 ⟨⟨f1, f2, f3⟩, rfl⟩
  (first | refine rt_eq (q_X4_keep_0 (by first | assumption | rfl | exact .inl rfl | exact .inr rfl)) ?_ | refine rt_eq (q_X4_keep_32) ?_ | refine rt_eq (q_X4_keep_81) ?_)
  have e4 : I1 48 4 = nI im := (f1 48 4 rfl).trans q1
  have e3 : I1 48 3 = nI wk := (f1 48 3 rfl).trans p1
  rw [e4, pk_mul, nI_add]
  refine rt_gd (cpok_n (by omega) (by omega) (by decide) (by decide)) ?_
  generalize hI : up1 I1 50 _ = I2
  have g2 : Fr [(50, 0)] I I2 := by
    rw [← hI]
    exact fr_up1 f1 (fun j => rfl)
  have v2 : ∀ k, I2 50 k = if im * 459 + 27 ≤ k ∧ k < im * 459 + 27 + 432 then I 49 (0 + (k - (im * 459 + 27))) else I1 50 k := by
    intro k
    rw [← hI, up1_s, cpy_n (by decide) (by omega) (by decide)]
    by_cases q : im * 459 + 27 ≤ k ∧ k < im * 459 + 27 + 432
    · rw [if_pos q, if_pos q, f1 49 _ rfl]
    · rw [if_neg q, if_neg q]
  clear hI
  have e4' : I2 48 4 = nI im := (g2 48 4 rfl).trans q1
  have e3' : I2 48 3 = nI wk := (g2 48 3 rfl).trans p1
  rw [e4', e3']
  refine rt_gd (inb_n hi (by decide)) ?_
  rw [nI_clamp (by omega), up2_n (by decide), e4', nI_add]
  (first | refine rt_eq (q_X4_keep_0 (by first | assumption | rfl | exact .inl rfl | exact .inr rfl)) ?_ | refine rt_eq (q_X4_keep_32) ?_ | refine rt_eq (q_X4_keep_81) ?_)
  refine rt_ret ⟨⟨fr_up (fr_up (fr_mono g2 (by decide)) rfl) rfl, up2_s, by omega, fun j hj => ?_⟩, rfl⟩
  have r50 : ∀ k, (up2 (up2 I2 51 im (nI wk)) 48 4 (nI (im + 1))) 50 k = I2 50 k := fun k => by rw [up2_n (by decide), up2_n (by decide)]
  have r51 : ∀ k, (up2 (up2 I2 51 im (nI wk)) 48 4 (nI (im + 1))) 51 k = if k = im then nI wk else I 51 k := fun k => by
    rw [up2_n (by decide), up2_at, g2 51 k rfl]
  by_cases q : j = im
  · rw [show imA K im (wk, (n, N), B) j = (wk, (n, N), B) from if_pos q, q]
    refine ⟨p2, ?_, ⟨hn, ?_⟩, fun i hi => ?_⟩
    · rw [r51, if_pos rfl]
    · refine NS_congr f2 hn (fun k hk => ?_)
      rw [r50, v2, if_neg (by omega)]
    · obtain ⟨a1, a2⟩ := p3 i hi
      refine ⟨a1, NS_congr a2 a1 (fun k hk => ?_)⟩
      have : i < 16 := Nat.lt_of_lt_of_le hi p2
      rw [r50, v2, if_pos (by omega), show 0 + (im * 459 + 27 + i * 27 + k - (im * 459 + 27)) = i * 27 + k by omega]
  · rw [show imA K im (wk, (n, N), B) j = K j from if_neg q]
    obtain ⟨b1, b2, b3, b4⟩ := q3 j (by omega)
    have old : ∀ k, k < im * 459 → (up2 (up2 I2 51 im (nI wk)) 48 4 (nI (im + 1))) 50 k = I 50 k := fun k hk => by
      rw [r50, v2, if_neg (by omega), f3 k (.inl (by omega))]
    have hj2 : j * 459 + 459 ≤ im * 459 := by omega
    refine ⟨b1, ?_, ⟨b3.1, NS_congr b3.2 b3.1 (fun k hk => old _ (by omega))⟩, fun i hi => ?_⟩
    · rw [r51, if_neg q, b2]
    · obtain ⟨a1, a2⟩ := b4 i hi
      have : i < 16 := Nat.lt_of_lt_of_le hi b1
      exact ⟨a1, NS_congr a2 a1 (fun k hk => old _ (by omega))⟩
theorem sp_bringBack {K : Im} (Q : KC I (im + 1) K) : Rt L X (runM (d + 2) nX4_bringBack [.ref 48, .ref 43] (mm L X I J)) none (fun I' J' => (Fr ((49, 0) :: (48, 4) :: (48, 5) :: sNC 43) I I' ∧ KC I' im K ∧ PC I' (K im).1 (K im).2.2 ∧ NC I' 43 (K im).2.1.1 (K im).2.1.2) ∧ J' = J) := by
  obtain ⟨q1, q2, q3⟩ := Q
  obtain ⟨b1, b2, b3, b4⟩ := q3 im (by omega)
  have h0 : oc3 43 := .inl rfl
  rw [e_X4_bringBack]
  (first | refine rt_eq (q_X4_bringBack_0 (by first | assumption | rfl | exact .inl rfl | exact .inr rfl)) ?_ | refine rt_eq (q_X4_bringBack_43) ?_)
  rw [q1]
  refine rt_f (by (try simp (disch := omega) only [nI_leI, nI_ltI, nI_eq, nI_add, pk_mul, n_0add, Nat.zero_add, nI_clamp]) <;> omega) (rt_t (by (try simp (disch := omega) only [nI_leI, nI_ltI, nI_eq, nI_add, pk_mul, n_0add, Nat.zero_add, nI_clamp]) <;> omega) ?_)
  rw [n_sub1, up2_s, pk_mul]
  refine rt_bnd (sp_readNight ka_50 (.inr rfl) (by omega) (by decide) b3.1 (by rw [up2_n (by decide)]; exact b3.2)) ?_
  rintro I1 J1 ⟨⟨f1, f2⟩, rfl⟩
  have e4 : I1 48 4 = nI im := by rw [f1 48 4 rfl, up2_s]
  have e50 : ∀ k, I1 50 k = I 50 k := fun k => by rw [f1 50 k rfl, up2_n (by decide)]
  have e51 : ∀ k, I1 51 k = I 51 k := fun k => by rw [f1 51 k rfl, up2_n (by decide)]
  (first | refine rt_eq (q_X4_bringBack_0 (by first | assumption | rfl | exact .inl rfl | exact .inr rfl)) ?_ | refine rt_eq (q_X4_bringBack_43) ?_)
  rw [e4, pk_mul, nI_add]
  refine rt_gd (cpok_n (by omega) (by omega) (by decide) (by decide)) ?_
  generalize hI : up1 I1 49 _ = I2
  have g2 : Fr ((49, 0) :: (48, 4) :: (48, 5) :: sNC 43) I I2 := by
    rw [← hI]
    exact fr_up1 (fr_tr (fr_up fr_rfl rfl) (fr_mono f1 (by decide))) (fun j => rfl)
  have v2 : ∀ k, k < 432 → I2 49 k = I 50 (im * 459 + 27 + k) := by
    intro k hk
    rw [← hI, up1_s, cpy_n (by omega) (by decide) (by decide), if_pos (by omega), Nat.sub_zero, e50]
  have n2 : ∀ b k, ¬ b = 49 → I2 b k = I1 b k := fun b k hb => by rw [← hI, up1_n hb]
  clear hI
  rw [n2 48 4 (by decide), e4]
  refine rt_gd (inb_n (by omega) (by decide)) ?_
  rw [nI_clamp (by omega), n2 51 _ (by decide), e51, b2]
  refine rt_ret ⟨⟨fr_up g2 rfl, ⟨?_, by omega, fun j hj => ?_⟩, ⟨up2_s, b1, fun i hi => ?_⟩, ?_⟩, rfl⟩
  · rw [up2_k (by decide), n2 48 4 (by decide), e4]
  · obtain ⟨c1, c2, c3, c4⟩ := q3 j (by omega)
    have r50 : ∀ k, (up2 I2 48 3 (nI (K im).1)) 50 k = I 50 k := fun k => by rw [up2_n (by decide), n2 50 k (by decide), e50]
    refine ⟨c1, ?_, ⟨c3.1, NS_congr c3.2 c3.1 (fun k hk => r50 _)⟩, fun i hi => ⟨(c4 i hi).1, NS_congr (c4 i hi).2 (c4 i hi).1 (fun k hk => r50 _)⟩⟩
    rw [up2_n (by decide), n2 51 j (by decide), e51, c2]
  · obtain ⟨a1, a2⟩ := b4 i hi
    have : i < 16 := Nat.lt_of_lt_of_le hi b1
    refine ⟨a1, NS_congr a2 a1 (fun k hk => ?_)⟩
    rw [up2_n (by decide), v2 _ (by omega), show im * 459 + 27 + (i * 27 + k) = im * 459 + 27 + i * 27 + k by omega]
  · have f2' : NC I2 43 (K im).2.1.1 (K im).2.1.2 := NC_fr f2 (fun b k hb => n2 b k (by
      intro q
      rw [q] at hb
      simp [inF, sNC] at hb))
    exact NC_fr f2' (ag_of (l := [(48, 4)]) (fr_up fr_rfl rfl) (by decide))
end PB
