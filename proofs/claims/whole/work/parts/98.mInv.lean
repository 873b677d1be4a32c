/-! BOTH STATES, HELD TOGETHER -/
/-- nights of the past, well -/
def WN (h : Hs) (x : Nat × Nt) : Prop := NR (h 0 0) x.1 x.2 ∧ NX (h 0 0) (h 0 2) x.2
def WB (h : Hs) (wk : Nat) (B : Bn) : Prop := ∀ i, i < wk → WN h (B i)
def WI (h : Hs) (im : Nat) (K : Im) : Prop := ∀ j, j < im → (K j).1 ≤ 16 ∧ WN h (K j).2.1 ∧ WB h (K j).1 (K j).2.2
/-- what the class has reckoned ahead -/
def Cch (I : MI32) (h : Hs) (nL : Nat) (cd : Cd) (N : Nt) : Prop := (I 56 4 = nI 0 ∨ (I 56 4 = nI 1 ∧ chC I h (h 0 1))) ∧ (I 56 8 = nI 0 ∨ (I 56 8 = nI 1 ∧ jcC I h)) ∧ (∀ f, f < h 0 2 → I 56 11 = nI f → shC I h (h 0 1) nL cd N f) ∧ I 63 0 = nI 0
/-- the class -/
def IC (I : MI32) (h : Hs) (nL : Nat) (cd : Cd) (n : Nat) (N : Nt) (W : Nat → Nat) (tp wk : Nat) (B : Bn) (im : Nat) (K : Im) (nl : Nat) (bk : Bk) (pl rf c0 c1 : Int32) : Prop := SC I h (h 0 1) nL cd ∧ NC I 43 n N ∧ SO I ∧ UT I ∧ BC I W ∧ I 1 1 = nI tp ∧ I 1 3 = pl ∧ I 37 7 = rf ∧ I 0 14 = c0 ∧ I 0 15 = c1 ∧ (I 31 0 = nI nl ∧ ∀ k, k < 6 → I 32 k = o2i (bk k)) ∧ PC I wk B ∧ KC I im K
/-- the model's past -/
def PM (I : MI32) (wk : Nat) (B : Bn) : Prop := I 72 35 = nI wk ∧ ∀ i, i < wk → ∀ k, k < 31 → I (537 + i) k = (B i).2 k
def KM (I : MI32) (im : Nat) (K : Im) : Prop := I 72 37 = nI im ∧ ∀ j, j < im → I (554 + j) 0 = nI (K j).1 ∧ (∀ k, k < 31 → I (554 + j) (1 + k) = (K j).2.1.2 k) ∧ ∀ i, i < (K j).1 → ∀ k, k < 31 → I (554 + j) (32 + 31 * i + k) = ((K j).2.2 i).2 k
def IM (I : MI32) (h : Hs) (nL : Nat) (cd : Cd) (N : Nt) (W : Nat → Nat) (tp wk : Nat) (B : Bn) (im : Nat) (K : Im) (nl : Nat) (ln : Ln) (pl rf c0 c1 : Int32) : Prop := SM I h (h 0 1) nL cd ∧ I 533 = N ∧ BM I W ∧ I 72 1 = nI tp ∧ I 72 3 = pl ∧ I 72 36 = rf ∧ I 74 0 = c0 ∧ I 74 1 = c1 ∧ bkM I nl ln ∧ PM I wk B ∧ KM I im K
def WF (h : Hs) (nL : Nat) (cd : Cd) (n : Nat) (N : Nt) (W : Nat → Nat) (tp wk : Nat) (B : Bn) (im : Nat) (K : Im) (nl : Nat) (ln : Ln) (bk : Bk) : Prop := HOK h ∧ wfC cd nL 0 0 ∧ NR (h 0 0) n N ∧ NX (h 0 0) (h 0 2) N ∧ tp ≤ 600 ∧ (∀ k, k < 600 → W k < 256) ∧ bkR nl ln bk ∧ WB h wk B ∧ WI h im K
/-- the loop's head -/
def Inv (I : MI32) : Prop := ∃ h nL cd n N W tp wk B im K nl ln bk pl rf c0 c1, IC I h nL cd n N W tp wk B im K nl bk pl rf c0 c1 ∧ Cch I h nL cd N ∧ IM I h nL cd N W tp wk B im K nl ln pl rf c0 c1 ∧ WF h nL cd n N W tp wk B im K nl ln bk
/-- all but the model's cells is as it was; all but the class's -/
def AgC (I I' : MI32) : Prop := ∀ a k, (a < 72 ∨ 632 ≤ a) → I' a k = I a k
def AgM (I I' : MI32) : Prop := ∀ a k, 72 ≤ a → I' a k = I a k
section IV
variable {I I' : MI32} {l : Fls} {h : Hs} {nL : Nat} {cd : Cd} {n : Nat} {N M : Nt} {W : Nat → Nat} {tp wk : Nat} {B : Bn} {im : Nat} {K : Im} {nl : Nat} {ln : Ln} {bk : Bk} {pl rf c0 c1 : Int32}
theorem fr_C (g : Fr l I I') (q : l.all (fun e => Nat.blt e.1 72) = true) : AgM I I' := by
  intro a k ha
  refine g a k ?_
  rw [← Bool.not_eq_true, inF_t]
  rintro ⟨e, he, h1, _⟩
  have := Nat.le_of_ble_eq_true (List.all_eq_true.mp q e he)
  omega
theorem fr_M (g : Fr l I I') (q : l.all (fun e => Nat.ble 72 e.1 && Nat.blt e.1 632) = true) : AgC I I' := by
  intro a k ha
  refine g a k ?_
  rw [← Bool.not_eq_true, inF_t]
  rintro ⟨e, he, h1, _⟩
  have q2 := List.all_eq_true.mp q e he
  rw [Bool.and_eq_true] at q2
  have q3 := Nat.le_of_ble_eq_true q2.1
  have q4 := Nat.le_of_ble_eq_true q2.2
  omega
def sIC : Fls := sHC ++ sLC ++ [(52, 6), (54, 0), (55, 0)] ++ sNC 43 ++ [(1000003, 0), (1000005, 0), (1000007, 0), (1000001, 0), (2, 0), (1, 2), (1, 4), (37, 8), (0, 15), (0, 16), (31, 1), (32, 0), (48, 4), (48, 5), (49, 0), (50, 0), (51, 0)]
def sCch : Fls := [(56, 5), (56, 7), (56, 8), (59, 0), (56, 9), (56, 10), (56, 11), (56, 12), (56, 14), (60, 0), (63, 1)]
theorem PC_ag (P : PC I wk B) (q : Ag [(48, 4), (49, 0)] I I') : PC I' wk B := by
  obtain ⟨p1, p2, p3⟩ := P
  refine ⟨(q 48 3 rfl).trans p1, p2, fun i hi => ?_⟩
  rw [show I' 49 = I 49 from funext fun k => q 49 k rfl]
  exact p3 i hi
theorem KC_ag (P : KC I im K) (q : Ag [(48, 5), (50, 0), (51, 0)] I I') : KC I' im K := by
  obtain ⟨p1, p2, p3⟩ := P
  refine ⟨(q 48 4 rfl).trans p1, p2, fun j hj => ?_⟩
  rw [show I' 50 = I 50 from funext fun k => q 50 k rfl, q 51 j rfl]
  exact p3 j hj
theorem IC_ag (H : IC I h nL cd n N W tp wk B im K nl bk pl rf c0 c1) (q : Ag sIC I I') : IC I' h nL cd n N W tp wk B im K nl bk pl rf c0 c1 := by
  obtain ⟨⟨s1, s2, s3⟩, a2, a3, a4, a5, a6, a7, a8, a9, a10, a11, a12, a13⟩ := H
  refine ⟨⟨HC_fr s1 (ag_sub q (by decide)), LawC_fr s2 (ag_sub q (by decide)), Calm_fr s3 (ag_sub q (by decide))⟩, NC_fr a2 (ag_sub q (by decide)), ?_, ?_, ?_, (q 1 1 rfl).trans a6, (q 1 3 rfl).trans a7, (q 37 7 rfl).trans a8, (q 0 14 rfl).trans a9, (q 0 15 rfl).trans a10, ⟨(q 31 0 rfl).trans a11.1, fun k hk => (q 32 k rfl).trans (a11.2 k hk)⟩, PC_ag a12 (ag_sub q (by decide)), KC_ag a13 (ag_sub q (by decide))⟩
  · intro a ha k hk
    rcases ha with rfl | rfl | rfl
    · exact (q 1000003 k rfl).trans (a3 _ (.inl rfl) k hk)
    · exact (q 1000005 k rfl).trans (a3 _ (.inr (.inl rfl)) k hk)
    · exact (q 1000007 k rfl).trans (a3 _ (.inr (.inr rfl)) k hk)
  · exact fun k hk => (q 1000001 k rfl).trans (a4 k hk)
  · intro k hk
    rw [q 2 k rfl]
    exact a5 k hk
theorem shB_ag {o : Option (Nat × List Nat)} (H : shB I o) (q : Ag [(56, 14), (60, 0)] I I') : shB I' o := by
  have e1 : I' 56 13 = I 56 13 := q 56 13 rfl
  have e2 : ∀ k, I' 60 k = I 60 k := fun k => q 60 k rfl
  cases o with
  | none =>
    unfold shB at H ⊢
    rw [e1]
    exact H
  | some y =>
    unfold shB at H ⊢
    simp only [e1, e2]
    exact H
theorem Cch_ag (H : Cch I h nL cd N) (q : Ag sCch I I') : Cch I' h nL cd N := by
  obtain ⟨h1, h2, h3, h4⟩ := H
  refine ⟨?_, ?_, fun f hf e => ?_, (q 63 0 rfl).trans h4⟩
  · rw [q 56 4 rfl]
    refine h1.imp id (fun ⟨e1, e2, e3, e4⟩ => ⟨e1, (q 56 7 rfl).trans e2, (q 56 6 rfl).trans e3, fun k hk => (q 59 k rfl).trans (e4 k hk)⟩)
  · rw [q 56 8 rfl]
    refine h2.imp id (fun ⟨e1, e2⟩ => ⟨e1, ?_⟩)
    unfold jcC
    rw [q 56 9 rfl, q 56 10 rfl]
    exact e2
  · rw [q 56 11 rfl] at e
    exact shB_ag (h3 f hf e) (ag_sub q (by decide))
theorem IC_M (H : IC I h nL cd n N W tp wk B im K nl bk pl rf c0 c1) (g : AgC I I') : IC I' h nL cd n N W tp wk B im K nl bk pl rf c0 c1 := IC_ag H (fun a k q => g a k (by
  rw [inF_t] at q
  obtain ⟨e, he, h1, _⟩ := q
  have : ∀ e, e ∈ sIC → e.1 < 72 ∨ 632 ≤ e.1 := by decide
  have := this e he
  omega))
theorem Cch_M (H : Cch I h nL cd N) (g : AgC I I') : Cch I' h nL cd N := Cch_ag H (fun a k q => g a k (by
  rw [inF_t] at q
  obtain ⟨e, he, h1, _⟩ := q
  have : ∀ e, e ∈ sCch → e.1 < 72 ∨ 632 ≤ e.1 := by decide
  have := this e he
  omega))
def sIM : Fls := sHM ++ sLM ++ [(533, 0), (73, 0), (72, 2), (72, 4), (72, 37), (74, 1), (74, 2), (72, 35), (72, 36), (72, 38)] ++ cells 437 6 ++ cells 537 16 ++ cells 554 3
theorem bkM_ag (H : bkM I nl ln) (q : Ag ([(72, 35)] ++ cells 437 6) I I') : bkM I' nl ln := by
  obtain ⟨h1, h2, h3⟩ := H
  refine ⟨(q 72 34 rfl).trans h1, h2, fun i hi => ?_⟩
  have r : ∀ k, I' (437 + i) k = I (437 + i) k := fun k => q _ k (by rw [inF_app, in_cells (show i < 6 by omega), Bool.or_true])
  rw [r, r]
  exact h3 i hi
theorem PM_ag (H : PM I wk B) (hw : wk ≤ 16) (q : Ag ([(72, 36)] ++ cells 537 16) I I') : PM I' wk B := ⟨(q 72 35 rfl).trans H.1, fun i hi k hk => (q _ k (by rw [inF_app, in_cells (show i < 16 by omega), Bool.or_true])).trans (H.2 i hi k hk)⟩
theorem KM_ag (H : KM I im K) (hm : im ≤ 3) (q : Ag ([(72, 38)] ++ cells 554 3) I I') : KM I' im K := by
  refine ⟨(q 72 37 rfl).trans H.1, fun j hj => ?_⟩
  have r : ∀ k, I' (554 + j) k = I (554 + j) k := fun k => q _ k (by rw [inF_app, in_cells (show j < 3 by omega), Bool.or_true])
  obtain ⟨h1, h2, h3⟩ := H.2 j hj
  exact ⟨(r _).trans h1, fun k hk => (r _).trans (h2 k hk), fun i hi k hk => (r _).trans (h3 i hi k hk)⟩
theorem IM_ag (ok : HOK h) (hw : wk ≤ 16) (hm : im ≤ 3) (H : IM I h nL cd N W tp wk B im K nl ln pl rf c0 c1) (q : Ag sIM I I') : IM I' h nL cd N W tp wk B im K nl ln pl rf c0 c1 := by
  obtain ⟨⟨s1, s2⟩, a2, a3, a4, a5, a6, a7, a8, a9, a10, a11⟩ := H
  refine ⟨⟨HM_fr s1 ok (ag_sub q (by decide +kernel)), LawM_fr s2 (ag_sub q (by decide +kernel))⟩, ?_, ?_, ?_, ?_, ?_, ?_, ?_, bkM_ag a9 (ag_sub q (by decide +kernel)), PM_ag a10 hw (ag_sub q (by decide +kernel)), KM_ag a11 hm (ag_sub q (by decide +kernel))⟩
  · rw [← a2]
    exact funext fun k => ag_sub (l := [(533, 0)]) q (by decide +kernel) 533 k rfl
  · intro k hk
    rw [ag_sub (l := [(73, 0)]) q (by decide +kernel) 73 k rfl]
    exact a3 k hk
  · exact (ag_sub (l := [(72, 2)]) q (by decide +kernel) 72 1 rfl).trans a4
  · exact (ag_sub (l := [(72, 4)]) q (by decide +kernel) 72 3 rfl).trans a5
  · exact (ag_sub (l := [(72, 37)]) q (by decide +kernel) 72 36 rfl).trans a6
  · exact (ag_sub (l := [(74, 1)]) q (by decide +kernel) 74 0 rfl).trans a7
  · exact (ag_sub (l := [(74, 2)]) q (by decide +kernel) 74 1 rfl).trans a8
theorem IM_C (ok : HOK h) (hw : wk ≤ 16) (hm : im ≤ 3) (H : IM I h nL cd N W tp wk B im K nl ln pl rf c0 c1) (g : AgM I I') : IM I' h nL cd N W tp wk B im K nl ln pl rf c0 c1 := IM_ag ok hw hm H (fun a k q => g a k (by
  rw [inF_t] at q
  obtain ⟨e, he, h1, _⟩ := q
  have : ∀ e, e ∈ sIM → 72 ≤ e.1 := by decide +kernel
  have := this e he
  omega))
theorem IC_CS (H : IC I h nL cd n N W tp wk B im K nl bk pl rf c0 c1) (F : WF h nL cd n N W tp wk B im K nl ln bk) : CS I h nL cd n N := ⟨F.1, F.2.1, H.1, H.2.1, F.2.2.1, F.2.2.2.1⟩
theorem IM_MS (H : IM I h nL cd N W tp wk B im K nl ln pl rf c0 c1) (F : WF h nL cd n N W tp wk B im K nl ln bk) : MS I h nL cd n N := ⟨F.1, F.2.1, H.1, H.2.1, F.2.2.1, F.2.2.2.1⟩
theorem bk_of (H : IC I h nL cd n N W tp wk B im K nl bk pl rf c0 c1) (F : WF h nL cd n N W tp wk B im K nl ln bk) : bkC I bk := fun k hk => ⟨H.2.2.2.2.2.2.2.2.2.2.1.2 k hk, fun v e => by
  obtain ⟨i, hi, ei⟩ := F.2.2.2.2.2.2.1.2 k v hk e
  have := (F.2.2.2.2.2.2.1.1 i hi).2.1
  rw [ei] at this
  exact this⟩
theorem IC_16 (H : IC I h nL cd n N W tp wk B im K nl bk pl rf c0 c1) : wk ≤ 16 ∧ im ≤ 3 := ⟨H.2.2.2.2.2.2.2.2.2.2.2.1.2.1, H.2.2.2.2.2.2.2.2.2.2.2.2.2.1⟩
/-! a night is told by its 31 numbers -/
theorem NC_cong {a : Nat} (hn : n ≤ 6) (H : NC I a n N) (e : ∀ k, k < 31 → M k = N k) : NC I a n M := by
  obtain ⟨h1, h2, h3, h4, h5, h6, h7, T, h8, h9, h10⟩ := H
  exact ⟨h1, fun k hk => by rw [e k (by omega)]; exact h2 k hk, fun p hp => by rw [e _ (by omega)]; exact h3 p hp, fun p hp => by rw [e _ (by omega)]; exact h4 p hp, fun p hp => by rw [e _ (by omega)]; exact h5 p hp, by rw [e 29 (by decide)]; exact h6, by rw [e 30 (by decide)]; exact h7, T, h8, h9, fun p hp => by rw [e _ (by omega)]; exact h10 p hp⟩
theorem NR_cong {np : Nat} (H : NR np n N) (e : ∀ k, k < 31 → M k = N k) : NR np n M := by
  obtain ⟨h1, h2, h3, h4, h5⟩ := H
  refine ⟨h1, fun k hk => by rw [e k (by omega)]; exact h2 k hk, fun k k1 k2 => by rw [e k (by omega)]; exact h3 k k1 k2, fun i j hi hj => by rw [e i (by omega), e j (by omega)]; exact h4 i j hi hj, fun p hp => by rw [e _ (by omega)]; exact h5 p hp⟩
theorem NX_cong {np nf : Nat} (H : NX np nf N) (e : ∀ k, k < 31 → M k = N k) : NX np nf M := by
  obtain ⟨h1, h2, h3, h4, h5, h6⟩ := H
  refine ⟨fun p hp => by rw [e _ (by omega)]; exact h1 p hp, fun p hp => by rw [e _ (by omega)]; exact h2 p hp, fun p k1 k2 => by rw [e _ (by omega)]; exact h3 p k1 k2, fun f k1 k2 => by rw [e _ (by omega)]; exact h4 f k1 k2, by rw [e 29 (by decide)]; exact h5, by rw [e 29 (by decide)]; exact h6⟩
theorem CS_cong (V : CS I h nL cd n N) (e : ∀ k, k < 31 → M k = N k) : CS I h nL cd n M := ⟨V.1, V.2.1, V.2.2.1, NC_cong V.2.2.2.2.1.1.1 V.2.2.2.1 e, NR_cong V.2.2.2.2.1 e, NX_cong V.2.2.2.2.2 e⟩
/-! asking leaves all as it was -/
theorem iq_C (g : Fr fQC I I') (H : IC I h nL cd n N W tp wk B im K nl bk pl rf c0 c1) : IC I' h nL cd n N W tp wk B im K nl bk pl rf c0 c1 := IC_ag H (ag_of g (by decide +kernel))
theorem iq_Cch (g : Fr fQC I I') (H : Cch I h nL cd N) : Cch I' h nL cd N := Cch_ag H (ag_of g (by decide +kernel))
theorem iq_M (ok : HOK h) (hw : wk ≤ 16) (hm : im ≤ 3) (g : Fr fQM I I') (H : IM I h nL cd N W tp wk B im K nl ln pl rf c0 c1) : IM I' h nL cd N W tp wk B im K nl ln pl rf c0 c1 := IM_ag ok hw hm H (ag_of g (by decide +kernel))
theorem iq_MC (g : Fr fQM I I') : AgC I I' := fr_M g (by decide +kernel)
theorem iq_CM (g : Fr fQC I I') : AgM I I' := fr_C g (by decide +kernel)
/-! refusals -/
theorem ir_C {k : Nat} (hk : k ≤ 1) (H : IC I h nL cd n N W tp wk B im K nl bk pl rf c0 c1) : IC (if k = 0 then ex0 I else ex1 I) h nL cd n N W tp wk B im K nl bk pl rf (if k = 0 then c0 + nI 1 else c0) (if k = 0 then c1 else c1 + nI 1) := by
  have q1 : Ag (sHC ++ sLC ++ [(52, 6), (54, 0), (55, 0)] ++ sNC 43 ++ [(1000003, 0), (1000005, 0), (1000007, 0), (1000001, 0), (2, 0), (1, 2), (1, 4), (37, 8), (31, 1), (32, 0), (48, 4), (48, 5), (49, 0), (50, 0), (51, 0)]) I (if k = 0 then ex0 I else ex1 I) := by
    by_cases e : k = 0
    · rw [if_pos e]
      exact ag_of (l := [(0, 15)]) (fr_up fr_rfl rfl) (by decide)
    · rw [if_neg e]
      exact ag_of (l := [(0, 16)]) (fr_up fr_rfl rfl) (by decide)
  have z0 : (if k = 0 then ex0 I else ex1 I) 0 14 = if k = 0 then I 0 14 + nI 1 else I 0 14 := by
    by_cases e : k = 0
    · rw [if_pos e, if_pos e]
      exact up2_s
    · rw [if_neg e, if_neg e]
      exact up2_k (by decide)
  have z1 : (if k = 0 then ex0 I else ex1 I) 0 15 = if k = 0 then I 0 15 else I 0 15 + nI 1 := by
    by_cases e : k = 0
    · rw [if_pos e, if_pos e]
      exact up2_k (by decide)
    · rw [if_neg e, if_neg e]
      exact up2_s
  generalize (if k = 0 then ex0 I else ex1 I) = I' at q1 z0 z1 ⊢
  obtain ⟨⟨s1, s2, s3⟩, a2, a3, a4, a5, a6, a7, a8, a9, a10, a11, a12, a13⟩ := H
  refine ⟨⟨HC_fr s1 (ag_sub q1 (by decide)), LawC_fr s2 (ag_sub q1 (by decide)), Calm_fr s3 (ag_sub q1 (by decide))⟩, NC_fr a2 (ag_sub q1 (by decide)), ?_, ?_, ?_, (q1 1 1 rfl).trans a6, (q1 1 3 rfl).trans a7, (q1 37 7 rfl).trans a8, by rw [z0, a9], by rw [z1, a10], ⟨(q1 31 0 rfl).trans a11.1, fun k hk => (q1 32 k rfl).trans (a11.2 k hk)⟩, PC_ag a12 (ag_sub q1 (by decide)), KC_ag a13 (ag_sub q1 (by decide))⟩
  · intro a ha k hk
    rcases ha with rfl | rfl | rfl
    · exact (q1 1000003 k rfl).trans (a3 _ (.inl rfl) k hk)
    · exact (q1 1000005 k rfl).trans (a3 _ (.inr (.inl rfl)) k hk)
    · exact (q1 1000007 k rfl).trans (a3 _ (.inr (.inr rfl)) k hk)
  · exact fun k hk => (q1 1000001 k rfl).trans (a4 k hk)
  · intro k hk
    rw [q1 2 k rfl]
    exact a5 k hk
theorem ir_Cch {k : Nat} (H : Cch I h nL cd N) : Cch (if k = 0 then ex0 I else ex1 I) h nL cd N := by
  by_cases e : k = 0
  · rw [if_pos e]
    exact Cch_ag H (ag_of (l := [(0, 15)]) (fr_up fr_rfl rfl) (by decide))
  · rw [if_neg e]
    exact Cch_ag H (ag_of (l := [(0, 16)]) (fr_up fr_rfl rfl) (by decide))
theorem ir_AM {k : Nat} : AgM I (if k = 0 then ex0 I else ex1 I) := by
  by_cases e : k = 0
  · rw [if_pos e]
    exact fr_C (l := [(0, 15)]) (fr_up fr_rfl rfl) (by decide)
  · rw [if_neg e]
    exact fr_C (l := [(0, 16)]) (fr_up fr_rfl rfl) (by decide)
theorem ir_M {t k : Nat} (hk : k ≤ 1) (ok : HOK h) (hw : wk ≤ 16) (hm : im ≤ 3) (H : IM I h nL cd N W tp wk B im K nl ln pl rf c0 c1) : IM (bdM I t k) h nL cd N W tp wk B im K nl ln pl rf (if k = 0 then c0 + nI 1 else c0) (if k = 0 then c1 else c1 + nI 1) ∧ AgC I (bdM I t k) ∧ (bdM I t k) 72 0 = nI t := by
  have fr : Fr ([(72, 1), (74, 0)]) I (bdM I t k) := fr_up (fr_up (fr_up fr_rfl rfl) rfl) (by simp [inF])
  have q : Ag (sHM ++ sLM ++ [(533, 0), (73, 0), (72, 2), (72, 4), (72, 37), (72, 35), (72, 36), (72, 38)] ++ cells 437 6 ++ cells 537 16 ++ cells 554 3) I (bdM I t k) := ag_of fr (by decide +kernel)
  have z0 : (bdM I t k) 74 0 = if k = 0 then I 74 0 + nI 1 else I 74 0 := by
    unfold bdM
    rw [up2_at]
    by_cases e : k = 0
    · rw [if_pos e.symm, if_pos e, e]
    · rw [if_neg (fun e2 => e e2.symm), if_neg e, up2_n (by decide), up2_n (by decide)]
  have z1 : (bdM I t k) 74 1 = if k = 0 then I 74 1 else I 74 1 + nI 1 := by
    unfold bdM
    rw [up2_at]
    by_cases e : k = 0
    · rw [if_neg (by omega), if_pos e, up2_n (by decide), up2_n (by decide)]
    · have e1 : k = 1 := by omega
      rw [if_pos e1.symm, if_neg e, e1]
  have zt : (bdM I t k) 72 0 = nI t := by
    unfold bdM
    rw [up2_n (by decide), up2_s]
  refine ⟨?_, fr_M fr (by decide), zt⟩
  generalize bdM I t k = I' at q z0 z1
  obtain ⟨⟨s1, s2⟩, a2, a3, a4, a5, a6, a7, a8, a9, a10, a11⟩ := H
  refine ⟨⟨HM_fr s1 ok (ag_sub q (by decide +kernel)), LawM_fr s2 (ag_sub q (by decide +kernel))⟩, ?_, ?_, ?_, ?_, ?_, by rw [z0, a7], by rw [z1, a8], bkM_ag a9 (ag_sub q (by decide +kernel)), PM_ag a10 hw (ag_sub q (by decide +kernel)), KM_ag a11 hm (ag_sub q (by decide +kernel))⟩
  · rw [← a2]
    exact funext fun k => ag_sub (l := [(533, 0)]) q (by decide +kernel) 533 k rfl
  · intro k hk
    rw [ag_sub (l := [(73, 0)]) q (by decide +kernel) 73 k rfl]
    exact a3 k hk
  · exact (ag_sub (l := [(72, 2)]) q (by decide +kernel) 72 1 rfl).trans a4
  · exact (ag_sub (l := [(72, 4)]) q (by decide +kernel) 72 3 rfl).trans a5
  · exact (ag_sub (l := [(72, 37)]) q (by decide +kernel) 72 36 rfl).trans a6
end IV
