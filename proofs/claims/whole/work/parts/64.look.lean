/-! LOOK BY THE CLASS; LEAKS, LOOK BY THE MODEL -/
def wsT (t : Tl) (k : Nat) : Nat := accF (mxA (fun _ => true) (t k)) 100 0 0
def looA (bk : Bk) (t : Tl) (k : Nat) (s : Option (Nat × Nat)) : Option (Nat × Nat) := match bk k with
  | some _ => s
  | none => match s with
    | none => some (k, wsT t k)
    | some y => if y.2 ≤ wsT t k then some y else some (k, wsT t k)
def loR (h : Hs) (nL : Nat) (cd : Cd) (n : Nat) (N : Nt) (bk : Bk) : Option (Nat × Nat) := accF (looA bk (tlR h nL cd n N bk)) n 0 none
def loV (s : Option (Nat × Nat)) (w : Nat) : Int32 := match s with
  | none => -1
  | some y => if w = 0 then nI y.1 else nI y.2
theorem loV0 {a b : Nat} : loV (some (a, b)) 0 = nI a := rfl
theorem loV1 {a b : Nat} : loV (some (a, b)) 1 = nI b := rfl
section LO
variable {d L X : Nat} {I : MI32} {J : MI64} {h : Hs} {nL n : Nat} {cd : Cd} {N : Nt} {bk : Bk} {p b w : Nat} {t : Tl} {x : Int32}
theorem tlS_b {c : Nat} (ht : ∀ i v, t i v ≤ c) : ∀ i v, tlS h nL cd n N bk p b t i v ≤ c + 1 := by
  intro i v
  have := ht i v
  unfold tlS
  by_cases z : rgt bk n (flK h nL cd N p b) = true
  · rw [if_pos z]
    unfold tlA
    by_cases y : i < n ∧ v = nv (flK h nL cd N p b (i + 1))
    · rw [if_pos y]
      omega
    · rw [if_neg y]
      omega
  · rw [if_neg z]
    omega
theorem tlS_a : ∀ q b t c, (∀ i v, t i v ≤ c) → ∀ i v, accF (tlS h nL cd n N bk p) q b t i v ≤ c + q
  | 0, b, t, c, ht => ht
  | q + 1, b, t, c, ht => by
    intro i v
    have := tlS_a q (b + 1) _ (c + 1) (tlS_b (h := h) (nL := nL) (cd := cd) (n := n) (N := N) (bk := bk) (p := p) (b := b) ht) i v
    show accF (tlS h nL cd n N bk p) q (b + 1) (tlS h nL cd n N bk p b t) i v ≤ _
    omega
theorem tlR_a : ∀ q p t c, (∀ i v, t i v ≤ c) → ∀ i v, accF (fun p s => accF (tlS h nL cd n N bk p) 30 1 s) q p t i v ≤ c + 30 * q
  | 0, p, t, c, ht => ht
  | q + 1, p, t, c, ht => by
    intro i v
    have := tlR_a q (p + 1) _ (c + 30) (tlS_a (h := h) (nL := nL) (cd := cd) (n := n) (N := N) (bk := bk) (p := p) 30 1 t c ht) i v
    show accF (fun p s => accF (tlS h nL cd n N bk p) 30 1 s) q (p + 1) (accF (tlS h nL cd n N bk p) 30 1 t) i v ≤ _
    omega
theorem tlR_b (hn : n ≤ 6) : ∀ i v, tlR h nL cd n N bk i v ≤ 180 := by
  intro i v
  have := tlR_a (h := h) (nL := nL) (cd := cd) (n := n) (N := N) (bk := bk) n 0 (fun _ _ => 0) 0 (fun _ _ => Nat.le_refl _) i v
  unfold tlR
  omega
theorem ws_le {k : Nat} (ht : ∀ i v, t i v ≤ 180) : wsT t k ≤ 180 := by
  unfold wsT
  rcases mx_at (P := fun _ => true) (g := t k) 100 0 0 with e | ⟨w, -, -, -, e⟩
  · omega
  · rw [← e]
    exact ht k w
theorem lp_worst {k : Nat} (hk : k < 6) (hT : tlC I t) (ht : ∀ i v, t i v ≤ 180) : ∀ q j a, j + q = 100 → a ≤ 180 → c_X0_worstAt_4 (d + 1) L X I J 31 (nI k) (nI a) (nI j) = rI (nI (accF (mxA (fun _ => true) (t k)) q j a)) (mm L X I J)
  | 0, j, a, hj, ha => by
    have h0 : oc0 31 := .inl rfl
    (first | refine Eq.trans (q_X0_worstAt_0 (by first | assumption | rfl | exact .inl rfl | exact .inr rfl)) ?_ | refine Eq.trans (q_X0_worstAt_4 (by first | assumption | rfl | exact .inl rfl | exact .inr rfl)) ?_ | refine Eq.trans (q_X0_worstAt_24 (by first | assumption | rfl | exact .inl rfl | exact .inr rfl)) ?_)
    rw [if_pos (by (try simp (disch := omega) only [nI_leI, nI_ltI, nI_eq, nI_add, pk_mul, n_0add, Nat.zero_add, nI_clamp]) <;> omega)]
    rfl
  | q + 1, j, a, hj, ha => by
    have ih := lp_worst hk hT ht q (j + 1) (Nat.max a (t k j)) (by omega) (Nat.max_le.mpr ⟨ha, ht k j⟩)
    have h0 : oc0 31 := .inl rfl
    have b := ht k j
    (first | refine Eq.trans (q_X0_worstAt_0 (by first | assumption | rfl | exact .inl rfl | exact .inr rfl)) ?_ | refine Eq.trans (q_X0_worstAt_4 (by first | assumption | rfl | exact .inl rfl | exact .inr rfl)) ?_ | refine Eq.trans (q_X0_worstAt_24 (by first | assumption | rfl | exact .inl rfl | exact .inr rfl)) ?_)
    rw [if_neg (by (try simp (disch := omega) only [nI_leI, nI_ltI, nI_eq, nI_add, pk_mul, n_0add, Nat.zero_add, nI_clamp]) <;> omega), pk_mul, nI_add]
    refine (bndN_e (sp_pick ka_33 (by decide))).trans ?_
    rw [pk_n (by omega) (by decide), hT k j hk (by omega)]
    (first | refine Eq.trans (q_X0_worstAt_0 (by first | assumption | rfl | exact .inl rfl | exact .inr rfl)) ?_ | refine Eq.trans (q_X0_worstAt_4 (by first | assumption | rfl | exact .inl rfl | exact .inr rfl)) ?_ | refine Eq.trans (q_X0_worstAt_24 (by first | assumption | rfl | exact .inl rfl | exact .inr rfl)) ?_)
    rw [mx_n (by omega) (by omega), nI_add]
    exact ih
theorem sp_worstAt {k : Nat} (hk : k < 6) (hT : tlC I t) (ht : ∀ i v, t i v ≤ 180) : runM (d + 2) nX0_worstAt [.ref 31, .int (nI k)] (mm L X I J) = rI (nI (wsT t k)) (mm L X I J) := by
  have h0 : oc0 31 := .inl rfl
  rw [e_X0_worstAt]
  (first | refine Eq.trans (q_X0_worstAt_0 (by first | assumption | rfl | exact .inl rfl | exact .inr rfl)) ?_ | refine Eq.trans (q_X0_worstAt_4 (by first | assumption | rfl | exact .inl rfl | exact .inr rfl)) ?_ | refine Eq.trans (q_X0_worstAt_24 (by first | assumption | rfl | exact .inl rfl | exact .inr rfl)) ?_)
  exact lp_worst hk hT ht 100 0 0 (by omega) (by omega)
theorem lp_look (hn : n ≤ 6) (C : NC I 43 n N) (B : bkC I bk) (hT : tlC I t) (ht : ∀ i v, t i v ≤ 180) : ∀ q j I' s, j + q = n → Fr [(31, 6), (31, 7)] I I' → I' 31 5 = loV s 0 → I' 31 6 = loV s 1 → (∀ y, s = some y → y.1 < 6 ∧ y.2 ≤ 180) → Rt L X (c_X0_findLook_18 (d + 2) L X I' J 31 43 (some (.ref 52)) (nI j)) none (fun I'' J' => (Fr [(31, 6), (31, 7)] I I'' ∧ I'' 31 5 = loV (accF (looA bk t) q j s) 0 ∧ I'' 31 6 = loV (accF (looA bk t) q j s) 1) ∧ J' = J)
  | 0, j, I', s, hj, hf, e5, e6, hs => by
    have h0 : oc0 31 := .inl rfl
    have h1 : oc3 43 := .inl rfl
    (first | refine rt_eq (q_X0_findLook_0 (by first | assumption | rfl | exact .inl rfl | exact .inr rfl) (by first | assumption | rfl | exact .inl rfl | exact .inr rfl)) ?_ | refine rt_eq (q_X0_findLook_6 (by first | assumption | rfl | exact .inl rfl | exact .inr rfl) (by first | assumption | rfl | exact .inl rfl | exact .inr rfl) (by first | assumption | rfl | exact .inl rfl | exact .inr rfl)) ?_ | refine rt_eq (q_X0_findLook_18 (by first | assumption | rfl | exact .inl rfl | exact .inr rfl) (by first | assumption | rfl | exact .inl rfl | exact .inr rfl)) ?_ | refine rt_eq (q_X0_findLook_76 (by first | assumption | rfl | exact .inl rfl | exact .inr rfl) (by first | assumption | rfl | exact .inl rfl | exact .inr rfl) (by first | assumption | rfl | exact .inl rfl | exact .inr rfl)) ?_ | refine rt_eq (q_X0_findLook_62 (by first | assumption | rfl | exact .inl rfl | exact .inr rfl) (by first | assumption | rfl | exact .inl rfl | exact .inr rfl)) ?_ | refine rt_eq (q_X0_findLook_55 (by first | assumption | rfl | exact .inl rfl | exact .inr rfl) (by first | assumption | rfl | exact .inl rfl | exact .inr rfl)) ?_ | refine rt_eq (q_X0_findLook_73 (by first | assumption | rfl | exact .inl rfl | exact .inr rfl) (by first | assumption | rfl | exact .inl rfl | exact .inr rfl)) ?_)
    rw [hf 43 5 rfl, C.1]
    refine rt_t (by (try simp (disch := omega) only [nI_leI, nI_ltI, nI_eq, nI_add, pk_mul, n_0add, Nat.zero_add, nI_clamp]) <;> omega) ?_
    exact rt_ret ⟨⟨hf, e5, e6⟩, rfl⟩
  | q + 1, j, I', s, hj, hf, e5, e6, hs => by
    have ih := lp_look hn C B hT ht q (j + 1)
    have h0 : oc0 31 := .inl rfl
    have h1 : oc3 43 := .inl rfl
    have hw := ws_le (k := j) ht
    have T' : tlC I' t := fun i v hi hv => by rw [hf 33 _ rfl]; exact hT i v hi hv
    show Rt L X _ none (fun I'' J' => (Fr [(31, 6), (31, 7)] I I'' ∧ I'' 31 5 = loV (accF (looA bk t) q (j + 1) (looA bk t j s)) 0 ∧ I'' 31 6 = loV (accF (looA bk t) q (j + 1) (looA bk t j s)) 1) ∧ J' = J)
    (first | refine rt_eq (q_X0_findLook_0 (by first | assumption | rfl | exact .inl rfl | exact .inr rfl) (by first | assumption | rfl | exact .inl rfl | exact .inr rfl)) ?_ | refine rt_eq (q_X0_findLook_6 (by first | assumption | rfl | exact .inl rfl | exact .inr rfl) (by first | assumption | rfl | exact .inl rfl | exact .inr rfl) (by first | assumption | rfl | exact .inl rfl | exact .inr rfl)) ?_ | refine rt_eq (q_X0_findLook_18 (by first | assumption | rfl | exact .inl rfl | exact .inr rfl) (by first | assumption | rfl | exact .inl rfl | exact .inr rfl)) ?_ | refine rt_eq (q_X0_findLook_76 (by first | assumption | rfl | exact .inl rfl | exact .inr rfl) (by first | assumption | rfl | exact .inl rfl | exact .inr rfl) (by first | assumption | rfl | exact .inl rfl | exact .inr rfl)) ?_ | refine rt_eq (q_X0_findLook_62 (by first | assumption | rfl | exact .inl rfl | exact .inr rfl) (by first | assumption | rfl | exact .inl rfl | exact .inr rfl)) ?_ | refine rt_eq (q_X0_findLook_55 (by first | assumption | rfl | exact .inl rfl | exact .inr rfl) (by first | assumption | rfl | exact .inl rfl | exact .inr rfl)) ?_ | refine rt_eq (q_X0_findLook_73 (by first | assumption | rfl | exact .inl rfl | exact .inr rfl) (by first | assumption | rfl | exact .inl rfl | exact .inr rfl)) ?_)
    rw [hf 43 5 rfl, C.1]
    refine rt_f (by (try simp (disch := omega) only [nI_leI, nI_ltI, nI_eq, nI_add, pk_mul, n_0add, Nat.zero_add, nI_clamp]) <;> omega) (rt_f (by (try simp (disch := omega) only [nI_leI, nI_ltI, nI_eq, nI_add, pk_mul, n_0add, Nat.zero_add, nI_clamp]) <;> omega) (rt_gd (inb_n (by omega) (by decide)) ?_))
    rw [nI_clamp (by omega), show I' (31 + 1) j = o2i (bk j) from by rw [hf 32 j rfl]; exact (B j (by omega)).1]
    rcases hb : bk j with _ | v
    · refine rt_t rfl ?_
      have t62 : looA bk t j s = some (j, wsT t j) → Rt L X (runI (runM (d + 2)) iX0_findLook (62, [some (.ref 31), some (.ref 43), some (.ref 52), some (.int (nI j))], [], mm L X I' J)) none (fun I'' J' => (Fr [(31, 6), (31, 7)] I I'' ∧ I'' 31 5 = loV (accF (looA bk t) q (j + 1) (looA bk t j s)) 0 ∧ I'' 31 6 = loV (accF (looA bk t) q (j + 1) (looA bk t j s)) 1) ∧ J' = J) := by
        intro he
        rw [he]
        (first | refine rt_eq (q_X0_findLook_0 (by first | assumption | rfl | exact .inl rfl | exact .inr rfl) (by first | assumption | rfl | exact .inl rfl | exact .inr rfl)) ?_ | refine rt_eq (q_X0_findLook_6 (by first | assumption | rfl | exact .inl rfl | exact .inr rfl) (by first | assumption | rfl | exact .inl rfl | exact .inr rfl) (by first | assumption | rfl | exact .inl rfl | exact .inr rfl)) ?_ | refine rt_eq (q_X0_findLook_18 (by first | assumption | rfl | exact .inl rfl | exact .inr rfl) (by first | assumption | rfl | exact .inl rfl | exact .inr rfl)) ?_ | refine rt_eq (q_X0_findLook_76 (by first | assumption | rfl | exact .inl rfl | exact .inr rfl) (by first | assumption | rfl | exact .inl rfl | exact .inr rfl) (by first | assumption | rfl | exact .inl rfl | exact .inr rfl)) ?_ | refine rt_eq (q_X0_findLook_62 (by first | assumption | rfl | exact .inl rfl | exact .inr rfl) (by first | assumption | rfl | exact .inl rfl | exact .inr rfl)) ?_ | refine rt_eq (q_X0_findLook_55 (by first | assumption | rfl | exact .inl rfl | exact .inr rfl) (by first | assumption | rfl | exact .inl rfl | exact .inr rfl)) ?_ | refine rt_eq (q_X0_findLook_73 (by first | assumption | rfl | exact .inl rfl | exact .inr rfl) (by first | assumption | rfl | exact .inl rfl | exact .inr rfl)) ?_)
        refine rt_be (sp_worstAt (t := t) (by omega) (fun i v hi hv => by rw [up2_n (by decide)]; exact T' i v hi hv) ht) ?_
        (first | refine rt_eq (q_X0_findLook_0 (by first | assumption | rfl | exact .inl rfl | exact .inr rfl) (by first | assumption | rfl | exact .inl rfl | exact .inr rfl)) ?_ | refine rt_eq (q_X0_findLook_6 (by first | assumption | rfl | exact .inl rfl | exact .inr rfl) (by first | assumption | rfl | exact .inl rfl | exact .inr rfl) (by first | assumption | rfl | exact .inl rfl | exact .inr rfl)) ?_ | refine rt_eq (q_X0_findLook_18 (by first | assumption | rfl | exact .inl rfl | exact .inr rfl) (by first | assumption | rfl | exact .inl rfl | exact .inr rfl)) ?_ | refine rt_eq (q_X0_findLook_76 (by first | assumption | rfl | exact .inl rfl | exact .inr rfl) (by first | assumption | rfl | exact .inl rfl | exact .inr rfl) (by first | assumption | rfl | exact .inl rfl | exact .inr rfl)) ?_ | refine rt_eq (q_X0_findLook_62 (by first | assumption | rfl | exact .inl rfl | exact .inr rfl) (by first | assumption | rfl | exact .inl rfl | exact .inr rfl)) ?_ | refine rt_eq (q_X0_findLook_55 (by first | assumption | rfl | exact .inl rfl | exact .inr rfl) (by first | assumption | rfl | exact .inl rfl | exact .inr rfl)) ?_ | refine rt_eq (q_X0_findLook_73 (by first | assumption | rfl | exact .inl rfl | exact .inr rfl) (by first | assumption | rfl | exact .inl rfl | exact .inr rfl)) ?_)
        (first | refine rt_eq (q_X0_findLook_0 (by first | assumption | rfl | exact .inl rfl | exact .inr rfl) (by first | assumption | rfl | exact .inl rfl | exact .inr rfl)) ?_ | refine rt_eq (q_X0_findLook_6 (by first | assumption | rfl | exact .inl rfl | exact .inr rfl) (by first | assumption | rfl | exact .inl rfl | exact .inr rfl) (by first | assumption | rfl | exact .inl rfl | exact .inr rfl)) ?_ | refine rt_eq (q_X0_findLook_18 (by first | assumption | rfl | exact .inl rfl | exact .inr rfl) (by first | assumption | rfl | exact .inl rfl | exact .inr rfl)) ?_ | refine rt_eq (q_X0_findLook_76 (by first | assumption | rfl | exact .inl rfl | exact .inr rfl) (by first | assumption | rfl | exact .inl rfl | exact .inr rfl) (by first | assumption | rfl | exact .inl rfl | exact .inr rfl)) ?_ | refine rt_eq (q_X0_findLook_62 (by first | assumption | rfl | exact .inl rfl | exact .inr rfl) (by first | assumption | rfl | exact .inl rfl | exact .inr rfl)) ?_ | refine rt_eq (q_X0_findLook_55 (by first | assumption | rfl | exact .inl rfl | exact .inr rfl) (by first | assumption | rfl | exact .inl rfl | exact .inr rfl)) ?_ | refine rt_eq (q_X0_findLook_73 (by first | assumption | rfl | exact .inl rfl | exact .inr rfl) (by first | assumption | rfl | exact .inl rfl | exact .inr rfl)) ?_)
        rw [nI_add]
        generalize wsT t j = v at hw ⊢
        exact ih _ (some (j, v)) (by omega) (fr_up (fr_up hf rfl) rfl) (by rw [up2_k (by decide), up2_s, loV0]) (by rw [up2_s, loV1]) (fun y e => by cases e; exact ⟨by omega, hw⟩)
      rcases s with _ | y
      · refine rt_t e5 ?_
        refine t62 ?_
        unfold looA
        rw [hb]
      · obtain ⟨y1, y2⟩ := hs y rfl
        have e5' : I' 31 5 = nI y.1 := e5
        have e6' : I' 31 6 = nI y.2 := e6
        rw [e5']
        refine rt_f (nI_m1 _ (by omega)) ?_
        refine rt_be (sp_worstAt (t := t) (by omega) T' ht) ?_
        (first | refine rt_eq (q_X0_findLook_0 (by first | assumption | rfl | exact .inl rfl | exact .inr rfl) (by first | assumption | rfl | exact .inl rfl | exact .inr rfl)) ?_ | refine rt_eq (q_X0_findLook_6 (by first | assumption | rfl | exact .inl rfl | exact .inr rfl) (by first | assumption | rfl | exact .inl rfl | exact .inr rfl) (by first | assumption | rfl | exact .inl rfl | exact .inr rfl)) ?_ | refine rt_eq (q_X0_findLook_18 (by first | assumption | rfl | exact .inl rfl | exact .inr rfl) (by first | assumption | rfl | exact .inl rfl | exact .inr rfl)) ?_ | refine rt_eq (q_X0_findLook_76 (by first | assumption | rfl | exact .inl rfl | exact .inr rfl) (by first | assumption | rfl | exact .inl rfl | exact .inr rfl) (by first | assumption | rfl | exact .inl rfl | exact .inr rfl)) ?_ | refine rt_eq (q_X0_findLook_62 (by first | assumption | rfl | exact .inl rfl | exact .inr rfl) (by first | assumption | rfl | exact .inl rfl | exact .inr rfl)) ?_ | refine rt_eq (q_X0_findLook_55 (by first | assumption | rfl | exact .inl rfl | exact .inr rfl) (by first | assumption | rfl | exact .inl rfl | exact .inr rfl)) ?_ | refine rt_eq (q_X0_findLook_73 (by first | assumption | rfl | exact .inl rfl | exact .inr rfl) (by first | assumption | rfl | exact .inl rfl | exact .inr rfl)) ?_)
        rw [e6']
        have el : looA bk t j (some y) = if y.2 ≤ wsT t j then some y else some (j, wsT t j) := by
          unfold looA
          rw [hb]
        by_cases z : y.2 ≤ wsT t j
        · refine rt_t (by (try simp (disch := omega) only [nI_leI, nI_ltI, nI_eq, nI_add, pk_mul, n_0add, Nat.zero_add, nI_clamp]) <;> omega) ?_
          rw [el, if_pos z]
          (first | refine rt_eq (q_X0_findLook_0 (by first | assumption | rfl | exact .inl rfl | exact .inr rfl) (by first | assumption | rfl | exact .inl rfl | exact .inr rfl)) ?_ | refine rt_eq (q_X0_findLook_6 (by first | assumption | rfl | exact .inl rfl | exact .inr rfl) (by first | assumption | rfl | exact .inl rfl | exact .inr rfl) (by first | assumption | rfl | exact .inl rfl | exact .inr rfl)) ?_ | refine rt_eq (q_X0_findLook_18 (by first | assumption | rfl | exact .inl rfl | exact .inr rfl) (by first | assumption | rfl | exact .inl rfl | exact .inr rfl)) ?_ | refine rt_eq (q_X0_findLook_76 (by first | assumption | rfl | exact .inl rfl | exact .inr rfl) (by first | assumption | rfl | exact .inl rfl | exact .inr rfl) (by first | assumption | rfl | exact .inl rfl | exact .inr rfl)) ?_ | refine rt_eq (q_X0_findLook_62 (by first | assumption | rfl | exact .inl rfl | exact .inr rfl) (by first | assumption | rfl | exact .inl rfl | exact .inr rfl)) ?_ | refine rt_eq (q_X0_findLook_55 (by first | assumption | rfl | exact .inl rfl | exact .inr rfl) (by first | assumption | rfl | exact .inl rfl | exact .inr rfl)) ?_ | refine rt_eq (q_X0_findLook_73 (by first | assumption | rfl | exact .inl rfl | exact .inr rfl) (by first | assumption | rfl | exact .inl rfl | exact .inr rfl)) ?_)
          rw [nI_add]
          exact ih I' (some y) (by omega) hf e5 e6 hs
        · refine rt_f (by (try simp (disch := omega) only [nI_leI, nI_ltI, nI_eq, nI_add, pk_mul, n_0add, Nat.zero_add, nI_clamp]) <;> omega) ?_
          refine t62 ?_
          rw [el, if_neg z]
    · have v99 := (B j (by omega)).2 v hb
      refine rt_f (show ¬ o2i (some v) = -1 from nI_m1 v (by omega)) ?_
      have el : looA bk t j s = s := by
        unfold looA
        rw [hb]
      rw [el]
      (first | refine rt_eq (q_X0_findLook_0 (by first | assumption | rfl | exact .inl rfl | exact .inr rfl) (by first | assumption | rfl | exact .inl rfl | exact .inr rfl)) ?_ | refine rt_eq (q_X0_findLook_6 (by first | assumption | rfl | exact .inl rfl | exact .inr rfl) (by first | assumption | rfl | exact .inl rfl | exact .inr rfl) (by first | assumption | rfl | exact .inl rfl | exact .inr rfl)) ?_ | refine rt_eq (q_X0_findLook_18 (by first | assumption | rfl | exact .inl rfl | exact .inr rfl) (by first | assumption | rfl | exact .inl rfl | exact .inr rfl)) ?_ | refine rt_eq (q_X0_findLook_76 (by first | assumption | rfl | exact .inl rfl | exact .inr rfl) (by first | assumption | rfl | exact .inl rfl | exact .inr rfl) (by first | assumption | rfl | exact .inl rfl | exact .inr rfl)) ?_ | refine rt_eq (q_X0_findLook_62 (by first | assumption | rfl | exact .inl rfl | exact .inr rfl) (by first | assumption | rfl | exact .inl rfl | exact .inr rfl)) ?_ | refine rt_eq (q_X0_findLook_55 (by first | assumption | rfl | exact .inl rfl | exact .inr rfl) (by first | assumption | rfl | exact .inl rfl | exact .inr rfl)) ?_ | refine rt_eq (q_X0_findLook_73 (by first | assumption | rfl | exact .inl rfl | exact .inr rfl) (by first | assumption | rfl | exact .inl rfl | exact .inr rfl)) ?_)
      rw [nI_add]
      exact ih I' s (by omega) hf e5 e6 hs
def fLo : Fls := fLk ++ [(31, 6), (31, 7)]
theorem sp_findLook (ok : HOK h) (W : wfC cd nL 0 0) (R : NR (h 0 0) n N) (z29 : N 29 = nI (nv (N 29)) ∧ nv (N 29) ≤ 99) (C : LX I h nL cd n N bk) : Rt L X (runM (d + 6) nX0_findLook [.ref 31, .ref 43, .ref 52] (mm L X I J)) none (fun I'' J' => (Fr fLo I I'' ∧ I'' 52 5 = -1 ∧ I'' 31 5 = loV (loR h nL cd n N bk) 0 ∧ I'' 31 6 = loV (loR h nL cd n N bk) 1) ∧ J' = J) := by
  have h0 : oc0 31 := .inl rfl
  have h1 : oc3 43 := .inl rfl
  have hn := R.1.1
  rw [e_X0_findLook]
  (first | refine rt_eq (q_X0_findLook_0 (by first | assumption | rfl | exact .inl rfl | exact .inr rfl) (by first | assumption | rfl | exact .inl rfl | exact .inr rfl)) ?_ | refine rt_eq (q_X0_findLook_6 (by first | assumption | rfl | exact .inl rfl | exact .inr rfl) (by first | assumption | rfl | exact .inl rfl | exact .inr rfl) (by first | assumption | rfl | exact .inl rfl | exact .inr rfl)) ?_ | refine rt_eq (q_X0_findLook_18 (by first | assumption | rfl | exact .inl rfl | exact .inr rfl) (by first | assumption | rfl | exact .inl rfl | exact .inr rfl)) ?_ | refine rt_eq (q_X0_findLook_76 (by first | assumption | rfl | exact .inl rfl | exact .inr rfl) (by first | assumption | rfl | exact .inl rfl | exact .inr rfl) (by first | assumption | rfl | exact .inl rfl | exact .inr rfl)) ?_ | refine rt_eq (q_X0_findLook_62 (by first | assumption | rfl | exact .inl rfl | exact .inr rfl) (by first | assumption | rfl | exact .inl rfl | exact .inr rfl)) ?_ | refine rt_eq (q_X0_findLook_55 (by first | assumption | rfl | exact .inl rfl | exact .inr rfl) (by first | assumption | rfl | exact .inl rfl | exact .inr rfl)) ?_ | refine rt_eq (q_X0_findLook_73 (by first | assumption | rfl | exact .inl rfl | exact .inr rfl) (by first | assumption | rfl | exact .inl rfl | exact .inr rfl)) ?_)
  refine rt_bnd (sp_findLeaks ok W R z29 C) ?_
  rintro I1 J1 ⟨⟨f1, e1, -, -, t1⟩, rfl⟩
  have C1 := LX_f C f1
  (first | refine rt_eq (q_X0_findLook_0 (by first | assumption | rfl | exact .inl rfl | exact .inr rfl) (by first | assumption | rfl | exact .inl rfl | exact .inr rfl)) ?_ | refine rt_eq (q_X0_findLook_6 (by first | assumption | rfl | exact .inl rfl | exact .inr rfl) (by first | assumption | rfl | exact .inl rfl | exact .inr rfl) (by first | assumption | rfl | exact .inl rfl | exact .inr rfl)) ?_ | refine rt_eq (q_X0_findLook_18 (by first | assumption | rfl | exact .inl rfl | exact .inr rfl) (by first | assumption | rfl | exact .inl rfl | exact .inr rfl)) ?_ | refine rt_eq (q_X0_findLook_76 (by first | assumption | rfl | exact .inl rfl | exact .inr rfl) (by first | assumption | rfl | exact .inl rfl | exact .inr rfl) (by first | assumption | rfl | exact .inl rfl | exact .inr rfl)) ?_ | refine rt_eq (q_X0_findLook_62 (by first | assumption | rfl | exact .inl rfl | exact .inr rfl) (by first | assumption | rfl | exact .inl rfl | exact .inr rfl)) ?_ | refine rt_eq (q_X0_findLook_55 (by first | assumption | rfl | exact .inl rfl | exact .inr rfl) (by first | assumption | rfl | exact .inl rfl | exact .inr rfl)) ?_ | refine rt_eq (q_X0_findLook_73 (by first | assumption | rfl | exact .inl rfl | exact .inr rfl) (by first | assumption | rfl | exact .inl rfl | exact .inr rfl)) ?_)
  generalize hI2 : up2 (up2 I1 31 5 (-1)) 31 6 (-1) = I2
  have g2 : Fr [(31, 6), (31, 7)] I1 I2 := by rw [← hI2]; exact fr_up (fr_up fr_rfl rfl) rfl
  have a5 : I2 31 5 = -1 := by rw [← hI2, up2_k (by decide), up2_s]
  have a6 : I2 31 6 = -1 := by rw [← hI2, up2_s]
  clear hI2
  refine rt_mono (lp_look (I := I2) (bk := bk) hn (NC_fr C1.2.2.1 (ag_of g2 (by decide))) (fun k hk => by rw [g2 32 k rfl]; exact C1.2.2.2.2.2 k hk) (fun i v hi hv => by rw [g2 33 _ rfl]; exact t1 i v hi hv) (tlR_b hn) n 0 I2 none (by omega) fr_rfl a5 a6 (fun y e => by cases e)) ?_
  rintro I3 J3 ⟨⟨f3, r5, r6⟩, rfl⟩
  refine ⟨⟨fr_tr (fr_mono f1 (by decide)) (fr_tr (fr_mono g2 (by decide)) (fr_mono f3 (by decide))), by rw [f3 52 5 rfl, g2 52 5 rfl, e1], r5, r6⟩, rfl⟩
/-! the model -/
abbrev Ln : Type := Nat → Nat × Nat
def bkM (I : MI32) (nl : Nat) (ln : Ln) : Prop := I 72 34 = nI nl ∧ nl ≤ 6 ∧ ∀ i, i < nl → I (437 + i) 0 = nI (ln i).1 ∧ I (437 + i) 1 = nI (ln i).2
def bkR (nl : Nat) (ln : Ln) (bk : Bk) : Prop := (∀ i, i < nl → (ln i).1 < 6 ∧ (ln i).2 ≤ 99 ∧ bk (ln i).1 = some (ln i).2) ∧ ∀ k v, k < 6 → bk k = some v → ∃ i, i < nl ∧ ln i = (k, v)
def sbk : Fls := [(72, 35)] ++ cells 437 6
theorem bkM_fr {I' : MI32} {nl : Nat} {ln : Ln} (B : bkM I nl ln) (g : Ag sbk I I') : bkM I' nl ln := by
  refine ⟨by rw [g 72 34 rfl]; exact B.1, B.2.1, fun i hi => ?_⟩
  have e : ∀ k, I' (437 + i) k = I (437 + i) k := fun k => g _ _ (by unfold sbk; rw [inF_app, in_cells (by have := B.2.1; omega), Bool.or_true])
  rw [e, e]
  exact B.2.2 i hi
def badM (ln : Ln) (n : Nat) (F : Nat → Int32) (i : Nat) : Bool := !(decide ((ln i).1 < n) && decide (F ((ln i).1 + 1) = nI (ln i).2))
theorem rgt_M {nl : Nat} {ln : Ln} {F : Nat → Int32} (B : bkR nl ln bk) : rgt bk n F = !(fndF (badM ln n F) nl 0).isSome := by
  unfold rgt
  congr 1
  rw [Bool.eq_iff_iff, fnd_iff, fnd_iff]
  constructor
  · rintro ⟨k, k6, hk⟩
    unfold badC at hk
    rcases hb : bk k with _ | v
    · rw [hb] at hk
      cases hk
    · rw [hb] at hk
      obtain ⟨i, i1, i2⟩ := B.2 k v k6 hb
      refine ⟨i, i1, ?_⟩
      unfold badM
      rw [i2]
      exact hk
  · rintro ⟨i, i1, hi⟩
    obtain ⟨b1, b2, b3⟩ := B.1 i i1
    refine ⟨(ln i).1, b1, ?_⟩
    unfold badC
    rw [b3]
    exact hi
theorem lp_isLeak {nl : Nat} {ln : Ln} {F : Nat → Int32} {u1 : Option Value} (R : NR (h 0 0) n (I 533)) (B : bkM I nl ln) (BR : bkR nl ln bk) (hF : ∀ k, k < n → I 535 k = F (k + 1)) : ∀ q j, j + q = nl → c_X12_isLeak_13 (d + 1) L X I J u1 (some (.int x)) (nI j) = rB (!(fndF (badM ln n F) q j).isSome) (mm L X I J)
  | 0, j, hj => by
    have n6 := B.2.1
    (first | refine Eq.trans (q_X12_isLeak_0) ?_ | refine Eq.trans (q_X12_isLeak_10 (by first | assumption | rfl | exact .inl rfl | exact .inr rfl)) ?_ | refine Eq.trans (q_X12_isLeak_13) ?_ | refine Eq.trans (q_X12_isLeak_36 (by first | assumption | rfl | exact .inl rfl | exact .inr rfl)) ?_)
    rw [B.1, if_pos (by (try simp (disch := omega) only [nI_leI, nI_ltI, nI_eq, nI_add, pk_mul, n_0add, Nat.zero_add, nI_clamp]) <;> omega)]
    rfl
  | q + 1, j, hj => by
    have ih := lp_isLeak (u1 := u1) R B BR hF q (j + 1) (by omega)
    have n6 := B.2.1
    have hn := R.1.1
    obtain ⟨a1, a2⟩ := B.2.2 j (by omega)
    obtain ⟨b1, b2, b3⟩ := BR.1 j (by omega)
    (first | refine Eq.trans (q_X12_isLeak_0) ?_ | refine Eq.trans (q_X12_isLeak_10 (by first | assumption | rfl | exact .inl rfl | exact .inr rfl)) ?_ | refine Eq.trans (q_X12_isLeak_13) ?_ | refine Eq.trans (q_X12_isLeak_36 (by first | assumption | rfl | exact .inl rfl | exact .inr rfl)) ?_)
    rw [B.1, if_neg (by (try simp (disch := omega) only [nI_leI, nI_ltI, nI_eq, nI_add, pk_mul, n_0add, Nat.zero_add, nI_clamp]) <;> omega), gd_t (inb_n (by omega) (by decide)), nI_clamp (by omega), a1]
    refine (bndN_e (sp_manyIn ka_533 R)).trans ?_
    (first | refine Eq.trans (q_X12_isLeak_0) ?_ | refine Eq.trans (q_X12_isLeak_10 (by first | assumption | rfl | exact .inl rfl | exact .inr rfl)) ?_ | refine Eq.trans (q_X12_isLeak_13) ?_ | refine Eq.trans (q_X12_isLeak_36 (by first | assumption | rfl | exact .inl rfl | exact .inr rfl)) ?_)
    unfold fndF
    by_cases z : (ln j).1 < n
    · rw [if_neg (by (try simp (disch := omega) only [nI_leI, nI_ltI, nI_eq, nI_add, pk_mul, n_0add, Nat.zero_add, nI_clamp]) <;> omega), gd_t (inb_n (by omega) (by decide)), nI_clamp (show j < 2 ^ 31 by omega), a1, a2, gd_t (inb_n (by omega) (by decide)), nI_clamp (show (ln j).1 < 2 ^ 31 by omega), hF _ z]
      by_cases y : F ((ln j).1 + 1) = nI (ln j).2
      · rw [if_pos y, if_neg (show ¬ badM ln n F j = true by unfold badM; rw [decide_eq_true z, decide_eq_true y]; decide), nI_add]
        exact ih
      · rw [if_neg y, if_pos (show badM ln n F j = true by unfold badM; rw [decide_eq_false y, Bool.and_false]; rfl)]
        rfl
    · rw [if_pos (by (try simp (disch := omega) only [nI_leI, nI_ltI, nI_eq, nI_add, pk_mul, n_0add, Nat.zero_add, nI_clamp]) <;> omega), if_pos (show badM ln n F j = true by unfold badM; rw [decide_eq_false z, Bool.false_and]; rfl)]
      rfl
theorem sp_isLeak {nl : Nat} {ln : Ln} (ok : HOK h) (W : wfC cd nL 0 0) (S : SM I h (h 0 1) nL cd) (R : NR (h 0 0) n (I 533)) (B : bkM I nl ln) (BR : bkR nl ln bk) : Rt L X (runM (d + 7) nX12_isLeak [.ref 72, .int (nI p), .int (nI b)] (mm L X I J)) (some (.int (bI (rgt bk n (flK h nL cd (I 533) p b))))) (fun I'' J' => (Fr [(450, 0), (451, 0), (535, 0)] I I'' ∧ ∀ k, k < n → I'' 535 k = flK h nL cd (I 533) p b (k + 1)) ∧ J' = J) := by
  rw [e_X12_isLeak]
  (first | refine rt_eq (q_X12_isLeak_0) ?_ | refine rt_eq (q_X12_isLeak_10 (by first | assumption | rfl | exact .inl rfl | exact .inr rfl)) ?_ | refine rt_eq (q_X12_isLeak_13) ?_ | refine rt_eq (q_X12_isLeak_36 (by first | assumption | rfl | exact .inl rfl | exact .inr rfl)) ?_)
  refine rt_bnd (sp_runs (.inl rfl) S.1 ok R S.2 W) ?_
  rintro I1 J1 ⟨⟨f1, f2⟩, rfl⟩
  have e533 : I1 533 = I 533 := funext fun i => f1 533 i rfl
  have R1 := R
  rw [← e533] at R1
  (first | refine rt_eq (q_X12_isLeak_0) ?_ | refine rt_eq (q_X12_isLeak_10 (by first | assumption | rfl | exact .inl rfl | exact .inr rfl)) ?_ | refine rt_eq (q_X12_isLeak_13) ?_ | refine rt_eq (q_X12_isLeak_36 (by first | assumption | rfl | exact .inl rfl | exact .inr rfl)) ?_)
  rw [rgt_M BR]
  exact rt_end (lp_isLeak (F := flK h nL cd (I 533) p b) R1 (bkM_fr B (ag_of f1 (by decide))) BR f2 nl 0 (by omega)) ⟨⟨f1, f2⟩, rfl⟩
theorem fL1 : dj [(450, 0), (451, 0), (535, 0)] sHM = true := by decide +kernel
theorem fL2 : dj [(450, 0), (451, 0), (535, 0)] sLM = true := by decide +kernel
/-- what the model's looking needs -/
def LY (I : MI32) (h : Hs) (nL : Nat) (cd : Cd) (n : Nat) (N : Nt) (nl : Nat) (ln : Ln) : Prop := SM I h (h 0 1) nL cd ∧ I 533 = N ∧ NR (h 0 0) n N ∧ bkM I nl ln
theorem LY_fr {I' : MI32} {nl : Nat} {ln : Ln} {l : Fls} (C : LY I h nL cd n N nl ln) (ok : HOK h) (g : Fr l I I') (d1 : dj l sHM = true) (d2 : dj l sLM = true) (d3 : dj l [(533, 0)] = true) (d4 : dj l sbk = true) : LY I' h nL cd n N nl ln := ⟨SM_fr C.1 ok g d1 d2, (funext fun k => ag_of g d3 533 k rfl).trans C.2.1, C.2.2.1, bkM_fr C.2.2.2 (ag_of g d4)⟩
theorem lp_lk52 {nl : Nat} {ln : Ln} {r : Option Value} {Q : MI32 → MI64 → Prop} {sf : Nat × Int32} {x1 : Int32} (ok : HOK h) (W : wfC cd nL 0 0) (C : LY I h nL cd n N nl ln) (BR : bkR nl ln bk) (go : ∀ I' x5, Fr [(450, 0), (451, 0), (535, 0)] I I' → Rt L X (c_X12_leaks_37 (d + 7) L X I' J x1 (nI sf.1) sf.2 (nI (p + 1)) x5) r Q) : ∀ q b I' s, b + q = 31 → Fr [(450, 0), (451, 0), (535, 0)] I I' → s.1 < 1000 + b → accF (lkS h nL cd n N bk p) q b s = sf → Rt L X (c_X12_leaks_52 (d + 7) L X I' J x1 (nI s.1) s.2 (nI p) (nI b)) r Q
  | 0, b, I', s, hb, hf, hs, he => by
    have a1 : s = sf := he
    subst a1
    (first | refine rt_eq (q_X12_leaks_0) ?_ | refine rt_eq (q_X12_leaks_12) ?_ | refine rt_eq (q_X12_leaks_20) ?_ | refine rt_eq (q_X12_leaks_25) ?_ | refine rt_eq (q_X12_leaks_37) ?_ | refine rt_eq (q_X12_leaks_46) ?_ | refine rt_eq (q_X12_leaks_52) ?_ | refine rt_eq (q_X12_leaks_67) ?_ | refine rt_eq (q_X12_leaks_89) ?_ | refine rt_eq (q_X12_leaks_93) ?_)
    refine rt_t (by (try simp (disch := omega) only [nI_leI, nI_ltI, nI_eq, nI_add, pk_mul, n_0add, Nat.zero_add, nI_clamp]) <;> omega) ?_
    rw [nI_add]
    exact go I' _ hf
  | q + 1, b, I', s, hb, hf, hs, he => by
    have ih := lp_lk52 ok W C BR go q (b + 1)
    have he' : accF (lkS h nL cd n N bk p) q (b + 1) (lkS h nL cd n N bk p b s) = sf := he
    have C' := LY_fr C ok hf fL1 fL2 (by decide) (by decide)
    obtain ⟨S, e, R, B⟩ := C'
    subst e
    (first | refine rt_eq (q_X12_leaks_0) ?_ | refine rt_eq (q_X12_leaks_12) ?_ | refine rt_eq (q_X12_leaks_20) ?_ | refine rt_eq (q_X12_leaks_25) ?_ | refine rt_eq (q_X12_leaks_37) ?_ | refine rt_eq (q_X12_leaks_46) ?_ | refine rt_eq (q_X12_leaks_52) ?_ | refine rt_eq (q_X12_leaks_67) ?_ | refine rt_eq (q_X12_leaks_89) ?_ | refine rt_eq (q_X12_leaks_93) ?_)
    refine rt_f (by (try simp (disch := omega) only [nI_leI, nI_ltI, nI_eq, nI_add, pk_mul, n_0add, Nat.zero_add, nI_clamp]) <;> omega) ?_
    refine rt_bnd (sp_isLeak ok W S R B BR) ?_
    rintro I2 J2 ⟨⟨f2, -⟩, rfl⟩
    have f2' := fr_tr hf f2
    (first | refine rt_eq (q_X12_leaks_0) ?_ | refine rt_eq (q_X12_leaks_12) ?_ | refine rt_eq (q_X12_leaks_20) ?_ | refine rt_eq (q_X12_leaks_25) ?_ | refine rt_eq (q_X12_leaks_37) ?_ | refine rt_eq (q_X12_leaks_46) ?_ | refine rt_eq (q_X12_leaks_52) ?_ | refine rt_eq (q_X12_leaks_67) ?_ | refine rt_eq (q_X12_leaks_89) ?_ | refine rt_eq (q_X12_leaks_93) ?_)
    by_cases z : rgt bk n (flK h nL cd (I' 533) p b) = true
    · rw [z]
      refine rt_f (by decide) ?_
      have es : lkS h nL cd n (I' 533) bk p b s = (s.1 + 1, if s.1 = 0 then nI (100 * p + b) else s.2) := if_pos z
      rw [es] at he'
      by_cases y : s.1 = 0
      · refine rt_t (congrArg nI y) ?_
        rw [if_pos y] at he'
        rw [pk_mul, nI_add]
        (first | refine rt_eq (q_X12_leaks_0) ?_ | refine rt_eq (q_X12_leaks_12) ?_ | refine rt_eq (q_X12_leaks_20) ?_ | refine rt_eq (q_X12_leaks_25) ?_ | refine rt_eq (q_X12_leaks_37) ?_ | refine rt_eq (q_X12_leaks_46) ?_ | refine rt_eq (q_X12_leaks_52) ?_ | refine rt_eq (q_X12_leaks_67) ?_ | refine rt_eq (q_X12_leaks_89) ?_ | refine rt_eq (q_X12_leaks_93) ?_)
        rw [nI_add]
        (first | refine rt_eq (q_X12_leaks_0) ?_ | refine rt_eq (q_X12_leaks_12) ?_ | refine rt_eq (q_X12_leaks_20) ?_ | refine rt_eq (q_X12_leaks_25) ?_ | refine rt_eq (q_X12_leaks_37) ?_ | refine rt_eq (q_X12_leaks_46) ?_ | refine rt_eq (q_X12_leaks_52) ?_ | refine rt_eq (q_X12_leaks_67) ?_ | refine rt_eq (q_X12_leaks_89) ?_ | refine rt_eq (q_X12_leaks_93) ?_)
        rw [nI_add]
        exact ih I2 (s.1 + 1, nI (100 * p + b)) (by omega) f2' (by show s.1 + 1 < _; omega) he'
      · refine rt_f (by rw [nI_eq (by omega) (by decide)]; exact y) ?_
        rw [if_neg y] at he'
        (first | refine rt_eq (q_X12_leaks_0) ?_ | refine rt_eq (q_X12_leaks_12) ?_ | refine rt_eq (q_X12_leaks_20) ?_ | refine rt_eq (q_X12_leaks_25) ?_ | refine rt_eq (q_X12_leaks_37) ?_ | refine rt_eq (q_X12_leaks_46) ?_ | refine rt_eq (q_X12_leaks_52) ?_ | refine rt_eq (q_X12_leaks_67) ?_ | refine rt_eq (q_X12_leaks_89) ?_ | refine rt_eq (q_X12_leaks_93) ?_)
        rw [nI_add]
        (first | refine rt_eq (q_X12_leaks_0) ?_ | refine rt_eq (q_X12_leaks_12) ?_ | refine rt_eq (q_X12_leaks_20) ?_ | refine rt_eq (q_X12_leaks_25) ?_ | refine rt_eq (q_X12_leaks_37) ?_ | refine rt_eq (q_X12_leaks_46) ?_ | refine rt_eq (q_X12_leaks_52) ?_ | refine rt_eq (q_X12_leaks_67) ?_ | refine rt_eq (q_X12_leaks_89) ?_ | refine rt_eq (q_X12_leaks_93) ?_)
        rw [nI_add]
        exact ih I2 (s.1 + 1, s.2) (by omega) f2' (by show s.1 + 1 < _; omega) he'
    · have es : lkS h nL cd n (I' 533) bk p b s = s := if_neg z
      rw [es] at he'
      rw [Bool.not_eq_true] at z
      rw [z]
      refine rt_t bI_f ?_
      (first | refine rt_eq (q_X12_leaks_0) ?_ | refine rt_eq (q_X12_leaks_12) ?_ | refine rt_eq (q_X12_leaks_20) ?_ | refine rt_eq (q_X12_leaks_25) ?_ | refine rt_eq (q_X12_leaks_37) ?_ | refine rt_eq (q_X12_leaks_46) ?_ | refine rt_eq (q_X12_leaks_52) ?_ | refine rt_eq (q_X12_leaks_67) ?_ | refine rt_eq (q_X12_leaks_89) ?_ | refine rt_eq (q_X12_leaks_93) ?_)
      rw [nI_add]
      exact ih I2 s (by omega) f2' (by omega) he'
theorem lp_lk37 {nl : Nat} {ln : Ln} (ok : HOK h) (W : wfC cd nL 0 0) (C : LY I h nL cd n N nl ln) (BR : bkR nl ln bk) (hw : w ≤ 1) : ∀ q p I' s u5, p + q = n → Fr [(450, 0), (451, 0), (535, 0)] I I' → s.1 ≤ 30 * p → accF (fun p s => accF (lkS h nL cd n N bk p) 30 1 s) q p s = lkR h nL cd n N bk → Rt L X (c_X12_leaks_37 (d + 7) L X I' J (nI w) (nI s.1) s.2 (nI p) u5) (some (.int (if w = 0 then nI (lkR h nL cd n N bk).1 else (lkR h nL cd n N bk).2))) (fun I'' J' => Fr [(450, 0), (451, 0), (535, 0)] I I'' ∧ J' = J)
  | 0, p, I', s, u5, hp, hf, hs, he => by
    have C' := LY_fr C ok hf fL1 fL2 (by decide) (by decide)
    obtain ⟨S, e, R, B⟩ := C'
    have hn := R.1.1
    rw [← e] at R
    have a1 : s = lkR h nL cd n N bk := he
    (first | refine rt_eq (q_X12_leaks_0) ?_ | refine rt_eq (q_X12_leaks_12) ?_ | refine rt_eq (q_X12_leaks_20) ?_ | refine rt_eq (q_X12_leaks_25) ?_ | refine rt_eq (q_X12_leaks_37) ?_ | refine rt_eq (q_X12_leaks_46) ?_ | refine rt_eq (q_X12_leaks_52) ?_ | refine rt_eq (q_X12_leaks_67) ?_ | refine rt_eq (q_X12_leaks_89) ?_ | refine rt_eq (q_X12_leaks_93) ?_)
    refine rt_bne (sp_manyIn ka_533 R) ?_
    (first | refine rt_eq (q_X12_leaks_0) ?_ | refine rt_eq (q_X12_leaks_12) ?_ | refine rt_eq (q_X12_leaks_20) ?_ | refine rt_eq (q_X12_leaks_25) ?_ | refine rt_eq (q_X12_leaks_37) ?_ | refine rt_eq (q_X12_leaks_46) ?_ | refine rt_eq (q_X12_leaks_52) ?_ | refine rt_eq (q_X12_leaks_67) ?_ | refine rt_eq (q_X12_leaks_89) ?_ | refine rt_eq (q_X12_leaks_93) ?_)
    refine rt_t (by (try simp (disch := omega) only [nI_leI, nI_ltI, nI_eq, nI_add, pk_mul, n_0add, Nat.zero_add, nI_clamp]) <;> omega) ?_
    have : w = 0 ∨ w = 1 := by omega
    rcases this with rfl | rfl
    · refine rt_t rfl ?_
      exact rt_v (rt_ret ⟨hf, rfl⟩) (by rw [if_pos rfl, a1])
    · refine rt_f (by decide) ?_
      exact rt_v (rt_ret ⟨hf, rfl⟩) (by rw [if_neg (by decide), a1])
  | q + 1, p, I', s, u5, hp, hf, hs, he => by
    have ih := lp_lk37 ok W C BR hw q (p + 1)
    have C' := LY_fr C ok hf fL1 fL2 (by decide) (by decide)
    have C2 := C'
    obtain ⟨S, e, R, B⟩ := C2
    have hn := R.1.1
    rw [← e] at R
    (first | refine rt_eq (q_X12_leaks_0) ?_ | refine rt_eq (q_X12_leaks_12) ?_ | refine rt_eq (q_X12_leaks_20) ?_ | refine rt_eq (q_X12_leaks_25) ?_ | refine rt_eq (q_X12_leaks_37) ?_ | refine rt_eq (q_X12_leaks_46) ?_ | refine rt_eq (q_X12_leaks_52) ?_ | refine rt_eq (q_X12_leaks_67) ?_ | refine rt_eq (q_X12_leaks_89) ?_ | refine rt_eq (q_X12_leaks_93) ?_)
    refine rt_bne (sp_manyIn ka_533 R) ?_
    (first | refine rt_eq (q_X12_leaks_0) ?_ | refine rt_eq (q_X12_leaks_12) ?_ | refine rt_eq (q_X12_leaks_20) ?_ | refine rt_eq (q_X12_leaks_25) ?_ | refine rt_eq (q_X12_leaks_37) ?_ | refine rt_eq (q_X12_leaks_46) ?_ | refine rt_eq (q_X12_leaks_52) ?_ | refine rt_eq (q_X12_leaks_67) ?_ | refine rt_eq (q_X12_leaks_89) ?_ | refine rt_eq (q_X12_leaks_93) ?_)
    refine rt_f (by (try simp (disch := omega) only [nI_leI, nI_ltI, nI_eq, nI_add, pk_mul, n_0add, Nat.zero_add, nI_clamp]) <;> omega) ?_
    have hb := lk_bnd (h := h) (nL := nL) (cd := cd) (n := n) (N := N) (bk := bk) (p := p) 30 1 s
    refine lp_lk52 (sf := accF (lkS h nL cd n N bk p) 30 1 s) ok W C' BR (fun I2 x5 f2 => ?_) 30 1 I' s (by omega) fr_rfl (by omega) rfl
    exact ih I2 _ x5 (by omega) (fr_tr hf f2) (by omega) he
theorem dqb : dj fQM sbk = true := by decide +kernel
theorem m_leaks {nl : Nat} {ln : Ln} (V : MS I h nL cd n N) (B : bkM I nl ln) (BR : bkR nl ln bk) (hw : w ≤ 1) : Rt L X (runM (d + 8) nX12_leaks [.ref 72, .int (nI w)] (mm L X I J)) (some (.int (if w = 0 then nI (lkR h nL cd n N bk).1 else (lkR h nL cd n N bk).2))) (fun I' J' => (Fr fQM I I' ∧ I' 72 0 = nI 0) ∧ J' = J) := by
  rw [e_X12_leaks]
  (first | refine rt_eq (q_X12_leaks_0) ?_ | refine rt_eq (q_X12_leaks_12) ?_ | refine rt_eq (q_X12_leaks_20) ?_ | refine rt_eq (q_X12_leaks_25) ?_ | refine rt_eq (q_X12_leaks_37) ?_ | refine rt_eq (q_X12_leaks_46) ?_ | refine rt_eq (q_X12_leaks_52) ?_ | refine rt_eq (q_X12_leaks_67) ?_ | refine rt_eq (q_X12_leaks_89) ?_ | refine rt_eq (q_X12_leaks_93) ?_)
  have V0 := MS0 V; generalize hI0 : up2 I 72 0 (nI 0) = I0 at V0 ⊢; have f0 : Fr fQM I I0 := by rw [← hI0]; exact fr_up fr_rfl rfl
  have t0 : I0 72 0 = nI 0 := by rw [← hI0, up2_s]
  clear hI0
  obtain ⟨ok, W, S, e, R, Z⟩ := V0
  refine rt_bne (in_t (by (try simp (disch := omega) only [nI_leI, nI_ltI, nI_eq, nI_add, pk_mul, n_0add, Nat.zero_add, nI_clamp]) <;> omega) (by (try simp (disch := omega) only [nI_leI, nI_ltI, nI_eq, nI_add, pk_mul, n_0add, Nat.zero_add, nI_clamp]) <;> omega)) ?_
  (first | refine rt_eq (q_X12_leaks_0) ?_ | refine rt_eq (q_X12_leaks_12) ?_ | refine rt_eq (q_X12_leaks_20) ?_ | refine rt_eq (q_X12_leaks_25) ?_ | refine rt_eq (q_X12_leaks_37) ?_ | refine rt_eq (q_X12_leaks_46) ?_ | refine rt_eq (q_X12_leaks_52) ?_ | refine rt_eq (q_X12_leaks_67) ?_ | refine rt_eq (q_X12_leaks_89) ?_ | refine rt_eq (q_X12_leaks_93) ?_)
  repeat (first | refine rt_t (by decide) ?_ | refine rt_f (by decide) ?_)
  (first | refine rt_eq (q_X12_leaks_0) ?_ | refine rt_eq (q_X12_leaks_12) ?_ | refine rt_eq (q_X12_leaks_20) ?_ | refine rt_eq (q_X12_leaks_25) ?_ | refine rt_eq (q_X12_leaks_37) ?_ | refine rt_eq (q_X12_leaks_46) ?_ | refine rt_eq (q_X12_leaks_52) ?_ | refine rt_eq (q_X12_leaks_67) ?_ | refine rt_eq (q_X12_leaks_89) ?_ | refine rt_eq (q_X12_leaks_93) ?_)
  refine rt_be (bad_f t0) ?_
  (first | refine rt_eq (q_X12_leaks_0) ?_ | refine rt_eq (q_X12_leaks_12) ?_ | refine rt_eq (q_X12_leaks_20) ?_ | refine rt_eq (q_X12_leaks_25) ?_ | refine rt_eq (q_X12_leaks_37) ?_ | refine rt_eq (q_X12_leaks_46) ?_ | refine rt_eq (q_X12_leaks_52) ?_ | refine rt_eq (q_X12_leaks_67) ?_ | refine rt_eq (q_X12_leaks_89) ?_ | refine rt_eq (q_X12_leaks_93) ?_)
  repeat (first | refine rt_t (by decide) ?_ | refine rt_f (by decide) ?_)
  refine rt_mono (lp_lk37 ok W ⟨S, e, R, bkM_fr B (ag_of f0 dqb)⟩ BR hw n 0 I0 (0, -1) _ (by omega) fr_rfl (by omega) rfl) ?_
  rintro I1 J1 ⟨f1, rfl⟩
  exact ⟨⟨fr_tr f0 (fr_mono f1 fm_W), (f1 72 0 rfl).trans t0⟩, rfl⟩
theorem x_leaks (hx : ¬ ∃ p, p ≤ 1 ∧ x = nI p) : runM (d + 2) nX11_leaks [.ref 0, .int x] (mm L X I J) = some (.inr 1, mm L (X + 1) (ex1 I) J) := by
  rw [e_X11_leaks]
  (first | refine Eq.trans (q_X11_leaks_0) ?_ | refine Eq.trans (q_X11_leaks_7) ?_ | refine Eq.trans (q_X11_leaks_10) ?_ | refine Eq.trans (q_X11_leaks_25) ?_)
  refine (bndN_e (wi_f (fun q => hx ((in_M (by decide)).mp q)))).trans ?_
  (first | refine Eq.trans (q_X11_leaks_0) ?_ | refine Eq.trans (q_X11_leaks_7) ?_ | refine Eq.trans (q_X11_leaks_10) ?_ | refine Eq.trans (q_X11_leaks_25) ?_)
  exact bnd_x ex_f
theorem b_leaks (hx : ¬ ∃ p, p ≤ 1 ∧ x = nI p) : runM (d + 2) nX12_leaks [.ref 72, .int x] (mm L X I J) = rI (nI 0) (mm L X (bdM I 1 1) J) := by
  rw [e_X12_leaks]
  (first | refine Eq.trans (q_X12_leaks_0) ?_ | refine Eq.trans (q_X12_leaks_12) ?_ | refine Eq.trans (q_X12_leaks_20) ?_ | refine Eq.trans (q_X12_leaks_25) ?_ | refine Eq.trans (q_X12_leaks_37) ?_ | refine Eq.trans (q_X12_leaks_46) ?_ | refine Eq.trans (q_X12_leaks_52) ?_ | refine Eq.trans (q_X12_leaks_67) ?_ | refine Eq.trans (q_X12_leaks_89) ?_ | refine Eq.trans (q_X12_leaks_93) ?_)
  refine (bndN_e (in_f (fun q => hx ((in_M (by decide)).mp q)))).trans ?_
  (first | refine Eq.trans (q_X12_leaks_0) ?_ | refine Eq.trans (q_X12_leaks_12) ?_ | refine Eq.trans (q_X12_leaks_20) ?_ | refine Eq.trans (q_X12_leaks_25) ?_ | refine Eq.trans (q_X12_leaks_37) ?_ | refine Eq.trans (q_X12_leaks_46) ?_ | refine Eq.trans (q_X12_leaks_52) ?_ | refine Eq.trans (q_X12_leaks_67) ?_ | refine Eq.trans (q_X12_leaks_89) ?_ | refine Eq.trans (q_X12_leaks_93) ?_)
  rw [if_pos rfl]
  (first | refine Eq.trans (q_X12_leaks_0) ?_ | refine Eq.trans (q_X12_leaks_12) ?_ | refine Eq.trans (q_X12_leaks_20) ?_ | refine Eq.trans (q_X12_leaks_25) ?_ | refine Eq.trans (q_X12_leaks_37) ?_ | refine Eq.trans (q_X12_leaks_46) ?_ | refine Eq.trans (q_X12_leaks_52) ?_ | refine Eq.trans (q_X12_leaks_67) ?_ | refine Eq.trans (q_X12_leaks_89) ?_ | refine Eq.trans (q_X12_leaks_93) ?_)
  refine (bnd_e (bad_t (by decide) (by decide) (by decide))).trans ?_
  (first | refine Eq.trans (q_X12_leaks_0) ?_ | refine Eq.trans (q_X12_leaks_12) ?_ | refine Eq.trans (q_X12_leaks_20) ?_ | refine Eq.trans (q_X12_leaks_25) ?_ | refine Eq.trans (q_X12_leaks_37) ?_ | refine Eq.trans (q_X12_leaks_46) ?_ | refine Eq.trans (q_X12_leaks_52) ?_ | refine Eq.trans (q_X12_leaks_67) ?_ | refine Eq.trans (q_X12_leaks_89) ?_ | refine Eq.trans (q_X12_leaks_93) ?_)
  rw [if_neg (by decide)]
theorem x_look (hx : ¬ ∃ p, p ≤ 1 ∧ x = nI p) : runM (d + 2) nX11_look [.ref 0, .int x] (mm L X I J) = some (.inr 1, mm L (X + 1) (ex1 I) J) := by
  rw [e_X11_look]
  (first | refine Eq.trans (q_X11_look_0) ?_ | refine Eq.trans (q_X11_look_7) ?_ | refine Eq.trans (q_X11_look_10) ?_ | refine Eq.trans (q_X11_look_25) ?_)
  refine (bndN_e (wi_f (fun q => hx ((in_M (by decide)).mp q)))).trans ?_
  (first | refine Eq.trans (q_X11_look_0) ?_ | refine Eq.trans (q_X11_look_7) ?_ | refine Eq.trans (q_X11_look_10) ?_ | refine Eq.trans (q_X11_look_25) ?_)
  exact bnd_x ex_f
theorem b_look (hx : ¬ ∃ p, p ≤ 1 ∧ x = nI p) : runM (d + 2) nX12_look [.ref 72, .int x] (mm L X I J) = rI (nI 0) (mm L X (bdM I 1 1) J) := by
  rw [e_X12_look]
  (first | refine Eq.trans (q_X12_look_0) ?_ | refine Eq.trans (q_X12_look_12) ?_ | refine Eq.trans (q_X12_look_20) ?_ | refine Eq.trans (q_X12_look_25) ?_ | refine Eq.trans (q_X12_look_37) ?_ | refine Eq.trans (q_X12_look_46) ?_ | refine Eq.trans (q_X12_look_89) ?_ | refine Eq.trans (q_X12_look_56) ?_ | refine Eq.trans (q_X12_look_165) ?_ | refine Eq.trans (q_X12_look_98) ?_ | refine Eq.trans (q_X12_look_177) ?_ | refine Eq.trans (q_X12_look_113) ?_ | refine Eq.trans (q_X12_look_189) ?_ | refine Eq.trans (q_X12_look_241) ?_ | refine Eq.trans (q_X12_look_150) ?_ | refine Eq.trans (q_X12_look_119) ?_ | refine Eq.trans (q_X12_look_234) ?_ | refine Eq.trans (q_X12_look_211) ?_)
  refine (bndN_e (in_f (fun q => hx ((in_M (by decide)).mp q)))).trans ?_
  (first | refine Eq.trans (q_X12_look_0) ?_ | refine Eq.trans (q_X12_look_12) ?_ | refine Eq.trans (q_X12_look_20) ?_ | refine Eq.trans (q_X12_look_25) ?_ | refine Eq.trans (q_X12_look_37) ?_ | refine Eq.trans (q_X12_look_46) ?_ | refine Eq.trans (q_X12_look_89) ?_ | refine Eq.trans (q_X12_look_56) ?_ | refine Eq.trans (q_X12_look_165) ?_ | refine Eq.trans (q_X12_look_98) ?_ | refine Eq.trans (q_X12_look_177) ?_ | refine Eq.trans (q_X12_look_113) ?_ | refine Eq.trans (q_X12_look_189) ?_ | refine Eq.trans (q_X12_look_241) ?_ | refine Eq.trans (q_X12_look_150) ?_ | refine Eq.trans (q_X12_look_119) ?_ | refine Eq.trans (q_X12_look_234) ?_ | refine Eq.trans (q_X12_look_211) ?_)
  rw [if_pos rfl]
  (first | refine Eq.trans (q_X12_look_0) ?_ | refine Eq.trans (q_X12_look_12) ?_ | refine Eq.trans (q_X12_look_20) ?_ | refine Eq.trans (q_X12_look_25) ?_ | refine Eq.trans (q_X12_look_37) ?_ | refine Eq.trans (q_X12_look_46) ?_ | refine Eq.trans (q_X12_look_89) ?_ | refine Eq.trans (q_X12_look_56) ?_ | refine Eq.trans (q_X12_look_165) ?_ | refine Eq.trans (q_X12_look_98) ?_ | refine Eq.trans (q_X12_look_177) ?_ | refine Eq.trans (q_X12_look_113) ?_ | refine Eq.trans (q_X12_look_189) ?_ | refine Eq.trans (q_X12_look_241) ?_ | refine Eq.trans (q_X12_look_150) ?_ | refine Eq.trans (q_X12_look_119) ?_ | refine Eq.trans (q_X12_look_234) ?_ | refine Eq.trans (q_X12_look_211) ?_)
  refine (bnd_e (bad_t (by decide) (by decide) (by decide))).trans ?_
  (first | refine Eq.trans (q_X12_look_0) ?_ | refine Eq.trans (q_X12_look_12) ?_ | refine Eq.trans (q_X12_look_20) ?_ | refine Eq.trans (q_X12_look_25) ?_ | refine Eq.trans (q_X12_look_37) ?_ | refine Eq.trans (q_X12_look_46) ?_ | refine Eq.trans (q_X12_look_89) ?_ | refine Eq.trans (q_X12_look_56) ?_ | refine Eq.trans (q_X12_look_165) ?_ | refine Eq.trans (q_X12_look_98) ?_ | refine Eq.trans (q_X12_look_177) ?_ | refine Eq.trans (q_X12_look_113) ?_ | refine Eq.trans (q_X12_look_189) ?_ | refine Eq.trans (q_X12_look_241) ?_ | refine Eq.trans (q_X12_look_150) ?_ | refine Eq.trans (q_X12_look_119) ?_ | refine Eq.trans (q_X12_look_234) ?_ | refine Eq.trans (q_X12_look_211) ?_)
  rw [if_neg (by decide)]
/-- what asking may change in the class, with the water's own words -/
def fQ2 : Fls := fQC ++ [(52, 6), (52, 7), (54, 0), (55, 0)]
theorem LX_of (V : CS I h nL cd n N) (B : bkC I bk) : LX I h nL cd n N bk := ⟨V.2.2.1.1, V.2.2.1.2.1, V.2.2.2.1, V.2.2.1.2.2.2.1, V.2.2.1.2.2.2.2, B⟩
theorem c_leaks (V : CS I h nL cd n N) (B : bkC I bk) (hw : w ≤ 1) : Rt L X (runM (d + 6) nX11_leaks [.ref 0, .int (nI w)] (mm L X I J)) (some (.int (if w = 0 then nI (lkR h nL cd n N bk).1 else (lkR h nL cd n N bk).2))) (fun I' _ => Fr fQ2 I I' ∧ Calm I') := by
  have C := LX_of V B
  obtain ⟨ok, W, ⟨K, LC, Q⟩, -, R, Z⟩ := V
  rw [e_X11_leaks]
  (first | refine rt_eq (q_X11_leaks_0) ?_ | refine rt_eq (q_X11_leaks_7) ?_ | refine rt_eq (q_X11_leaks_10) ?_ | refine rt_eq (q_X11_leaks_25) ?_)
  refine rt_bne (wi_t (by (try simp (disch := omega) only [nI_leI, nI_ltI, nI_eq, nI_add, pk_mul, n_0add, Nat.zero_add, nI_clamp]) <;> omega) (by (try simp (disch := omega) only [nI_leI, nI_ltI, nI_eq, nI_add, pk_mul, n_0add, Nat.zero_add, nI_clamp]) <;> omega)) ?_
  (first | refine rt_eq (q_X11_leaks_0) ?_ | refine rt_eq (q_X11_leaks_7) ?_ | refine rt_eq (q_X11_leaks_10) ?_ | refine rt_eq (q_X11_leaks_25) ?_)
  refine rt_be ex_t ?_
  (first | refine rt_eq (q_X11_leaks_0) ?_ | refine rt_eq (q_X11_leaks_7) ?_ | refine rt_eq (q_X11_leaks_10) ?_ | refine rt_eq (q_X11_leaks_25) ?_)
  refine rt_bnd (sp_findLeaks ok W R Z.2.2.2.2 C) ?_
  rintro I1 J1 ⟨⟨f1, e1, e3, e4, -⟩, rfl⟩
  have C1 := LX_f C f1
  have cl : Calm I1 := ⟨e1, C1.2.2.2.1, C1.2.2.2.2.1⟩
  (first | refine rt_eq (q_X11_leaks_0) ?_ | refine rt_eq (q_X11_leaks_7) ?_ | refine rt_eq (q_X11_leaks_10) ?_ | refine rt_eq (q_X11_leaks_25) ?_)
  have : w = 0 ∨ w = 1 := by omega
  rcases this with rfl | rfl
  · refine rt_t rfl ?_
    exact rt_v (rt_ret ⟨fr_mono f1 (by decide +kernel), cl⟩) (by rw [if_pos rfl, e3])
  · refine rt_f (by decide) ?_
    exact rt_v (rt_ret ⟨fr_mono f1 (by decide +kernel), cl⟩) (by rw [if_neg (by decide), e4])
theorem c_look (V : CS I h nL cd n N) (B : bkC I bk) (hw : w ≤ 1) : Rt L X (runM (d + 7) nX11_look [.ref 0, .int (nI w)] (mm L X I J)) (some (.int (loV (loR h nL cd n N bk) w))) (fun I' _ => Fr fQ2 I I' ∧ Calm I') := by
  have C := LX_of V B
  obtain ⟨ok, W, ⟨K, LC, Q⟩, -, R, Z⟩ := V
  rw [e_X11_look]
  (first | refine rt_eq (q_X11_look_0) ?_ | refine rt_eq (q_X11_look_7) ?_ | refine rt_eq (q_X11_look_10) ?_ | refine rt_eq (q_X11_look_25) ?_)
  refine rt_bne (wi_t (by (try simp (disch := omega) only [nI_leI, nI_ltI, nI_eq, nI_add, pk_mul, n_0add, Nat.zero_add, nI_clamp]) <;> omega) (by (try simp (disch := omega) only [nI_leI, nI_ltI, nI_eq, nI_add, pk_mul, n_0add, Nat.zero_add, nI_clamp]) <;> omega)) ?_
  (first | refine rt_eq (q_X11_look_0) ?_ | refine rt_eq (q_X11_look_7) ?_ | refine rt_eq (q_X11_look_10) ?_ | refine rt_eq (q_X11_look_25) ?_)
  refine rt_be ex_t ?_
  (first | refine rt_eq (q_X11_look_0) ?_ | refine rt_eq (q_X11_look_7) ?_ | refine rt_eq (q_X11_look_10) ?_ | refine rt_eq (q_X11_look_25) ?_)
  refine rt_bnd (sp_findLook ok W R Z.2.2.2.2 C) ?_
  rintro I1 J1 ⟨⟨f1, e1, e3, e4⟩, rfl⟩
  have C1 := LX_fr C f1
  have cl : Calm I1 := ⟨e1, C1.2.2.2.1, C1.2.2.2.2.1⟩
  (first | refine rt_eq (q_X11_look_0) ?_ | refine rt_eq (q_X11_look_7) ?_ | refine rt_eq (q_X11_look_10) ?_ | refine rt_eq (q_X11_look_25) ?_)
  have : w = 0 ∨ w = 1 := by omega
  rcases this with rfl | rfl
  · refine rt_t rfl ?_
    exact rt_v (rt_ret ⟨fr_mono f1 (by decide +kernel), cl⟩) e3
  · refine rt_f (by decide) ?_
    exact rt_v (rt_ret ⟨fr_mono f1 (by decide +kernel), cl⟩) e4
end LO
