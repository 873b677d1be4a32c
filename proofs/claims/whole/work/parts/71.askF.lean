/-! ASKED: chain, chained, joiner, wed, brief, briefly; street refused -/
section AF2
variable {d L X : Nat} {I : MI32} {J : MI64} {x x1 x2 x3 x4 : Int32} {p f w k : Nat} {h : Hs} {nL n : Nat} {cd : Cd} {N : Nt}
/-! chain -/
def chnA (h : Hs) (w : Nat) : Int32 := if w = 0 then nI (lg h (h 0 1) 0 none) else nI (chM h (h 0 1))
def chdA (h : Hs) (k : Nat) : Int32 := if k < chM h (h 0 1) then nI (chW h (h 0 1) (chK h (h 0 1) k)) else -1
theorem c_chain (V : CS I h nL cd n N) (hw : w ≤ 1) (hk : I 56 4 = nI 0 ∨ (I 56 4 = nI 1 ∧ chC I h (h 0 1))) : Rt L X (runM (d + 7) nX11_chain [.ref 0, .int (nI w)] (mm L X I J)) (some (.int (chnA h w))) (fun I' J' => (Fr fCh I I' ∧ I' 56 4 = nI 1 ∧ chC I' h (h 0 1)) ∧ J' = J) := by
  obtain ⟨ok, W, ⟨K, LC, Q⟩, C, R, Z⟩ := V
  rw [e_X11_chain]
  (first | refine rt_eq (q_X11_chain_0) ?_ | refine rt_eq (q_X11_chain_7) ?_ | refine rt_eq (q_X11_chain_10) ?_ | refine rt_eq (q_X11_chain_17) ?_)
  refine rt_bne (wi_t (by (try simp (disch := omega) only [nI_leI, nI_ltI, nI_eq, nI_add, pk_mul, n_0add, Nat.zero_add, nI_clamp]) <;> omega) (by (try simp (disch := omega) only [nI_leI, nI_ltI, nI_eq, nI_add, pk_mul, n_0add, Nat.zero_add, nI_clamp]) <;> omega)) ?_
  (first | refine rt_eq (q_X11_chain_0) ?_ | refine rt_eq (q_X11_chain_7) ?_ | refine rt_eq (q_X11_chain_10) ?_ | refine rt_eq (q_X11_chain_17) ?_)
  refine rt_be ex_t ?_
  (first | refine rt_eq (q_X11_chain_0) ?_ | refine rt_eq (q_X11_chain_7) ?_ | refine rt_eq (q_X11_chain_10) ?_ | refine rt_eq (q_X11_chain_17) ?_)
  refine rt_bnd (sp_findChain K ok hk) ?_
  rintro I1 J1 ⟨⟨f1, e1, c1⟩, rfl⟩
  (first | refine rt_eq (q_X11_chain_0) ?_ | refine rt_eq (q_X11_chain_7) ?_ | refine rt_eq (q_X11_chain_10) ?_ | refine rt_eq (q_X11_chain_17) ?_)
  unfold chnA
  have : w = 0 ∨ w = 1 := by omega
  rcases this with rfl | rfl
  · refine rt_t rfl ?_
    exact rt_v (rt_ret ⟨⟨f1, e1, c1⟩, rfl⟩) (by rw [if_pos rfl]; exact c1.1)
  · refine rt_f (by decide) ?_
    exact rt_v (rt_ret ⟨⟨f1, e1, c1⟩, rfl⟩) (by rw [if_neg (by decide)]; exact c1.2.1)
theorem x_chain (hx : ¬ ∃ p, p ≤ 1 ∧ x = nI p) : runM (d + 2) nX11_chain [.ref 0, .int x] (mm L X I J) = some (.inr 1, mm L (X + 1) (ex1 I) J) := by
  rw [e_X11_chain]
  (first | refine Eq.trans (q_X11_chain_0) ?_ | refine Eq.trans (q_X11_chain_7) ?_ | refine Eq.trans (q_X11_chain_10) ?_ | refine Eq.trans (q_X11_chain_17) ?_)
  refine (bndN_e (wi_f (fun q => hx ((in_M (by decide)).mp q)))).trans ?_
  (first | refine Eq.trans (q_X11_chain_0) ?_ | refine Eq.trans (q_X11_chain_7) ?_ | refine Eq.trans (q_X11_chain_10) ?_ | refine Eq.trans (q_X11_chain_17) ?_)
  exact bnd_x ex_f
theorem m_chain (V : MS I h nL cd n N) (hw : w ≤ 1) : Rt L X (runM (d + 5) nX12_chain [.ref 72, .int (nI w)] (mm L X I J)) (some (.int (chnA h w))) (fun I' J' => (Fr fQM I I' ∧ I' 72 0 = nI 0) ∧ J' = J) := by
  rw [e_X12_chain]
  (first | refine rt_eq (q_X12_chain_0) ?_ | refine rt_eq (q_X12_chain_12) ?_ | refine rt_eq (q_X12_chain_20) ?_ | refine rt_eq (q_X12_chain_25) ?_ | refine rt_eq (q_X12_chain_34) ?_)
  have V0 := MS0 V; generalize hI0 : up2 I 72 0 (nI 0) = I0 at V0 ⊢; have f0 : Fr fQM I I0 := by rw [← hI0]; exact fr_up fr_rfl rfl
  have t0 : I0 72 0 = nI 0 := by rw [← hI0, up2_s]
  clear hI0
  obtain ⟨ok, W, S, e, R, Z⟩ := V0
  refine rt_bne (in_t (by (try simp (disch := omega) only [nI_leI, nI_ltI, nI_eq, nI_add, pk_mul, n_0add, Nat.zero_add, nI_clamp]) <;> omega) (by (try simp (disch := omega) only [nI_leI, nI_ltI, nI_eq, nI_add, pk_mul, n_0add, Nat.zero_add, nI_clamp]) <;> omega)) ?_
  (first | refine rt_eq (q_X12_chain_0) ?_ | refine rt_eq (q_X12_chain_12) ?_ | refine rt_eq (q_X12_chain_20) ?_ | refine rt_eq (q_X12_chain_25) ?_ | refine rt_eq (q_X12_chain_34) ?_)
  repeat (first | refine rt_t (by decide) ?_ | refine rt_f (by decide) ?_)
  (first | refine rt_eq (q_X12_chain_0) ?_ | refine rt_eq (q_X12_chain_12) ?_ | refine rt_eq (q_X12_chain_20) ?_ | refine rt_eq (q_X12_chain_25) ?_ | refine rt_eq (q_X12_chain_34) ?_)
  refine rt_be (bad_f t0) ?_
  (first | refine rt_eq (q_X12_chain_0) ?_ | refine rt_eq (q_X12_chain_12) ?_ | refine rt_eq (q_X12_chain_20) ?_ | refine rt_eq (q_X12_chain_25) ?_ | refine rt_eq (q_X12_chain_34) ?_)
  repeat (first | refine rt_t (by decide) ?_ | refine rt_f (by decide) ?_)
  refine rt_bnd (sp_chains S.1 ok) ?_
  rintro I1 J1 ⟨⟨f1, c1⟩, rfl⟩
  have post : (Fr fQM I I1 ∧ I1 72 0 = nI 0) ∧ J1 = J1 := ⟨⟨fr_tr f0 (fr_mono f1 (by decide +kernel)), (f1 72 0 (by decide +kernel)).trans t0⟩, rfl⟩
  (first | refine rt_eq (q_X12_chain_0) ?_ | refine rt_eq (q_X12_chain_12) ?_ | refine rt_eq (q_X12_chain_20) ?_ | refine rt_eq (q_X12_chain_25) ?_ | refine rt_eq (q_X12_chain_34) ?_)
  unfold chnA
  have : w = 0 ∨ w = 1 := by omega
  rcases this with rfl | rfl
  · refine rt_t rfl ?_
    exact rt_v (rt_ret post) (by rw [if_pos rfl]; exact c1.1)
  · refine rt_f (by decide) ?_
    exact rt_v (rt_ret post) (by rw [if_neg (by decide)]; exact c1.2.1)
theorem b_chain (hx : ¬ ∃ p, p ≤ 1 ∧ x = nI p) : runM (d + 2) nX12_chain [.ref 72, .int x] (mm L X I J) = rI (nI 0) (mm L X (bdM I 1 1) J) := by
  rw [e_X12_chain]
  (first | refine Eq.trans (q_X12_chain_0) ?_ | refine Eq.trans (q_X12_chain_12) ?_ | refine Eq.trans (q_X12_chain_20) ?_ | refine Eq.trans (q_X12_chain_25) ?_ | refine Eq.trans (q_X12_chain_34) ?_)
  refine (bndN_e (in_f (fun q => hx ((in_M (by decide)).mp q)))).trans ?_
  (first | refine Eq.trans (q_X12_chain_0) ?_ | refine Eq.trans (q_X12_chain_12) ?_ | refine Eq.trans (q_X12_chain_20) ?_ | refine Eq.trans (q_X12_chain_25) ?_ | refine Eq.trans (q_X12_chain_34) ?_)
  rw [if_pos rfl]
  (first | refine Eq.trans (q_X12_chain_0) ?_ | refine Eq.trans (q_X12_chain_12) ?_ | refine Eq.trans (q_X12_chain_20) ?_ | refine Eq.trans (q_X12_chain_25) ?_ | refine Eq.trans (q_X12_chain_34) ?_)
  refine (bnd_e (bad_t (by decide) (by decide) (by decide))).trans ?_
  (first | refine Eq.trans (q_X12_chain_0) ?_ | refine Eq.trans (q_X12_chain_12) ?_ | refine Eq.trans (q_X12_chain_20) ?_ | refine Eq.trans (q_X12_chain_25) ?_ | refine Eq.trans (q_X12_chain_34) ?_)
  rw [if_neg (by decide)]
theorem c_chained (V : CS I h nL cd n N) (hk0 : k < 2 ^ 31) (hk : I 56 4 = nI 0 ∨ (I 56 4 = nI 1 ∧ chC I h (h 0 1))) : Rt L X (runM (d + 7) nX11_chained [.ref 0, .int (nI k)] (mm L X I J)) (some (.int (chdA h k))) (fun I' J' => (Fr fCh I I' ∧ I' 56 4 = nI 1 ∧ chC I' h (h 0 1)) ∧ J' = J) := by
  obtain ⟨ok, W, ⟨K, LC, Q⟩, C, R, Z⟩ := V
  have h6 := ok.1
  have hm := (chM_ok (m := h 0 1) ok).1
  rw [e_X11_chained]
  (first | refine rt_eq (q_X11_chained_0) ?_ | refine rt_eq (q_X11_chained_10) ?_ | refine rt_eq (q_X11_chained_13) ?_ | refine rt_eq (q_X11_chained_20) ?_ | refine rt_eq (q_X11_chained_42) ?_)
  refine rt_f (nI_pos hk0) ?_
  (first | refine rt_eq (q_X11_chained_0) ?_ | refine rt_eq (q_X11_chained_10) ?_ | refine rt_eq (q_X11_chained_13) ?_ | refine rt_eq (q_X11_chained_20) ?_ | refine rt_eq (q_X11_chained_42) ?_)
  refine rt_be ex_t ?_
  (first | refine rt_eq (q_X11_chained_0) ?_ | refine rt_eq (q_X11_chained_10) ?_ | refine rt_eq (q_X11_chained_13) ?_ | refine rt_eq (q_X11_chained_20) ?_ | refine rt_eq (q_X11_chained_42) ?_)
  refine rt_bnd (sp_findChain K ok hk) ?_
  rintro I1 J1 ⟨⟨f1, e1, c1⟩, rfl⟩
  (first | refine rt_eq (q_X11_chained_0) ?_ | refine rt_eq (q_X11_chained_10) ?_ | refine rt_eq (q_X11_chained_13) ?_ | refine rt_eq (q_X11_chained_20) ?_ | refine rt_eq (q_X11_chained_42) ?_)
  rw [c1.2.1]
  unfold chdA
  by_cases z : k < chM h (h 0 1)
  · refine rt_f (by (try simp (disch := omega) only [nI_leI, nI_ltI, nI_eq, nI_add, pk_mul, n_0add, Nat.zero_add, nI_clamp]) <;> omega) ?_
    refine rt_bne (sp_pick ka_59 (by decide)) ?_
    (first | refine rt_eq (q_X11_chained_0) ?_ | refine rt_eq (q_X11_chained_10) ?_ | refine rt_eq (q_X11_chained_13) ?_ | refine rt_eq (q_X11_chained_20) ?_ | refine rt_eq (q_X11_chained_42) ?_)
    exact rt_v (rt_ret ⟨⟨f1, e1, c1⟩, rfl⟩) (by rw [pk_n (by omega) (by decide), if_pos z]; exact c1.2.2 k z)
  · refine rt_t (by (try simp (disch := omega) only [nI_leI, nI_ltI, nI_eq, nI_add, pk_mul, n_0add, Nat.zero_add, nI_clamp]) <;> omega) ?_
    exact rt_v (rt_ret ⟨⟨f1, e1, c1⟩, rfl⟩) (by rw [if_neg z])
theorem x_chained (hx : x < nI 0) : runM (d + 2) nX11_chained [.ref 0, .int x] (mm L X I J) = some (.inr 1, mm L (X + 1) (ex1 I) J) := by
  rw [e_X11_chained]
  (first | refine Eq.trans (q_X11_chained_0) ?_ | refine Eq.trans (q_X11_chained_10) ?_ | refine Eq.trans (q_X11_chained_13) ?_ | refine Eq.trans (q_X11_chained_20) ?_ | refine Eq.trans (q_X11_chained_42) ?_)
  rw [if_pos hx]
  (first | refine Eq.trans (q_X11_chained_0) ?_ | refine Eq.trans (q_X11_chained_10) ?_ | refine Eq.trans (q_X11_chained_13) ?_ | refine Eq.trans (q_X11_chained_20) ?_ | refine Eq.trans (q_X11_chained_42) ?_)
  exact bnd_x ex_f
theorem m_chained (V : MS I h nL cd n N) (hk0 : k < 2 ^ 31) : Rt L X (runM (d + 5) nX12_chained [.ref 72, .int (nI k)] (mm L X I J)) (some (.int (chdA h k))) (fun I' J' => (Fr fQM I I' ∧ I' 72 0 = nI 0) ∧ J' = J) := by
  rw [e_X12_chained]
  (first | refine rt_eq (q_X12_chained_0) ?_ | refine rt_eq (q_X12_chained_15) ?_ | refine rt_eq (q_X12_chained_20) ?_ | refine rt_eq (q_X12_chained_29) ?_)
  have V0 := MS0 V; generalize hI0 : up2 I 72 0 (nI 0) = I0 at V0 ⊢; have f0 : Fr fQM I I0 := by rw [← hI0]; exact fr_up fr_rfl rfl
  have t0 : I0 72 0 = nI 0 := by rw [← hI0, up2_s]
  clear hI0
  obtain ⟨ok, W, S, e, R, Z⟩ := V0
  have h6 := ok.1
  have hm := (chM_ok (m := h 0 1) ok).1
  refine rt_t (by (try simp (disch := omega) only [nI_leI, nI_ltI, nI_eq, nI_add, pk_mul, n_0add, Nat.zero_add, nI_clamp]) <;> omega) ?_
  (first | refine rt_eq (q_X12_chained_0) ?_ | refine rt_eq (q_X12_chained_15) ?_ | refine rt_eq (q_X12_chained_20) ?_ | refine rt_eq (q_X12_chained_29) ?_)
  refine rt_be (bad_f t0) ?_
  (first | refine rt_eq (q_X12_chained_0) ?_ | refine rt_eq (q_X12_chained_15) ?_ | refine rt_eq (q_X12_chained_20) ?_ | refine rt_eq (q_X12_chained_29) ?_)
  repeat (first | refine rt_t (by decide) ?_ | refine rt_f (by decide) ?_)
  refine rt_bnd (sp_chains S.1 ok) ?_
  rintro I1 J1 ⟨⟨f1, c1⟩, rfl⟩
  have post : (Fr fQM I I1 ∧ I1 72 0 = nI 0) ∧ J1 = J1 := ⟨⟨fr_tr f0 (fr_mono f1 (by decide +kernel)), (f1 72 0 (by decide +kernel)).trans t0⟩, rfl⟩
  (first | refine rt_eq (q_X12_chained_0) ?_ | refine rt_eq (q_X12_chained_15) ?_ | refine rt_eq (q_X12_chained_20) ?_ | refine rt_eq (q_X12_chained_29) ?_)
  rw [c1.2.1]
  unfold chdA
  by_cases z : k < chM h (h 0 1)
  · refine rt_f (by (try simp (disch := omega) only [nI_leI, nI_ltI, nI_eq, nI_add, pk_mul, n_0add, Nat.zero_add, nI_clamp]) <;> omega) (rt_gd (inb_n (by omega) (by decide)) ?_)
    rw [nI_clamp hk0]
    exact rt_v (rt_ret post) (by rw [if_pos z]; exact c1.2.2 k z)
  · refine rt_t (by (try simp (disch := omega) only [nI_leI, nI_ltI, nI_eq, nI_add, pk_mul, n_0add, Nat.zero_add, nI_clamp]) <;> omega) ?_
    exact rt_v (rt_ret post) (by rw [if_neg z])
theorem b_chained (hx : x < nI 0) : runM (d + 2) nX12_chained [.ref 72, .int x] (mm L X I J) = rI (nI 0) (mm L X (bdM I 1 1) J) := by
  rw [e_X12_chained]
  (first | refine Eq.trans (q_X12_chained_0) ?_ | refine Eq.trans (q_X12_chained_15) ?_ | refine Eq.trans (q_X12_chained_20) ?_ | refine Eq.trans (q_X12_chained_29) ?_)
  rw [if_neg (Int32.not_le.mpr hx)]
  (first | refine Eq.trans (q_X12_chained_0) ?_ | refine Eq.trans (q_X12_chained_15) ?_ | refine Eq.trans (q_X12_chained_20) ?_ | refine Eq.trans (q_X12_chained_29) ?_)
  refine (bnd_e (bad_t (by decide) (by decide) (by decide))).trans ?_
  (first | refine Eq.trans (q_X12_chained_0) ?_ | refine Eq.trans (q_X12_chained_15) ?_ | refine Eq.trans (q_X12_chained_20) ?_ | refine Eq.trans (q_X12_chained_29) ?_)
  rw [if_neg (by decide)]
/-! joiner -/
def joiA (h : Hs) (w : Nat) : Int32 := if w = 0 then (joR h).1 else (joR h).2
theorem c_joiner (V : CS I h nL cd n N) (hw : w ≤ 1) (hk : I 56 8 = nI 0 ∨ (I 56 8 = nI 1 ∧ jcC I h)) : Rt L X (runM (d + 8) nX11_joiner [.ref 0, .int (nI w)] (mm L X I J)) (some (.int (joiA h w))) (fun I' J' => (Fr fFc I I' ∧ HC I' h (h 0 1) ∧ I' 56 8 = nI 1 ∧ jcC I' h) ∧ J' = J) := by
  obtain ⟨ok, W, ⟨K, LC, Q⟩, C, R, Z⟩ := V
  rw [e_X11_joiner]
  (first | refine rt_eq (q_X11_joiner_0) ?_ | refine rt_eq (q_X11_joiner_7) ?_ | refine rt_eq (q_X11_joiner_10) ?_ | refine rt_eq (q_X11_joiner_17) ?_)
  refine rt_bne (wi_t (by (try simp (disch := omega) only [nI_leI, nI_ltI, nI_eq, nI_add, pk_mul, n_0add, Nat.zero_add, nI_clamp]) <;> omega) (by (try simp (disch := omega) only [nI_leI, nI_ltI, nI_eq, nI_add, pk_mul, n_0add, Nat.zero_add, nI_clamp]) <;> omega)) ?_
  (first | refine rt_eq (q_X11_joiner_0) ?_ | refine rt_eq (q_X11_joiner_7) ?_ | refine rt_eq (q_X11_joiner_10) ?_ | refine rt_eq (q_X11_joiner_17) ?_)
  refine rt_be ex_t ?_
  (first | refine rt_eq (q_X11_joiner_0) ?_ | refine rt_eq (q_X11_joiner_7) ?_ | refine rt_eq (q_X11_joiner_10) ?_ | refine rt_eq (q_X11_joiner_17) ?_)
  refine rt_bnd (sp_findCollar K ok hk) ?_
  rintro I1 J1 ⟨⟨f1, k1, e1, c1⟩, rfl⟩
  (first | refine rt_eq (q_X11_joiner_0) ?_ | refine rt_eq (q_X11_joiner_7) ?_ | refine rt_eq (q_X11_joiner_10) ?_ | refine rt_eq (q_X11_joiner_17) ?_)
  have c1' : (I1 56 9, I1 56 10) = joR h := c1
  unfold joiA
  have : w = 0 ∨ w = 1 := by omega
  rcases this with rfl | rfl
  · refine rt_t rfl ?_
    exact rt_v (rt_ret ⟨⟨f1, k1, e1, c1⟩, rfl⟩) (by rw [if_pos rfl, ← c1'])
  · refine rt_f (by decide) ?_
    exact rt_v (rt_ret ⟨⟨f1, k1, e1, c1⟩, rfl⟩) (by rw [if_neg (by decide), ← c1'])
theorem x_joiner (hx : ¬ ∃ p, p ≤ 1 ∧ x = nI p) : runM (d + 2) nX11_joiner [.ref 0, .int x] (mm L X I J) = some (.inr 1, mm L (X + 1) (ex1 I) J) := by
  rw [e_X11_joiner]
  (first | refine Eq.trans (q_X11_joiner_0) ?_ | refine Eq.trans (q_X11_joiner_7) ?_ | refine Eq.trans (q_X11_joiner_10) ?_ | refine Eq.trans (q_X11_joiner_17) ?_)
  refine (bndN_e (wi_f (fun q => hx ((in_M (by decide)).mp q)))).trans ?_
  (first | refine Eq.trans (q_X11_joiner_0) ?_ | refine Eq.trans (q_X11_joiner_7) ?_ | refine Eq.trans (q_X11_joiner_10) ?_ | refine Eq.trans (q_X11_joiner_17) ?_)
  exact bnd_x ex_f
def fJ2 : Fls := fQM ++ [(72, 40)] ++ cells 97 5
theorem m_joiner (V : MS I h nL cd n N) (hw : w ≤ 1) : Rt L X (runM (d + 5) nX12_joiner [.ref 72, .int (nI w)] (mm L X I J)) (some (.int (joiA h w))) (fun I' J' => (Fr fJ2 I I' ∧ I' 72 0 = nI 0 ∧ HM I' h (h 0 1)) ∧ J' = J) := by
  rw [e_X12_joiner]
  (first | refine rt_eq (q_X12_joiner_0) ?_ | refine rt_eq (q_X12_joiner_12) ?_ | refine rt_eq (q_X12_joiner_20) ?_ | refine rt_eq (q_X12_joiner_25) ?_ | refine rt_eq (q_X12_joiner_37) ?_ | refine rt_eq (q_X12_joiner_50) ?_ | refine rt_eq (q_X12_joiner_65) ?_ | refine rt_eq (q_X12_joiner_111) ?_ | refine rt_eq (q_X12_joiner_146) ?_)
  have V0 := MS0 V; generalize hI0 : up2 I 72 0 (nI 0) = I0 at V0 ⊢; have f0 : Fr fQM I I0 := by rw [← hI0]; exact fr_up fr_rfl rfl
  have t0 : I0 72 0 = nI 0 := by rw [← hI0, up2_s]
  clear hI0
  obtain ⟨ok, W, S, e, R, Z⟩ := V0
  refine rt_bne (in_t (by (try simp (disch := omega) only [nI_leI, nI_ltI, nI_eq, nI_add, pk_mul, n_0add, Nat.zero_add, nI_clamp]) <;> omega) (by (try simp (disch := omega) only [nI_leI, nI_ltI, nI_eq, nI_add, pk_mul, n_0add, Nat.zero_add, nI_clamp]) <;> omega)) ?_
  (first | refine rt_eq (q_X12_joiner_0) ?_ | refine rt_eq (q_X12_joiner_12) ?_ | refine rt_eq (q_X12_joiner_20) ?_ | refine rt_eq (q_X12_joiner_25) ?_ | refine rt_eq (q_X12_joiner_37) ?_ | refine rt_eq (q_X12_joiner_50) ?_ | refine rt_eq (q_X12_joiner_65) ?_ | refine rt_eq (q_X12_joiner_111) ?_ | refine rt_eq (q_X12_joiner_146) ?_)
  repeat (first | refine rt_t (by decide) ?_ | refine rt_f (by decide) ?_)
  (first | refine rt_eq (q_X12_joiner_0) ?_ | refine rt_eq (q_X12_joiner_12) ?_ | refine rt_eq (q_X12_joiner_20) ?_ | refine rt_eq (q_X12_joiner_25) ?_ | refine rt_eq (q_X12_joiner_37) ?_ | refine rt_eq (q_X12_joiner_50) ?_ | refine rt_eq (q_X12_joiner_65) ?_ | refine rt_eq (q_X12_joiner_111) ?_ | refine rt_eq (q_X12_joiner_146) ?_)
  refine rt_be (bad_f t0) ?_
  (first | refine rt_eq (q_X12_joiner_0) ?_ | refine rt_eq (q_X12_joiner_12) ?_ | refine rt_eq (q_X12_joiner_20) ?_ | refine rt_eq (q_X12_joiner_25) ?_ | refine rt_eq (q_X12_joiner_37) ?_ | refine rt_eq (q_X12_joiner_50) ?_ | refine rt_eq (q_X12_joiner_65) ?_ | refine rt_eq (q_X12_joiner_111) ?_ | refine rt_eq (q_X12_joiner_146) ?_)
  repeat (first | refine rt_t (by decide) ?_ | refine rt_f (by decide) ?_)
  refine rt_mono (lp_jm37 (h := h) ok hw 10 0 I0 (-1, -1) _ (by omega) fr_rfl S.1 rfl) ?_
  rintro I1 J1 ⟨⟨f1, H1⟩, rfl⟩
  exact ⟨⟨fr_tr (fr_mono f0 (by decide +kernel)) (fr_mono f1 (by decide +kernel)), (f1 72 0 (by decide +kernel)).trans t0, H1⟩, rfl⟩
theorem b_joiner (hx : ¬ ∃ p, p ≤ 1 ∧ x = nI p) : runM (d + 2) nX12_joiner [.ref 72, .int x] (mm L X I J) = rI (nI 0) (mm L X (bdM I 1 1) J) := by
  rw [e_X12_joiner]
  (first | refine Eq.trans (q_X12_joiner_0) ?_ | refine Eq.trans (q_X12_joiner_12) ?_ | refine Eq.trans (q_X12_joiner_20) ?_ | refine Eq.trans (q_X12_joiner_25) ?_ | refine Eq.trans (q_X12_joiner_37) ?_ | refine Eq.trans (q_X12_joiner_50) ?_ | refine Eq.trans (q_X12_joiner_65) ?_ | refine Eq.trans (q_X12_joiner_111) ?_ | refine Eq.trans (q_X12_joiner_146) ?_)
  refine (bndN_e (in_f (fun q => hx ((in_M (by decide)).mp q)))).trans ?_
  (first | refine Eq.trans (q_X12_joiner_0) ?_ | refine Eq.trans (q_X12_joiner_12) ?_ | refine Eq.trans (q_X12_joiner_20) ?_ | refine Eq.trans (q_X12_joiner_25) ?_ | refine Eq.trans (q_X12_joiner_37) ?_ | refine Eq.trans (q_X12_joiner_50) ?_ | refine Eq.trans (q_X12_joiner_65) ?_ | refine Eq.trans (q_X12_joiner_111) ?_ | refine Eq.trans (q_X12_joiner_146) ?_)
  rw [if_pos rfl]
  (first | refine Eq.trans (q_X12_joiner_0) ?_ | refine Eq.trans (q_X12_joiner_12) ?_ | refine Eq.trans (q_X12_joiner_20) ?_ | refine Eq.trans (q_X12_joiner_25) ?_ | refine Eq.trans (q_X12_joiner_37) ?_ | refine Eq.trans (q_X12_joiner_50) ?_ | refine Eq.trans (q_X12_joiner_65) ?_ | refine Eq.trans (q_X12_joiner_111) ?_ | refine Eq.trans (q_X12_joiner_146) ?_)
  refine (bnd_e (bad_t (by decide) (by decide) (by decide))).trans ?_
  (first | refine Eq.trans (q_X12_joiner_0) ?_ | refine Eq.trans (q_X12_joiner_12) ?_ | refine Eq.trans (q_X12_joiner_20) ?_ | refine Eq.trans (q_X12_joiner_25) ?_ | refine Eq.trans (q_X12_joiner_37) ?_ | refine Eq.trans (q_X12_joiner_50) ?_ | refine Eq.trans (q_X12_joiner_65) ?_ | refine Eq.trans (q_X12_joiner_111) ?_ | refine Eq.trans (q_X12_joiner_146) ?_)
  rw [if_neg (by decide)]
/-! wed -/
theorem c_wed (V : CS I h nL cd n N) (h0 : I 63 0 = nI 0) : Rt L X (runM (d + 6) nX11_wed [.ref 0] (mm L X I J)) (some (.int (nI (wd h (h 0 1) (2 ^ h 0 0 - 1))))) (fun I' J' => (Fr [(63, 0)] I I' ∧ I' 63 0 = nI 0) ∧ J' = J) := by
  obtain ⟨ok, W, ⟨K, LC, Q⟩, C, R, Z⟩ := V
  rw [e_X11_wed]
  (first | refine rt_eq (q_X11_wed_0) ?_ | refine rt_eq (q_X11_wed_7) ?_)
  refine rt_bnd (sp_mostPairs K ok h0) ?_
  rintro I1 J1 ⟨p1, rfl⟩
  (first | refine rt_eq (q_X11_wed_0) ?_ | refine rt_eq (q_X11_wed_7) ?_)
  exact rt_ret ⟨p1, rfl⟩
theorem m_wed (V : MS I h nL cd n N) : Rt L X (runM (d + 70) nX12_wed [.ref 72] (mm L X I J)) (some (.int (nI (wd h (h 0 1) (2 ^ h 0 0 - 1))))) (fun I' J' => (Fr fQM I I' ∧ I' 72 0 = nI 0) ∧ J' = J) := by
  rw [e_X12_wed]
  (first | refine rt_eq (q_X12_wed_0) ?_ | refine rt_eq (q_X12_wed_19) ?_)
  have V0 := MS0 V; generalize hI0 : up2 I 72 0 (nI 0) = I0 at V0 ⊢; have f0 : Fr fQM I I0 := by rw [← hI0]; exact fr_up fr_rfl rfl
  have t0 : I0 72 0 = nI 0 := by rw [← hI0, up2_s]
  clear hI0
  obtain ⟨ok, W, S, e, R, Z⟩ := V0
  have h6 := ok.1
  have p6 := pow6 ok
  have hp : 0 < 2 ^ h 0 0 := Nat.two_pow_pos _
  rw [S.1.1, n_pow (by omega), pk_sub (by omega)]
  refine rt_be (sp_weds (d := d + 2) S.1 ok 63 (2 ^ h 0 0 - 1) (by omega) (by omega)) ?_
  (first | refine rt_eq (q_X12_wed_0) ?_ | refine rt_eq (q_X12_wed_19) ?_)
  exact rt_ret ⟨⟨f0, t0⟩, rfl⟩
/-! brief, briefly -/
def brlA (o : Option (Nat × List Nat)) (k : Nat) : Int32 := match o with
  | none => -1
  | some y => if k < y.1 then nI (y.2.getD k 0) else -1
def shO (h : Hs) (nL : Nat) (cd : Cd) (N : Nt) (f : Nat) : Option (Nat × List Nat) := shN h (h 0 1) nL cd N f 7 0 none (nv (N 29))
theorem shO_6 (ok : HOK h) {y : Nat × List Nat} (e : shO h nL cd N f = some y) : y.1 ≤ 6 := by
  obtain ⟨k, s⟩ := y
  have := (shN_some.mp e).1
  show k ≤ 6
  omega
theorem c_brief (V : CS I h nL cd n N) (hf : f < h 0 2) (hc : I 56 11 = nI f → shC I h (h 0 1) nL cd N f) : Rt L X (runM (d + 14) nX11_brief [.ref 0, .int (nI f)] (mm L X I J)) (some (.int (brA (shO h nL cd N f)))) (fun I' _ => Fr fFs I I' ∧ I' 56 11 = nI f ∧ shC I' h (h 0 1) nL cd N f) := by
  obtain ⟨ok, W, S, C, R, Z⟩ := V
  have h5 := ok.2.2.1
  rw [e_X11_brief]
  (first | refine rt_eq (q_X11_brief_0) ?_ | refine rt_eq (q_X11_brief_5) ?_ | refine rt_eq (q_X11_brief_17) ?_)
  refine rt_be (xf_t S.1.2.2.1 (by omega) hf) ?_
  (first | refine rt_eq (q_X11_brief_0) ?_ | refine rt_eq (q_X11_brief_5) ?_ | refine rt_eq (q_X11_brief_17) ?_)
  refine rt_bnd (sp_findShort ok W S C Z hf hc) ?_
  rintro I1 J1 ⟨f1, e1, c1⟩
  (first | refine rt_eq (q_X11_brief_0) ?_ | refine rt_eq (q_X11_brief_5) ?_ | refine rt_eq (q_X11_brief_17) ?_)
  refine rt_v (rt_ret ⟨f1, e1, c1⟩) ?_
  have c1' : shB I1 (shO h nL cd N f) := c1
  rcases ho : shO h nL cd N f with _ | y
  · rw [ho] at c1'
    exact c1'
  · rw [ho] at c1'
    exact c1'.1
theorem x_brief (K : I 3 2 = nI (h 0 2)) (ok : HOK h) (hx : ¬ ∃ p, p < h 0 2 ∧ x1 = nI p) : runM (d + 3) nX11_brief [.ref 0, .int x1] (mm L X I J) = some (.inr 0, mm L (X + 1) (ex0 I) J) := by
  have h4 := ok.2.2.1
  rw [e_X11_brief]
  (first | refine Eq.trans (q_X11_brief_0) ?_ | refine Eq.trans (q_X11_brief_5) ?_ | refine Eq.trans (q_X11_brief_17) ?_)
  exact bnd_x (xf_f K (by omega) hx)
theorem m_brief (V : MS I h nL cd n N) (hf : f < h 0 2) : Rt L X (runM (d + 16) nX12_brief [.ref 72, .int (nI f)] (mm L X I J)) (some (.int (brA (shO h nL cd N f)))) (fun I' J' => (Fr fQM I I' ∧ I' 72 0 = nI 0) ∧ J' = J) := by
  rw [e_X12_brief]
  (first | refine rt_eq (q_X12_brief_0) ?_ | refine rt_eq (q_X12_brief_11) ?_ | refine rt_eq (q_X12_brief_19) ?_ | refine rt_eq (q_X12_brief_24) ?_ | refine rt_eq (q_X12_brief_34) ?_)
  have V0 := MS0 V; generalize hI0 : up2 I 72 0 (nI 0) = I0 at V0 ⊢; have f0 : Fr fQM I I0 := by rw [← hI0]; exact fr_up fr_rfl rfl
  have t0 : I0 72 0 = nI 0 := by rw [← hI0, up2_s]
  clear hI0
  obtain ⟨ok, W, S, e, R, Z⟩ := V0
  have h5 := ok.2.2.1
  refine rt_be (if_t S.1.2.2.1 (by omega) hf) ?_
  (first | refine rt_eq (q_X12_brief_0) ?_ | refine rt_eq (q_X12_brief_11) ?_ | refine rt_eq (q_X12_brief_19) ?_ | refine rt_eq (q_X12_brief_24) ?_ | refine rt_eq (q_X12_brief_34) ?_)
  repeat (first | refine rt_t (by decide) ?_ | refine rt_f (by decide) ?_)
  (first | refine rt_eq (q_X12_brief_0) ?_ | refine rt_eq (q_X12_brief_11) ?_ | refine rt_eq (q_X12_brief_19) ?_ | refine rt_eq (q_X12_brief_24) ?_ | refine rt_eq (q_X12_brief_34) ?_)
  refine rt_be (bad_f t0) ?_
  (first | refine rt_eq (q_X12_brief_0) ?_ | refine rt_eq (q_X12_brief_11) ?_ | refine rt_eq (q_X12_brief_19) ?_ | refine rt_eq (q_X12_brief_24) ?_ | refine rt_eq (q_X12_brief_34) ?_)
  repeat (first | refine rt_t (by decide) ?_ | refine rt_f (by decide) ?_)
  refine rt_bnd (sp_briefs ok W hf Z.2.2.2.2 ⟨S.1, S.2, e⟩) ?_
  rintro I1 J1 ⟨⟨f1, -⟩, rfl⟩
  (first | refine rt_eq (q_X12_brief_0) ?_ | refine rt_eq (q_X12_brief_11) ?_ | refine rt_eq (q_X12_brief_19) ?_ | refine rt_eq (q_X12_brief_24) ?_ | refine rt_eq (q_X12_brief_34) ?_)
  exact rt_ret ⟨⟨fr_tr f0 (fr_mono f1 (by decide +kernel)), (f1 72 0 rfl).trans t0⟩, rfl⟩
theorem b_brief (K : I 76 2 = nI (h 0 2)) (ok : HOK h) (hx : ¬ ∃ p, p < h 0 2 ∧ x1 = nI p) : runM (d + 3) nX12_brief [.ref 72, .int x1] (mm L X I J) = rI (nI 0) (mm L X (bdM I 1 0) J) := by
  have h4 := ok.2.2.1
  rw [e_X12_brief]
  (first | refine Eq.trans (q_X12_brief_0) ?_ | refine Eq.trans (q_X12_brief_11) ?_ | refine Eq.trans (q_X12_brief_19) ?_ | refine Eq.trans (q_X12_brief_24) ?_ | refine Eq.trans (q_X12_brief_34) ?_)
  refine (bnd_e (if_f (by rw [up2_n (by decide)]; exact K) (by omega) hx)).trans ?_
  (first | refine Eq.trans (q_X12_brief_0) ?_ | refine Eq.trans (q_X12_brief_11) ?_ | refine Eq.trans (q_X12_brief_19) ?_ | refine Eq.trans (q_X12_brief_24) ?_ | refine Eq.trans (q_X12_brief_34) ?_)
  rw [if_pos rfl]
  (first | refine Eq.trans (q_X12_brief_0) ?_ | refine Eq.trans (q_X12_brief_11) ?_ | refine Eq.trans (q_X12_brief_19) ?_ | refine Eq.trans (q_X12_brief_24) ?_ | refine Eq.trans (q_X12_brief_34) ?_)
  refine (bnd_e (bad_t (by decide) (by decide) (by decide))).trans ?_
  (first | refine Eq.trans (q_X12_brief_0) ?_ | refine Eq.trans (q_X12_brief_11) ?_ | refine Eq.trans (q_X12_brief_19) ?_ | refine Eq.trans (q_X12_brief_24) ?_ | refine Eq.trans (q_X12_brief_34) ?_)
  rw [if_neg (by decide)]
theorem c_briefly (V : CS I h nL cd n N) (hf : f < h 0 2) (hk : k < 2 ^ 31) (hc : I 56 11 = nI f → shC I h (h 0 1) nL cd N f) : Rt L X (runM (d + 14) nX11_briefly [.ref 0, .int (nI f), .int (nI k)] (mm L X I J)) (some (.int (brlA (shO h nL cd N f) k))) (fun I' _ => Fr fFs I I' ∧ I' 56 11 = nI f ∧ shC I' h (h 0 1) nL cd N f) := by
  obtain ⟨ok, W, S, C, R, Z⟩ := V
  have h5 := ok.2.2.1
  rw [e_X11_briefly]
  (first | refine rt_eq (q_X11_briefly_0) ?_ | refine rt_eq (q_X11_briefly_5) ?_ | refine rt_eq (q_X11_briefly_15) ?_ | refine rt_eq (q_X11_briefly_18) ?_ | refine rt_eq (q_X11_briefly_30) ?_ | refine rt_eq (q_X11_briefly_52) ?_)
  refine rt_be (xf_t S.1.2.2.1 (by omega) hf) ?_
  (first | refine rt_eq (q_X11_briefly_0) ?_ | refine rt_eq (q_X11_briefly_5) ?_ | refine rt_eq (q_X11_briefly_15) ?_ | refine rt_eq (q_X11_briefly_18) ?_ | refine rt_eq (q_X11_briefly_30) ?_ | refine rt_eq (q_X11_briefly_52) ?_)
  refine rt_f (nI_pos hk) ?_
  (first | refine rt_eq (q_X11_briefly_0) ?_ | refine rt_eq (q_X11_briefly_5) ?_ | refine rt_eq (q_X11_briefly_15) ?_ | refine rt_eq (q_X11_briefly_18) ?_ | refine rt_eq (q_X11_briefly_30) ?_ | refine rt_eq (q_X11_briefly_52) ?_)
  refine rt_be ex_t ?_
  (first | refine rt_eq (q_X11_briefly_0) ?_ | refine rt_eq (q_X11_briefly_5) ?_ | refine rt_eq (q_X11_briefly_15) ?_ | refine rt_eq (q_X11_briefly_18) ?_ | refine rt_eq (q_X11_briefly_30) ?_ | refine rt_eq (q_X11_briefly_52) ?_)
  refine rt_bnd (sp_findShort ok W S C Z hf hc) ?_
  rintro I1 J1 ⟨f1, e1, c1⟩
  (first | refine rt_eq (q_X11_briefly_0) ?_ | refine rt_eq (q_X11_briefly_5) ?_ | refine rt_eq (q_X11_briefly_15) ?_ | refine rt_eq (q_X11_briefly_18) ?_ | refine rt_eq (q_X11_briefly_30) ?_ | refine rt_eq (q_X11_briefly_52) ?_)
  have c1' : shB I1 (shO h nL cd N f) := c1
  rcases ho : shO h nL cd N f with _ | y
  · rw [ho] at c1'
    have c2 : I1 56 13 = -1 := c1'
    rw [c2]
    refine rt_t (Int32.le_trans (show (-1 : Int32) ≤ nI 0 by decide) (by (try simp (disch := omega) only [nI_leI, nI_ltI, nI_eq, nI_add, pk_mul, n_0add, Nat.zero_add, nI_clamp]) <;> omega)) ?_
    exact rt_v (rt_ret ⟨f1, e1, c1⟩) rfl
  · rw [ho] at c1'
    obtain ⟨a1, a2, a3⟩ := c1'
    rw [a1]
    by_cases z : k < y.1
    · refine rt_f (by (try simp (disch := omega) only [nI_leI, nI_ltI, nI_eq, nI_add, pk_mul, n_0add, Nat.zero_add, nI_clamp]) <;> omega) ?_
      refine rt_bne (sp_pick ka_60 (by decide)) ?_
      (first | refine rt_eq (q_X11_briefly_0) ?_ | refine rt_eq (q_X11_briefly_5) ?_ | refine rt_eq (q_X11_briefly_15) ?_ | refine rt_eq (q_X11_briefly_18) ?_ | refine rt_eq (q_X11_briefly_30) ?_ | refine rt_eq (q_X11_briefly_52) ?_)
      refine rt_v (rt_ret ⟨f1, e1, c1⟩) ?_
      rw [pk_n (by omega) (by decide), a3 k z]
      exact (if_pos z).symm
    · refine rt_t (by (try simp (disch := omega) only [nI_leI, nI_ltI, nI_eq, nI_add, pk_mul, n_0add, Nat.zero_add, nI_clamp]) <;> omega) ?_
      exact rt_v (rt_ret ⟨f1, e1, c1⟩) (if_neg z).symm
theorem m_briefly (V : MS I h nL cd n N) (hf : f < h 0 2) (hk : k < 2 ^ 31) : Rt L X (runM (d + 16) nX12_briefly [.ref 72, .int (nI f), .int (nI k)] (mm L X I J)) (some (.int (brlA (shO h nL cd N f) k))) (fun I' J' => (Fr fQM I I' ∧ I' 72 0 = nI 0) ∧ J' = J) := by
  rw [e_X12_briefly]
  (first | refine rt_eq (q_X12_briefly_0) ?_ | refine rt_eq (q_X12_briefly_11) ?_ | refine rt_eq (q_X12_briefly_19) ?_ | refine rt_eq (q_X12_briefly_24) ?_ | refine rt_eq (q_X12_briefly_37) ?_ | refine rt_eq (q_X12_briefly_42) ?_ | refine rt_eq (q_X12_briefly_53) ?_)
  have V0 := MS0 V; generalize hI0 : up2 I 72 0 (nI 0) = I0 at V0 ⊢; have f0 : Fr fQM I I0 := by rw [← hI0]; exact fr_up fr_rfl rfl
  have t0 : I0 72 0 = nI 0 := by rw [← hI0, up2_s]
  clear hI0
  obtain ⟨ok, W, S, e, R, Z⟩ := V0
  have h5 := ok.2.2.1
  refine rt_be (if_t S.1.2.2.1 (by omega) hf) ?_
  (first | refine rt_eq (q_X12_briefly_0) ?_ | refine rt_eq (q_X12_briefly_11) ?_ | refine rt_eq (q_X12_briefly_19) ?_ | refine rt_eq (q_X12_briefly_24) ?_ | refine rt_eq (q_X12_briefly_37) ?_ | refine rt_eq (q_X12_briefly_42) ?_ | refine rt_eq (q_X12_briefly_53) ?_)
  repeat (first | refine rt_t (by decide) ?_ | refine rt_f (by decide) ?_)
  (first | refine rt_eq (q_X12_briefly_0) ?_ | refine rt_eq (q_X12_briefly_11) ?_ | refine rt_eq (q_X12_briefly_19) ?_ | refine rt_eq (q_X12_briefly_24) ?_ | refine rt_eq (q_X12_briefly_37) ?_ | refine rt_eq (q_X12_briefly_42) ?_ | refine rt_eq (q_X12_briefly_53) ?_)
  refine rt_be (bad_f t0) ?_
  (first | refine rt_eq (q_X12_briefly_0) ?_ | refine rt_eq (q_X12_briefly_11) ?_ | refine rt_eq (q_X12_briefly_19) ?_ | refine rt_eq (q_X12_briefly_24) ?_ | refine rt_eq (q_X12_briefly_37) ?_ | refine rt_eq (q_X12_briefly_42) ?_ | refine rt_eq (q_X12_briefly_53) ?_)
  refine rt_t rfl (rt_t (by (try simp (disch := omega) only [nI_leI, nI_ltI, nI_eq, nI_add, pk_mul, n_0add, Nat.zero_add, nI_clamp]) <;> omega) ?_)
  (first | refine rt_eq (q_X12_briefly_0) ?_ | refine rt_eq (q_X12_briefly_11) ?_ | refine rt_eq (q_X12_briefly_19) ?_ | refine rt_eq (q_X12_briefly_24) ?_ | refine rt_eq (q_X12_briefly_37) ?_ | refine rt_eq (q_X12_briefly_42) ?_ | refine rt_eq (q_X12_briefly_53) ?_)
  refine rt_be (bad_f t0) ?_
  (first | refine rt_eq (q_X12_briefly_0) ?_ | refine rt_eq (q_X12_briefly_11) ?_ | refine rt_eq (q_X12_briefly_19) ?_ | refine rt_eq (q_X12_briefly_24) ?_ | refine rt_eq (q_X12_briefly_37) ?_ | refine rt_eq (q_X12_briefly_42) ?_ | refine rt_eq (q_X12_briefly_53) ?_)
  repeat (first | refine rt_t (by decide) ?_ | refine rt_f (by decide) ?_)
  refine rt_bnd (sp_briefs ok W hf Z.2.2.2.2 ⟨S.1, S.2, e⟩) ?_
  rintro I1 J1 ⟨⟨f1, a1⟩, rfl⟩
  have post : (Fr fQM I I1 ∧ I1 72 0 = nI 0) ∧ J1 = J1 := ⟨⟨fr_tr f0 (fr_mono f1 (by decide +kernel)), (f1 72 0 rfl).trans t0⟩, rfl⟩
  (first | refine rt_eq (q_X12_briefly_0) ?_ | refine rt_eq (q_X12_briefly_11) ?_ | refine rt_eq (q_X12_briefly_19) ?_ | refine rt_eq (q_X12_briefly_24) ?_ | refine rt_eq (q_X12_briefly_37) ?_ | refine rt_eq (q_X12_briefly_42) ?_ | refine rt_eq (q_X12_briefly_53) ?_)
  show Rt L X (if brA (shO h nL cd N f) ≤ nI k then _ else _) _ _
  rcases ho : shO h nL cd N f with _ | y
  · refine rt_t (show (-1 : Int32) ≤ nI k from Int32.le_trans (show (-1 : Int32) ≤ nI 0 by decide) (by (try simp (disch := omega) only [nI_leI, nI_ltI, nI_eq, nI_add, pk_mul, n_0add, Nat.zero_add, nI_clamp]) <;> omega)) ?_
    exact rt_v (rt_ret post) rfl
  · have y6 := shO_6 ok ho
    by_cases z : k < y.1
    · refine rt_f (show ¬ nI y.1 ≤ nI k from (by (try simp (disch := omega) only [nI_leI, nI_ltI, nI_eq, nI_add, pk_mul, n_0add, Nat.zero_add, nI_clamp]) <;> omega)) (rt_gd (inb_n (by omega) (by decide)) ?_)
      rw [nI_clamp hk]
      refine rt_v (rt_ret post) ?_
      rw [a1 y ho k z]
      exact (if_pos z).symm
    · refine rt_t (show nI y.1 ≤ nI k from (by (try simp (disch := omega) only [nI_leI, nI_ltI, nI_eq, nI_add, pk_mul, n_0add, Nat.zero_add, nI_clamp]) <;> omega)) ?_
      exact rt_v (rt_ret post) (if_neg z).symm
theorem x_briefly0 (K : I 3 2 = nI (h 0 2)) (ok : HOK h) (hx : ¬ ∃ p, p < h 0 2 ∧ x1 = nI p) : runM (d + 3) nX11_briefly [.ref 0, .int x1, .int x2] (mm L X I J) = some (.inr 0, mm L (X + 1) (ex0 I) J) := by
  have h4 := ok.2.2.1
  rw [e_X11_briefly]
  (first | refine Eq.trans (q_X11_briefly_0) ?_ | refine Eq.trans (q_X11_briefly_5) ?_ | refine Eq.trans (q_X11_briefly_15) ?_ | refine Eq.trans (q_X11_briefly_18) ?_ | refine Eq.trans (q_X11_briefly_30) ?_ | refine Eq.trans (q_X11_briefly_52) ?_)
  exact bnd_x (xf_f K (by omega) hx)
theorem x_briefly1 (K : I 3 2 = nI (h 0 2)) (ok : HOK h) (hp : p < h 0 2) (hx : x2 < nI 0) : runM (d + 3) nX11_briefly [.ref 0, .int (nI p), .int x2] (mm L X I J) = some (.inr 1, mm L (X + 1) (ex1 I) J) := by
  have h4 := ok.2.2.1
  rw [e_X11_briefly]
  (first | refine Eq.trans (q_X11_briefly_0) ?_ | refine Eq.trans (q_X11_briefly_5) ?_ | refine Eq.trans (q_X11_briefly_15) ?_ | refine Eq.trans (q_X11_briefly_18) ?_ | refine Eq.trans (q_X11_briefly_30) ?_ | refine Eq.trans (q_X11_briefly_52) ?_)
  refine (bnd_e (xf_t K (by omega) hp)).trans ?_
  (first | refine Eq.trans (q_X11_briefly_0) ?_ | refine Eq.trans (q_X11_briefly_5) ?_ | refine Eq.trans (q_X11_briefly_15) ?_ | refine Eq.trans (q_X11_briefly_18) ?_ | refine Eq.trans (q_X11_briefly_30) ?_ | refine Eq.trans (q_X11_briefly_52) ?_)
  rw [if_pos hx]
  (first | refine Eq.trans (q_X11_briefly_0) ?_ | refine Eq.trans (q_X11_briefly_5) ?_ | refine Eq.trans (q_X11_briefly_15) ?_ | refine Eq.trans (q_X11_briefly_18) ?_ | refine Eq.trans (q_X11_briefly_30) ?_ | refine Eq.trans (q_X11_briefly_52) ?_)
  exact bnd_x ex_f
theorem b_briefly0 (K : I 76 2 = nI (h 0 2)) (ok : HOK h) (hx : ¬ ∃ p, p < h 0 2 ∧ x1 = nI p) : runM (d + 3) nX12_briefly [.ref 72, .int x1, .int x2] (mm L X I J) = rI (nI 0) (mm L X (bdM I 1 0) J) := by
  have h4 := ok.2.2.1
  rw [e_X12_briefly]
  (first | refine Eq.trans (q_X12_briefly_0) ?_ | refine Eq.trans (q_X12_briefly_11) ?_ | refine Eq.trans (q_X12_briefly_19) ?_ | refine Eq.trans (q_X12_briefly_24) ?_ | refine Eq.trans (q_X12_briefly_37) ?_ | refine Eq.trans (q_X12_briefly_42) ?_ | refine Eq.trans (q_X12_briefly_53) ?_)
  refine (bnd_e (if_f (by rw [up2_n (by decide)]; exact K) (by omega) hx)).trans ?_
  (first | refine Eq.trans (q_X12_briefly_0) ?_ | refine Eq.trans (q_X12_briefly_11) ?_ | refine Eq.trans (q_X12_briefly_19) ?_ | refine Eq.trans (q_X12_briefly_24) ?_ | refine Eq.trans (q_X12_briefly_37) ?_ | refine Eq.trans (q_X12_briefly_42) ?_ | refine Eq.trans (q_X12_briefly_53) ?_)
  rw [if_pos rfl]
  (first | refine Eq.trans (q_X12_briefly_0) ?_ | refine Eq.trans (q_X12_briefly_11) ?_ | refine Eq.trans (q_X12_briefly_19) ?_ | refine Eq.trans (q_X12_briefly_24) ?_ | refine Eq.trans (q_X12_briefly_37) ?_ | refine Eq.trans (q_X12_briefly_42) ?_ | refine Eq.trans (q_X12_briefly_53) ?_)
  refine (bnd_e (bad_t (by decide) (by decide) (by decide))).trans ?_
  (first | refine Eq.trans (q_X12_briefly_0) ?_ | refine Eq.trans (q_X12_briefly_11) ?_ | refine Eq.trans (q_X12_briefly_19) ?_ | refine Eq.trans (q_X12_briefly_24) ?_ | refine Eq.trans (q_X12_briefly_37) ?_ | refine Eq.trans (q_X12_briefly_42) ?_ | refine Eq.trans (q_X12_briefly_53) ?_)
  rw [if_neg (by decide)]
theorem b_briefly1 (K : I 76 2 = nI (h 0 2)) (ok : HOK h) (hp : p < h 0 2) (hx : x2 < nI 0) : runM (d + 3) nX12_briefly [.ref 72, .int (nI p), .int x2] (mm L X I J) = rI (nI 0) (mm L X (bdM I 2 1) J) := by
  have h4 := ok.2.2.1
  rw [e_X12_briefly]
  (first | refine Eq.trans (q_X12_briefly_0) ?_ | refine Eq.trans (q_X12_briefly_11) ?_ | refine Eq.trans (q_X12_briefly_19) ?_ | refine Eq.trans (q_X12_briefly_24) ?_ | refine Eq.trans (q_X12_briefly_37) ?_ | refine Eq.trans (q_X12_briefly_42) ?_ | refine Eq.trans (q_X12_briefly_53) ?_)
  refine (bnd_e (if_t (by rw [up2_n (by decide)]; exact K) (by omega) hp)).trans ?_
  (first | refine Eq.trans (q_X12_briefly_0) ?_ | refine Eq.trans (q_X12_briefly_11) ?_ | refine Eq.trans (q_X12_briefly_19) ?_ | refine Eq.trans (q_X12_briefly_24) ?_ | refine Eq.trans (q_X12_briefly_37) ?_ | refine Eq.trans (q_X12_briefly_42) ?_ | refine Eq.trans (q_X12_briefly_53) ?_)
  rw [if_neg (by decide)]
  (first | refine Eq.trans (q_X12_briefly_0) ?_ | refine Eq.trans (q_X12_briefly_11) ?_ | refine Eq.trans (q_X12_briefly_19) ?_ | refine Eq.trans (q_X12_briefly_24) ?_ | refine Eq.trans (q_X12_briefly_37) ?_ | refine Eq.trans (q_X12_briefly_42) ?_ | refine Eq.trans (q_X12_briefly_53) ?_)
  refine (bnd_e (bad_f up2_s)).trans ?_
  (first | refine Eq.trans (q_X12_briefly_0) ?_ | refine Eq.trans (q_X12_briefly_11) ?_ | refine Eq.trans (q_X12_briefly_19) ?_ | refine Eq.trans (q_X12_briefly_24) ?_ | refine Eq.trans (q_X12_briefly_37) ?_ | refine Eq.trans (q_X12_briefly_42) ?_ | refine Eq.trans (q_X12_briefly_53) ?_)
  rw [if_pos rfl, if_neg (Int32.not_le.mpr hx)]
  (first | refine Eq.trans (q_X12_briefly_0) ?_ | refine Eq.trans (q_X12_briefly_11) ?_ | refine Eq.trans (q_X12_briefly_19) ?_ | refine Eq.trans (q_X12_briefly_24) ?_ | refine Eq.trans (q_X12_briefly_37) ?_ | refine Eq.trans (q_X12_briefly_42) ?_ | refine Eq.trans (q_X12_briefly_53) ?_)
  refine (bnd_e (bad_t (by decide) (by decide) (by decide))).trans ?_
  (first | refine Eq.trans (q_X12_briefly_0) ?_ | refine Eq.trans (q_X12_briefly_11) ?_ | refine Eq.trans (q_X12_briefly_19) ?_ | refine Eq.trans (q_X12_briefly_24) ?_ | refine Eq.trans (q_X12_briefly_37) ?_ | refine Eq.trans (q_X12_briefly_42) ?_ | refine Eq.trans (q_X12_briefly_53) ?_)
  rw [if_neg (by decide)]
/-! status, count, fault -/
theorem c_status : runM (d + 1) nX11_status [.ref 0, .int x] (mm L X I J) = rI (if x = nI 0 then I 0 14 else if x = nI 1 then I 0 15 else -1) (mm L X I J) := by
  rw [e_X11_status]
  (first | refine Eq.trans (q_X11_status_0) ?_)
  by_cases z : x = nI 0
  · rw [if_pos z, if_pos z]
  · rw [if_neg z, if_neg z]
    by_cases y : x = nI 1
    · rw [if_pos y, if_pos y]
    · rw [if_neg y, if_neg y]
theorem m_status : runM (d + 2) nX12_status [.ref 72, .int x] (mm L X I J) = rI (if x = nI 0 then I 74 0 else if x = nI 1 then I 74 1 else -1) (mm L X (up2 I 72 0 (nI 0)) J) := by
  rw [e_X12_status]
  (first | refine Eq.trans (q_X12_status_0) ?_ | refine Eq.trans (q_X12_status_11) ?_)
  by_cases c : nI 0 ≤ x ∧ x ≤ nI 1
  · obtain ⟨p, hp, rfl⟩ := (in_M (by decide)).mp c
    refine (bndN_e (in_t c.1 c.2)).trans ?_
    (first | refine Eq.trans (q_X12_status_0) ?_ | refine Eq.trans (q_X12_status_11) ?_)
    rw [if_neg (by decide), gd_t (inb_n (by omega) (by decide)), nI_clamp (by omega), up2_n (by decide)]
    have : p = 0 ∨ p = 1 := by omega
    rcases this with rfl | rfl
    · rw [if_pos rfl]
    · rw [if_neg (by decide), if_pos rfl]
  · refine (bndN_e (in_f c)).trans ?_
    (first | refine Eq.trans (q_X12_status_0) ?_ | refine Eq.trans (q_X12_status_11) ?_)
    rw [if_pos rfl, if_neg (fun q => c (by rw [q]; exact ⟨by decide, by decide⟩)), if_neg (fun q => c (by rw [q]; exact ⟨by decide, by decide⟩))]
theorem c_count : runM (d + 1) nX11_count [.ref 0, .int x] (mm L X I J) = rI (if x = nI 0 then I 48 4 else if x = nI 1 then I 1 1 else if x = nI 2 then I 48 3 else -1) (mm L X I J) := by
  rw [e_X11_count]
  (first | refine Eq.trans (q_X11_count_0) ?_ | refine Eq.trans (q_X11_count_1) ?_ | refine Eq.trans (q_X11_count_28) ?_ | refine Eq.trans (q_X11_count_36) ?_ | refine Eq.trans (q_X11_count_44) ?_ | refine Eq.trans (q_X11_count_52) ?_)
  (first | refine Eq.trans (q_X11_count_0) ?_ | refine Eq.trans (q_X11_count_1) ?_ | refine Eq.trans (q_X11_count_28) ?_ | refine Eq.trans (q_X11_count_36) ?_ | refine Eq.trans (q_X11_count_44) ?_ | refine Eq.trans (q_X11_count_52) ?_)
  by_cases z : x = nI 0
  · rw [if_pos z, if_pos z]
    exact q_X11_count_28
  · rw [if_neg z, if_neg z]
    by_cases y : x = nI 1
    · rw [if_pos y, if_pos y]
      exact q_X11_count_36
    · rw [if_neg y, if_neg y]
      by_cases u : x = nI 2
      · rw [if_pos u, if_pos u]
        exact q_X11_count_44
      · rw [if_neg u, if_neg u]
        exact q_X11_count_52
theorem m_count : runM (d + 1) nX12_count [.ref 72, .int x] (mm L X I J) = rI (if x = nI 0 then I 72 37 else if x = nI 1 then I 72 1 else if x = nI 2 then I 72 35 else -1) (mm L X (up2 I 72 0 (nI 0)) J) := by
  rw [e_X12_count]
  (first | refine Eq.trans (q_X12_count_0) ?_)
  rw [up2_k (by decide), up2_k (by decide), up2_k (by decide)]
  by_cases z : x = nI 0
  · rw [if_pos z, if_pos z]
  · rw [if_neg z, if_neg z]
    by_cases y : x = nI 1
    · rw [if_pos y, if_pos y]
    · rw [if_neg y, if_neg y]
      by_cases u : x = nI 2
      · rw [if_pos u, if_pos u]
      · rw [if_neg u, if_neg u]
theorem c_fault : runM (d + 1) nX11_fault [.ref 0] (mm L X I J) = rI (I 1 3) (mm L X I J) := by
  rw [e_X11_fault]
  exact q_X11_fault_0
theorem m_fault : runM (d + 1) nX12_fault [.ref 72] (mm L X I J) = rI (I 72 3) (mm L X (up2 I 72 0 (nI 0)) J) := by
  rw [e_X12_fault]
  (first | refine Eq.trans (q_X12_fault_0) ?_)
  rw [up2_k (by decide)]
theorem x_street (hx : ¬ ((nI 0 ≤ x1 ∧ x1 ≤ nI 99) ∧ (nI 0 ≤ x2 ∧ x2 ≤ nI 9) ∧ (nI 0 ≤ x3 ∧ x3 ≤ nI 2))) : runM (d + 2) nX11_street [.ref 0, .int x1, .int x2, .int x3] (mm L X I J) = some (.inr 1, mm L (X + 1) (ex1 I) J) := by
  have tail34 : runI (runM (d + 1)) iX11_street (34, [some (.ref 0), some (.int x1), some (.int x2), some (.int x3)], [.ref 0], mm L X I J) = some (.inr 1, mm L (X + 1) (ex1 I) J) := by
    (first | refine Eq.trans (q_X11_street_0) ?_ | refine Eq.trans (q_X11_street_8) ?_ | refine Eq.trans (q_X11_street_34) ?_ | refine Eq.trans (q_X11_street_18) ?_ | refine Eq.trans (q_X11_street_35) ?_ | refine Eq.trans (q_X11_street_27) ?_ | refine Eq.trans (q_X11_street_38) ?_ | refine Eq.trans (q_X11_street_50) ?_ | refine Eq.trans (q_X11_street_51) ?_ | refine Eq.trans (q_X11_street_76) ?_ | refine Eq.trans (q_X11_street_84) ?_ | refine Eq.trans (q_X11_street_92) ?_)
    (first | refine Eq.trans (q_X11_street_0) ?_ | refine Eq.trans (q_X11_street_8) ?_ | refine Eq.trans (q_X11_street_34) ?_ | refine Eq.trans (q_X11_street_18) ?_ | refine Eq.trans (q_X11_street_35) ?_ | refine Eq.trans (q_X11_street_27) ?_ | refine Eq.trans (q_X11_street_38) ?_ | refine Eq.trans (q_X11_street_50) ?_ | refine Eq.trans (q_X11_street_51) ?_ | refine Eq.trans (q_X11_street_76) ?_ | refine Eq.trans (q_X11_street_84) ?_ | refine Eq.trans (q_X11_street_92) ?_)
    exact bnd_x ex_f
  rw [e_X11_street]
  (first | refine Eq.trans (q_X11_street_0) ?_ | refine Eq.trans (q_X11_street_8) ?_ | refine Eq.trans (q_X11_street_34) ?_ | refine Eq.trans (q_X11_street_18) ?_ | refine Eq.trans (q_X11_street_35) ?_ | refine Eq.trans (q_X11_street_27) ?_ | refine Eq.trans (q_X11_street_38) ?_ | refine Eq.trans (q_X11_street_50) ?_ | refine Eq.trans (q_X11_street_51) ?_ | refine Eq.trans (q_X11_street_76) ?_ | refine Eq.trans (q_X11_street_84) ?_ | refine Eq.trans (q_X11_street_92) ?_)
  rcases Classical.em (¬ (nI 0 ≤ x1 ∧ x1 ≤ nI 99)) with c1 | c1
  · refine (bndN_e (wi_f c1)).trans ?_
    (first | refine Eq.trans (q_X11_street_0) ?_ | refine Eq.trans (q_X11_street_8) ?_ | refine Eq.trans (q_X11_street_34) ?_ | refine Eq.trans (q_X11_street_18) ?_ | refine Eq.trans (q_X11_street_35) ?_ | refine Eq.trans (q_X11_street_27) ?_ | refine Eq.trans (q_X11_street_38) ?_ | refine Eq.trans (q_X11_street_50) ?_ | refine Eq.trans (q_X11_street_51) ?_ | refine Eq.trans (q_X11_street_76) ?_ | refine Eq.trans (q_X11_street_84) ?_ | refine Eq.trans (q_X11_street_92) ?_)
    rw [if_pos rfl]
    exact tail34
  replace c1 := Classical.not_not.mp c1
  refine (bndN_e (wi_t c1.1 c1.2)).trans ?_
  (first | refine Eq.trans (q_X11_street_0) ?_ | refine Eq.trans (q_X11_street_8) ?_ | refine Eq.trans (q_X11_street_34) ?_ | refine Eq.trans (q_X11_street_18) ?_ | refine Eq.trans (q_X11_street_35) ?_ | refine Eq.trans (q_X11_street_27) ?_ | refine Eq.trans (q_X11_street_38) ?_ | refine Eq.trans (q_X11_street_50) ?_ | refine Eq.trans (q_X11_street_51) ?_ | refine Eq.trans (q_X11_street_76) ?_ | refine Eq.trans (q_X11_street_84) ?_ | refine Eq.trans (q_X11_street_92) ?_)
  rw [if_neg (by decide)]
  rcases Classical.em (¬ (nI 0 ≤ x2 ∧ x2 ≤ nI 9)) with c2 | c2
  · refine (bndN_e (wi_f c2)).trans ?_
    (first | refine Eq.trans (q_X11_street_0) ?_ | refine Eq.trans (q_X11_street_8) ?_ | refine Eq.trans (q_X11_street_34) ?_ | refine Eq.trans (q_X11_street_18) ?_ | refine Eq.trans (q_X11_street_35) ?_ | refine Eq.trans (q_X11_street_27) ?_ | refine Eq.trans (q_X11_street_38) ?_ | refine Eq.trans (q_X11_street_50) ?_ | refine Eq.trans (q_X11_street_51) ?_ | refine Eq.trans (q_X11_street_76) ?_ | refine Eq.trans (q_X11_street_84) ?_ | refine Eq.trans (q_X11_street_92) ?_)
    rw [if_pos rfl]
    exact tail34
  replace c2 := Classical.not_not.mp c2
  refine (bndN_e (wi_t c2.1 c2.2)).trans ?_
  (first | refine Eq.trans (q_X11_street_0) ?_ | refine Eq.trans (q_X11_street_8) ?_ | refine Eq.trans (q_X11_street_34) ?_ | refine Eq.trans (q_X11_street_18) ?_ | refine Eq.trans (q_X11_street_35) ?_ | refine Eq.trans (q_X11_street_27) ?_ | refine Eq.trans (q_X11_street_38) ?_ | refine Eq.trans (q_X11_street_50) ?_ | refine Eq.trans (q_X11_street_51) ?_ | refine Eq.trans (q_X11_street_76) ?_ | refine Eq.trans (q_X11_street_84) ?_ | refine Eq.trans (q_X11_street_92) ?_)
  rw [if_neg (by decide)]
  rcases Classical.em (¬ (nI 0 ≤ x3 ∧ x3 ≤ nI 2)) with c3 | c3
  · refine (bndN_e (wi_f c3)).trans ?_
    (first | refine Eq.trans (q_X11_street_0) ?_ | refine Eq.trans (q_X11_street_8) ?_ | refine Eq.trans (q_X11_street_34) ?_ | refine Eq.trans (q_X11_street_18) ?_ | refine Eq.trans (q_X11_street_35) ?_ | refine Eq.trans (q_X11_street_27) ?_ | refine Eq.trans (q_X11_street_38) ?_ | refine Eq.trans (q_X11_street_50) ?_ | refine Eq.trans (q_X11_street_51) ?_ | refine Eq.trans (q_X11_street_76) ?_ | refine Eq.trans (q_X11_street_84) ?_ | refine Eq.trans (q_X11_street_92) ?_)
    rw [if_pos rfl]
    exact tail34
  replace c3 := Classical.not_not.mp c3
  refine (bndN_e (wi_t c3.1 c3.2)).trans ?_
  (first | refine Eq.trans (q_X11_street_0) ?_ | refine Eq.trans (q_X11_street_8) ?_ | refine Eq.trans (q_X11_street_34) ?_ | refine Eq.trans (q_X11_street_18) ?_ | refine Eq.trans (q_X11_street_35) ?_ | refine Eq.trans (q_X11_street_27) ?_ | refine Eq.trans (q_X11_street_38) ?_ | refine Eq.trans (q_X11_street_50) ?_ | refine Eq.trans (q_X11_street_51) ?_ | refine Eq.trans (q_X11_street_76) ?_ | refine Eq.trans (q_X11_street_84) ?_ | refine Eq.trans (q_X11_street_92) ?_)
  rw [if_neg (by decide)]
  exact absurd ⟨c1, c2, c3⟩ hx
theorem b_street (hx : ¬ ((nI 0 ≤ x1 ∧ x1 ≤ nI 99) ∧ (nI 0 ≤ x2 ∧ x2 ≤ nI 9) ∧ (nI 0 ≤ x3 ∧ x3 ≤ nI 2))) : runM (d + 2) nX12_street [.ref 72, .int x1, .int x2, .int x3] (mm L X I J) = rI (nI 0) (mm L X (bdM I 1 1) J) := by
  have tail : ∀ u4 u5 u6 u7 u8, runI (runM (d + 1)) iX12_street (35, [some (.ref 72), some (.int x1), some (.int x2), some (.int x3), u4, u5, u6, u7, u8], [.ref 72], mm L X (up2 I 72 0 (nI 0)) J) = rI (nI 0) (mm L X (bdM I 1 1) J) := by
    intro u4 u5 u6 u7 u8
    (first | refine Eq.trans (q_X12_street_0) ?_ | refine Eq.trans (q_X12_street_13) ?_ | refine Eq.trans (q_X12_street_35) ?_ | refine Eq.trans (q_X12_street_23) ?_ | refine Eq.trans (q_X12_street_40) ?_ | refine Eq.trans (q_X12_street_32) ?_ | refine Eq.trans (q_X12_street_45) ?_ | refine Eq.trans (q_X12_street_62) ?_ | refine Eq.trans (q_X12_street_72) ?_ | refine Eq.trans (q_X12_street_86) ?_ | refine Eq.trans (q_X12_street_170) ?_ | refine Eq.trans (q_X12_street_96) ?_ | refine Eq.trans (q_X12_street_109) ?_ | refine Eq.trans (q_X12_street_145) ?_ | refine Eq.trans (q_X12_street_130) ?_ | refine Eq.trans (q_X12_street_165) ?_ | refine Eq.trans (q_X12_street_139) ?_)
    (first | refine Eq.trans (q_X12_street_0) ?_ | refine Eq.trans (q_X12_street_13) ?_ | refine Eq.trans (q_X12_street_35) ?_ | refine Eq.trans (q_X12_street_23) ?_ | refine Eq.trans (q_X12_street_40) ?_ | refine Eq.trans (q_X12_street_32) ?_ | refine Eq.trans (q_X12_street_45) ?_ | refine Eq.trans (q_X12_street_62) ?_ | refine Eq.trans (q_X12_street_72) ?_ | refine Eq.trans (q_X12_street_86) ?_ | refine Eq.trans (q_X12_street_170) ?_ | refine Eq.trans (q_X12_street_96) ?_ | refine Eq.trans (q_X12_street_109) ?_ | refine Eq.trans (q_X12_street_145) ?_ | refine Eq.trans (q_X12_street_130) ?_ | refine Eq.trans (q_X12_street_165) ?_ | refine Eq.trans (q_X12_street_139) ?_)
    refine (bnd_e (bad_t (by decide) (by decide) (by decide))).trans ?_
    (first | refine Eq.trans (q_X12_street_0) ?_ | refine Eq.trans (q_X12_street_13) ?_ | refine Eq.trans (q_X12_street_35) ?_ | refine Eq.trans (q_X12_street_23) ?_ | refine Eq.trans (q_X12_street_40) ?_ | refine Eq.trans (q_X12_street_32) ?_ | refine Eq.trans (q_X12_street_45) ?_ | refine Eq.trans (q_X12_street_62) ?_ | refine Eq.trans (q_X12_street_72) ?_ | refine Eq.trans (q_X12_street_86) ?_ | refine Eq.trans (q_X12_street_170) ?_ | refine Eq.trans (q_X12_street_96) ?_ | refine Eq.trans (q_X12_street_109) ?_ | refine Eq.trans (q_X12_street_145) ?_ | refine Eq.trans (q_X12_street_130) ?_ | refine Eq.trans (q_X12_street_165) ?_ | refine Eq.trans (q_X12_street_139) ?_)
    rw [if_neg (by decide)]
  rw [e_X12_street]
  (first | refine Eq.trans (q_X12_street_0) ?_ | refine Eq.trans (q_X12_street_13) ?_ | refine Eq.trans (q_X12_street_35) ?_ | refine Eq.trans (q_X12_street_23) ?_ | refine Eq.trans (q_X12_street_40) ?_ | refine Eq.trans (q_X12_street_32) ?_ | refine Eq.trans (q_X12_street_45) ?_ | refine Eq.trans (q_X12_street_62) ?_ | refine Eq.trans (q_X12_street_72) ?_ | refine Eq.trans (q_X12_street_86) ?_ | refine Eq.trans (q_X12_street_170) ?_ | refine Eq.trans (q_X12_street_96) ?_ | refine Eq.trans (q_X12_street_109) ?_ | refine Eq.trans (q_X12_street_145) ?_ | refine Eq.trans (q_X12_street_130) ?_ | refine Eq.trans (q_X12_street_165) ?_ | refine Eq.trans (q_X12_street_139) ?_)
  rcases Classical.em (¬ (nI 0 ≤ x1 ∧ x1 ≤ nI 99)) with c1 | c1
  · refine (bndN_e (in_f c1)).trans ?_
    (first | refine Eq.trans (q_X12_street_0) ?_ | refine Eq.trans (q_X12_street_13) ?_ | refine Eq.trans (q_X12_street_35) ?_ | refine Eq.trans (q_X12_street_23) ?_ | refine Eq.trans (q_X12_street_40) ?_ | refine Eq.trans (q_X12_street_32) ?_ | refine Eq.trans (q_X12_street_45) ?_ | refine Eq.trans (q_X12_street_62) ?_ | refine Eq.trans (q_X12_street_72) ?_ | refine Eq.trans (q_X12_street_86) ?_ | refine Eq.trans (q_X12_street_170) ?_ | refine Eq.trans (q_X12_street_96) ?_ | refine Eq.trans (q_X12_street_109) ?_ | refine Eq.trans (q_X12_street_145) ?_ | refine Eq.trans (q_X12_street_130) ?_ | refine Eq.trans (q_X12_street_165) ?_ | refine Eq.trans (q_X12_street_139) ?_)
    rw [if_pos rfl]
    exact tail _ _ _ _ _
  replace c1 := Classical.not_not.mp c1
  refine (bndN_e (in_t c1.1 c1.2)).trans ?_
  (first | refine Eq.trans (q_X12_street_0) ?_ | refine Eq.trans (q_X12_street_13) ?_ | refine Eq.trans (q_X12_street_35) ?_ | refine Eq.trans (q_X12_street_23) ?_ | refine Eq.trans (q_X12_street_40) ?_ | refine Eq.trans (q_X12_street_32) ?_ | refine Eq.trans (q_X12_street_45) ?_ | refine Eq.trans (q_X12_street_62) ?_ | refine Eq.trans (q_X12_street_72) ?_ | refine Eq.trans (q_X12_street_86) ?_ | refine Eq.trans (q_X12_street_170) ?_ | refine Eq.trans (q_X12_street_96) ?_ | refine Eq.trans (q_X12_street_109) ?_ | refine Eq.trans (q_X12_street_145) ?_ | refine Eq.trans (q_X12_street_130) ?_ | refine Eq.trans (q_X12_street_165) ?_ | refine Eq.trans (q_X12_street_139) ?_)
  rw [if_neg (by decide)]
  rcases Classical.em (¬ (nI 0 ≤ x2 ∧ x2 ≤ nI 9)) with c2 | c2
  · refine (bndN_e (in_f c2)).trans ?_
    (first | refine Eq.trans (q_X12_street_0) ?_ | refine Eq.trans (q_X12_street_13) ?_ | refine Eq.trans (q_X12_street_35) ?_ | refine Eq.trans (q_X12_street_23) ?_ | refine Eq.trans (q_X12_street_40) ?_ | refine Eq.trans (q_X12_street_32) ?_ | refine Eq.trans (q_X12_street_45) ?_ | refine Eq.trans (q_X12_street_62) ?_ | refine Eq.trans (q_X12_street_72) ?_ | refine Eq.trans (q_X12_street_86) ?_ | refine Eq.trans (q_X12_street_170) ?_ | refine Eq.trans (q_X12_street_96) ?_ | refine Eq.trans (q_X12_street_109) ?_ | refine Eq.trans (q_X12_street_145) ?_ | refine Eq.trans (q_X12_street_130) ?_ | refine Eq.trans (q_X12_street_165) ?_ | refine Eq.trans (q_X12_street_139) ?_)
    rw [if_pos rfl]
    exact tail _ _ _ _ _
  replace c2 := Classical.not_not.mp c2
  refine (bndN_e (in_t c2.1 c2.2)).trans ?_
  (first | refine Eq.trans (q_X12_street_0) ?_ | refine Eq.trans (q_X12_street_13) ?_ | refine Eq.trans (q_X12_street_35) ?_ | refine Eq.trans (q_X12_street_23) ?_ | refine Eq.trans (q_X12_street_40) ?_ | refine Eq.trans (q_X12_street_32) ?_ | refine Eq.trans (q_X12_street_45) ?_ | refine Eq.trans (q_X12_street_62) ?_ | refine Eq.trans (q_X12_street_72) ?_ | refine Eq.trans (q_X12_street_86) ?_ | refine Eq.trans (q_X12_street_170) ?_ | refine Eq.trans (q_X12_street_96) ?_ | refine Eq.trans (q_X12_street_109) ?_ | refine Eq.trans (q_X12_street_145) ?_ | refine Eq.trans (q_X12_street_130) ?_ | refine Eq.trans (q_X12_street_165) ?_ | refine Eq.trans (q_X12_street_139) ?_)
  rw [if_neg (by decide)]
  rcases Classical.em (¬ (nI 0 ≤ x3 ∧ x3 ≤ nI 2)) with c3 | c3
  · refine (bndN_e (in_f c3)).trans ?_
    (first | refine Eq.trans (q_X12_street_0) ?_ | refine Eq.trans (q_X12_street_13) ?_ | refine Eq.trans (q_X12_street_35) ?_ | refine Eq.trans (q_X12_street_23) ?_ | refine Eq.trans (q_X12_street_40) ?_ | refine Eq.trans (q_X12_street_32) ?_ | refine Eq.trans (q_X12_street_45) ?_ | refine Eq.trans (q_X12_street_62) ?_ | refine Eq.trans (q_X12_street_72) ?_ | refine Eq.trans (q_X12_street_86) ?_ | refine Eq.trans (q_X12_street_170) ?_ | refine Eq.trans (q_X12_street_96) ?_ | refine Eq.trans (q_X12_street_109) ?_ | refine Eq.trans (q_X12_street_145) ?_ | refine Eq.trans (q_X12_street_130) ?_ | refine Eq.trans (q_X12_street_165) ?_ | refine Eq.trans (q_X12_street_139) ?_)
    rw [if_pos rfl]
    exact tail _ _ _ _ _
  replace c3 := Classical.not_not.mp c3
  refine (bndN_e (in_t c3.1 c3.2)).trans ?_
  (first | refine Eq.trans (q_X12_street_0) ?_ | refine Eq.trans (q_X12_street_13) ?_ | refine Eq.trans (q_X12_street_35) ?_ | refine Eq.trans (q_X12_street_23) ?_ | refine Eq.trans (q_X12_street_40) ?_ | refine Eq.trans (q_X12_street_32) ?_ | refine Eq.trans (q_X12_street_45) ?_ | refine Eq.trans (q_X12_street_62) ?_ | refine Eq.trans (q_X12_street_72) ?_ | refine Eq.trans (q_X12_street_86) ?_ | refine Eq.trans (q_X12_street_170) ?_ | refine Eq.trans (q_X12_street_96) ?_ | refine Eq.trans (q_X12_street_109) ?_ | refine Eq.trans (q_X12_street_145) ?_ | refine Eq.trans (q_X12_street_130) ?_ | refine Eq.trans (q_X12_street_165) ?_ | refine Eq.trans (q_X12_street_139) ?_)
  rw [if_neg (by decide)]
  exact absurd ⟨c1, c2, c3⟩ hx
end AF2
