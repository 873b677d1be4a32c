/-! ASKED: collar, fire, row, behind, would, fits, can, ahead -/
section AB
variable {d L X : Nat} {I : MI32} {J : MI64} {x x1 x2 : Int32} {p f w k : Nat} {h : Hs} {nL n : Nat} {cd : Cd} {N : Nt}
/-! collar -/
theorem c_collar (V : CS I h nL cd n N) (hp : p < h 0 1) (hw : w ≤ 1) : Rt L X (runM (d + 4) nX11_collar [.ref 0, .int (nI p), .int (nI w)] (mm L X I J)) (some (.int (nI (h (5 + w) p)))) (fun I' _ => Fr fQC I I') := by
  obtain ⟨ok, W, ⟨K, LC, Q⟩, C, R, Z⟩ := V
  have h4 := ok.2.1
  have q := (in_np (x := nI p) (show h 0 1 ≤ 6 by omega)).mpr ⟨p, hp, rfl⟩
  obtain ⟨k1, k2⟩ := K.2.2.2.2.1 p hp
  rw [e_X11_collar]
  (first | refine rt_eq (q_X11_collar_0) ?_ | refine rt_eq (q_X11_collar_15) ?_ | refine rt_eq (q_X11_collar_18) ?_ | refine rt_eq (q_X11_collar_25) ?_ | refine rt_eq (q_X11_collar_28) ?_ | refine rt_eq (q_X11_collar_57) ?_ | refine rt_eq (q_X11_collar_43) ?_)
  rw [K.2.1]
  refine rt_bne (wi_t q.1 q.2) ?_
  (first | refine rt_eq (q_X11_collar_0) ?_ | refine rt_eq (q_X11_collar_15) ?_ | refine rt_eq (q_X11_collar_18) ?_ | refine rt_eq (q_X11_collar_25) ?_ | refine rt_eq (q_X11_collar_28) ?_ | refine rt_eq (q_X11_collar_57) ?_ | refine rt_eq (q_X11_collar_43) ?_)
  refine rt_be th_t ?_
  (first | refine rt_eq (q_X11_collar_0) ?_ | refine rt_eq (q_X11_collar_15) ?_ | refine rt_eq (q_X11_collar_18) ?_ | refine rt_eq (q_X11_collar_25) ?_ | refine rt_eq (q_X11_collar_28) ?_ | refine rt_eq (q_X11_collar_57) ?_ | refine rt_eq (q_X11_collar_43) ?_)
  refine rt_bne (wi_t (by (try simp (disch := omega) only [nI_leI, nI_ltI, nI_eq, nI_add, pk_mul, n_0add, Nat.zero_add, nI_clamp]) <;> omega) (by (try simp (disch := omega) only [nI_leI, nI_ltI, nI_eq, nI_add, pk_mul, n_0add, Nat.zero_add, nI_clamp]) <;> omega)) ?_
  (first | refine rt_eq (q_X11_collar_0) ?_ | refine rt_eq (q_X11_collar_15) ?_ | refine rt_eq (q_X11_collar_18) ?_ | refine rt_eq (q_X11_collar_25) ?_ | refine rt_eq (q_X11_collar_28) ?_ | refine rt_eq (q_X11_collar_57) ?_ | refine rt_eq (q_X11_collar_43) ?_)
  refine rt_be ex_t ?_
  (first | refine rt_eq (q_X11_collar_0) ?_ | refine rt_eq (q_X11_collar_15) ?_ | refine rt_eq (q_X11_collar_18) ?_ | refine rt_eq (q_X11_collar_25) ?_ | refine rt_eq (q_X11_collar_28) ?_ | refine rt_eq (q_X11_collar_57) ?_ | refine rt_eq (q_X11_collar_43) ?_)
  have : w = 0 ∨ w = 1 := by omega
  rcases this with rfl | rfl
  · repeat (first | refine rt_t (by decide) ?_ | refine rt_f (by decide) ?_)
    refine rt_bne (sp_pick ka_8 (by decide)) ?_
    (first | refine rt_eq (q_X11_collar_0) ?_ | refine rt_eq (q_X11_collar_15) ?_ | refine rt_eq (q_X11_collar_18) ?_ | refine rt_eq (q_X11_collar_25) ?_ | refine rt_eq (q_X11_collar_28) ?_ | refine rt_eq (q_X11_collar_57) ?_ | refine rt_eq (q_X11_collar_43) ?_)
    exact rt_v (rt_ret fr_rfl) (by rw [pk_n (by omega) (by decide), k1])
  · repeat (first | refine rt_t (by decide) ?_ | refine rt_f (by decide) ?_)
    refine rt_bne (sp_pick ka_9 (by decide)) ?_
    (first | refine rt_eq (q_X11_collar_0) ?_ | refine rt_eq (q_X11_collar_15) ?_ | refine rt_eq (q_X11_collar_18) ?_ | refine rt_eq (q_X11_collar_25) ?_ | refine rt_eq (q_X11_collar_28) ?_ | refine rt_eq (q_X11_collar_57) ?_ | refine rt_eq (q_X11_collar_43) ?_)
    exact rt_v (rt_ret fr_rfl) (by rw [pk_n (by omega) (by decide), k2])
theorem m_collar (V : MS I h nL cd n N) (hp : p < h 0 1) (hw : w ≤ 1) : Rt L X (runM (d + 4) nX12_collar [.ref 72, .int (nI p), .int (nI w)] (mm L X I J)) (some (.int (nI (h (5 + w) p)))) (fun I' J' => (Fr fQM I I' ∧ I' 72 0 = nI 0) ∧ J' = J) := by
  rw [e_X12_collar]
  (first | refine rt_eq (q_X12_collar_0) ?_ | refine rt_eq (q_X12_collar_19) ?_ | refine rt_eq (q_X12_collar_27) ?_ | refine rt_eq (q_X12_collar_32) ?_ | refine rt_eq (q_X12_collar_42) ?_ | refine rt_eq (q_X12_collar_50) ?_ | refine rt_eq (q_X12_collar_55) ?_)
  have V0 := MS0 V; generalize hI0 : up2 I 72 0 (nI 0) = I0 at V0 ⊢; have f0 : Fr fQM I I0 := by rw [← hI0]; exact fr_up fr_rfl rfl
  have t0 : I0 72 0 = nI 0 := by rw [← hI0, up2_s]
  clear hI0
  obtain ⟨ok, W, ⟨H, LM⟩, e, R, Z⟩ := V0
  have h4 := ok.2.1
  have q := (in_np (x := nI p) (show h 0 1 ≤ 6 by omega)).mpr ⟨p, hp, rfl⟩
  obtain ⟨k1, k2, -, -⟩ := H.2.2.2.2.2.2.1 p hp
  rw [H.2.1]
  refine rt_bne (in_t q.1 q.2) ?_
  (first | refine rt_eq (q_X12_collar_0) ?_ | refine rt_eq (q_X12_collar_19) ?_ | refine rt_eq (q_X12_collar_27) ?_ | refine rt_eq (q_X12_collar_32) ?_ | refine rt_eq (q_X12_collar_42) ?_ | refine rt_eq (q_X12_collar_50) ?_ | refine rt_eq (q_X12_collar_55) ?_)
  repeat (first | refine rt_t (by decide) ?_ | refine rt_f (by decide) ?_)
  (first | refine rt_eq (q_X12_collar_0) ?_ | refine rt_eq (q_X12_collar_19) ?_ | refine rt_eq (q_X12_collar_27) ?_ | refine rt_eq (q_X12_collar_32) ?_ | refine rt_eq (q_X12_collar_42) ?_ | refine rt_eq (q_X12_collar_50) ?_ | refine rt_eq (q_X12_collar_55) ?_)
  refine rt_be (bad_f t0) ?_
  (first | refine rt_eq (q_X12_collar_0) ?_ | refine rt_eq (q_X12_collar_19) ?_ | refine rt_eq (q_X12_collar_27) ?_ | refine rt_eq (q_X12_collar_32) ?_ | refine rt_eq (q_X12_collar_42) ?_ | refine rt_eq (q_X12_collar_50) ?_ | refine rt_eq (q_X12_collar_55) ?_)
  repeat (first | refine rt_t (by decide) ?_ | refine rt_f (by decide) ?_)
  refine rt_bne (in_t (by (try simp (disch := omega) only [nI_leI, nI_ltI, nI_eq, nI_add, pk_mul, n_0add, Nat.zero_add, nI_clamp]) <;> omega) (by (try simp (disch := omega) only [nI_leI, nI_ltI, nI_eq, nI_add, pk_mul, n_0add, Nat.zero_add, nI_clamp]) <;> omega)) ?_
  (first | refine rt_eq (q_X12_collar_0) ?_ | refine rt_eq (q_X12_collar_19) ?_ | refine rt_eq (q_X12_collar_27) ?_ | refine rt_eq (q_X12_collar_32) ?_ | refine rt_eq (q_X12_collar_42) ?_ | refine rt_eq (q_X12_collar_50) ?_ | refine rt_eq (q_X12_collar_55) ?_)
  repeat (first | refine rt_t (by decide) ?_ | refine rt_f (by decide) ?_)
  (first | refine rt_eq (q_X12_collar_0) ?_ | refine rt_eq (q_X12_collar_19) ?_ | refine rt_eq (q_X12_collar_27) ?_ | refine rt_eq (q_X12_collar_32) ?_ | refine rt_eq (q_X12_collar_42) ?_ | refine rt_eq (q_X12_collar_50) ?_ | refine rt_eq (q_X12_collar_55) ?_)
  refine rt_be (bad_f t0) ?_
  (first | refine rt_eq (q_X12_collar_0) ?_ | refine rt_eq (q_X12_collar_19) ?_ | refine rt_eq (q_X12_collar_27) ?_ | refine rt_eq (q_X12_collar_32) ?_ | refine rt_eq (q_X12_collar_42) ?_ | refine rt_eq (q_X12_collar_50) ?_ | refine rt_eq (q_X12_collar_55) ?_)
  repeat (first | refine rt_t (by decide) ?_ | refine rt_f (by decide) ?_)
  refine rt_gd (inb_n (by omega) (by decide)) (rt_gd (inb_n (by omega) (by decide)) ?_)
  rw [nI_clamp (show p < 2 ^ 31 by omega), nI_clamp (show w < 2 ^ 31 by omega)]
  have : w = 0 ∨ w = 1 := by omega
  rcases this with rfl | rfl
  · exact rt_v (rt_ret ⟨⟨f0, t0⟩, rfl⟩) k1
  · exact rt_v (rt_ret ⟨⟨f0, t0⟩, rfl⟩) k2
theorem x_collar0 (K : I 3 1 = nI (h 0 1)) (ok : HOK h) (hx : ¬ ∃ p, p < h 0 1 ∧ x1 = nI p) : runM (d + 3) nX11_collar [.ref 0, .int x1, .int x2] (mm L X I J) = some (.inr 0, mm L (X + 1) (ex0 I) J) := by
  have h4 := ok.2.1
  rw [e_X11_collar]
  (first | refine Eq.trans (q_X11_collar_0) ?_ | refine Eq.trans (q_X11_collar_15) ?_ | refine Eq.trans (q_X11_collar_18) ?_ | refine Eq.trans (q_X11_collar_25) ?_ | refine Eq.trans (q_X11_collar_28) ?_ | refine Eq.trans (q_X11_collar_57) ?_ | refine Eq.trans (q_X11_collar_43) ?_)
  rw [K]
  refine (bndN_e (wi_f (fun q => hx ((in_np (by omega)).mp q)))).trans ?_
  (first | refine Eq.trans (q_X11_collar_0) ?_ | refine Eq.trans (q_X11_collar_15) ?_ | refine Eq.trans (q_X11_collar_18) ?_ | refine Eq.trans (q_X11_collar_25) ?_ | refine Eq.trans (q_X11_collar_28) ?_ | refine Eq.trans (q_X11_collar_57) ?_ | refine Eq.trans (q_X11_collar_43) ?_)
  exact bnd_x th_f
theorem x_collar1 (K : I 3 1 = nI (h 0 1)) (ok : HOK h) (hp : p < h 0 1) (hx : ¬ ∃ p, p ≤ 1 ∧ x2 = nI p) : runM (d + 3) nX11_collar [.ref 0, .int (nI p), .int x2] (mm L X I J) = some (.inr 1, mm L (X + 1) (ex1 I) J) := by
  have h4 := ok.2.1
  have q := (in_np (x := nI p) (show h 0 1 ≤ 6 by omega)).mpr ⟨p, hp, rfl⟩
  rw [e_X11_collar]
  (first | refine Eq.trans (q_X11_collar_0) ?_ | refine Eq.trans (q_X11_collar_15) ?_ | refine Eq.trans (q_X11_collar_18) ?_ | refine Eq.trans (q_X11_collar_25) ?_ | refine Eq.trans (q_X11_collar_28) ?_ | refine Eq.trans (q_X11_collar_57) ?_ | refine Eq.trans (q_X11_collar_43) ?_)
  rw [K]
  refine (bndN_e (wi_t q.1 q.2)).trans ?_
  (first | refine Eq.trans (q_X11_collar_0) ?_ | refine Eq.trans (q_X11_collar_15) ?_ | refine Eq.trans (q_X11_collar_18) ?_ | refine Eq.trans (q_X11_collar_25) ?_ | refine Eq.trans (q_X11_collar_28) ?_ | refine Eq.trans (q_X11_collar_57) ?_ | refine Eq.trans (q_X11_collar_43) ?_)
  refine (bnd_e th_t).trans ?_
  (first | refine Eq.trans (q_X11_collar_0) ?_ | refine Eq.trans (q_X11_collar_15) ?_ | refine Eq.trans (q_X11_collar_18) ?_ | refine Eq.trans (q_X11_collar_25) ?_ | refine Eq.trans (q_X11_collar_28) ?_ | refine Eq.trans (q_X11_collar_57) ?_ | refine Eq.trans (q_X11_collar_43) ?_)
  refine (bndN_e (wi_f (fun q => hx ((in_M (by decide)).mp q)))).trans ?_
  (first | refine Eq.trans (q_X11_collar_0) ?_ | refine Eq.trans (q_X11_collar_15) ?_ | refine Eq.trans (q_X11_collar_18) ?_ | refine Eq.trans (q_X11_collar_25) ?_ | refine Eq.trans (q_X11_collar_28) ?_ | refine Eq.trans (q_X11_collar_57) ?_ | refine Eq.trans (q_X11_collar_43) ?_)
  exact bnd_x ex_f
theorem b_collar0 (K : I 76 1 = nI (h 0 1)) (ok : HOK h) (hx : ¬ ∃ p, p < h 0 1 ∧ x1 = nI p) : runM (d + 3) nX12_collar [.ref 72, .int x1, .int x2] (mm L X I J) = rI (nI 0) (mm L X (bdM I 1 0) J) := by
  have h4 := ok.2.1
  rw [e_X12_collar]
  (first | refine Eq.trans (q_X12_collar_0) ?_ | refine Eq.trans (q_X12_collar_19) ?_ | refine Eq.trans (q_X12_collar_27) ?_ | refine Eq.trans (q_X12_collar_32) ?_ | refine Eq.trans (q_X12_collar_42) ?_ | refine Eq.trans (q_X12_collar_50) ?_ | refine Eq.trans (q_X12_collar_55) ?_)
  rw [show up2 I 72 0 (nI 0) 76 1 = nI (h 0 1) by rw [up2_n (by decide)]; exact K]
  refine (bndN_e (in_f (fun q => hx ((in_np (by omega)).mp q)))).trans ?_
  (first | refine Eq.trans (q_X12_collar_0) ?_ | refine Eq.trans (q_X12_collar_19) ?_ | refine Eq.trans (q_X12_collar_27) ?_ | refine Eq.trans (q_X12_collar_32) ?_ | refine Eq.trans (q_X12_collar_42) ?_ | refine Eq.trans (q_X12_collar_50) ?_ | refine Eq.trans (q_X12_collar_55) ?_)
  rw [if_pos rfl]
  (first | refine Eq.trans (q_X12_collar_0) ?_ | refine Eq.trans (q_X12_collar_19) ?_ | refine Eq.trans (q_X12_collar_27) ?_ | refine Eq.trans (q_X12_collar_32) ?_ | refine Eq.trans (q_X12_collar_42) ?_ | refine Eq.trans (q_X12_collar_50) ?_ | refine Eq.trans (q_X12_collar_55) ?_)
  refine (bnd_e (bad_t (by decide) (by decide) (by decide))).trans ?_
  (first | refine Eq.trans (q_X12_collar_0) ?_ | refine Eq.trans (q_X12_collar_19) ?_ | refine Eq.trans (q_X12_collar_27) ?_ | refine Eq.trans (q_X12_collar_32) ?_ | refine Eq.trans (q_X12_collar_42) ?_ | refine Eq.trans (q_X12_collar_50) ?_ | refine Eq.trans (q_X12_collar_55) ?_)
  rw [if_neg (by decide)]
theorem b_collar1 (K : I 76 1 = nI (h 0 1)) (ok : HOK h) (hp : p < h 0 1) (hx : ¬ ∃ p, p ≤ 1 ∧ x2 = nI p) : runM (d + 3) nX12_collar [.ref 72, .int (nI p), .int x2] (mm L X I J) = rI (nI 0) (mm L X (bdM I 2 1) J) := by
  have h4 := ok.2.1
  have q := (in_np (x := nI p) (show h 0 1 ≤ 6 by omega)).mpr ⟨p, hp, rfl⟩
  rw [e_X12_collar]
  (first | refine Eq.trans (q_X12_collar_0) ?_ | refine Eq.trans (q_X12_collar_19) ?_ | refine Eq.trans (q_X12_collar_27) ?_ | refine Eq.trans (q_X12_collar_32) ?_ | refine Eq.trans (q_X12_collar_42) ?_ | refine Eq.trans (q_X12_collar_50) ?_ | refine Eq.trans (q_X12_collar_55) ?_)
  rw [show up2 I 72 0 (nI 0) 76 1 = nI (h 0 1) by rw [up2_n (by decide)]; exact K]
  refine (bndN_e (in_t q.1 q.2)).trans ?_
  (first | refine Eq.trans (q_X12_collar_0) ?_ | refine Eq.trans (q_X12_collar_19) ?_ | refine Eq.trans (q_X12_collar_27) ?_ | refine Eq.trans (q_X12_collar_32) ?_ | refine Eq.trans (q_X12_collar_42) ?_ | refine Eq.trans (q_X12_collar_50) ?_ | refine Eq.trans (q_X12_collar_55) ?_)
  rw [if_neg (by decide)]
  (first | refine Eq.trans (q_X12_collar_0) ?_ | refine Eq.trans (q_X12_collar_19) ?_ | refine Eq.trans (q_X12_collar_27) ?_ | refine Eq.trans (q_X12_collar_32) ?_ | refine Eq.trans (q_X12_collar_42) ?_ | refine Eq.trans (q_X12_collar_50) ?_ | refine Eq.trans (q_X12_collar_55) ?_)
  refine (bnd_e (bad_f up2_s)).trans ?_
  (first | refine Eq.trans (q_X12_collar_0) ?_ | refine Eq.trans (q_X12_collar_19) ?_ | refine Eq.trans (q_X12_collar_27) ?_ | refine Eq.trans (q_X12_collar_32) ?_ | refine Eq.trans (q_X12_collar_42) ?_ | refine Eq.trans (q_X12_collar_50) ?_ | refine Eq.trans (q_X12_collar_55) ?_)
  rw [if_pos rfl]
  refine (bndN_e (in_f (fun q => hx ((in_M (by decide)).mp q)))).trans ?_
  (first | refine Eq.trans (q_X12_collar_0) ?_ | refine Eq.trans (q_X12_collar_19) ?_ | refine Eq.trans (q_X12_collar_27) ?_ | refine Eq.trans (q_X12_collar_32) ?_ | refine Eq.trans (q_X12_collar_42) ?_ | refine Eq.trans (q_X12_collar_50) ?_ | refine Eq.trans (q_X12_collar_55) ?_)
  rw [if_pos rfl]
  (first | refine Eq.trans (q_X12_collar_0) ?_ | refine Eq.trans (q_X12_collar_19) ?_ | refine Eq.trans (q_X12_collar_27) ?_ | refine Eq.trans (q_X12_collar_32) ?_ | refine Eq.trans (q_X12_collar_42) ?_ | refine Eq.trans (q_X12_collar_50) ?_ | refine Eq.trans (q_X12_collar_55) ?_)
  refine (bnd_e (bad_t (by decide) (by decide) (by decide))).trans ?_
  (first | refine Eq.trans (q_X12_collar_0) ?_ | refine Eq.trans (q_X12_collar_19) ?_ | refine Eq.trans (q_X12_collar_27) ?_ | refine Eq.trans (q_X12_collar_32) ?_ | refine Eq.trans (q_X12_collar_42) ?_ | refine Eq.trans (q_X12_collar_50) ?_ | refine Eq.trans (q_X12_collar_55) ?_)
  rw [if_neg (by decide)]
/-! fire -/
def fireA (h : Hs) (nL : Nat) (cd : Cd) (n : Nat) (N : Nt) (f w : Nat) : Int32 := if w = 0 then nI (h 7 f) else if w = 1 then nI (h 8 f) else if w = 2 then bI (rchd h nL cd N n f) else N (24 + f)
theorem c_fire (V : CS I h nL cd n N) (hf : f < h 0 2) (hw : w ≤ 3) : Rt L X (runM (d + 8) nX11_fire [.ref 0, .int (nI f), .int (nI w)] (mm L X I J)) (some (.int (fireA h nL cd n N f w))) (fun I' _ => Fr fQC I I') := by
  obtain ⟨ok, W, ⟨K, LC, Q⟩, C, R, Z⟩ := V
  have h0 : oc3 43 := .inl rfl
  have h5 := ok.2.2.1
  obtain ⟨k1, k2⟩ := K.2.2.2.2.2.1 f hf
  rw [e_X11_fire]
  (first | refine rt_eq (q_X11_fire_0) ?_ | refine rt_eq (q_X11_fire_5) ?_ | refine rt_eq (q_X11_fire_12) ?_ | refine rt_eq (q_X11_fire_15) ?_ | refine rt_eq (q_X11_fire_16) ?_ | refine rt_eq (q_X11_fire_44) ?_ | refine rt_eq (q_X11_fire_56) ?_ | refine rt_eq (q_X11_fire_68) ?_ | refine rt_eq (q_X11_fire_84) ?_ | refine rt_eq (q_X11_fire_55) ?_ | refine rt_eq (q_X11_fire_67) ?_ | refine rt_eq (q_X11_fire_79) ?_ | refine rt_eq (q_X11_fire_95) ?_ | refine rt_eq (q_X11_fire_83) ?_)
  refine rt_be (xf_t K.2.2.1 (by omega) hf) ?_
  (first | refine rt_eq (q_X11_fire_0) ?_ | refine rt_eq (q_X11_fire_5) ?_ | refine rt_eq (q_X11_fire_12) ?_ | refine rt_eq (q_X11_fire_15) ?_ | refine rt_eq (q_X11_fire_16) ?_ | refine rt_eq (q_X11_fire_44) ?_ | refine rt_eq (q_X11_fire_56) ?_ | refine rt_eq (q_X11_fire_68) ?_ | refine rt_eq (q_X11_fire_84) ?_ | refine rt_eq (q_X11_fire_55) ?_ | refine rt_eq (q_X11_fire_67) ?_ | refine rt_eq (q_X11_fire_79) ?_ | refine rt_eq (q_X11_fire_95) ?_ | refine rt_eq (q_X11_fire_83) ?_)
  refine rt_bne (wi_t (by (try simp (disch := omega) only [nI_leI, nI_ltI, nI_eq, nI_add, pk_mul, n_0add, Nat.zero_add, nI_clamp]) <;> omega) (by (try simp (disch := omega) only [nI_leI, nI_ltI, nI_eq, nI_add, pk_mul, n_0add, Nat.zero_add, nI_clamp]) <;> omega)) ?_
  (first | refine rt_eq (q_X11_fire_0) ?_ | refine rt_eq (q_X11_fire_5) ?_ | refine rt_eq (q_X11_fire_12) ?_ | refine rt_eq (q_X11_fire_15) ?_ | refine rt_eq (q_X11_fire_16) ?_ | refine rt_eq (q_X11_fire_44) ?_ | refine rt_eq (q_X11_fire_56) ?_ | refine rt_eq (q_X11_fire_68) ?_ | refine rt_eq (q_X11_fire_84) ?_ | refine rt_eq (q_X11_fire_55) ?_ | refine rt_eq (q_X11_fire_67) ?_ | refine rt_eq (q_X11_fire_79) ?_ | refine rt_eq (q_X11_fire_95) ?_ | refine rt_eq (q_X11_fire_83) ?_)
  refine rt_be ex_t ?_
  (first | refine rt_eq (q_X11_fire_0) ?_ | refine rt_eq (q_X11_fire_5) ?_ | refine rt_eq (q_X11_fire_12) ?_ | refine rt_eq (q_X11_fire_15) ?_ | refine rt_eq (q_X11_fire_16) ?_ | refine rt_eq (q_X11_fire_44) ?_ | refine rt_eq (q_X11_fire_56) ?_ | refine rt_eq (q_X11_fire_68) ?_ | refine rt_eq (q_X11_fire_84) ?_ | refine rt_eq (q_X11_fire_55) ?_ | refine rt_eq (q_X11_fire_67) ?_ | refine rt_eq (q_X11_fire_79) ?_ | refine rt_eq (q_X11_fire_95) ?_ | refine rt_eq (q_X11_fire_83) ?_)
  (first | refine rt_eq (q_X11_fire_0) ?_ | refine rt_eq (q_X11_fire_5) ?_ | refine rt_eq (q_X11_fire_12) ?_ | refine rt_eq (q_X11_fire_15) ?_ | refine rt_eq (q_X11_fire_16) ?_ | refine rt_eq (q_X11_fire_44) ?_ | refine rt_eq (q_X11_fire_56) ?_ | refine rt_eq (q_X11_fire_68) ?_ | refine rt_eq (q_X11_fire_84) ?_ | refine rt_eq (q_X11_fire_55) ?_ | refine rt_eq (q_X11_fire_67) ?_ | refine rt_eq (q_X11_fire_79) ?_ | refine rt_eq (q_X11_fire_95) ?_ | refine rt_eq (q_X11_fire_83) ?_)
  have : w = 0 ∨ w = 1 ∨ w = 2 ∨ w = 3 := by omega
  rcases this with rfl | rfl | rfl | rfl
  all_goals repeat (first | refine rt_t (by decide) ?_ | refine rt_f (by decide) ?_)
  all_goals (first | refine rt_eq (q_X11_fire_0) ?_ | refine rt_eq (q_X11_fire_5) ?_ | refine rt_eq (q_X11_fire_12) ?_ | refine rt_eq (q_X11_fire_15) ?_ | refine rt_eq (q_X11_fire_16) ?_ | refine rt_eq (q_X11_fire_44) ?_ | refine rt_eq (q_X11_fire_56) ?_ | refine rt_eq (q_X11_fire_68) ?_ | refine rt_eq (q_X11_fire_84) ?_ | refine rt_eq (q_X11_fire_55) ?_ | refine rt_eq (q_X11_fire_67) ?_ | refine rt_eq (q_X11_fire_79) ?_ | refine rt_eq (q_X11_fire_95) ?_ | refine rt_eq (q_X11_fire_83) ?_)
  · refine rt_bne (sp_pick ka_10 (by decide)) ?_
    (first | refine rt_eq (q_X11_fire_0) ?_ | refine rt_eq (q_X11_fire_5) ?_ | refine rt_eq (q_X11_fire_12) ?_ | refine rt_eq (q_X11_fire_15) ?_ | refine rt_eq (q_X11_fire_16) ?_ | refine rt_eq (q_X11_fire_44) ?_ | refine rt_eq (q_X11_fire_56) ?_ | refine rt_eq (q_X11_fire_68) ?_ | refine rt_eq (q_X11_fire_84) ?_ | refine rt_eq (q_X11_fire_55) ?_ | refine rt_eq (q_X11_fire_67) ?_ | refine rt_eq (q_X11_fire_79) ?_ | refine rt_eq (q_X11_fire_95) ?_ | refine rt_eq (q_X11_fire_83) ?_)
    exact rt_v (rt_ret fr_rfl) (by rw [pk_n (by omega) (by decide), k1]; rfl)
  · refine rt_bne (sp_pick ka_11 (by decide)) ?_
    (first | refine rt_eq (q_X11_fire_0) ?_ | refine rt_eq (q_X11_fire_5) ?_ | refine rt_eq (q_X11_fire_12) ?_ | refine rt_eq (q_X11_fire_15) ?_ | refine rt_eq (q_X11_fire_16) ?_ | refine rt_eq (q_X11_fire_44) ?_ | refine rt_eq (q_X11_fire_56) ?_ | refine rt_eq (q_X11_fire_68) ?_ | refine rt_eq (q_X11_fire_84) ?_ | refine rt_eq (q_X11_fire_55) ?_ | refine rt_eq (q_X11_fire_67) ?_ | refine rt_eq (q_X11_fire_79) ?_ | refine rt_eq (q_X11_fire_95) ?_ | refine rt_eq (q_X11_fire_83) ?_)
    exact rt_v (rt_ret fr_rfl) (by rw [pk_n (by omega) (by decide), k2]; rfl)
  · refine rt_bnd (sp_reachedBits h0 C R K ok LC W Q) ?_
    rintro I1 J1 ⟨f1, rfl⟩
    (first | refine rt_eq (q_X11_fire_0) ?_ | refine rt_eq (q_X11_fire_5) ?_ | refine rt_eq (q_X11_fire_12) ?_ | refine rt_eq (q_X11_fire_15) ?_ | refine rt_eq (q_X11_fire_16) ?_ | refine rt_eq (q_X11_fire_44) ?_ | refine rt_eq (q_X11_fire_56) ?_ | refine rt_eq (q_X11_fire_68) ?_ | refine rt_eq (q_X11_fire_84) ?_ | refine rt_eq (q_X11_fire_55) ?_ | refine rt_eq (q_X11_fire_67) ?_ | refine rt_eq (q_X11_fire_79) ?_ | refine rt_eq (q_X11_fire_95) ?_ | refine rt_eq (q_X11_fire_83) ?_)
    refine rt_bne sp_bit ?_
    (first | refine rt_eq (q_X11_fire_0) ?_ | refine rt_eq (q_X11_fire_5) ?_ | refine rt_eq (q_X11_fire_12) ?_ | refine rt_eq (q_X11_fire_15) ?_ | refine rt_eq (q_X11_fire_16) ?_ | refine rt_eq (q_X11_fire_44) ?_ | refine rt_eq (q_X11_fire_56) ?_ | refine rt_eq (q_X11_fire_68) ?_ | refine rt_eq (q_X11_fire_84) ?_ | refine rt_eq (q_X11_fire_55) ?_ | refine rt_eq (q_X11_fire_67) ?_ | refine rt_eq (q_X11_fire_79) ?_ | refine rt_eq (q_X11_fire_95) ?_ | refine rt_eq (q_X11_fire_83) ?_)
    refine rt_v (rt_ret (fr_mono f1 fq_W)) ?_
    have hb : bitsN (rchd h nL cd N n) (h 0 2) < 2 ^ 5 := Nat.lt_of_lt_of_le (bitsN_lt _) (Nat.pow_le_pow_right (by decide) h5)
    rw [n_bit (by omega) (by omega), tb_bitsN hf]
    show nI (if rchd h nL cd N n f = true then 1 else 0) = bI (rchd h nL cd N n f)
    unfold bI
    by_cases z : rchd h nL cd N n f = true
    · rw [if_pos z, if_pos z]
    · rw [if_neg z, if_neg z]
  · refine rt_bne (sp_pick ka_47 (by decide)) ?_
    (first | refine rt_eq (q_X11_fire_0) ?_ | refine rt_eq (q_X11_fire_5) ?_ | refine rt_eq (q_X11_fire_12) ?_ | refine rt_eq (q_X11_fire_15) ?_ | refine rt_eq (q_X11_fire_16) ?_ | refine rt_eq (q_X11_fire_44) ?_ | refine rt_eq (q_X11_fire_56) ?_ | refine rt_eq (q_X11_fire_68) ?_ | refine rt_eq (q_X11_fire_84) ?_ | refine rt_eq (q_X11_fire_55) ?_ | refine rt_eq (q_X11_fire_67) ?_ | refine rt_eq (q_X11_fire_79) ?_ | refine rt_eq (q_X11_fire_95) ?_ | refine rt_eq (q_X11_fire_83) ?_)
    exact rt_v (rt_ret fr_rfl) (by rw [pk_n (by omega) (by decide)]; exact C.2.2.2.2.1 f (by omega))
theorem m_fire (V : MS I h nL cd n N) (hf : f < h 0 2) (hw : w ≤ 3) : Rt L X (runM (d + 10) nX12_fire [.ref 72, .int (nI f), .int (nI w)] (mm L X I J)) (some (.int (fireA h nL cd n N f w))) (fun I' J' => (Fr fQM I I' ∧ I' 72 0 = nI 0) ∧ J' = J) := by
  rw [e_X12_fire]
  (first | refine rt_eq (q_X12_fire_0) ?_ | refine rt_eq (q_X12_fire_11) ?_ | refine rt_eq (q_X12_fire_19) ?_ | refine rt_eq (q_X12_fire_24) ?_ | refine rt_eq (q_X12_fire_34) ?_ | refine rt_eq (q_X12_fire_42) ?_ | refine rt_eq (q_X12_fire_47) ?_ | refine rt_eq (q_X12_fire_94) ?_)
  have V0 := MS0 V; generalize hI0 : up2 I 72 0 (nI 0) = I0 at V0 ⊢; have f0 : Fr fQM I I0 := by rw [← hI0]; exact fr_up fr_rfl rfl
  have t0 : I0 72 0 = nI 0 := by rw [← hI0, up2_s]
  clear hI0
  obtain ⟨ok, W, ⟨H, LM⟩, e, R, Z⟩ := V0
  subst e
  have h5 := ok.2.2.1
  obtain ⟨k1, k2⟩ := H.2.2.2.2.2.2.2 f hf
  refine rt_be (if_t H.2.2.1 (by omega) hf) ?_
  (first | refine rt_eq (q_X12_fire_0) ?_ | refine rt_eq (q_X12_fire_11) ?_ | refine rt_eq (q_X12_fire_19) ?_ | refine rt_eq (q_X12_fire_24) ?_ | refine rt_eq (q_X12_fire_34) ?_ | refine rt_eq (q_X12_fire_42) ?_ | refine rt_eq (q_X12_fire_47) ?_ | refine rt_eq (q_X12_fire_94) ?_)
  repeat (first | refine rt_t (by decide) ?_ | refine rt_f (by decide) ?_)
  (first | refine rt_eq (q_X12_fire_0) ?_ | refine rt_eq (q_X12_fire_11) ?_ | refine rt_eq (q_X12_fire_19) ?_ | refine rt_eq (q_X12_fire_24) ?_ | refine rt_eq (q_X12_fire_34) ?_ | refine rt_eq (q_X12_fire_42) ?_ | refine rt_eq (q_X12_fire_47) ?_ | refine rt_eq (q_X12_fire_94) ?_)
  refine rt_be (bad_f t0) ?_
  (first | refine rt_eq (q_X12_fire_0) ?_ | refine rt_eq (q_X12_fire_11) ?_ | refine rt_eq (q_X12_fire_19) ?_ | refine rt_eq (q_X12_fire_24) ?_ | refine rt_eq (q_X12_fire_34) ?_ | refine rt_eq (q_X12_fire_42) ?_ | refine rt_eq (q_X12_fire_47) ?_ | refine rt_eq (q_X12_fire_94) ?_)
  repeat (first | refine rt_t (by decide) ?_ | refine rt_f (by decide) ?_)
  refine rt_bne (in_t (by (try simp (disch := omega) only [nI_leI, nI_ltI, nI_eq, nI_add, pk_mul, n_0add, Nat.zero_add, nI_clamp]) <;> omega) (by (try simp (disch := omega) only [nI_leI, nI_ltI, nI_eq, nI_add, pk_mul, n_0add, Nat.zero_add, nI_clamp]) <;> omega)) ?_
  (first | refine rt_eq (q_X12_fire_0) ?_ | refine rt_eq (q_X12_fire_11) ?_ | refine rt_eq (q_X12_fire_19) ?_ | refine rt_eq (q_X12_fire_24) ?_ | refine rt_eq (q_X12_fire_34) ?_ | refine rt_eq (q_X12_fire_42) ?_ | refine rt_eq (q_X12_fire_47) ?_ | refine rt_eq (q_X12_fire_94) ?_)
  repeat (first | refine rt_t (by decide) ?_ | refine rt_f (by decide) ?_)
  (first | refine rt_eq (q_X12_fire_0) ?_ | refine rt_eq (q_X12_fire_11) ?_ | refine rt_eq (q_X12_fire_19) ?_ | refine rt_eq (q_X12_fire_24) ?_ | refine rt_eq (q_X12_fire_34) ?_ | refine rt_eq (q_X12_fire_42) ?_ | refine rt_eq (q_X12_fire_47) ?_ | refine rt_eq (q_X12_fire_94) ?_)
  refine rt_be (bad_f t0) ?_
  (first | refine rt_eq (q_X12_fire_0) ?_ | refine rt_eq (q_X12_fire_11) ?_ | refine rt_eq (q_X12_fire_19) ?_ | refine rt_eq (q_X12_fire_24) ?_ | refine rt_eq (q_X12_fire_34) ?_ | refine rt_eq (q_X12_fire_42) ?_ | refine rt_eq (q_X12_fire_47) ?_ | refine rt_eq (q_X12_fire_94) ?_)
  have : w = 0 ∨ w = 1 ∨ w = 2 ∨ w = 3 := by omega
  rcases this with rfl | rfl | rfl | rfl
  all_goals repeat (first | refine rt_t (by decide) ?_ | refine rt_f (by decide) ?_)
  · refine rt_gd (inb_n (by omega) (by decide)) (rt_gd (inb_n (by omega) (by decide)) ?_)
    rw [nI_clamp (show f < 2 ^ 31 by omega), nI_clamp (by decide)]
    exact rt_v (rt_ret ⟨⟨f0, t0⟩, rfl⟩) k1
  · refine rt_gd (inb_n (by omega) (by decide)) (rt_gd (inb_n (by omega) (by decide)) ?_)
    rw [nI_clamp (show f < 2 ^ 31 by omega), nI_clamp (by decide)]
    exact rt_v (rt_ret ⟨⟨f0, t0⟩, rfl⟩) k2
  · refine rt_bnd (sp_isReached (.inl rfl) H ok R LM W hf) ?_
    rintro I1 J1 ⟨f1, rfl⟩
    (first | refine rt_eq (q_X12_fire_0) ?_ | refine rt_eq (q_X12_fire_11) ?_ | refine rt_eq (q_X12_fire_19) ?_ | refine rt_eq (q_X12_fire_24) ?_ | refine rt_eq (q_X12_fire_34) ?_ | refine rt_eq (q_X12_fire_42) ?_ | refine rt_eq (q_X12_fire_47) ?_ | refine rt_eq (q_X12_fire_94) ?_)
    have g1 : Fr fQM I I1 := fr_tr f0 (fr_mono f1 fm_W)
    have g2 : I1 72 0 = nI 0 := (f1 72 0 rfl).trans t0
    by_cases z : rchd h nL cd (I0 533) n f = true
    · rw [z]
      repeat (first | refine rt_t (by decide) ?_ | refine rt_f (by decide) ?_)
      refine rt_v (rt_ret ⟨⟨g1, g2⟩, rfl⟩) ?_
      show _ = bI (rchd h nL cd (I0 533) n f)
      rw [z]
      rfl
    · rw [Bool.not_eq_true] at z
      rw [z]
      repeat (first | refine rt_t (by decide) ?_ | refine rt_f (by decide) ?_)
      refine rt_v (rt_ret ⟨⟨g1, g2⟩, rfl⟩) ?_
      show _ = bI (rchd h nL cd (I0 533) n f)
      rw [z]
      rfl
  · rw [nI_add]
    refine rt_gd (inb_n (by omega) (by decide)) ?_
    rw [nI_clamp (by omega)]
    exact rt_v (rt_ret ⟨⟨f0, t0⟩, rfl⟩) rfl
theorem x_fire0 (K : I 3 2 = nI (h 0 2)) (ok : HOK h) (hx : ¬ ∃ p, p < h 0 2 ∧ x1 = nI p) : runM (d + 3) nX11_fire [.ref 0, .int x1, .int x2] (mm L X I J) = some (.inr 0, mm L (X + 1) (ex0 I) J) := by
  have h4 := ok.2.2.1
  rw [e_X11_fire]
  (first | refine Eq.trans (q_X11_fire_0) ?_ | refine Eq.trans (q_X11_fire_5) ?_ | refine Eq.trans (q_X11_fire_12) ?_ | refine Eq.trans (q_X11_fire_15) ?_ | refine Eq.trans (q_X11_fire_16) ?_ | refine Eq.trans (q_X11_fire_44) ?_ | refine Eq.trans (q_X11_fire_56) ?_ | refine Eq.trans (q_X11_fire_68) ?_ | refine Eq.trans (q_X11_fire_84) ?_ | refine Eq.trans (q_X11_fire_55) ?_ | refine Eq.trans (q_X11_fire_67) ?_ | refine Eq.trans (q_X11_fire_79) ?_ | refine Eq.trans (q_X11_fire_95) ?_ | refine Eq.trans (q_X11_fire_83) ?_)
  exact bnd_x (xf_f K (by omega) hx)
theorem x_fire1 (K : I 3 2 = nI (h 0 2)) (ok : HOK h) (hp : p < h 0 2) (hx : ¬ ∃ p, p ≤ 3 ∧ x2 = nI p) : runM (d + 3) nX11_fire [.ref 0, .int (nI p), .int x2] (mm L X I J) = some (.inr 1, mm L (X + 1) (ex1 I) J) := by
  have h4 := ok.2.2.1
  rw [e_X11_fire]
  (first | refine Eq.trans (q_X11_fire_0) ?_ | refine Eq.trans (q_X11_fire_5) ?_ | refine Eq.trans (q_X11_fire_12) ?_ | refine Eq.trans (q_X11_fire_15) ?_ | refine Eq.trans (q_X11_fire_16) ?_ | refine Eq.trans (q_X11_fire_44) ?_ | refine Eq.trans (q_X11_fire_56) ?_ | refine Eq.trans (q_X11_fire_68) ?_ | refine Eq.trans (q_X11_fire_84) ?_ | refine Eq.trans (q_X11_fire_55) ?_ | refine Eq.trans (q_X11_fire_67) ?_ | refine Eq.trans (q_X11_fire_79) ?_ | refine Eq.trans (q_X11_fire_95) ?_ | refine Eq.trans (q_X11_fire_83) ?_)
  refine (bnd_e (xf_t K (by omega) hp)).trans ?_
  (first | refine Eq.trans (q_X11_fire_0) ?_ | refine Eq.trans (q_X11_fire_5) ?_ | refine Eq.trans (q_X11_fire_12) ?_ | refine Eq.trans (q_X11_fire_15) ?_ | refine Eq.trans (q_X11_fire_16) ?_ | refine Eq.trans (q_X11_fire_44) ?_ | refine Eq.trans (q_X11_fire_56) ?_ | refine Eq.trans (q_X11_fire_68) ?_ | refine Eq.trans (q_X11_fire_84) ?_ | refine Eq.trans (q_X11_fire_55) ?_ | refine Eq.trans (q_X11_fire_67) ?_ | refine Eq.trans (q_X11_fire_79) ?_ | refine Eq.trans (q_X11_fire_95) ?_ | refine Eq.trans (q_X11_fire_83) ?_)
  refine (bndN_e (wi_f (fun q => hx ((in_M (by decide)).mp q)))).trans ?_
  (first | refine Eq.trans (q_X11_fire_0) ?_ | refine Eq.trans (q_X11_fire_5) ?_ | refine Eq.trans (q_X11_fire_12) ?_ | refine Eq.trans (q_X11_fire_15) ?_ | refine Eq.trans (q_X11_fire_16) ?_ | refine Eq.trans (q_X11_fire_44) ?_ | refine Eq.trans (q_X11_fire_56) ?_ | refine Eq.trans (q_X11_fire_68) ?_ | refine Eq.trans (q_X11_fire_84) ?_ | refine Eq.trans (q_X11_fire_55) ?_ | refine Eq.trans (q_X11_fire_67) ?_ | refine Eq.trans (q_X11_fire_79) ?_ | refine Eq.trans (q_X11_fire_95) ?_ | refine Eq.trans (q_X11_fire_83) ?_)
  exact bnd_x ex_f
theorem b_fire0 (K : I 76 2 = nI (h 0 2)) (ok : HOK h) (hx : ¬ ∃ p, p < h 0 2 ∧ x1 = nI p) : runM (d + 3) nX12_fire [.ref 72, .int x1, .int x2] (mm L X I J) = rI (nI 0) (mm L X (bdM I 1 0) J) := by
  have h4 := ok.2.2.1
  rw [e_X12_fire]
  (first | refine Eq.trans (q_X12_fire_0) ?_ | refine Eq.trans (q_X12_fire_11) ?_ | refine Eq.trans (q_X12_fire_19) ?_ | refine Eq.trans (q_X12_fire_24) ?_ | refine Eq.trans (q_X12_fire_34) ?_ | refine Eq.trans (q_X12_fire_42) ?_ | refine Eq.trans (q_X12_fire_47) ?_ | refine Eq.trans (q_X12_fire_94) ?_)
  refine (bnd_e (if_f (by rw [up2_n (by decide)]; exact K) (by omega) hx)).trans ?_
  (first | refine Eq.trans (q_X12_fire_0) ?_ | refine Eq.trans (q_X12_fire_11) ?_ | refine Eq.trans (q_X12_fire_19) ?_ | refine Eq.trans (q_X12_fire_24) ?_ | refine Eq.trans (q_X12_fire_34) ?_ | refine Eq.trans (q_X12_fire_42) ?_ | refine Eq.trans (q_X12_fire_47) ?_ | refine Eq.trans (q_X12_fire_94) ?_)
  rw [if_pos rfl]
  (first | refine Eq.trans (q_X12_fire_0) ?_ | refine Eq.trans (q_X12_fire_11) ?_ | refine Eq.trans (q_X12_fire_19) ?_ | refine Eq.trans (q_X12_fire_24) ?_ | refine Eq.trans (q_X12_fire_34) ?_ | refine Eq.trans (q_X12_fire_42) ?_ | refine Eq.trans (q_X12_fire_47) ?_ | refine Eq.trans (q_X12_fire_94) ?_)
  refine (bnd_e (bad_t (by decide) (by decide) (by decide))).trans ?_
  (first | refine Eq.trans (q_X12_fire_0) ?_ | refine Eq.trans (q_X12_fire_11) ?_ | refine Eq.trans (q_X12_fire_19) ?_ | refine Eq.trans (q_X12_fire_24) ?_ | refine Eq.trans (q_X12_fire_34) ?_ | refine Eq.trans (q_X12_fire_42) ?_ | refine Eq.trans (q_X12_fire_47) ?_ | refine Eq.trans (q_X12_fire_94) ?_)
  rw [if_neg (by decide)]
theorem b_fire1 (K : I 76 2 = nI (h 0 2)) (ok : HOK h) (hp : p < h 0 2) (hx : ¬ ∃ p, p ≤ 3 ∧ x2 = nI p) : runM (d + 3) nX12_fire [.ref 72, .int (nI p), .int x2] (mm L X I J) = rI (nI 0) (mm L X (bdM I 2 1) J) := by
  have h4 := ok.2.2.1
  rw [e_X12_fire]
  (first | refine Eq.trans (q_X12_fire_0) ?_ | refine Eq.trans (q_X12_fire_11) ?_ | refine Eq.trans (q_X12_fire_19) ?_ | refine Eq.trans (q_X12_fire_24) ?_ | refine Eq.trans (q_X12_fire_34) ?_ | refine Eq.trans (q_X12_fire_42) ?_ | refine Eq.trans (q_X12_fire_47) ?_ | refine Eq.trans (q_X12_fire_94) ?_)
  refine (bnd_e (if_t (by rw [up2_n (by decide)]; exact K) (by omega) hp)).trans ?_
  (first | refine Eq.trans (q_X12_fire_0) ?_ | refine Eq.trans (q_X12_fire_11) ?_ | refine Eq.trans (q_X12_fire_19) ?_ | refine Eq.trans (q_X12_fire_24) ?_ | refine Eq.trans (q_X12_fire_34) ?_ | refine Eq.trans (q_X12_fire_42) ?_ | refine Eq.trans (q_X12_fire_47) ?_ | refine Eq.trans (q_X12_fire_94) ?_)
  rw [if_neg (by decide)]
  (first | refine Eq.trans (q_X12_fire_0) ?_ | refine Eq.trans (q_X12_fire_11) ?_ | refine Eq.trans (q_X12_fire_19) ?_ | refine Eq.trans (q_X12_fire_24) ?_ | refine Eq.trans (q_X12_fire_34) ?_ | refine Eq.trans (q_X12_fire_42) ?_ | refine Eq.trans (q_X12_fire_47) ?_ | refine Eq.trans (q_X12_fire_94) ?_)
  refine (bnd_e (bad_f up2_s)).trans ?_
  (first | refine Eq.trans (q_X12_fire_0) ?_ | refine Eq.trans (q_X12_fire_11) ?_ | refine Eq.trans (q_X12_fire_19) ?_ | refine Eq.trans (q_X12_fire_24) ?_ | refine Eq.trans (q_X12_fire_34) ?_ | refine Eq.trans (q_X12_fire_42) ?_ | refine Eq.trans (q_X12_fire_47) ?_ | refine Eq.trans (q_X12_fire_94) ?_)
  rw [if_pos rfl]
  refine (bndN_e (in_f (fun q => hx ((in_M (by decide)).mp q)))).trans ?_
  (first | refine Eq.trans (q_X12_fire_0) ?_ | refine Eq.trans (q_X12_fire_11) ?_ | refine Eq.trans (q_X12_fire_19) ?_ | refine Eq.trans (q_X12_fire_24) ?_ | refine Eq.trans (q_X12_fire_34) ?_ | refine Eq.trans (q_X12_fire_42) ?_ | refine Eq.trans (q_X12_fire_47) ?_ | refine Eq.trans (q_X12_fire_94) ?_)
  rw [if_pos rfl]
  (first | refine Eq.trans (q_X12_fire_0) ?_ | refine Eq.trans (q_X12_fire_11) ?_ | refine Eq.trans (q_X12_fire_19) ?_ | refine Eq.trans (q_X12_fire_24) ?_ | refine Eq.trans (q_X12_fire_34) ?_ | refine Eq.trans (q_X12_fire_42) ?_ | refine Eq.trans (q_X12_fire_47) ?_ | refine Eq.trans (q_X12_fire_94) ?_)
  refine (bnd_e (bad_t (by decide) (by decide) (by decide))).trans ?_
  (first | refine Eq.trans (q_X12_fire_0) ?_ | refine Eq.trans (q_X12_fire_11) ?_ | refine Eq.trans (q_X12_fire_19) ?_ | refine Eq.trans (q_X12_fire_24) ?_ | refine Eq.trans (q_X12_fire_34) ?_ | refine Eq.trans (q_X12_fire_42) ?_ | refine Eq.trans (q_X12_fire_47) ?_ | refine Eq.trans (q_X12_fire_94) ?_)
  rw [if_neg (by decide)]
/-! row, behind: k from 0 on -/
theorem c_row (V : CS I h nL cd n N) (hk : k < 2 ^ 31) : Rt L X (runM (d + 4) nX11_row [.ref 0, .int (nI k)] (mm L X I J)) (some (.int (if k < n then N k else -1))) (fun I' _ => Fr fQC I I') := by
  obtain ⟨ok, W, ⟨K, LC, Q⟩, C, R, Z⟩ := V
  have hn6 := R.1.1
  rw [e_X11_row]
  (first | refine rt_eq (q_X11_row_0) ?_ | refine rt_eq (q_X11_row_10) ?_ | refine rt_eq (q_X11_row_13) ?_ | refine rt_eq (q_X11_row_35) ?_)
  refine rt_f (nI_pos hk) ?_
  (first | refine rt_eq (q_X11_row_0) ?_ | refine rt_eq (q_X11_row_10) ?_ | refine rt_eq (q_X11_row_13) ?_ | refine rt_eq (q_X11_row_35) ?_)
  refine rt_be ex_t ?_
  (first | refine rt_eq (q_X11_row_0) ?_ | refine rt_eq (q_X11_row_10) ?_ | refine rt_eq (q_X11_row_13) ?_ | refine rt_eq (q_X11_row_35) ?_)
  rw [C.1]
  by_cases z : k < n
  · refine rt_f (by (try simp (disch := omega) only [nI_leI, nI_ltI, nI_eq, nI_add, pk_mul, n_0add, Nat.zero_add, nI_clamp]) <;> omega) ?_
    refine rt_bne (sp_pick ka_44 (by decide)) ?_
    (first | refine rt_eq (q_X11_row_0) ?_ | refine rt_eq (q_X11_row_10) ?_ | refine rt_eq (q_X11_row_13) ?_ | refine rt_eq (q_X11_row_35) ?_)
    exact rt_v (rt_ret fr_rfl) (by rw [pk_n (by omega) (by decide), if_pos z]; exact C.2.1 k z)
  · refine rt_t (by (try simp (disch := omega) only [nI_leI, nI_ltI, nI_eq, nI_add, pk_mul, n_0add, Nat.zero_add, nI_clamp]) <;> omega) ?_
    exact rt_v (rt_ret fr_rfl) (if_neg z).symm
theorem m_row (V : MS I h nL cd n N) (hk : k < 2 ^ 31) : Rt L X (runM (d + 4) nX12_row [.ref 72, .int (nI k)] (mm L X I J)) (some (.int (if k < n then N k else -1))) (fun I' J' => (Fr fQM I I' ∧ I' 72 0 = nI 0) ∧ J' = J) := by
  rw [e_X12_row]
  (first | refine rt_eq (q_X12_row_0) ?_ | refine rt_eq (q_X12_row_15) ?_ | refine rt_eq (q_X12_row_20) ?_)
  have V0 := MS0 V; generalize hI0 : up2 I 72 0 (nI 0) = I0 at V0 ⊢; have f0 : Fr fQM I I0 := by rw [← hI0]; exact fr_up fr_rfl rfl
  have t0 : I0 72 0 = nI 0 := by rw [← hI0, up2_s]
  clear hI0
  obtain ⟨ok, W, ⟨H, LM⟩, e, R, Z⟩ := V0
  subst e
  have hn6 := R.1.1
  refine rt_t (by (try simp (disch := omega) only [nI_leI, nI_ltI, nI_eq, nI_add, pk_mul, n_0add, Nat.zero_add, nI_clamp]) <;> omega) ?_
  (first | refine rt_eq (q_X12_row_0) ?_ | refine rt_eq (q_X12_row_15) ?_ | refine rt_eq (q_X12_row_20) ?_)
  refine rt_be (bad_f t0) ?_
  (first | refine rt_eq (q_X12_row_0) ?_ | refine rt_eq (q_X12_row_15) ?_ | refine rt_eq (q_X12_row_20) ?_)
  refine rt_t rfl ?_
  by_cases z : k < 6
  · refine rt_f (by (try simp (disch := omega) only [nI_leI, nI_ltI, nI_eq, nI_add, pk_mul, n_0add, Nat.zero_add, nI_clamp]) <;> omega) ?_
    rw [n_0add]
    refine rt_gd (inb_n (by omega) (by decide)) ?_
    rw [nI_clamp hk]
    refine rt_v (rt_ret ⟨⟨f0, t0⟩, rfl⟩) ?_
    by_cases y : k < n
    · rw [if_pos y]
    · rw [if_neg y]
      exact R.2.2.1 k (by omega) z
  · refine rt_t (by (try simp (disch := omega) only [nI_leI, nI_ltI, nI_eq, nI_add, pk_mul, n_0add, Nat.zero_add, nI_clamp]) <;> omega) ?_
    exact rt_v (rt_ret ⟨⟨f0, t0⟩, rfl⟩) (if_neg (by omega)).symm
theorem x_row (hx : x < nI 0) : runM (d + 2) nX11_row [.ref 0, .int x] (mm L X I J) = some (.inr 1, mm L (X + 1) (ex1 I) J) := by
  rw [e_X11_row]
  (first | refine Eq.trans (q_X11_row_0) ?_ | refine Eq.trans (q_X11_row_10) ?_ | refine Eq.trans (q_X11_row_13) ?_ | refine Eq.trans (q_X11_row_35) ?_)
  rw [if_pos hx]
  (first | refine Eq.trans (q_X11_row_0) ?_ | refine Eq.trans (q_X11_row_10) ?_ | refine Eq.trans (q_X11_row_13) ?_ | refine Eq.trans (q_X11_row_35) ?_)
  exact bnd_x ex_f
theorem b_row (hx : x < nI 0) : runM (d + 2) nX12_row [.ref 72, .int x] (mm L X I J) = rI (nI 0) (mm L X (bdM I 1 1) J) := by
  rw [e_X12_row]
  (first | refine Eq.trans (q_X12_row_0) ?_ | refine Eq.trans (q_X12_row_15) ?_ | refine Eq.trans (q_X12_row_20) ?_)
  rw [if_neg (Int32.not_le.mpr hx)]
  (first | refine Eq.trans (q_X12_row_0) ?_ | refine Eq.trans (q_X12_row_15) ?_ | refine Eq.trans (q_X12_row_20) ?_)
  refine (bnd_e (bad_t (by decide) (by decide) (by decide))).trans ?_
  (first | refine Eq.trans (q_X12_row_0) ?_ | refine Eq.trans (q_X12_row_15) ?_ | refine Eq.trans (q_X12_row_20) ?_)
  rw [if_neg (by decide)]
theorem c_behind (V : CS I h nL cd n N) (hk : k < 2 ^ 31) : Rt L X (runM (d + 6) nX11_behind [.ref 0, .int (nI k)] (mm L X I J)) (some (.int (if k < n then arN h nL cd N (k + 1) else -1))) (fun I' _ => Fr fQC I I') := by
  obtain ⟨ok, W, ⟨K, LC, Q⟩, C, R, Z⟩ := V
  have hn6 := R.1.1
  rw [e_X11_behind]
  (first | refine rt_eq (q_X11_behind_0) ?_ | refine rt_eq (q_X11_behind_10) ?_ | refine rt_eq (q_X11_behind_13) ?_ | refine rt_eq (q_X11_behind_44) ?_ | refine rt_eq (q_X11_behind_56) ?_)
  refine rt_f (nI_pos hk) ?_
  (first | refine rt_eq (q_X11_behind_0) ?_ | refine rt_eq (q_X11_behind_10) ?_ | refine rt_eq (q_X11_behind_13) ?_ | refine rt_eq (q_X11_behind_44) ?_ | refine rt_eq (q_X11_behind_56) ?_)
  refine rt_be ex_t ?_
  (first | refine rt_eq (q_X11_behind_0) ?_ | refine rt_eq (q_X11_behind_10) ?_ | refine rt_eq (q_X11_behind_13) ?_ | refine rt_eq (q_X11_behind_44) ?_ | refine rt_eq (q_X11_behind_56) ?_)
  rw [C.1, NC_hope C]
  by_cases z : k < n
  · refine rt_t (by (try simp (disch := omega) only [nI_leI, nI_ltI, nI_eq, nI_add, pk_mul, n_0add, Nat.zero_add, nI_clamp]) <;> omega) ?_
    refine rt_bnd (sp_arrC (.inl rfl) C R K ok LC W Q) ?_
    rintro I1 J1 ⟨⟨f1, f2⟩, rfl⟩
    (first | refine rt_eq (q_X11_behind_0) ?_ | refine rt_eq (q_X11_behind_10) ?_ | refine rt_eq (q_X11_behind_13) ?_ | refine rt_eq (q_X11_behind_44) ?_ | refine rt_eq (q_X11_behind_56) ?_)
    refine rt_bne (sp_pick ka_53 (by decide)) ?_
    (first | refine rt_eq (q_X11_behind_0) ?_ | refine rt_eq (q_X11_behind_10) ?_ | refine rt_eq (q_X11_behind_13) ?_ | refine rt_eq (q_X11_behind_44) ?_ | refine rt_eq (q_X11_behind_56) ?_)
    exact rt_v (rt_ret (fr_mono f1 fq_W)) (by rw [pk_n (by omega) (by decide), f2 k z, if_pos z]; rfl)
  · refine rt_f (by (try simp (disch := omega) only [nI_leI, nI_ltI, nI_eq, nI_add, pk_mul, n_0add, Nat.zero_add, nI_clamp]) <;> omega) ?_
    exact rt_v (rt_ret fr_rfl) (if_neg z).symm
theorem m_behind (V : MS I h nL cd n N) (hk : k < 2 ^ 31) : Rt L X (runM (d + 9) nX12_behind [.ref 72, .int (nI k)] (mm L X I J)) (some (.int (if k < n then arN h nL cd N (k + 1) else -1))) (fun I' J' => (Fr fQM I I' ∧ I' 72 0 = nI 0) ∧ J' = J) := by
  rw [e_X12_behind]
  (first | refine rt_eq (q_X12_behind_0) ?_ | refine rt_eq (q_X12_behind_15) ?_ | refine rt_eq (q_X12_behind_20) ?_ | refine rt_eq (q_X12_behind_33) ?_ | refine rt_eq (q_X12_behind_42) ?_)
  have V0 := MS0 V; generalize hI0 : up2 I 72 0 (nI 0) = I0 at V0 ⊢; have f0 : Fr fQM I I0 := by rw [← hI0]; exact fr_up fr_rfl rfl
  have t0 : I0 72 0 = nI 0 := by rw [← hI0, up2_s]
  clear hI0
  obtain ⟨ok, W, ⟨H, LM⟩, e, R, Z⟩ := V0
  subst e
  have hn6 := R.1.1
  refine rt_t (by (try simp (disch := omega) only [nI_leI, nI_ltI, nI_eq, nI_add, pk_mul, n_0add, Nat.zero_add, nI_clamp]) <;> omega) ?_
  (first | refine rt_eq (q_X12_behind_0) ?_ | refine rt_eq (q_X12_behind_15) ?_ | refine rt_eq (q_X12_behind_20) ?_ | refine rt_eq (q_X12_behind_33) ?_ | refine rt_eq (q_X12_behind_42) ?_)
  refine rt_be (bad_f t0) ?_
  (first | refine rt_eq (q_X12_behind_0) ?_ | refine rt_eq (q_X12_behind_15) ?_ | refine rt_eq (q_X12_behind_20) ?_ | refine rt_eq (q_X12_behind_33) ?_ | refine rt_eq (q_X12_behind_42) ?_)
  refine rt_t rfl ?_
  refine rt_bnd (sp_arrives (.inl rfl) H ok R LM W) ?_
  rintro I1 J1 ⟨⟨f1, f2⟩, rfl⟩
  have e1 : I1 533 = I0 533 := funext fun i => f1 533 i rfl
  have R1 := R
  rw [← e1] at R1
  (first | refine rt_eq (q_X12_behind_0) ?_ | refine rt_eq (q_X12_behind_15) ?_ | refine rt_eq (q_X12_behind_20) ?_ | refine rt_eq (q_X12_behind_33) ?_ | refine rt_eq (q_X12_behind_42) ?_)
  refine rt_bne (sp_manyIn ka_533 R1) ?_
  (first | refine rt_eq (q_X12_behind_0) ?_ | refine rt_eq (q_X12_behind_15) ?_ | refine rt_eq (q_X12_behind_20) ?_ | refine rt_eq (q_X12_behind_33) ?_ | refine rt_eq (q_X12_behind_42) ?_)
  have g1 : Fr fQM I I1 := fr_tr f0 (fr_mono f1 fm_W)
  have g2 : I1 72 0 = nI 0 := (f1 72 0 rfl).trans t0
  by_cases z : k < n
  · refine rt_f (by (try simp (disch := omega) only [nI_leI, nI_ltI, nI_eq, nI_add, pk_mul, n_0add, Nat.zero_add, nI_clamp]) <;> omega) ?_
    refine rt_gd (inb_n (by omega) (by decide)) ?_
    rw [nI_clamp hk]
    exact rt_v (rt_ret ⟨⟨g1, g2⟩, rfl⟩) (by rw [f2 k z, if_pos z])
  · refine rt_t (by (try simp (disch := omega) only [nI_leI, nI_ltI, nI_eq, nI_add, pk_mul, n_0add, Nat.zero_add, nI_clamp]) <;> omega) ?_
    exact rt_v (rt_ret ⟨⟨g1, g2⟩, rfl⟩) (if_neg z).symm
theorem x_behind (hx : x < nI 0) : runM (d + 2) nX11_behind [.ref 0, .int x] (mm L X I J) = some (.inr 1, mm L (X + 1) (ex1 I) J) := by
  rw [e_X11_behind]
  (first | refine Eq.trans (q_X11_behind_0) ?_ | refine Eq.trans (q_X11_behind_10) ?_ | refine Eq.trans (q_X11_behind_13) ?_ | refine Eq.trans (q_X11_behind_44) ?_ | refine Eq.trans (q_X11_behind_56) ?_)
  rw [if_pos hx]
  (first | refine Eq.trans (q_X11_behind_0) ?_ | refine Eq.trans (q_X11_behind_10) ?_ | refine Eq.trans (q_X11_behind_13) ?_ | refine Eq.trans (q_X11_behind_44) ?_ | refine Eq.trans (q_X11_behind_56) ?_)
  exact bnd_x ex_f
theorem b_behind (hx : x < nI 0) : runM (d + 2) nX12_behind [.ref 72, .int x] (mm L X I J) = rI (nI 0) (mm L X (bdM I 1 1) J) := by
  rw [e_X12_behind]
  (first | refine Eq.trans (q_X12_behind_0) ?_ | refine Eq.trans (q_X12_behind_15) ?_ | refine Eq.trans (q_X12_behind_20) ?_ | refine Eq.trans (q_X12_behind_33) ?_ | refine Eq.trans (q_X12_behind_42) ?_)
  rw [if_neg (Int32.not_le.mpr hx)]
  (first | refine Eq.trans (q_X12_behind_0) ?_ | refine Eq.trans (q_X12_behind_15) ?_ | refine Eq.trans (q_X12_behind_20) ?_ | refine Eq.trans (q_X12_behind_33) ?_ | refine Eq.trans (q_X12_behind_42) ?_)
  refine (bnd_e (bad_t (by decide) (by decide) (by decide))).trans ?_
  (first | refine Eq.trans (q_X12_behind_0) ?_ | refine Eq.trans (q_X12_behind_15) ?_ | refine Eq.trans (q_X12_behind_20) ?_ | refine Eq.trans (q_X12_behind_33) ?_ | refine Eq.trans (q_X12_behind_42) ?_)
  rw [if_neg (by decide)]
/-! fits, can -/
theorem joinsC {s t : Nat} (K : HC I h (h 0 1)) (hs : s ≤ 9) (ht : t ≤ 9) : runM (d + 2) nX1_joins [.ref 3, .int (nI s), .int (nI t)] (mm L X I J) = rB (jn h (h 0 1) s t) (mm L X I J) := by
  rw [sp_joins (.inl rfl)]
  show rB (decide ((pk (I 12) 10 (nI s) >>> (nI t &&& 31)) &&& nI 1 = nI 1)) _ = _
  rw [pk_n (by omega) (by decide), K.2.2.2.2.2.2 s (by omega), n_bit (Nat.lt_trans (bitsN_lt 10) (by decide)) (by omega), tb_bitsN (by omega)]
  congr 3
  by_cases e : jn h (h 0 1) s t = true
  · rw [if_pos e, e]
    decide
  · rw [if_neg e, show jn h (h 0 1) s t = false by simpa using e]
    decide
theorem c_fits {s t : Nat} (V : CS I h nL cd n N) (hs : s ≤ 9) (ht : t ≤ 9) : Rt L X (runM (d + 4) nX11_fits [.ref 0, .int (nI s), .int (nI t)] (mm L X I J)) (some (.int (bI (jn h (h 0 1) s t)))) (fun I' _ => Fr fQC I I') := by
  obtain ⟨ok, W, ⟨K, LC, Q⟩, C, R, Z⟩ := V
  rw [e_X11_fits]
  (first | refine rt_eq (q_X11_fits_0) ?_ | refine rt_eq (q_X11_fits_5) ?_ | refine rt_eq (q_X11_fits_10) ?_ | refine rt_eq (q_X11_fits_19) ?_)
  refine rt_be (xt_t hs) ?_
  (first | refine rt_eq (q_X11_fits_0) ?_ | refine rt_eq (q_X11_fits_5) ?_ | refine rt_eq (q_X11_fits_10) ?_ | refine rt_eq (q_X11_fits_19) ?_)
  refine rt_be (xt_t ht) ?_
  (first | refine rt_eq (q_X11_fits_0) ?_ | refine rt_eq (q_X11_fits_5) ?_ | refine rt_eq (q_X11_fits_10) ?_ | refine rt_eq (q_X11_fits_19) ?_)
  refine rt_be (joinsC K hs ht) ?_
  (first | refine rt_eq (q_X11_fits_0) ?_ | refine rt_eq (q_X11_fits_5) ?_ | refine rt_eq (q_X11_fits_10) ?_ | refine rt_eq (q_X11_fits_19) ?_)
  exact rt_gd bI_b01 (rt_ret fr_rfl)
theorem m_fits {s t : Nat} (V : MS I h nL cd n N) (hs : s ≤ 9) (ht : t ≤ 9) : Rt L X (runM (d + 4) nX12_fits [.ref 72, .int (nI s), .int (nI t)] (mm L X I J)) (some (.int (bI (jn h (h 0 1) s t)))) (fun I' J' => (Fr fQM I I' ∧ I' 72 0 = nI 0) ∧ J' = J) := by
  rw [e_X12_fits]
  (first | refine rt_eq (q_X12_fits_0) ?_ | refine rt_eq (q_X12_fits_10) ?_ | refine rt_eq (q_X12_fits_20) ?_ | refine rt_eq (q_X12_fits_17) ?_ | refine rt_eq (q_X12_fits_25) ?_ | refine rt_eq (q_X12_fits_30) ?_ | refine rt_eq (q_X12_fits_41) ?_)
  have V0 := MS0 V; generalize hI0 : up2 I 72 0 (nI 0) = I0 at V0 ⊢; have f0 : Fr fQM I I0 := by rw [← hI0]; exact fr_up fr_rfl rfl
  have t0 : I0 72 0 = nI 0 := by rw [← hI0, up2_s]
  clear hI0
  obtain ⟨ok, W, ⟨H, LM⟩, e, R, Z⟩ := V0
  refine rt_bne (it_t hs) ?_
  (first | refine rt_eq (q_X12_fits_0) ?_ | refine rt_eq (q_X12_fits_10) ?_ | refine rt_eq (q_X12_fits_20) ?_ | refine rt_eq (q_X12_fits_17) ?_ | refine rt_eq (q_X12_fits_25) ?_ | refine rt_eq (q_X12_fits_30) ?_ | refine rt_eq (q_X12_fits_41) ?_)
  repeat (first | refine rt_t (by decide) ?_ | refine rt_f (by decide) ?_)
  refine rt_bne (it_t ht) ?_
  (first | refine rt_eq (q_X12_fits_0) ?_ | refine rt_eq (q_X12_fits_10) ?_ | refine rt_eq (q_X12_fits_20) ?_ | refine rt_eq (q_X12_fits_17) ?_ | refine rt_eq (q_X12_fits_25) ?_ | refine rt_eq (q_X12_fits_30) ?_ | refine rt_eq (q_X12_fits_41) ?_)
  repeat (first | refine rt_t (by decide) ?_ | refine rt_f (by decide) ?_)
  (first | refine rt_eq (q_X12_fits_0) ?_ | refine rt_eq (q_X12_fits_10) ?_ | refine rt_eq (q_X12_fits_20) ?_ | refine rt_eq (q_X12_fits_17) ?_ | refine rt_eq (q_X12_fits_25) ?_ | refine rt_eq (q_X12_fits_30) ?_ | refine rt_eq (q_X12_fits_41) ?_)
  refine rt_be (bad_f t0) ?_
  (first | refine rt_eq (q_X12_fits_0) ?_ | refine rt_eq (q_X12_fits_10) ?_ | refine rt_eq (q_X12_fits_20) ?_ | refine rt_eq (q_X12_fits_17) ?_ | refine rt_eq (q_X12_fits_25) ?_ | refine rt_eq (q_X12_fits_30) ?_ | refine rt_eq (q_X12_fits_41) ?_)
  repeat (first | refine rt_t (by decide) ?_ | refine rt_f (by decide) ?_)
  refine rt_be (sp_isJoined H (by omega) (by omega)) ?_
  (first | refine rt_eq (q_X12_fits_0) ?_ | refine rt_eq (q_X12_fits_10) ?_ | refine rt_eq (q_X12_fits_20) ?_ | refine rt_eq (q_X12_fits_17) ?_ | refine rt_eq (q_X12_fits_25) ?_ | refine rt_eq (q_X12_fits_30) ?_ | refine rt_eq (q_X12_fits_41) ?_)
  exact rt_gd bI_b01 (rt_ret ⟨⟨f0, t0⟩, rfl⟩)
theorem x_fits (hx : ¬ ((∃ p, p ≤ 9 ∧ x1 = nI p) ∧ ∃ p, p ≤ 9 ∧ x2 = nI p)) : runM (d + 3) nX11_fits [.ref 0, .int x1, .int x2] (mm L X I J) = some (.inr 1, mm L (X + 1) (ex1 I) J) := by
  rw [e_X11_fits]
  (first | refine Eq.trans (q_X11_fits_0) ?_ | refine Eq.trans (q_X11_fits_5) ?_ | refine Eq.trans (q_X11_fits_10) ?_ | refine Eq.trans (q_X11_fits_19) ?_)
  by_cases h1 : ∃ p, p ≤ 9 ∧ x1 = nI p
  · obtain ⟨p, hp, rfl⟩ := h1
    refine (bnd_e (xt_t hp)).trans ?_
    (first | refine Eq.trans (q_X11_fits_0) ?_ | refine Eq.trans (q_X11_fits_5) ?_ | refine Eq.trans (q_X11_fits_10) ?_ | refine Eq.trans (q_X11_fits_19) ?_)
    exact bnd_x (xt_f (fun q => hx ⟨⟨p, hp, rfl⟩, q⟩))
  · exact bnd_x (xt_f h1)
theorem b_fits (hx : ¬ ((∃ p, p ≤ 9 ∧ x1 = nI p) ∧ ∃ p, p ≤ 9 ∧ x2 = nI p)) : runM (d + 3) nX12_fits [.ref 72, .int x1, .int x2] (mm L X I J) = rI (nI 0) (mm L X (bdM I 1 1) J) := by
  have tail : runI (runM (d + 2)) iX12_fits (20, [some (.ref 72), some (.int x1), some (.int x2)], [.ref 72], mm L X (up2 I 72 0 (nI 0)) J) = rI (nI 0) (mm L X (bdM I 1 1) J) := by
    (first | refine Eq.trans (q_X12_fits_0) ?_ | refine Eq.trans (q_X12_fits_10) ?_ | refine Eq.trans (q_X12_fits_20) ?_ | refine Eq.trans (q_X12_fits_17) ?_ | refine Eq.trans (q_X12_fits_25) ?_ | refine Eq.trans (q_X12_fits_30) ?_ | refine Eq.trans (q_X12_fits_41) ?_)
    (first | refine Eq.trans (q_X12_fits_0) ?_ | refine Eq.trans (q_X12_fits_10) ?_ | refine Eq.trans (q_X12_fits_20) ?_ | refine Eq.trans (q_X12_fits_17) ?_ | refine Eq.trans (q_X12_fits_25) ?_ | refine Eq.trans (q_X12_fits_30) ?_ | refine Eq.trans (q_X12_fits_41) ?_)
    refine (bnd_e (bad_t (by decide) (by decide) (by decide))).trans ?_
    (first | refine Eq.trans (q_X12_fits_0) ?_ | refine Eq.trans (q_X12_fits_10) ?_ | refine Eq.trans (q_X12_fits_20) ?_ | refine Eq.trans (q_X12_fits_17) ?_ | refine Eq.trans (q_X12_fits_25) ?_ | refine Eq.trans (q_X12_fits_30) ?_ | refine Eq.trans (q_X12_fits_41) ?_)
    rw [if_neg (by decide)]
  rw [e_X12_fits]
  (first | refine Eq.trans (q_X12_fits_0) ?_ | refine Eq.trans (q_X12_fits_10) ?_ | refine Eq.trans (q_X12_fits_20) ?_ | refine Eq.trans (q_X12_fits_17) ?_ | refine Eq.trans (q_X12_fits_25) ?_ | refine Eq.trans (q_X12_fits_30) ?_ | refine Eq.trans (q_X12_fits_41) ?_)
  by_cases h1 : ∃ p, p ≤ 9 ∧ x1 = nI p
  · obtain ⟨p, hp, rfl⟩ := h1
    refine (bndN_e (it_t hp)).trans ?_
    (first | refine Eq.trans (q_X12_fits_0) ?_ | refine Eq.trans (q_X12_fits_10) ?_ | refine Eq.trans (q_X12_fits_20) ?_ | refine Eq.trans (q_X12_fits_17) ?_ | refine Eq.trans (q_X12_fits_25) ?_ | refine Eq.trans (q_X12_fits_30) ?_ | refine Eq.trans (q_X12_fits_41) ?_)
    rw [if_neg (by decide)]
    refine (bndN_e (it_f (fun q => hx ⟨⟨p, hp, rfl⟩, q⟩))).trans ?_
    (first | refine Eq.trans (q_X12_fits_0) ?_ | refine Eq.trans (q_X12_fits_10) ?_ | refine Eq.trans (q_X12_fits_20) ?_ | refine Eq.trans (q_X12_fits_17) ?_ | refine Eq.trans (q_X12_fits_25) ?_ | refine Eq.trans (q_X12_fits_30) ?_ | refine Eq.trans (q_X12_fits_41) ?_)
    rw [if_pos rfl]
    exact tail
  · refine (bndN_e (it_f h1)).trans ?_
    (first | refine Eq.trans (q_X12_fits_0) ?_ | refine Eq.trans (q_X12_fits_10) ?_ | refine Eq.trans (q_X12_fits_20) ?_ | refine Eq.trans (q_X12_fits_17) ?_ | refine Eq.trans (q_X12_fits_25) ?_ | refine Eq.trans (q_X12_fits_30) ?_ | refine Eq.trans (q_X12_fits_41) ?_)
    rw [if_pos rfl]
    exact tail
theorem c_can (V : CS I h nL cd n N) (hp : p < h 0 0) : Rt L X (runM (d + 6) nX11_can [.ref 0, .int (nI p)] (mm L X I J)) (some (.int (bI (canL h (h 0 1) n N (2 * p + nv (N (6 + p))))))) (fun I' _ => Fr fQC I I') := by
  obtain ⟨ok, W, ⟨K, LC, Q⟩, C, R, Z⟩ := V
  have h6 := ok.1
  obtain ⟨t1, t2⟩ := R.2.2.2.2 p (by omega)
  rw [e_X11_can]
  (first | refine rt_eq (q_X11_can_0) ?_ | refine rt_eq (q_X11_can_5) ?_ | refine rt_eq (q_X11_can_21) ?_ | refine rt_eq (q_X11_can_24) ?_)
  refine rt_be (xp_t K.1 h6 hp) ?_
  (first | refine rt_eq (q_X11_can_0) ?_ | refine rt_eq (q_X11_can_5) ?_ | refine rt_eq (q_X11_can_21) ?_ | refine rt_eq (q_X11_can_24) ?_)
  refine rt_be (sp_wayOf (.inl rfl) C (by omega)) ?_
  (first | refine rt_eq (q_X11_can_0) ?_ | refine rt_eq (q_X11_can_5) ?_ | refine rt_eq (q_X11_can_21) ?_ | refine rt_eq (q_X11_can_24) ?_)
  refine rt_be (sp_canLayC (.inl rfl) C R K ok (by omega)) ?_
  (first | refine rt_eq (q_X11_can_0) ?_ | refine rt_eq (q_X11_can_5) ?_ | refine rt_eq (q_X11_can_21) ?_ | refine rt_eq (q_X11_can_24) ?_)
  exact rt_gd bI_b01 (rt_ret fr_rfl)
theorem m_can (V : MS I h nL cd n N) (hp : p < h 0 0) : Rt L X (runM (d + 4) nX12_can [.ref 72, .int (nI p)] (mm L X I J)) (some (.int (bI (canL h (h 0 1) n N (2 * p + nv (N (6 + p))))))) (fun I' J' => (Fr fQM I I' ∧ I' 72 0 = nI 0) ∧ J' = J) := by
  rw [e_X12_can]
  (first | refine rt_eq (q_X12_can_0) ?_ | refine rt_eq (q_X12_can_11) ?_ | refine rt_eq (q_X12_can_19) ?_ | refine rt_eq (q_X12_can_24) ?_ | refine rt_eq (q_X12_can_47) ?_)
  have V0 := MS0 V; generalize hI0 : up2 I 72 0 (nI 0) = I0 at V0 ⊢; have f0 : Fr fQM I I0 := by rw [← hI0]; exact fr_up fr_rfl rfl
  have t0 : I0 72 0 = nI 0 := by rw [← hI0, up2_s]
  clear hI0
  obtain ⟨ok, W, ⟨H, LM⟩, e, R, Z⟩ := V0
  subst e
  have h6 := ok.1
  obtain ⟨t1, t2⟩ := R.2.2.2.2 p (by omega)
  refine rt_be (ip_t H.1 h6 hp) ?_
  (first | refine rt_eq (q_X12_can_0) ?_ | refine rt_eq (q_X12_can_11) ?_ | refine rt_eq (q_X12_can_19) ?_ | refine rt_eq (q_X12_can_24) ?_ | refine rt_eq (q_X12_can_47) ?_)
  repeat (first | refine rt_t (by decide) ?_ | refine rt_f (by decide) ?_)
  (first | refine rt_eq (q_X12_can_0) ?_ | refine rt_eq (q_X12_can_11) ?_ | refine rt_eq (q_X12_can_19) ?_ | refine rt_eq (q_X12_can_24) ?_ | refine rt_eq (q_X12_can_47) ?_)
  refine rt_be (bad_f t0) ?_
  (first | refine rt_eq (q_X12_can_0) ?_ | refine rt_eq (q_X12_can_11) ?_ | refine rt_eq (q_X12_can_19) ?_ | refine rt_eq (q_X12_can_24) ?_ | refine rt_eq (q_X12_can_47) ?_)
  repeat (first | refine rt_t (by decide) ?_ | refine rt_f (by decide) ?_)
  rw [nI_add]
  refine rt_gd (inb_n (by omega) (by decide)) ?_
  rw [nI_clamp (by omega)]
  generalize hq : nv (I0 533 (6 + p)) = t at t1 t2 ⊢
  rw [t1]
  refine rt_be (sp_canLayM ka_533 H ok R hp t2) ?_
  (first | refine rt_eq (q_X12_can_0) ?_ | refine rt_eq (q_X12_can_11) ?_ | refine rt_eq (q_X12_can_19) ?_ | refine rt_eq (q_X12_can_24) ?_ | refine rt_eq (q_X12_can_47) ?_)
  exact rt_gd bI_b01 (rt_ret ⟨⟨f0, t0⟩, rfl⟩)
theorem x_can (K : I 3 0 = nI (h 0 0)) (ok : HOK h) (hx : ¬ ∃ p, p < h 0 0 ∧ x1 = nI p) : runM (d + 3) nX11_can [.ref 0, .int x1] (mm L X I J) = some (.inr 0, mm L (X + 1) (ex0 I) J) := by
  rw [e_X11_can]
  (first | refine Eq.trans (q_X11_can_0) ?_ | refine Eq.trans (q_X11_can_5) ?_ | refine Eq.trans (q_X11_can_21) ?_ | refine Eq.trans (q_X11_can_24) ?_)
  exact bnd_x (xp_f K ok.1 hx)
theorem b_can (K : I 76 0 = nI (h 0 0)) (ok : HOK h) (hx : ¬ ∃ p, p < h 0 0 ∧ x1 = nI p) : runM (d + 3) nX12_can [.ref 72, .int x1] (mm L X I J) = rI (nI 0) (mm L X (bdM I 1 0) J) := by
  rw [e_X12_can]
  (first | refine Eq.trans (q_X12_can_0) ?_ | refine Eq.trans (q_X12_can_11) ?_ | refine Eq.trans (q_X12_can_19) ?_ | refine Eq.trans (q_X12_can_24) ?_ | refine Eq.trans (q_X12_can_47) ?_)
  refine (bnd_e (ip_f (by rw [up2_n (by decide)]; exact K) ok.1 hx)).trans ?_
  (first | refine Eq.trans (q_X12_can_0) ?_ | refine Eq.trans (q_X12_can_11) ?_ | refine Eq.trans (q_X12_can_19) ?_ | refine Eq.trans (q_X12_can_24) ?_ | refine Eq.trans (q_X12_can_47) ?_)
  rw [if_pos rfl]
  (first | refine Eq.trans (q_X12_can_0) ?_ | refine Eq.trans (q_X12_can_11) ?_ | refine Eq.trans (q_X12_can_19) ?_ | refine Eq.trans (q_X12_can_24) ?_ | refine Eq.trans (q_X12_can_47) ?_)
  refine (bnd_e (bad_t (by decide) (by decide) (by decide))).trans ?_
  (first | refine Eq.trans (q_X12_can_0) ?_ | refine Eq.trans (q_X12_can_11) ?_ | refine Eq.trans (q_X12_can_19) ?_ | refine Eq.trans (q_X12_can_24) ?_ | refine Eq.trans (q_X12_can_47) ?_)
  rw [if_neg (by decide)]
end AB
