/-! A BOOK, BY BOTH: the whole asking -/
section BO
variable {d L X : Nat} {I : MI32} {J : MI64} {W : Nat → Nat} {n most tp : Nat} {x : Int32}
def fOp : Fls := [(1, 2), (1, 3), (1, 4), (1, 6), (1, 7)]
theorem sp_open (B : BC I W) (ht : I 1 1 = nI tp) (htp : tp ≤ 600) (hn : n ≤ tp) (hm : n ≤ most) (hm2 : most ≤ 600) : Rt L X (runM (d + 2) nX11_open [.ref 0, .int (nI n), .int (nI most)] (mm L X I J)) none (fun I' J' => (Fr fOp I I' ∧ RdC I' W n 0 ∧ I' 1 1 = nI 0 ∧ I' 1 2 = nI 0 ∧ I' 1 3 = -1) ∧ J' = J) := by
  rw [e_X11_open]
  (first | refine rt_eq (q_X11_open_0) ?_ | refine rt_eq (q_X11_open_25) ?_ | refine rt_eq (q_X11_open_26) ?_ | refine rt_eq (q_X11_open_29) ?_ | refine rt_eq (q_X11_open_37) ?_)
  rw [ht]
  refine rt_f (by (try simp (disch := omega) only [nI_leI, nI_ltI, nI_eq, nI_add, pk_mul, n_0add, Nat.zero_add, nI_clamp]) <;> omega) (rt_f (by (try simp (disch := omega) only [nI_leI, nI_ltI, nI_eq, nI_add, pk_mul, n_0add, Nat.zero_add, nI_clamp]) <;> omega) (rt_f (by (try simp (disch := omega) only [nI_leI, nI_ltI, nI_eq, nI_add, pk_mul, n_0add, Nat.zero_add, nI_clamp]) <;> omega) ?_))
  (first | refine rt_eq (q_X11_open_0) ?_ | refine rt_eq (q_X11_open_25) ?_ | refine rt_eq (q_X11_open_26) ?_ | refine rt_eq (q_X11_open_29) ?_ | refine rt_eq (q_X11_open_37) ?_)
  refine rt_be ex_t ?_
  (first | refine rt_eq (q_X11_open_0) ?_ | refine rt_eq (q_X11_open_25) ?_ | refine rt_eq (q_X11_open_26) ?_ | refine rt_eq (q_X11_open_29) ?_ | refine rt_eq (q_X11_open_37) ?_)
  refine rt_be sp_beginT ?_
  (first | refine rt_eq (q_X11_open_0) ?_ | refine rt_eq (q_X11_open_25) ?_ | refine rt_eq (q_X11_open_26) ?_ | refine rt_eq (q_X11_open_29) ?_ | refine rt_eq (q_X11_open_37) ?_)
  have g : Fr fOp I (up2 (up2 (up2 (up2 (up2 I 1 5 (nI 0)) 1 6 (nI n)) 1 1 (nI 0)) 1 2 (nI 0)) 1 3 (-1)) := fr_up (fr_up (fr_up (fr_up (fr_up fr_rfl rfl) rfl) rfl) rfl) rfl
  refine rt_ret ⟨⟨g, ⟨BC_fr B g (by decide), ?_, by omega, by omega, ?_⟩, ?_, ?_, up2_s⟩, rfl⟩
  · rw [up2_k (by decide), up2_k (by decide), up2_k (by decide), up2_s]
  · rw [up2_k (by decide), up2_k (by decide), up2_k (by decide), up2_k (by decide), up2_s]
  · rw [up2_k (by decide), up2_k (by decide), up2_s]
  · rw [up2_k (by decide), up2_s]
theorem x_open (ht : I 1 1 = nI tp) (htp : tp ≤ 600) (hm2 : most ≤ 600) (hx : ¬ ∃ n, n ≤ tp ∧ n ≤ most ∧ x = nI n) : runM (d + 2) nX11_open [.ref 0, .int x, .int (nI most)] (mm L X I J) = some (.inr 1, mm L (X + 1) (ex1 I) J) := by
  have fin : ∀ u2, runI (runM (d + 1)) iX11_open (25, [some (.ref 0), some (.int x), u2], [.ref 0], mm L X I J) = some (.inr 1, mm L (X + 1) (ex1 I) J) := by
    intro u2
    (first | refine Eq.trans (q_X11_open_0) ?_ | refine Eq.trans (q_X11_open_25) ?_ | refine Eq.trans (q_X11_open_26) ?_ | refine Eq.trans (q_X11_open_29) ?_ | refine Eq.trans (q_X11_open_37) ?_)
    (first | refine Eq.trans (q_X11_open_0) ?_ | refine Eq.trans (q_X11_open_25) ?_ | refine Eq.trans (q_X11_open_26) ?_ | refine Eq.trans (q_X11_open_29) ?_ | refine Eq.trans (q_X11_open_37) ?_)
    exact bnd_x ex_f
  rw [e_X11_open]
  (first | refine Eq.trans (q_X11_open_0) ?_ | refine Eq.trans (q_X11_open_25) ?_ | refine Eq.trans (q_X11_open_26) ?_ | refine Eq.trans (q_X11_open_29) ?_ | refine Eq.trans (q_X11_open_37) ?_)
  by_cases q1 : x < nI 0
  · rw [if_pos q1]
    exact fin _
  · rw [if_neg q1]
    by_cases q2 : nI most < x
    · rw [if_pos q2]
      exact fin _
    · rw [if_neg q2, ht]
      obtain ⟨p, hp, rfl⟩ := (in_M (M := most) (by omega)).mp ⟨Int32.not_lt.mp q1, Int32.not_lt.mp q2⟩
      have q3 : nI tp < nI p := by
        have : ¬ p ≤ tp := fun q => hx ⟨p, q, hp, rfl⟩
        ((try simp (disch := omega) only [nI_leI, nI_ltI, nI_eq, nI_add, pk_mul, n_0add, Nat.zero_add, nI_clamp]) <;> omega)
      rw [if_pos q3]
      exact fin _
def fBo : Fls := fOp ++ fBC ++ [(31, 1), (32, 0)]
theorem sp_becomeB {S : BkS} (A : bkA I S) : Rt L X (runM (d + 1) nX0_become [.ref 31, .ref 34] (mm L X I J)) none (fun I' J' => (Fr [(31, 1), (32, 0)] I I' ∧ I' 31 0 = nI S.1 ∧ ∀ k, k < 6 → I' 32 k = o2i (S.2.2 k)) ∧ J' = J) := by
  have h0 : oc0 31 := .inl rfl
  have h1 : oc0 34 := .inr rfl
  rw [e_X0_become]
  (first | refine rt_eq (q_X0_become_0 (by first | assumption | rfl | exact .inl rfl | exact .inr rfl) (by first | assumption | rfl | exact .inl rfl | exact .inr rfl)) ?_)
  refine rt_gd (by decide) (rt_ret ⟨⟨?_, ?_, ?_⟩, rfl⟩)
  · exact fr_up1 (fr_up fr_rfl rfl) (fun j => rfl)
  · rw [up1_n (by decide), up2_s, A.1]
  · intro k hk
    rw [up1_s, pk_cpy_in (show (nI 0).toNatClampNeg ≤ k from Nat.zero_le k) (by rw [show (nI 0).toNatClampNeg = 0 by decide, show (nI 6).toNatClampNeg = 6 by decide]; omega), show (nI 0).toNatClampNeg = 0 by decide, up2_n (by decide), Nat.sub_zero, Nat.zero_add, A.2 k hk]
/-- what a book's text answers -/
def bkAns (W : Nat → Nat) (n : Nat) : Int32 := if (bkP W n 7 0 bS0).1 = 0 then nI (bkP W n 7 0 bS0).2.2.1 else nI (bkP W n 7 0 bS0).1 - nI 10
theorem c_book (B : BC I W) (ht : I 1 1 = nI tp) (htp : tp ≤ 600) (hn : n ≤ tp) (hm : n ≤ 60) : Rt L X (runM (d + 6) nX11_book [.ref 0, .int (nI n)] (mm L X I J)) (some (.int (bkAns W n))) (fun I' J' => (Fr fBo I I' ∧ I' 1 1 = nI 0 ∧ ((bkP W n 7 0 bS0).1 = 0 → I' 31 0 = nI (bkP W n 7 0 bS0).2.2.1 ∧ (∀ k, k < 6 → I' 32 k = o2i ((bkP W n 7 0 bS0).2.2.2.2 k)) ∧ I' 1 3 = -1 ∧ bOK (bkP W n 7 0 bS0).2.2) ∧ (¬ (bkP W n 7 0 bS0).1 = 0 → I' 31 0 = I 31 0 ∧ (∀ k, I' 32 k = I 32 k) ∧ I' 1 3 = nI (bkP W n 7 0 bS0).2.1)) ∧ J' = J) := by
  rw [e_X11_book]
  (first | refine rt_eq (q_X11_book_0) ?_ | refine rt_eq (q_X11_book_7) ?_ | refine rt_eq (q_X11_book_18) ?_ | refine rt_eq (q_X11_book_43) ?_)
  refine rt_bnd (sp_open (most := 60) B ht htp hn hm (by decide)) ?_
  rintro I1 J1 ⟨⟨f1, f2, f3, f4, f5⟩, rfl⟩
  (first | refine rt_eq (q_X11_book_0) ?_ | refine rt_eq (q_X11_book_7) ?_ | refine rt_eq (q_X11_book_18) ?_ | refine rt_eq (q_X11_book_43) ?_)
  refine rt_bnd (sp_readBook f2 f4 f5) ?_
  rintro I2 J2 ⟨⟨g1, g2, g3⟩, rfl⟩
  have g0 : Fr (fOp ++ fBC) I I2 := fr_tr (fr_mono f1 (by decide)) (fr_mono g1 (by decide))
  (first | refine rt_eq (q_X11_book_0) ?_ | refine rt_eq (q_X11_book_7) ?_ | refine rt_eq (q_X11_book_18) ?_ | refine rt_eq (q_X11_book_43) ?_)
  unfold bkAns
  by_cases q : (bkP W n 7 0 bS0).1 = 0
  · rw [if_pos q, decide_eq_true q]
    obtain ⟨k1, k2, k3, k4⟩ := g2 q
    refine rt_f (show ¬ bI true = nI 0 by decide) (rt_bnd (sp_becomeB k1) ?_)
    rintro I3 J3 ⟨⟨l1, l2, l3⟩, rfl⟩
    (first | refine rt_eq (q_X11_book_0) ?_ | refine rt_eq (q_X11_book_7) ?_ | refine rt_eq (q_X11_book_18) ?_ | refine rt_eq (q_X11_book_43) ?_)
    rw [l2]
    refine rt_ret ⟨⟨fr_tr (fr_mono g0 (by decide)) (fr_mono l1 (by decide)), ?_, fun _ => ⟨l2, l3, ?_, k4⟩, fun q2 => absurd q q2⟩, rfl⟩
    · rw [l1 1 1 rfl, g1 1 1 rfl, f3]
    · rw [l1 1 3 rfl, k3]
  · rw [if_neg q, decide_eq_false q]
    obtain ⟨k2, k3⟩ := g3 q
    rw [k2]
    exact rt_t bI_f (rt_ret ⟨⟨fr_mono g0 (by decide), (g1 1 1 rfl).trans f3, fun q2 => absurd q2 q, fun _ => ⟨g0 31 0 rfl, fun k => g0 32 k rfl, k3⟩⟩, rfl⟩)
theorem x_book (ht : I 1 1 = nI tp) (htp : tp ≤ 600) (hx : ¬ ∃ n, n ≤ tp ∧ n ≤ 60 ∧ x = nI n) : runM (d + 3) nX11_book [.ref 0, .int x] (mm L X I J) = some (.inr 1, mm L (X + 1) (ex1 I) J) := by
  rw [e_X11_book]
  (first | refine Eq.trans (q_X11_book_0) ?_ | refine Eq.trans (q_X11_book_7) ?_ | refine Eq.trans (q_X11_book_18) ?_ | refine Eq.trans (q_X11_book_43) ?_)
  exact bnd_x (x_open ht htp (by decide) hx)
end BO
