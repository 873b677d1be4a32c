/-! THE WATER, BY BOTH -/
theorem wf_name {cd : Cd} : ∀ m j n, wfC cd m j n → ∀ k, j ≤ k → k < j + m → (cd k).1 = 1 → (cd k).2 < 9
  | 0, _, _, _ => fun k h1 h2 => by omega
  | m + 1, j, n, hw => by
    intro k h1 h2 h3
    unfold wfC at hw
    rcases Nat.eq_or_lt_of_le h1 with e | e
    · subst e
      rw [if_pos (by omega)] at hw
      exact hw.2.2.1 h3
    · by_cases ho : (cd j).1 < 2
      · rw [if_pos ho] at hw
        exact wf_name m (j + 1) (n + 1) hw.2.2.2 k e (by omega) h3
      · rw [if_neg ho] at hw
        exact wf_name m (j + 1) (n - 1) hw.2.2.2 k e (by omega) h3
theorem lawV_congr {cd : Cd} {nL : Nat} {kn kn' : Nat → Int32} (W : wfC cd nL 0 0) (h : ∀ i, i < 9 → kn i = kn' i) : lawV cd nL kn = lawV cd nL kn' := by
  unfold lawV
  rw [accF_congr (g := evS kn' cd) nL 0 _ ?_]
  intro k h1 h2 x
  unfold evS
  by_cases e0 : (cd k).1 = 0
  · rw [if_pos e0, if_pos e0]
  · rw [if_neg e0, if_neg e0]
    by_cases e1 : (cd k).1 = 1
    · rw [if_pos e1, if_pos e1, h _ (wf_name nL 0 0 W k (by omega) (by omega) e1)]
    · rw [if_neg e1, if_neg e1]
def lwl (cd : Cd) (nL : Nat) (fl lo le be bu pl tu ho pi : Int32) : Int32 := lawV cd nL (fun i => [fl, lo, le, be, bu, pl, tu, ho, pi].getD i 0)
theorem lwl_le {cd : Cd} {nL : Nat} {fl lo le be bu pl tu ho pi : Int32} : ∃ v, v ≤ 99 ∧ lwl cd nL fl lo le be bu pl tu ho pi = nI v := clp_le _
/-- what is left behind k pieces -/
def flN (h : Hs) (nL : Nat) (cd : Cd) (N : Nt) (hope : Int32) (bd bs : Nat → Int32) (lf : Nat → Int32 → Int32) : Nat → Int32
  | 0 => hope
  | k + 1 => lf k (lwl cd nL (flN h nL cd N hope bd bs lf k) (nI (h 4 (nv (N k)))) (nI (h 1 (nv (N k)))) (bd k) (bs k) (nI k) (N (6 + nv (N k))) hope (nI (nv (N k))))
theorem flN_congr {h : Hs} {nL : Nat} {cd : Cd} {N N' : Nt} {hope : Int32} {bd bs bd' bs' : Nat → Int32} {lf lf' : Nat → Int32 → Int32} : ∀ n, (∀ k, k < n → N k = N' k ∧ N (6 + nv (N k)) = N' (6 + nv (N k)) ∧ bd k = bd' k ∧ bs k = bs' k ∧ ∀ x, lf k x = lf' k x) → flN h nL cd N hope bd bs lf n = flN h nL cd N' hope bd' bs' lf' n
  | 0, _ => rfl
  | n + 1, q => by
    obtain ⟨q1, q2, q3, q4, q5⟩ := q n (by omega)
    unfold flN
    rw [flN_congr n (fun k hk => q k (by omega)), q5, q3, q4, q2, q1]
def noL (_ : Nat) (x : Int32) : Int32 := x
def lkL (leak more : Int32) (k : Nat) (x : Int32) : Int32 := if nI k = leak then mxI (nI 0) (x - more) else x
theorem lkL_m1 {more : Int32} {k : Nat} {x : Int32} (hk : k < 2 ^ 31) : lkL (-1) more k x = x := if_neg (nI_m1 k hk)
/-- bends and bursts by place -/
def bdN (N : Nt) (k : Nat) : Int32 := N (12 + nv (N k))
def bsN (N : Nt) (k : Nat) : Int32 := N (18 + nv (N k))
/-- what arrives -/
def arN (h : Hs) (nL : Nat) (cd : Cd) (N : Nt) (n : Nat) : Int32 := flN h nL cd N (N 29) (bdN N) (bsN N) noL n
def rchd (h : Hs) (nL : Nat) (cd : Cd) (N : Nt) (n f : Nat) : Bool := decide (h 7 f ≤ lenN h N n) && decide (nI (h 8 f) ≤ arN h nL cd N n)
def om (r : Nat) : Prop := r = 533 ∨ r = 534
theorem om_ka {r : Nat} (h : om r) : ka r 1 31 := by
  rcases h with rfl | rfl
  · exact ka_533
  · exact ka_534
theorem om_f {r k : Nat} (h : om r) : inF [(450, 0), (451, 0), (535, 0)] r k = false := by
  rcases h with rfl | rfl <;> rfl
theorem nv_lt {x : Int32} : nv x < 2 ^ 31 := by
  have := Int32.toInt_lt x
  show x.toInt.toNat < _
  omega
section WA
variable {d L X : Nat} {I : MI32} {J : MI64} {a n np nL : Nat} {N : Nt} {h : Hs} {m r p t : Nat} {cd : Cd}
theorem sp_leftBy {x1 x2 x3 x4 x5 x6 x7 x8 x9 : Int32} (H : LawM I nL cd) (W : wfC cd nL 0 0) : Rt L X (runM (d + 4) nX12_leftBy [.ref 72, .int x1, .int x2, .int x3, .int x4, .int x5, .int x6, .int x7, .int x8, .int x9] (mm L X I J)) (some (.int (lwl cd nL x1 x2 x3 x4 x5 x6 x7 x8 x9))) (fun I' J' => Fr [(450, 0), (451, 0)] I I' ∧ J' = J) := by
  rw [e_X12_leftBy]
  (first | refine rt_eq (q_X12_leftBy_0) ?_ | refine rt_eq (q_X12_leftBy_29) ?_ | refine rt_eq (q_X12_leftBy_63) ?_ | refine rt_eq (q_X12_leftBy_76) ?_)
  (first | refine rt_eq (q_X12_leftBy_0) ?_ | refine rt_eq (q_X12_leftBy_29) ?_ | refine rt_eq (q_X12_leftBy_63) ?_ | refine rt_eq (q_X12_leftBy_76) ?_)
  (first | refine rt_eq (q_X12_leftBy_0) ?_ | refine rt_eq (q_X12_leftBy_29) ?_ | refine rt_eq (q_X12_leftBy_63) ?_ | refine rt_eq (q_X12_leftBy_76) ?_)
  generalize hI : up2 _ 451 8 x9 = I2
  have hf : Fr [(451, 0)] I I2 := by
    rw [← hI]
    exact fr_up (fr_up (fr_up (fr_up (fr_up (fr_up (fr_up (fr_up (fr_up fr_rfl rfl) rfl) rfl) rfl) rfl) rfl) rfl) rfl) rfl
  have hv : ∀ i, i < 9 → I2 451 i = [x1, x2, x3, x4, x5, x6, x7, x8, x9].getD i 0 := by
    intro i hi
    rw [← hI]
    have : i = 0 ∨ i = 1 ∨ i = 2 ∨ i = 3 ∨ i = 4 ∨ i = 5 ∨ i = 6 ∨ i = 7 ∨ i = 8 := by omega
    rcases this with rfl | rfl | rfl | rfl | rfl | rfl | rfl | rfl | rfl <;> rfl
  refine rt_bnd (sp_byLaw (LawM_fr H (ag_of hf (by decide +kernel))) W) ?_
  rintro I3 J3 ⟨g1, rfl⟩
  (first | refine rt_eq (q_X12_leftBy_0) ?_ | refine rt_eq (q_X12_leftBy_29) ?_ | refine rt_eq (q_X12_leftBy_63) ?_ | refine rt_eq (q_X12_leftBy_76) ?_)
  refine rt_end (I := I3) (J := J3) ?_ ⟨fr_tr (fr_mono hf (by decide)) (fr_mono g1 (by decide)), rfl⟩
  rw [lwl, lawV_congr W hv]
theorem sp_leftOf {x4 x5 : Int32} (hr : om r) (H : HM I h m) (ok : HOK h) (LM : LawM I nL cd) (W : wfC cd nL 0 0) (hp : p < h 0 0) : Rt L X (runM (d + 5) nX12_leftOf [.ref 72, .ref r, .int (nI p), .int (nI t), .int x4, .int x5] (mm L X I J)) (some (.int (lwl cd nL x4 (nI (h 4 p)) (nI (h 1 p)) (I r (12 + p)) (I r (18 + p)) x5 (nI t) (I r 29) (nI p)))) (fun I' J' => Fr [(450, 0), (451, 0)] I I' ∧ J' = J) := by
  have k1 := om_ka hr
  have h6 : p < 6 := by have := ok.1; omega
  obtain ⟨q1, -, -, q4⟩ := H.2.2.2.2.2.1 p hp
  rw [e_X12_leftOf]
  (first | refine rt_eq (q_X12_leftOf_0 (by first | assumption | rfl | exact .inl rfl | exact .inr rfl)) ?_ | refine rt_eq (q_X12_leftOf_42) ?_)
  refine rt_gd (inb_n (by omega) (by decide)) ?_
  rw [nI_add, nI_add]
  refine rt_gd (inb_n (by omega) (by decide)) (rt_gd (inb_n (by omega) (by decide)) (rt_gd (by decide) ?_))
  rw [nI_clamp (by omega), nI_clamp (by omega), nI_clamp (by omega), show (nI 29).toNatClampNeg = 29 by decide, q1, q4]
  refine rt_bnd (sp_leftBy LM W) ?_
  rintro I3 J3 ⟨g1, rfl⟩
  (first | refine rt_eq (q_X12_leftOf_0 (by first | assumption | rfl | exact .inl rfl | exact .inr rfl)) ?_ | refine rt_eq (q_X12_leftOf_42) ?_)
  exact rt_ret ⟨g1, rfl⟩
theorem lp_runs {x2 x3 : Int32} (hr : om r) (H : HM I h m) (ok : HOK h) (R : NR (h 0 0) n (I r)) (LM : LawM I nL cd) (W : wfC cd nL 0 0) : ∀ q j I' u7, j + q = n → Fr [(450, 0), (451, 0), (535, 0)] I I' → (∀ k, k < j → I' 535 k = flN h nL cd (I r) (I r 29) (bdN (I r)) (bsN (I r)) (lkL x2 x3) (k + 1)) → Rt L X (c_X12_runs_15 (d + 5) L X I' J r x2 x3 (flN h nL cd (I r) (I r 29) (bdN (I r)) (bsN (I r)) (lkL x2 x3) j) (nI n) (nI j) u7) (some (.int (flN h nL cd (I r) (I r 29) (bdN (I r)) (bsN (I r)) (lkL x2 x3) n))) (fun I'' J' => (Fr [(450, 0), (451, 0), (535, 0)] I I'' ∧ ∀ k, k < n → I'' 535 k = flN h nL cd (I r) (I r 29) (bdN (I r)) (bsN (I r)) (lkL x2 x3) (k + 1)) ∧ J' = J)
  | 0, j, I', u7, hj, hf, hl => by
    have hn6 := R.1.1
    have k1 := om_ka hr
    (first | refine rt_eq (q_X12_runs_0 (by first | assumption | rfl | exact .inl rfl | exact .inr rfl)) ?_ | refine rt_eq (q_X12_runs_10 (by first | assumption | rfl | exact .inl rfl | exact .inr rfl)) ?_ | refine rt_eq (q_X12_runs_15 (by first | assumption | rfl | exact .inl rfl | exact .inr rfl)) ?_ | refine rt_eq (q_X12_runs_48 (by first | assumption | rfl | exact .inl rfl | exact .inr rfl)) ?_ | refine rt_eq (q_X12_runs_69 (by first | assumption | rfl | exact .inl rfl | exact .inr rfl)) ?_ | refine rt_eq (q_X12_runs_64 (by first | assumption | rfl | exact .inl rfl | exact .inr rfl)) ?_)
    refine rt_t (by (try simp (disch := omega) only [nI_leI, nI_ltI, nI_eq, nI_add, pk_mul, n_0add, Nat.zero_add, nI_clamp]) <;> omega) ?_
    have e : j = n := by omega
    subst e
    exact rt_ret ⟨⟨hf, hl⟩, rfl⟩
  | q + 1, j, I', u7, hj, hf, hl => by
    have ih := lp_runs (x2 := x2) (x3 := x3) hr H ok R LM W q (j + 1)
    have hn6 := R.1.1
    have hp6 := ok.1
    have k1 := om_ka hr
    obtain ⟨w1, w2, w3, w4⟩ := NR_wy R (show j < n by omega)
    have hIr : I' r = I r := funext fun k => hf r k (om_f hr)
    have H' : HM I' h m := HM_fr H ok (ag_of hf (by decide +kernel))
    have LM' : LawM I' nL cd := LawM_fr LM (ag_of hf (by decide +kernel))
    (first | refine rt_eq (q_X12_runs_0 (by first | assumption | rfl | exact .inl rfl | exact .inr rfl)) ?_ | refine rt_eq (q_X12_runs_10 (by first | assumption | rfl | exact .inl rfl | exact .inr rfl)) ?_ | refine rt_eq (q_X12_runs_15 (by first | assumption | rfl | exact .inl rfl | exact .inr rfl)) ?_ | refine rt_eq (q_X12_runs_48 (by first | assumption | rfl | exact .inl rfl | exact .inr rfl)) ?_ | refine rt_eq (q_X12_runs_69 (by first | assumption | rfl | exact .inl rfl | exact .inr rfl)) ?_ | refine rt_eq (q_X12_runs_64 (by first | assumption | rfl | exact .inl rfl | exact .inr rfl)) ?_)
    refine rt_f (by (try simp (disch := omega) only [nI_leI, nI_ltI, nI_eq, nI_add, pk_mul, n_0add, Nat.zero_add, nI_clamp]) <;> omega) ?_
    rw [n_0add]
    refine rt_gd (inb_n (by omega) (by decide)) ?_
    rw [nI_clamp (by omega), hIr]
    generalize hp : nv (I r j) = p at w1 w2 w3 w4
    rw [w2, nI_add]
    refine rt_gd (inb_n (by omega) (by decide)) ?_
    rw [nI_clamp (show 6 + p < 2 ^ 31 by omega), w3]
    refine rt_bnd (sp_leftOf hr H' ok LM' W w1) ?_
    rintro I2 J2 ⟨g1, rfl⟩
    have hf2 : Fr [(450, 0), (451, 0), (535, 0)] I I2 := fr_tr hf (fr_mono g1 (by decide))
    have hl2 : ∀ k, k < j → I2 535 k = flN h nL cd (I r) (I r 29) (bdN (I r)) (bsN (I r)) (lkL x2 x3) (k + 1) := fun k hk => (g1 535 k rfl).trans (hl k hk)
    have hval : flN h nL cd (I r) (I r 29) (bdN (I r)) (bsN (I r)) (lkL x2 x3) (j + 1) = lkL x2 x3 j (lwl cd nL (flN h nL cd (I r) (I r 29) (bdN (I r)) (bsN (I r)) (lkL x2 x3) j) (nI (h 4 p)) (nI (h 1 p)) (I' r (12 + p)) (I' r (18 + p)) (nI j) (nI (nv (I r (6 + p)))) (I' r 29) (nI p)) := by
      show lkL x2 x3 j (lwl cd nL _ (nI (h 4 (nv (I r j)))) (nI (h 1 (nv (I r j)))) (I r (12 + nv (I r j))) (I r (18 + nv (I r j))) (nI j) (I r (6 + nv (I r j))) (I r 29) (nI (nv (I r j)))) = _
      rw [hp, hIr, ← w3]
    generalize lwl cd nL (flN h nL cd (I r) (I r 29) (bdN (I r)) (bsN (I r)) (lkL x2 x3) j) (nI (h 4 p)) (nI (h 1 p)) (I' r (12 + p)) (I' r (18 + p)) (nI j) (nI (nv (I r (6 + p)))) (I' r 29) (nI p) = z at hval
    have tail : ∀ y u4 u7, y = flN h nL cd (I r) (I r 29) (bdN (I r)) (bsN (I r)) (lkL x2 x3) (j + 1) → Rt L X (runI (runM (d + 5)) iX12_runs (69, [some (.ref 72), some (.ref r), some (.int x2), some (.int x3), u4, some (.int (nI n)), some (.int (nI j)), u7], [.int y], mm L X I2 J2)) (some (.int (flN h nL cd (I r) (I r 29) (bdN (I r)) (bsN (I r)) (lkL x2 x3) n))) (fun I'' J' => (Fr [(450, 0), (451, 0), (535, 0)] I I'' ∧ ∀ k, k < n → I'' 535 k = flN h nL cd (I r) (I r 29) (bdN (I r)) (bsN (I r)) (lkL x2 x3) (k + 1)) ∧ J' = J2) := by
      intro y u4 u7 hy
      (first | refine rt_eq (q_X12_runs_0 (by first | assumption | rfl | exact .inl rfl | exact .inr rfl)) ?_ | refine rt_eq (q_X12_runs_10 (by first | assumption | rfl | exact .inl rfl | exact .inr rfl)) ?_ | refine rt_eq (q_X12_runs_15 (by first | assumption | rfl | exact .inl rfl | exact .inr rfl)) ?_ | refine rt_eq (q_X12_runs_48 (by first | assumption | rfl | exact .inl rfl | exact .inr rfl)) ?_ | refine rt_eq (q_X12_runs_69 (by first | assumption | rfl | exact .inl rfl | exact .inr rfl)) ?_ | refine rt_eq (q_X12_runs_64 (by first | assumption | rfl | exact .inl rfl | exact .inr rfl)) ?_)
      refine rt_gd (inb_n (by omega) (by decide)) ?_
      rw [nI_clamp (by omega), nI_add, hy]
      refine ih _ _ (by omega) (fr_up hf2 rfl) ?_
      intro k hk
      rw [up2_at]
      by_cases e : k = j
      · rw [if_pos e, e]
      · rw [if_neg e, hl2 k (by omega)]
    (first | refine rt_eq (q_X12_runs_0 (by first | assumption | rfl | exact .inl rfl | exact .inr rfl)) ?_ | refine rt_eq (q_X12_runs_10 (by first | assumption | rfl | exact .inl rfl | exact .inr rfl)) ?_ | refine rt_eq (q_X12_runs_15 (by first | assumption | rfl | exact .inl rfl | exact .inr rfl)) ?_ | refine rt_eq (q_X12_runs_48 (by first | assumption | rfl | exact .inl rfl | exact .inr rfl)) ?_ | refine rt_eq (q_X12_runs_69 (by first | assumption | rfl | exact .inl rfl | exact .inr rfl)) ?_ | refine rt_eq (q_X12_runs_64 (by first | assumption | rfl | exact .inl rfl | exact .inr rfl)) ?_)
    by_cases hk : nI j = x2
    · refine rt_t hk ?_
      refine rt_bne sp_more ?_
      (first | refine rt_eq (q_X12_runs_0 (by first | assumption | rfl | exact .inl rfl | exact .inr rfl)) ?_ | refine rt_eq (q_X12_runs_10 (by first | assumption | rfl | exact .inl rfl | exact .inr rfl)) ?_ | refine rt_eq (q_X12_runs_15 (by first | assumption | rfl | exact .inl rfl | exact .inr rfl)) ?_ | refine rt_eq (q_X12_runs_48 (by first | assumption | rfl | exact .inl rfl | exact .inr rfl)) ?_ | refine rt_eq (q_X12_runs_69 (by first | assumption | rfl | exact .inl rfl | exact .inr rfl)) ?_ | refine rt_eq (q_X12_runs_64 (by first | assumption | rfl | exact .inl rfl | exact .inr rfl)) ?_)
      exact tail _ _ _ (by rw [hval, lkL, if_pos hk])
    · refine rt_f hk ?_
      exact tail _ _ _ (by rw [hval, lkL, if_neg hk])
theorem sp_runs {x2 x3 : Int32} (hr : om r) (H : HM I h m) (ok : HOK h) (R : NR (h 0 0) n (I r)) (LM : LawM I nL cd) (W : wfC cd nL 0 0) : Rt L X (runM (d + 6) nX12_runs [.ref 72, .ref r, .int x2, .int x3] (mm L X I J)) (some (.int (flN h nL cd (I r) (I r 29) (bdN (I r)) (bsN (I r)) (lkL x2 x3) n))) (fun I'' J' => (Fr [(450, 0), (451, 0), (535, 0)] I I'' ∧ ∀ k, k < n → I'' 535 k = flN h nL cd (I r) (I r 29) (bdN (I r)) (bsN (I r)) (lkL x2 x3) (k + 1)) ∧ J' = J) := by
  have k1 := om_ka hr
  rw [e_X12_runs]
  (first | refine rt_eq (q_X12_runs_0 (by first | assumption | rfl | exact .inl rfl | exact .inr rfl)) ?_ | refine rt_eq (q_X12_runs_10 (by first | assumption | rfl | exact .inl rfl | exact .inr rfl)) ?_ | refine rt_eq (q_X12_runs_15 (by first | assumption | rfl | exact .inl rfl | exact .inr rfl)) ?_ | refine rt_eq (q_X12_runs_48 (by first | assumption | rfl | exact .inl rfl | exact .inr rfl)) ?_ | refine rt_eq (q_X12_runs_69 (by first | assumption | rfl | exact .inl rfl | exact .inr rfl)) ?_ | refine rt_eq (q_X12_runs_64 (by first | assumption | rfl | exact .inl rfl | exact .inr rfl)) ?_)
  refine rt_gd (by decide) ?_
  refine rt_bne (sp_manyIn k1 R) ?_
  rw [show (nI 29).toNatClampNeg = 29 by decide]
  (first | refine rt_eq (q_X12_runs_0 (by first | assumption | rfl | exact .inl rfl | exact .inr rfl)) ?_ | refine rt_eq (q_X12_runs_10 (by first | assumption | rfl | exact .inl rfl | exact .inr rfl)) ?_ | refine rt_eq (q_X12_runs_15 (by first | assumption | rfl | exact .inl rfl | exact .inr rfl)) ?_ | refine rt_eq (q_X12_runs_48 (by first | assumption | rfl | exact .inl rfl | exact .inr rfl)) ?_ | refine rt_eq (q_X12_runs_69 (by first | assumption | rfl | exact .inl rfl | exact .inr rfl)) ?_ | refine rt_eq (q_X12_runs_64 (by first | assumption | rfl | exact .inl rfl | exact .inr rfl)) ?_)
  exact lp_runs hr H ok R LM W n 0 I _ (by omega) fr_rfl (fun k hk => by omega)
theorem sp_arrives (hr : om r) (H : HM I h m) (ok : HOK h) (R : NR (h 0 0) n (I r)) (LM : LawM I nL cd) (W : wfC cd nL 0 0) : Rt L X (runM (d + 7) nX12_arrives [.ref 72, .ref r] (mm L X I J)) (some (.int (arN h nL cd (I r) n))) (fun I'' J' => (Fr [(450, 0), (451, 0), (535, 0)] I I'' ∧ ∀ k, k < n → I'' 535 k = arN h nL cd (I r) (k + 1)) ∧ J' = J) := by
  have k1 := om_ka hr
  have hn6 := R.1.1
  have e : ∀ k, k ≤ n → flN h nL cd (I r) (I r 29) (bdN (I r)) (bsN (I r)) (lkL (-1) (nI 0)) k = arN h nL cd (I r) k := fun k hk => flN_congr k (fun i hi => ⟨rfl, rfl, rfl, rfl, fun x => lkL_m1 (by omega)⟩)
  rw [e_X12_arrives]
  (first | refine rt_eq (q_X12_arrives_0 (by first | assumption | rfl | exact .inl rfl | exact .inr rfl)) ?_ | refine rt_eq (q_X12_arrives_7) ?_)
  refine rt_bnd (sp_runs hr H ok R LM W) ?_
  rintro I2 J2 ⟨⟨g1, g2⟩, rfl⟩
  rw [e n (by omega)]
  (first | refine rt_eq (q_X12_arrives_0 (by first | assumption | rfl | exact .inl rfl | exact .inr rfl)) ?_ | refine rt_eq (q_X12_arrives_7) ?_)
  refine rt_ret ⟨⟨g1, fun k hk => ?_⟩, rfl⟩
  rw [g2 k hk, e (k + 1) (by omega)]
theorem lenN_lt (ok : HOK h) (R : NR (h 0 0) n N) : lenN h N n ≤ 180 := by
  have hn6 := R.1.1
  have key : ∀ q, q ≤ n → accF (lenA h N) q 0 0 ≤ 30 * q := by
    intro q
    induction q with
    | zero => intro _; show 0 ≤ _; omega
    | succ q ih =>
      intro hq
      rw [accF_last]
      have b := (ok.2.2.2.1 _ (NR_wy R (show 0 + q < n by omega)).1).2.1
      have := ih (by omega)
      unfold lenA at *
      omega
  have := key n (by omega)
  unfold lenN
  omega
theorem arN_le (h99 : ∃ v, v ≤ 99 ∧ N 29 = nI v) : ∃ v, v ≤ 99 ∧ arN h nL cd N n = nI v := by
  unfold arN
  rcases n with _ | n
  · exact h99
  · exact lwl_le
theorem sp_isReached {f : Nat} (hr : om r) (H : HM I h m) (ok : HOK h) (R : NR (h 0 0) n (I r)) (LM : LawM I nL cd) (W : wfC cd nL 0 0) (hf : f < h 0 2) : Rt L X (runM (d + 8) nX12_isReached [.ref 72, .ref r, .int (nI f)] (mm L X I J)) (some (.int (bI (rchd h nL cd (I r) n f)))) (fun I'' J' => Fr [(450, 0), (451, 0), (535, 0)] I I'' ∧ J' = J) := by
  have k1 := om_ka hr
  have h5 := ok.2.2.1
  have hl := lenN_lt ok R
  have hfb := ok.2.2.2.2 f hf
  have hin : ∀ k, inF [(450, 0), (451, 0), (535, 0)] (109 + f) k = false := by
    intro k
    have : f = 0 ∨ f = 1 ∨ f = 2 ∨ f = 3 ∨ f = 4 := by omega
    rcases this with rfl | rfl | rfl | rfl | rfl <;> rfl
  obtain ⟨q1, q2⟩ := H.2.2.2.2.2.2.2 f hf
  rw [e_X12_isReached]
  (first | refine rt_eq (q_X12_isReached_0 (by first | assumption | rfl | exact .inl rfl | exact .inr rfl)) ?_ | refine rt_eq (q_X12_isReached_5 (by first | assumption | rfl | exact .inl rfl | exact .inr rfl)) ?_ | refine rt_eq (q_X12_isReached_21) ?_)
  refine rt_be (sp_longOf k1 H R) ?_
  (first | refine rt_eq (q_X12_isReached_0 (by first | assumption | rfl | exact .inl rfl | exact .inr rfl)) ?_ | refine rt_eq (q_X12_isReached_5 (by first | assumption | rfl | exact .inl rfl | exact .inr rfl)) ?_ | refine rt_eq (q_X12_isReached_21) ?_)
  refine rt_gd (inb_n (by omega) (by decide)) ?_
  rw [nI_clamp (by omega), q1]
  unfold rchd
  by_cases c1 : h 7 f ≤ lenN h (I r) n
  · refine rt_f (by (try simp (disch := omega) only [nI_leI, nI_ltI, nI_eq, nI_add, pk_mul, n_0add, Nat.zero_add, nI_clamp]) <;> omega) ?_
    refine rt_bnd (sp_arrives hr H ok R LM W) ?_
    rintro I2 J2 ⟨⟨g1, -⟩, rfl⟩
    (first | refine rt_eq (q_X12_isReached_0 (by first | assumption | rfl | exact .inl rfl | exact .inr rfl)) ?_ | refine rt_eq (q_X12_isReached_5 (by first | assumption | rfl | exact .inl rfl | exact .inr rfl)) ?_ | refine rt_eq (q_X12_isReached_21) ?_)
    refine rt_gd (inb_n (by omega) (by decide)) ?_
    rw [nI_clamp (by omega), g1 _ _ (hin 1), q2, decide_eq_true c1, Bool.true_and]
    by_cases c2 : nI (h 8 f) ≤ arN h nL cd (I r) n
    · refine rt_f (Int32.not_lt.mpr c2) ?_
      rw [decide_eq_true c2]
      exact rt_ret ⟨g1, rfl⟩
    · refine rt_t (Int32.not_le.mp c2) ?_
      rw [decide_eq_false c2]
      exact rt_ret ⟨g1, rfl⟩
  · refine rt_t (by (try simp (disch := omega) only [nI_leI, nI_ltI, nI_eq, nI_add, pk_mul, n_0add, Nat.zero_add, nI_clamp]) <;> omega) ?_
    rw [decide_eq_false c1, Bool.false_and]
    exact rt_ret ⟨fr_rfl, rfl⟩
end WA
