/-! THE WATER, THE CLASS'S -/
theorem oc3_f {a k : Nat} (h : oc3 a) : inF [(25, 0), (26, 0), (53, 0)] a k = false ∧ inF [(25, 0), (26, 0), (53, 0)] (a + 1) k = false ∧ inF [(25, 0), (26, 0), (53, 0)] (a + 2) k = false ∧ inF [(25, 0), (26, 0), (53, 0)] (a + 3) k = false ∧ inF [(25, 0), (26, 0), (53, 0)] (a + 4) k = false := by
  rcases h with rfl | rfl <;> exact ⟨rfl, rfl, rfl, rfl, rfl⟩
theorem sNC_dj {a : Nat} (h : oc3 a) : dj [(25, 0), (26, 0), (53, 0)] (sNC a) = true := by
  rcases h with rfl | rfl <;> decide
section WC
variable {d L X : Nat} {I : MI32} {J : MI64} {a n np nL : Nat} {N : Nt} {h : Hs} {m r p t : Nat} {cd : Cd}
theorem sp_tellPiece {x1 x2 x3 x4 : Int32} : runM (d + 1) nX2_tellPiece [.ref 23, .int x1, .int x2, .int x3, .int x4] (mm L X I J) = rV (mm L X (up2 (up2 (up2 (up2 I 26 1 x1) 26 2 x2) 26 6 x3) 26 8 x4) J) := by
  rw [e_X2_tellPiece]
  (first | refine Eq.trans (q_X2_tellPiece_0 (by first | assumption | rfl | exact .inl rfl | exact .inr rfl)) ?_ | refine Eq.trans (q_X2_tellPiece_31) ?_)
  exact q_X2_tellPiece_31
theorem sp_tellNow {x1 x2 x3 x4 x5 : Int32} : runM (d + 1) nX2_tellNow [.ref 23, .int x1, .int x2, .int x3, .int x4, .int x5] (mm L X I J) = rV (mm L X (up2 (up2 (up2 (up2 (up2 I 26 0 x1) 26 3 x2) 26 4 x3) 26 5 x4) 26 7 x5) J) := by
  rw [e_X2_tellNow]
  (first | refine Eq.trans (q_X2_tellNow_0 (by first | assumption | rfl | exact .inl rfl | exact .inr rfl)) ?_ | refine Eq.trans (q_X2_tellNow_29 (by first | assumption | rfl | exact .inl rfl | exact .inr rfl)) ?_)
  exact q_X2_tellNow_29 (.inl rfl)
/-- told all, the law answers -/
theorem told_left {x1 x2 x3 x4 x5 x6 x7 x8 x9 : Int32} (H : LawC I nL cd) (W : wfC cd nL 0 0) : Rt L X (runM (d + 2) nX2_left [.ref 23] (mm L X (up2 (up2 (up2 (up2 (up2 (up2 (up2 (up2 (up2 I 26 1 x2) 26 2 x3) 26 6 x7) 26 8 x9) 26 0 x1) 26 3 x4) 26 4 x5) 26 5 x6) 26 7 x8) J)) (some (.int (lwl cd nL x1 x2 x3 x4 x5 x6 x7 x8 x9))) (fun I' J' => Fr [(25, 0), (26, 0)] I I' ∧ J' = J) := by
  generalize hI : up2 _ 26 7 x8 = I2
  have hf : Fr [(26, 0)] I I2 := by
    rw [← hI]
    exact fr_up (fr_up (fr_up (fr_up (fr_up (fr_up (fr_up (fr_up (fr_up fr_rfl rfl) rfl) rfl) rfl) rfl) rfl) rfl) rfl) rfl
  have hv : ∀ i, i < 9 → I2 26 i = [x1, x2, x3, x4, x5, x6, x7, x8, x9].getD i 0 := by
    intro i hi
    rw [← hI]
    have : i = 0 ∨ i = 1 ∨ i = 2 ∨ i = 3 ∨ i = 4 ∨ i = 5 ∨ i = 6 ∨ i = 7 ∨ i = 8 := by omega
    rcases this with rfl | rfl | rfl | rfl | rfl | rfl | rfl | rfl | rfl <;> rfl
  rw [lwl, ← lawV_congr W hv]
  refine rt_mono (sp_left (LawC_fr H (ag_of hf (by decide))) W) ?_
  rintro I3 J3 ⟨g1, rfl⟩
  exact ⟨fr_tr (fr_mono hf (by decide)) (fr_mono g1 (by decide)), rfl⟩
theorem sp_behindPiece {x4 x5 : Int32} {k : Nat} (h0 : oc3 a) (C : NC I a n N) (K : HC I h m) (ok : HOK h) (LC : LawC I nL cd) (W : wfC cd nL 0 0) (hp : p < h 0 0) (ht : t ≤ 1) (hk : k < 6) : Rt L X (runM (d + 3) nX8_behindPiece [.ref 52, .ref a, .int (nI (2 * p + t)), .int (nI k), .int x4, .int x5] (mm L X I J)) (some (.int (lwl cd nL x4 (nI (h 4 p)) (nI (h 1 p)) (N (12 + p) + I 54 k) (N (18 + p) + I 55 k) (nI k) (nI t) x5 (nI p)))) (fun I' J' => Fr [(25, 0), (26, 0)] I I' ∧ J' = J) := by
  have h6 : p < 6 := by have := ok.1; omega
  obtain ⟨-, -, c3, c4, -⟩ := C
  obtain ⟨q1, q2, -, -⟩ := K.2.2.2.1 p hp
  have e1 : nI (2 * p + t) >>> (nI 1 &&& 31) = nI p := by
    rw [n_shr (by omega) (by decide), Nat.pow_one, wy_div ht]
  have e2 : nI (2 * p + t) &&& nI 1 = nI t := by rw [n_and1, wy_mod ht]
  rw [e_X8_behindPiece]
  (first | refine rt_eq (q_X8_behindPiece_0 (by first | assumption | rfl | exact .inl rfl | exact .inr rfl)) ?_ | refine rt_eq (q_X8_behindPiece_14 (by first | assumption | rfl | exact .inl rfl | exact .inr rfl)) ?_ | refine rt_eq (q_X8_behindPiece_22 (by first | assumption | rfl | exact .inl rfl | exact .inr rfl)) ?_ | refine rt_eq (q_X8_behindPiece_34) ?_ | refine rt_eq (q_X8_behindPiece_42) ?_ | refine rt_eq (q_X8_behindPiece_61) ?_ | refine rt_eq (q_X8_behindPiece_73) ?_ | refine rt_eq (q_X8_behindPiece_81) ?_ | refine rt_eq (q_X8_behindPiece_97) ?_ | refine rt_eq (q_X8_behindPiece_104) ?_)
  rw [e1]
  refine rt_bne (sp_pick (ks3_2 h0) (by decide)) ?_
  rw [pk_n h6 (by decide), c3 p h6]
  (first | refine rt_eq (q_X8_behindPiece_0 (by first | assumption | rfl | exact .inl rfl | exact .inr rfl)) ?_ | refine rt_eq (q_X8_behindPiece_14 (by first | assumption | rfl | exact .inl rfl | exact .inr rfl)) ?_ | refine rt_eq (q_X8_behindPiece_22 (by first | assumption | rfl | exact .inl rfl | exact .inr rfl)) ?_ | refine rt_eq (q_X8_behindPiece_34) ?_ | refine rt_eq (q_X8_behindPiece_42) ?_ | refine rt_eq (q_X8_behindPiece_61) ?_ | refine rt_eq (q_X8_behindPiece_73) ?_ | refine rt_eq (q_X8_behindPiece_81) ?_ | refine rt_eq (q_X8_behindPiece_97) ?_ | refine rt_eq (q_X8_behindPiece_104) ?_)
  refine rt_bne (sp_pick ka_54 (by decide)) ?_
  rw [pk_n hk (by decide)]
  (first | refine rt_eq (q_X8_behindPiece_0 (by first | assumption | rfl | exact .inl rfl | exact .inr rfl)) ?_ | refine rt_eq (q_X8_behindPiece_14 (by first | assumption | rfl | exact .inl rfl | exact .inr rfl)) ?_ | refine rt_eq (q_X8_behindPiece_22 (by first | assumption | rfl | exact .inl rfl | exact .inr rfl)) ?_ | refine rt_eq (q_X8_behindPiece_34) ?_ | refine rt_eq (q_X8_behindPiece_42) ?_ | refine rt_eq (q_X8_behindPiece_61) ?_ | refine rt_eq (q_X8_behindPiece_73) ?_ | refine rt_eq (q_X8_behindPiece_81) ?_ | refine rt_eq (q_X8_behindPiece_97) ?_ | refine rt_eq (q_X8_behindPiece_104) ?_)
  refine rt_bne (sp_pick (ks3_3 h0) (by decide)) ?_
  rw [pk_n h6 (by decide), c4 p h6]
  (first | refine rt_eq (q_X8_behindPiece_0 (by first | assumption | rfl | exact .inl rfl | exact .inr rfl)) ?_ | refine rt_eq (q_X8_behindPiece_14 (by first | assumption | rfl | exact .inl rfl | exact .inr rfl)) ?_ | refine rt_eq (q_X8_behindPiece_22 (by first | assumption | rfl | exact .inl rfl | exact .inr rfl)) ?_ | refine rt_eq (q_X8_behindPiece_34) ?_ | refine rt_eq (q_X8_behindPiece_42) ?_ | refine rt_eq (q_X8_behindPiece_61) ?_ | refine rt_eq (q_X8_behindPiece_73) ?_ | refine rt_eq (q_X8_behindPiece_81) ?_ | refine rt_eq (q_X8_behindPiece_97) ?_ | refine rt_eq (q_X8_behindPiece_104) ?_)
  refine rt_bne (sp_pick ka_55 (by decide)) ?_
  rw [pk_n hk (by decide)]
  (first | refine rt_eq (q_X8_behindPiece_0 (by first | assumption | rfl | exact .inl rfl | exact .inr rfl)) ?_ | refine rt_eq (q_X8_behindPiece_14 (by first | assumption | rfl | exact .inl rfl | exact .inr rfl)) ?_ | refine rt_eq (q_X8_behindPiece_22 (by first | assumption | rfl | exact .inl rfl | exact .inr rfl)) ?_ | refine rt_eq (q_X8_behindPiece_34) ?_ | refine rt_eq (q_X8_behindPiece_42) ?_ | refine rt_eq (q_X8_behindPiece_61) ?_ | refine rt_eq (q_X8_behindPiece_73) ?_ | refine rt_eq (q_X8_behindPiece_81) ?_ | refine rt_eq (q_X8_behindPiece_97) ?_ | refine rt_eq (q_X8_behindPiece_104) ?_)
  refine rt_bne (sp_pick ka_5 (by decide)) ?_
  rw [pk_n h6 (by decide), q2]
  (first | refine rt_eq (q_X8_behindPiece_0 (by first | assumption | rfl | exact .inl rfl | exact .inr rfl)) ?_ | refine rt_eq (q_X8_behindPiece_14 (by first | assumption | rfl | exact .inl rfl | exact .inr rfl)) ?_ | refine rt_eq (q_X8_behindPiece_22 (by first | assumption | rfl | exact .inl rfl | exact .inr rfl)) ?_ | refine rt_eq (q_X8_behindPiece_34) ?_ | refine rt_eq (q_X8_behindPiece_42) ?_ | refine rt_eq (q_X8_behindPiece_61) ?_ | refine rt_eq (q_X8_behindPiece_73) ?_ | refine rt_eq (q_X8_behindPiece_81) ?_ | refine rt_eq (q_X8_behindPiece_97) ?_ | refine rt_eq (q_X8_behindPiece_104) ?_)
  refine rt_bne (sp_pick ka_4 (by decide)) ?_
  rw [pk_n h6 (by decide), q1]
  (first | refine rt_eq (q_X8_behindPiece_0 (by first | assumption | rfl | exact .inl rfl | exact .inr rfl)) ?_ | refine rt_eq (q_X8_behindPiece_14 (by first | assumption | rfl | exact .inl rfl | exact .inr rfl)) ?_ | refine rt_eq (q_X8_behindPiece_22 (by first | assumption | rfl | exact .inl rfl | exact .inr rfl)) ?_ | refine rt_eq (q_X8_behindPiece_34) ?_ | refine rt_eq (q_X8_behindPiece_42) ?_ | refine rt_eq (q_X8_behindPiece_61) ?_ | refine rt_eq (q_X8_behindPiece_73) ?_ | refine rt_eq (q_X8_behindPiece_81) ?_ | refine rt_eq (q_X8_behindPiece_97) ?_ | refine rt_eq (q_X8_behindPiece_104) ?_)
  rw [e2]
  refine rt_be sp_tellPiece ?_
  (first | refine rt_eq (q_X8_behindPiece_0 (by first | assumption | rfl | exact .inl rfl | exact .inr rfl)) ?_ | refine rt_eq (q_X8_behindPiece_14 (by first | assumption | rfl | exact .inl rfl | exact .inr rfl)) ?_ | refine rt_eq (q_X8_behindPiece_22 (by first | assumption | rfl | exact .inl rfl | exact .inr rfl)) ?_ | refine rt_eq (q_X8_behindPiece_34) ?_ | refine rt_eq (q_X8_behindPiece_42) ?_ | refine rt_eq (q_X8_behindPiece_61) ?_ | refine rt_eq (q_X8_behindPiece_73) ?_ | refine rt_eq (q_X8_behindPiece_81) ?_ | refine rt_eq (q_X8_behindPiece_97) ?_ | refine rt_eq (q_X8_behindPiece_104) ?_)
  refine rt_be sp_tellNow ?_
  (first | refine rt_eq (q_X8_behindPiece_0 (by first | assumption | rfl | exact .inl rfl | exact .inr rfl)) ?_ | refine rt_eq (q_X8_behindPiece_14 (by first | assumption | rfl | exact .inl rfl | exact .inr rfl)) ?_ | refine rt_eq (q_X8_behindPiece_22 (by first | assumption | rfl | exact .inl rfl | exact .inr rfl)) ?_ | refine rt_eq (q_X8_behindPiece_34) ?_ | refine rt_eq (q_X8_behindPiece_42) ?_ | refine rt_eq (q_X8_behindPiece_61) ?_ | refine rt_eq (q_X8_behindPiece_73) ?_ | refine rt_eq (q_X8_behindPiece_81) ?_ | refine rt_eq (q_X8_behindPiece_97) ?_ | refine rt_eq (q_X8_behindPiece_104) ?_)
  refine rt_bnd (told_left LC W) ?_
  rintro I2 J2 ⟨g1, rfl⟩
  (first | refine rt_eq (q_X8_behindPiece_0 (by first | assumption | rfl | exact .inl rfl | exact .inr rfl)) ?_ | refine rt_eq (q_X8_behindPiece_14 (by first | assumption | rfl | exact .inl rfl | exact .inr rfl)) ?_ | refine rt_eq (q_X8_behindPiece_22 (by first | assumption | rfl | exact .inl rfl | exact .inr rfl)) ?_ | refine rt_eq (q_X8_behindPiece_34) ?_ | refine rt_eq (q_X8_behindPiece_42) ?_ | refine rt_eq (q_X8_behindPiece_61) ?_ | refine rt_eq (q_X8_behindPiece_73) ?_ | refine rt_eq (q_X8_behindPiece_81) ?_ | refine rt_eq (q_X8_behindPiece_97) ?_ | refine rt_eq (q_X8_behindPiece_104) ?_)
  exact rt_ret ⟨g1, rfl⟩
/-- the water's scratch -/
def fW : Fls := [(25, 0), (26, 0), (53, 0)]
theorem lp_arriving {x2 : Int32} (h0 : oc3 a) (C : NC I a n N) (R : NR (h 0 0) n N) (K : HC I h m) (ok : HOK h) (LC : LawC I nL cd) (W : wfC cd nL 0 0) (F : Nat → Int32) (hF : F = flN h nL cd N x2 (fun k => bdN N k + I 54 k) (fun k => bsN N k + I 55 k) (lkL (I 52 5) (I 52 6))) : ∀ q j I', j + q = n → Fr fW I I' → (∀ k, k < j → I' 53 k = F (k + 1)) → Rt L X (c_X8_arriving_5 (d + 3) L X I' J a x2 (F j) (nI j)) (some (.int (F n))) (fun I'' J' => (Fr fW I I'' ∧ ∀ k, k < n → I'' 53 k = F (k + 1)) ∧ J' = J)
  | 0, j, I', hj, hf, hl => by
    have hn6 := R.1.1
    (first | refine rt_eq (q_X8_arriving_0 (by first | assumption | rfl | exact .inl rfl | exact .inr rfl)) ?_ | refine rt_eq (q_X8_arriving_5 (by first | assumption | rfl | exact .inl rfl | exact .inr rfl)) ?_ | refine rt_eq (q_X8_arriving_34 (by first | assumption | rfl | exact .inl rfl | exact .inr rfl)) ?_ | refine rt_eq (q_X8_arriving_41 (by first | assumption | rfl | exact .inl rfl | exact .inr rfl)) ?_ | refine rt_eq (q_X8_arriving_62 (by first | assumption | rfl | exact .inl rfl | exact .inr rfl)) ?_)
    refine rt_t (by rw [hf a 5 (oc3_f h0).1, C.1]; ((try simp (disch := omega) only [nI_leI, nI_ltI, nI_eq, nI_add, pk_mul, n_0add, Nat.zero_add, nI_clamp]) <;> omega)) ?_
    have e : j = n := by omega
    subst e
    exact rt_ret ⟨⟨hf, hl⟩, rfl⟩
  | q + 1, j, I', hj, hf, hl => by
    have ih := lp_arriving h0 C R K ok LC W F hF q (j + 1)
    have hn6 := R.1.1
    have hp6 := ok.1
    obtain ⟨w1, w2, w3, w4⟩ := NR_wy R (show j < n by omega)
    have C' : NC I' a n N := NC_fr C (ag_of hf (sNC_dj h0))
    have K' : HC I' h m := HC_fr K (ag_of hf (by decide))
    have LC' : LawC I' nL cd := LawC_fr LC (ag_of hf (by decide))
    (first | refine rt_eq (q_X8_arriving_0 (by first | assumption | rfl | exact .inl rfl | exact .inr rfl)) ?_ | refine rt_eq (q_X8_arriving_5 (by first | assumption | rfl | exact .inl rfl | exact .inr rfl)) ?_ | refine rt_eq (q_X8_arriving_34 (by first | assumption | rfl | exact .inl rfl | exact .inr rfl)) ?_ | refine rt_eq (q_X8_arriving_41 (by first | assumption | rfl | exact .inl rfl | exact .inr rfl)) ?_ | refine rt_eq (q_X8_arriving_62 (by first | assumption | rfl | exact .inl rfl | exact .inr rfl)) ?_)
    refine rt_f (by rw [C'.1]; ((try simp (disch := omega) only [nI_leI, nI_ltI, nI_eq, nI_add, pk_mul, n_0add, Nat.zero_add, nI_clamp]) <;> omega)) (rt_f (by (try simp (disch := omega) only [nI_leI, nI_ltI, nI_eq, nI_add, pk_mul, n_0add, Nat.zero_add, nI_clamp]) <;> omega) (rt_gd (inb_n (by omega) (by decide)) ?_))
    rw [nI_clamp (by omega), C'.2.1 j (by omega)]
    generalize hp : nv (N j) = p at w1 w2 w3 w4
    rw [w2]
    refine rt_be (sp_wayOf h0 C' (by omega)) ?_
    (first | refine rt_eq (q_X8_arriving_0 (by first | assumption | rfl | exact .inl rfl | exact .inr rfl)) ?_ | refine rt_eq (q_X8_arriving_5 (by first | assumption | rfl | exact .inl rfl | exact .inr rfl)) ?_ | refine rt_eq (q_X8_arriving_34 (by first | assumption | rfl | exact .inl rfl | exact .inr rfl)) ?_ | refine rt_eq (q_X8_arriving_41 (by first | assumption | rfl | exact .inl rfl | exact .inr rfl)) ?_ | refine rt_eq (q_X8_arriving_62 (by first | assumption | rfl | exact .inl rfl | exact .inr rfl)) ?_)
    refine rt_bnd (sp_behindPiece h0 C' K' ok LC' W w1 w4 (by omega)) ?_
    rintro I2 J2 ⟨g1, rfl⟩
    have hf2 : Fr fW I I2 := fr_tr hf (fr_mono g1 (by decide))
    have hl2 : ∀ k, k < j → I2 53 k = F (k + 1) := fun k hk => (g1 53 k rfl).trans (hl k hk)
    rw [hf 54 j rfl, hf 55 j rfl]
    have hval : F (j + 1) = lkL (I 52 5) (I 52 6) j (lwl cd nL (F j) (nI (h 4 p)) (nI (h 1 p)) (N (12 + p) + I 54 j) (N (18 + p) + I 55 j) (nI j) (nI (nv (N (6 + p)))) x2 (nI p)) := by
      rw [hF]
      show lkL (I 52 5) (I 52 6) j (lwl cd nL _ (nI (h 4 (nv (N j)))) (nI (h 1 (nv (N j)))) (N (12 + nv (N j)) + I 54 j) (N (18 + nv (N j)) + I 55 j) (nI j) (N (6 + nv (N j))) x2 (nI (nv (N j)))) = _
      rw [hp, ← w3]
    generalize lwl cd nL (F j) (nI (h 4 p)) (nI (h 1 p)) (N (12 + p) + I 54 j) (N (18 + p) + I 55 j) (nI j) (nI (nv (N (6 + p)))) x2 (nI p) = z at hval
    have tail : ∀ y, y = F (j + 1) → Rt L X (runI (runM (d + 3)) iX8_arriving (62, [some (.ref 52), some (.ref a), some (.int x2), some (.int y), some (.int (nI j))], [], mm L X I2 J2)) (some (.int (F n))) (fun I'' J' => (Fr fW I I'' ∧ ∀ k, k < n → I'' 53 k = F (k + 1)) ∧ J' = J2) := by
      intro y hy
      (first | refine rt_eq (q_X8_arriving_0 (by first | assumption | rfl | exact .inl rfl | exact .inr rfl)) ?_ | refine rt_eq (q_X8_arriving_5 (by first | assumption | rfl | exact .inl rfl | exact .inr rfl)) ?_ | refine rt_eq (q_X8_arriving_34 (by first | assumption | rfl | exact .inl rfl | exact .inr rfl)) ?_ | refine rt_eq (q_X8_arriving_41 (by first | assumption | rfl | exact .inl rfl | exact .inr rfl)) ?_ | refine rt_eq (q_X8_arriving_62 (by first | assumption | rfl | exact .inl rfl | exact .inr rfl)) ?_)
      refine rt_gd (inb_n (by omega) (by decide)) ?_
      rw [nI_clamp (by omega), nI_add, hy]
      refine ih _ (by omega) (fr_up hf2 rfl) ?_
      intro k hk
      rw [up2_at]
      by_cases e : k = j
      · rw [if_pos e, e]
      · rw [if_neg e, hl2 k (by omega)]
    (first | refine rt_eq (q_X8_arriving_0 (by first | assumption | rfl | exact .inl rfl | exact .inr rfl)) ?_ | refine rt_eq (q_X8_arriving_5 (by first | assumption | rfl | exact .inl rfl | exact .inr rfl)) ?_ | refine rt_eq (q_X8_arriving_34 (by first | assumption | rfl | exact .inl rfl | exact .inr rfl)) ?_ | refine rt_eq (q_X8_arriving_41 (by first | assumption | rfl | exact .inl rfl | exact .inr rfl)) ?_ | refine rt_eq (q_X8_arriving_62 (by first | assumption | rfl | exact .inl rfl | exact .inr rfl)) ?_)
    rw [hf2 52 5 rfl, hf2 52 6 rfl]
    by_cases hk : nI j = I 52 5
    · refine rt_t hk ?_
      exact tail _ (by rw [hval, lkL, if_pos hk, mxI_alt])
    · refine rt_f hk ?_
      exact tail _ (by rw [hval, lkL, if_neg hk])
theorem sp_arriving {x2 : Int32} (h0 : oc3 a) (C : NC I a n N) (R : NR (h 0 0) n N) (K : HC I h m) (ok : HOK h) (LC : LawC I nL cd) (W : wfC cd nL 0 0) : Rt L X (runM (d + 4) nX8_arriving [.ref 52, .ref a, .int x2] (mm L X I J)) (some (.int (flN h nL cd N x2 (fun k => bdN N k + I 54 k) (fun k => bsN N k + I 55 k) (lkL (I 52 5) (I 52 6)) n))) (fun I'' J' => (Fr fW I I'' ∧ ∀ k, k < n → I'' 53 k = flN h nL cd N x2 (fun k => bdN N k + I 54 k) (fun k => bsN N k + I 55 k) (lkL (I 52 5) (I 52 6)) (k + 1)) ∧ J' = J) := by
  rw [e_X8_arriving]
  (first | refine rt_eq (q_X8_arriving_0 (by first | assumption | rfl | exact .inl rfl | exact .inr rfl)) ?_ | refine rt_eq (q_X8_arriving_5 (by first | assumption | rfl | exact .inl rfl | exact .inr rfl)) ?_ | refine rt_eq (q_X8_arriving_34 (by first | assumption | rfl | exact .inl rfl | exact .inr rfl)) ?_ | refine rt_eq (q_X8_arriving_41 (by first | assumption | rfl | exact .inl rfl | exact .inr rfl)) ?_ | refine rt_eq (q_X8_arriving_62 (by first | assumption | rfl | exact .inl rfl | exact .inr rfl)) ?_)
  exact lp_arriving h0 C R K ok LC W _ rfl n 0 I (by omega) fr_rfl (fun k hk => by omega)
/-- nothing is tried: no leak, no more bends, no more bursts -/
def Calm (I : MI32) : Prop := I 52 5 = -1 ∧ (∀ k, k < 6 → I 54 k = nI 0) ∧ ∀ k, k < 6 → I 55 k = nI 0
theorem Calm_fr {I I' : MI32} (H : Calm I) (g : Ag [(52, 6), (54, 0), (55, 0)] I I') : Calm I' := ⟨by rw [g 52 5 rfl, H.1], fun k hk => by rw [g 54 k rfl, H.2.1 k hk], fun k hk => by rw [g 55 k rfl, H.2.2 k hk]⟩
theorem add_n0 {x : Int32} : x + nI 0 = x := by rw [nI_0, Int32.add_zero]
theorem calm_fl {x2 : Int32} (Q : Calm I) : ∀ k, k ≤ 6 → flN h nL cd N x2 (fun k => bdN N k + I 54 k) (fun k => bsN N k + I 55 k) (lkL (I 52 5) (I 52 6)) k = flN h nL cd N x2 (bdN N) (bsN N) noL k := by
  intro k hk
  refine flN_congr k (fun i hi => ⟨rfl, rfl, ?_, ?_, fun x => ?_⟩)
  · show bdN N i + I 54 i = _
    rw [Q.2.1 i (by omega), add_n0]
  · show bsN N i + I 55 i = _
    rw [Q.2.2 i (by omega), add_n0]
  · rw [Q.1]
    exact lkL_m1 (by omega)
theorem sp_arrC {x2 : Int32} (h0 : oc3 a) (C : NC I a n N) (R : NR (h 0 0) n N) (K : HC I h m) (ok : HOK h) (LC : LawC I nL cd) (W : wfC cd nL 0 0) (Q : Calm I) : Rt L X (runM (d + 4) nX8_arriving [.ref 52, .ref a, .int x2] (mm L X I J)) (some (.int (flN h nL cd N x2 (bdN N) (bsN N) noL n))) (fun I'' J' => (Fr fW I I'' ∧ ∀ k, k < n → I'' 53 k = flN h nL cd N x2 (bdN N) (bsN N) noL (k + 1)) ∧ J' = J) := by
  have hn6 := R.1.1
  rw [← calm_fl Q n hn6]
  refine rt_mono (sp_arriving h0 C R K ok LC W) ?_
  rintro I2 J2 ⟨⟨g1, g2⟩, rfl⟩
  refine ⟨⟨g1, fun k hk => ?_⟩, rfl⟩
  rw [g2 k hk, calm_fl Q (k + 1) (by omega)]
/-- which fires the row reaches -/
theorem lp_reachedBits {u1 : Option Value} (K : HC I h m) (ok : HOK h) {ln : Nat} {w : Int32} (hl : ln ≤ 180) : ∀ q j b, j + q = h 0 2 → c_X8_reachedBits_37 (d + 2) L X I J u1 w (nI ln) (nI b) (nI j) = rI (nI (accF (bitA (fun f => decide (h 7 f ≤ ln) && decide (nI (h 8 f) ≤ w))) q j b)) (mm L X I J)
  | 0, j, b, hj => by
    have h5 := ok.2.2.1
    (first | refine Eq.trans (q_X8_reachedBits_0 (by first | assumption | rfl | exact .inl rfl | exact .inr rfl)) ?_ | refine Eq.trans (q_X8_reachedBits_21 (by first | assumption | rfl | exact .inl rfl | exact .inr rfl)) ?_ | refine Eq.trans (q_X8_reachedBits_30) ?_ | refine Eq.trans (q_X8_reachedBits_37) ?_ | refine Eq.trans (q_X8_reachedBits_60) ?_ | refine Eq.trans (q_X8_reachedBits_72) ?_)
    rw [K.2.2.1, if_pos (by (try simp (disch := omega) only [nI_leI, nI_ltI, nI_eq, nI_add, pk_mul, n_0add, Nat.zero_add, nI_clamp]) <;> omega)]
    rfl
  | q + 1, j, b, hj => by
    have ih := lp_reachedBits (u1 := u1) (w := w) K ok hl q (j + 1) (bitA (fun f => decide (h 7 f ≤ ln) && decide (nI (h 8 f) ≤ w)) j b) (by omega)
    have h5 := ok.2.2.1
    have hfb := ok.2.2.2.2 j (by omega)
    obtain ⟨q1, q2⟩ := K.2.2.2.2.2.1 j (by omega)
    (first | refine Eq.trans (q_X8_reachedBits_0 (by first | assumption | rfl | exact .inl rfl | exact .inr rfl)) ?_ | refine Eq.trans (q_X8_reachedBits_21 (by first | assumption | rfl | exact .inl rfl | exact .inr rfl)) ?_ | refine Eq.trans (q_X8_reachedBits_30) ?_ | refine Eq.trans (q_X8_reachedBits_37) ?_ | refine Eq.trans (q_X8_reachedBits_60) ?_ | refine Eq.trans (q_X8_reachedBits_72) ?_)
    rw [K.2.2.1, if_neg (by (try simp (disch := omega) only [nI_leI, nI_ltI, nI_eq, nI_add, pk_mul, n_0add, Nat.zero_add, nI_clamp]) <;> omega)]
    refine (bnd_e (sp_reaches (.inl rfl))).trans ?_
    rw [pk_n (by omega) (by decide), pk_n (by omega) (by decide), show I (3 + 7) j = nI (h 7 j) from q1, show I (3 + 8) j = nI (h 8 j) from q2]
    have e : decide (nI (h 7 j) ≤ nI ln ∧ nI (h 8 j) ≤ w) = (decide (h 7 j ≤ ln) && decide (nI (h 8 j) ≤ w)) := by
      rw [Bool.decide_and, decide_eq_decide.mpr (nI_leI (by omega) (by omega))]
    rw [e]
    (first | refine Eq.trans (q_X8_reachedBits_0 (by first | assumption | rfl | exact .inl rfl | exact .inr rfl)) ?_ | refine Eq.trans (q_X8_reachedBits_21 (by first | assumption | rfl | exact .inl rfl | exact .inr rfl)) ?_ | refine Eq.trans (q_X8_reachedBits_30) ?_ | refine Eq.trans (q_X8_reachedBits_37) ?_ | refine Eq.trans (q_X8_reachedBits_60) ?_ | refine Eq.trans (q_X8_reachedBits_72) ?_)
    show _ = rI (nI (accF _ q (j + 1) (bitA _ j b))) _
    by_cases hx : (decide (h 7 j ≤ ln) && decide (nI (h 8 j) ≤ w)) = true
    · rw [if_neg (by rw [hx]; decide)]
      (first | refine Eq.trans (q_X8_reachedBits_0 (by first | assumption | rfl | exact .inl rfl | exact .inr rfl)) ?_ | refine Eq.trans (q_X8_reachedBits_21 (by first | assumption | rfl | exact .inl rfl | exact .inr rfl)) ?_ | refine Eq.trans (q_X8_reachedBits_30) ?_ | refine Eq.trans (q_X8_reachedBits_37) ?_ | refine Eq.trans (q_X8_reachedBits_60) ?_ | refine Eq.trans (q_X8_reachedBits_72) ?_)
      rw [nI_add, n_pow (by omega), n_or]
      have e2 : bitA (fun f => decide (h 7 f ≤ ln) && decide (nI (h 8 f) ≤ w)) j b = b ||| 2 ^ j := if_pos hx
      rw [e2] at ih
      rw [e2]
      exact ih
    · rw [if_pos (by rw [Bool.not_eq_true] at hx; rw [hx]; rfl)]
      (first | refine Eq.trans (q_X8_reachedBits_0 (by first | assumption | rfl | exact .inl rfl | exact .inr rfl)) ?_ | refine Eq.trans (q_X8_reachedBits_21 (by first | assumption | rfl | exact .inl rfl | exact .inr rfl)) ?_ | refine Eq.trans (q_X8_reachedBits_30) ?_ | refine Eq.trans (q_X8_reachedBits_37) ?_ | refine Eq.trans (q_X8_reachedBits_60) ?_ | refine Eq.trans (q_X8_reachedBits_72) ?_)
      rw [nI_add]
      have e2 : bitA (fun f => decide (h 7 f ≤ ln) && decide (nI (h 8 f) ≤ w)) j b = b := if_neg hx
      rw [e2] at ih
      rw [e2]
      exact ih
theorem sp_reachedBits (h0 : oc3 a) (C : NC I a n N) (R : NR (h 0 0) n N) (K : HC I h m) (ok : HOK h) (LC : LawC I nL cd) (W : wfC cd nL 0 0) (Q : Calm I) : Rt L X (runM (d + 5) nX8_reachedBits [.ref 52, .ref a] (mm L X I J)) (some (.int (nI (bitsN (rchd h nL cd N n) (h 0 2))))) (fun I'' J' => Fr fW I I'' ∧ J' = J) := by
  have h5 := ok.2.2.1
  rw [e_X8_reachedBits]
  (first | refine rt_eq (q_X8_reachedBits_0 (by first | assumption | rfl | exact .inl rfl | exact .inr rfl)) ?_ | refine rt_eq (q_X8_reachedBits_21 (by first | assumption | rfl | exact .inl rfl | exact .inr rfl)) ?_ | refine rt_eq (q_X8_reachedBits_30) ?_ | refine rt_eq (q_X8_reachedBits_37) ?_ | refine rt_eq (q_X8_reachedBits_60) ?_ | refine rt_eq (q_X8_reachedBits_72) ?_)
  rw [K.2.2.1]
  by_cases hz : h 0 2 = 0
  · refine rt_t (by (try simp (disch := omega) only [nI_leI, nI_ltI, nI_eq, nI_add, pk_mul, n_0add, Nat.zero_add, nI_clamp]) <;> omega) ?_
    rw [hz]
    exact rt_ret ⟨fr_rfl, rfl⟩
  · refine rt_f (by (try simp (disch := omega) only [nI_leI, nI_ltI, nI_eq, nI_add, pk_mul, n_0add, Nat.zero_add, nI_clamp]) <;> omega) ?_
    refine rt_bnd (sp_arrC h0 C R K ok LC W Q) ?_
    rintro I2 J2 ⟨⟨g1, -⟩, rfl⟩
    rw [C.2.2.2.2.2.1]
    (first | refine rt_eq (q_X8_reachedBits_0 (by first | assumption | rfl | exact .inl rfl | exact .inr rfl)) ?_ | refine rt_eq (q_X8_reachedBits_21 (by first | assumption | rfl | exact .inl rfl | exact .inr rfl)) ?_ | refine rt_eq (q_X8_reachedBits_30) ?_ | refine rt_eq (q_X8_reachedBits_37) ?_ | refine rt_eq (q_X8_reachedBits_60) ?_ | refine rt_eq (q_X8_reachedBits_72) ?_)
    refine rt_be (sp_longNow h0 (NC_fr C (ag_of g1 (sNC_dj h0))) R (HC_fr K (ag_of g1 (by decide))) ok) ?_
    (first | refine rt_eq (q_X8_reachedBits_0 (by first | assumption | rfl | exact .inl rfl | exact .inr rfl)) ?_ | refine rt_eq (q_X8_reachedBits_21 (by first | assumption | rfl | exact .inl rfl | exact .inr rfl)) ?_ | refine rt_eq (q_X8_reachedBits_30) ?_ | refine rt_eq (q_X8_reachedBits_37) ?_ | refine rt_eq (q_X8_reachedBits_60) ?_ | refine rt_eq (q_X8_reachedBits_72) ?_)
    refine rt_end (I := I2) (J := J2) ?_ ⟨g1, rfl⟩
    exact lp_reachedBits (HC_fr K (ag_of g1 (by decide))) ok (lenN_lt ok R) (h 0 2) 0 0 (by omega)
end WC
