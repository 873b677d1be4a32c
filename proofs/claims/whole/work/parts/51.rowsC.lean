/-! THE CLASS'S ROWS: followers, the longest, the chain -/
def FW (I : MI32) (h : Hs) (m : Nat) : Prop := ∀ w, w < 2 * h 0 0 → I 57 w = nI (bitsN (fol h m w) (2 * h 0 0))
/-- the table is right for all sets beyond u -/
def LT (I : MI32) (h : Hs) (m u : Nat) : Prop := ∀ u' l, u < u' → u' < 2 ^ h 0 0 → l < 2 * h 0 0 → u'.testBit (l / 2) = true → I 58 (u' * 12 + l) = nI (lg h m u' (some l))
section RC
variable {d L X : Nat} {I : MI32} {J : MI64} {h : Hs} {m u w : Nat} {l : Option Nat}
theorem pow6 (ok : HOK h) : 2 ^ h 0 0 ≤ 64 := Nat.pow_le_pow_right (n := 2) (by decide) ok.1
theorem or_np {p : Nat} (hu : u < 2 ^ h 0 0) (hp : p < h 0 0) : u ||| 2 ^ p < 2 ^ h 0 0 := Nat.or_lt_two_pow hu (Nat.pow_lt_pow_right (by decide) hp)
theorem mx_n {a b : Nat} (ha : a < 2 ^ 31) (hb : b < 2 ^ 31) : (if nI a < nI b then nI b else nI a) = nI (Nat.max a b) := by
  by_cases z : a < b
  · rw [if_pos ((nI_ltI ha hb).mpr z)]
    exact congrArg nI (Nat.max_eq_right (by omega)).symm
  · rw [if_neg (fun q => z ((nI_ltI ha hb).mp q))]
    exact congrArg nI (Nat.max_eq_left (by omega)).symm
theorem lp_ff (K : HC I h m) (ok : HOK h) (hw : w < 2 * h 0 0) : ∀ q j b, j + q = 2 * h 0 0 → c_X5_fillFollowers_25 (d + 3) L X I J (nI w) (nI b) (nI j) = c_X5_fillFollowers_2 (d + 3) L X (up2 I 57 w (nI (accF (bitA (fol h m w)) q j b))) J (nI (w + 1)) (some (.int (nI (accF (bitA (fol h m w)) q j b)))) (some (.int (nI (2 * h 0 0))))
  | 0, j, b, hj => by
    have h6 := ok.1
    (first | refine Eq.trans (q_X5_fillFollowers_0) ?_ | refine Eq.trans (q_X5_fillFollowers_2) ?_ | refine Eq.trans (q_X5_fillFollowers_25) ?_ | refine Eq.trans (q_X5_fillFollowers_47) ?_ | refine Eq.trans (q_X5_fillFollowers_56) ?_)
    rw [K.1, pk_mul, if_pos (by (try simp (disch := omega) only [nI_leI, nI_ltI, nI_eq, nI_add, pk_mul, n_0add, Nat.zero_add, nI_clamp]) <;> omega), gd_t (inb_n (by omega) (by decide)), nI_clamp (by omega), nI_add, show j = 2 * h 0 0 by omega]
    rfl
  | q + 1, j, b, hj => by
    have ih := lp_ff K ok hw q (j + 1) (bitA (fol h m w) j b) (by omega)
    have h6 := ok.1
    (first | refine Eq.trans (q_X5_fillFollowers_0) ?_ | refine Eq.trans (q_X5_fillFollowers_2) ?_ | refine Eq.trans (q_X5_fillFollowers_25) ?_ | refine Eq.trans (q_X5_fillFollowers_47) ?_ | refine Eq.trans (q_X5_fillFollowers_56) ?_)
    rw [K.1, pk_mul, if_neg (by (try simp (disch := omega) only [nI_leI, nI_ltI, nI_eq, nI_add, pk_mul, n_0add, Nat.zero_add, nI_clamp]) <;> omega)]
    refine (bnd_e (folC K ok (by omega) (by omega))).trans ?_
    (first | refine Eq.trans (q_X5_fillFollowers_0) ?_ | refine Eq.trans (q_X5_fillFollowers_2) ?_ | refine Eq.trans (q_X5_fillFollowers_25) ?_ | refine Eq.trans (q_X5_fillFollowers_47) ?_ | refine Eq.trans (q_X5_fillFollowers_56) ?_)
    show _ = c_X5_fillFollowers_2 (d + 3) L X (up2 I 57 w (nI (accF (bitA (fol h m w)) q (j + 1) (bitA (fol h m w) j b)))) J (nI (w + 1)) (some (.int (nI (accF (bitA (fol h m w)) q (j + 1) (bitA (fol h m w) j b))))) (some (.int (nI (2 * h 0 0))))
    by_cases z : fol h m w j = true
    · rw [z, if_neg (by decide)]
      (first | refine Eq.trans (q_X5_fillFollowers_0) ?_ | refine Eq.trans (q_X5_fillFollowers_2) ?_ | refine Eq.trans (q_X5_fillFollowers_25) ?_ | refine Eq.trans (q_X5_fillFollowers_47) ?_ | refine Eq.trans (q_X5_fillFollowers_56) ?_)
      rw [nI_add, n_pow (by omega), n_or]
      have e : bitA (fol h m w) j b = b ||| 2 ^ j := if_pos z
      rw [e] at ih ⊢
      exact ih
    · rw [Bool.not_eq_true] at z
      rw [z, if_pos bI_f]
      (first | refine Eq.trans (q_X5_fillFollowers_0) ?_ | refine Eq.trans (q_X5_fillFollowers_2) ?_ | refine Eq.trans (q_X5_fillFollowers_25) ?_ | refine Eq.trans (q_X5_fillFollowers_47) ?_ | refine Eq.trans (q_X5_fillFollowers_56) ?_)
      rw [nI_add]
      have e : bitA (fol h m w) j b = b := if_neg (by rw [z]; decide)
      rw [e] at ih ⊢
      exact ih
theorem lp_ff2 (K : HC I h m) (ok : HOK h) : ∀ q j I' u2 u3, j + q = 2 * h 0 0 → Fr [(57, 0)] I I' → (∀ w, w < j → I' 57 w = nI (bitsN (fol h m w) (2 * h 0 0))) → Rt L X (c_X5_fillFollowers_2 (d + 3) L X I' J (nI j) u2 u3) none (fun I'' J' => (Fr [(57, 0)] I I'' ∧ FW I'' h m) ∧ J' = J)
  | 0, j, I', u2, u3, hj, hf, hl => by
    have h6 := ok.1
    have K' := HC_fr K (ag_of hf (by decide))
    (first | refine rt_eq (q_X5_fillFollowers_0) ?_ | refine rt_eq (q_X5_fillFollowers_2) ?_ | refine rt_eq (q_X5_fillFollowers_25) ?_ | refine rt_eq (q_X5_fillFollowers_47) ?_ | refine rt_eq (q_X5_fillFollowers_56) ?_)
    rw [K'.1, pk_mul]
    refine rt_t (by (try simp (disch := omega) only [nI_leI, nI_ltI, nI_eq, nI_add, pk_mul, n_0add, Nat.zero_add, nI_clamp]) <;> omega) ?_
    refine rt_ret ⟨⟨hf, ?_⟩, rfl⟩
    intro w hw
    exact hl w (by omega)
  | q + 1, j, I', u2, u3, hj, hf, hl => by
    have ih := lp_ff2 K ok q (j + 1)
    have h6 := ok.1
    have K' := HC_fr K (ag_of hf (by decide))
    (first | refine rt_eq (q_X5_fillFollowers_0) ?_ | refine rt_eq (q_X5_fillFollowers_2) ?_ | refine rt_eq (q_X5_fillFollowers_25) ?_ | refine rt_eq (q_X5_fillFollowers_47) ?_ | refine rt_eq (q_X5_fillFollowers_56) ?_)
    rw [K'.1, pk_mul]
    refine rt_f (by (try simp (disch := omega) only [nI_leI, nI_ltI, nI_eq, nI_add, pk_mul, n_0add, Nat.zero_add, nI_clamp]) <;> omega) (rt_f (by (try simp (disch := omega) only [nI_leI, nI_ltI, nI_eq, nI_add, pk_mul, n_0add, Nat.zero_add, nI_clamp]) <;> omega) ?_)
    refine rt_eq (lp_ff K' ok (by omega) (2 * h 0 0) 0 0 (by omega)) ?_
    refine ih _ _ _ (by omega) (fr_up hf rfl) ?_
    intro w hw
    rw [up2_at]
    by_cases e : w = j
    · rw [if_pos e, e]
      rfl
    · rw [if_neg e]
      exact hl w (by omega)
theorem sp_fillFollowers (K : HC I h m) (ok : HOK h) : Rt L X (runM (d + 4) nX5_fillFollowers [.ref 56] (mm L X I J)) none (fun I'' J' => (Fr [(57, 0)] I I'' ∧ FW I'' h m) ∧ J' = J) := by
  rw [e_X5_fillFollowers]
  (first | refine rt_eq (q_X5_fillFollowers_0) ?_ | refine rt_eq (q_X5_fillFollowers_2) ?_ | refine rt_eq (q_X5_fillFollowers_25) ?_ | refine rt_eq (q_X5_fillFollowers_47) ?_ | refine rt_eq (q_X5_fillFollowers_56) ?_)
  exact lp_ff2 K ok (2 * h 0 0) 0 I _ _ (by omega) fr_rfl (fun w hw => by omega)
/-- what l may be -/
def lOK (h : Hs) (l : Option Nat) : Prop := ∀ v, l = some v → v < 2 * h 0 0
theorem lOK_n : lOK h none := fun v e => by cases e
theorem lOK_s {v : Nat} (hv : v < 2 * h 0 0) : lOK h (some v) := fun v' e => by cases e; exact hv
theorem sp_canFollow (F : FW I h m) (ok : HOK h) (hu : u < 64) (hl : lOK h l) (hw : w < 2 * h 0 0) : runM (d + 2) nX5_canFollow [.ref 56, .int (nI u), .int (o2i l), .int (nI w)] (mm L X I J) = rB (cfw h m u l w) (mm L X I J) := by
  have h6 := ok.1
  rw [e_X5_canFollow]
  (first | refine Eq.trans (q_X5_canFollow_0) ?_ | refine Eq.trans (q_X5_canFollow_7) ?_ | refine Eq.trans (q_X5_canFollow_23) ?_ | refine Eq.trans (q_X5_canFollow_27) ?_)
  rw [n_shr (by omega) (by decide), Nat.pow_one]
  refine (bndN_e sp_bit).trans ?_
  rw [n_bit (by omega) (by omega)]
  (first | refine Eq.trans (q_X5_canFollow_0) ?_ | refine Eq.trans (q_X5_canFollow_7) ?_ | refine Eq.trans (q_X5_canFollow_23) ?_ | refine Eq.trans (q_X5_canFollow_27) ?_)
  unfold cfw
  by_cases z : u.testBit (w / 2) = true
  · rw [if_neg (by rw [tb_test.mpr z]; decide), z]
    rfl
  · rw [Bool.not_eq_true] at z
    rw [if_pos (by rw [tb_test0.mpr z]), z]
    rcases l with _ | v
    · rw [if_pos (show o2i none = -1 from rfl)]
      rfl
    · have hv := hl v rfl
      rw [if_neg (show ¬ o2i (some v) = -1 from nI_m1 v (by omega))]
      refine (bndN_e (sp_pick ka_57 (by decide))).trans ?_
      show runI _ _ (_, _, [.int (pk (I 57) 12 (nI v))], _) = _
      rw [pk_n (by omega) (by decide), F v hv]
      (first | refine Eq.trans (q_X5_canFollow_0) ?_ | refine Eq.trans (q_X5_canFollow_7) ?_ | refine Eq.trans (q_X5_canFollow_23) ?_ | refine Eq.trans (q_X5_canFollow_27) ?_)
      refine (bndN_e sp_bit).trans ?_
      have hB : bitsN (fol h m v) (2 * h 0 0) < 2 ^ 31 := Nat.lt_of_lt_of_le (bitsN_lt _) (Nat.pow_le_pow_right (by decide) (by omega))
      rw [n_bit hB (by omega), tb_bitsN hw]
      (first | refine Eq.trans (q_X5_canFollow_0) ?_ | refine Eq.trans (q_X5_canFollow_7) ?_ | refine Eq.trans (q_X5_canFollow_23) ?_ | refine Eq.trans (q_X5_canFollow_27) ?_)
      show _ = rB (!false && fol h m v w) _
      by_cases y : fol h m v w = true
      · rw [if_pos (show nI (if fol h m v w = true then 1 else 0) = nI 1 by rw [if_pos y]), y]
        rfl
      · rw [if_neg (show ¬ nI (if fol h m v w = true then 1 else 0) = nI 1 by rw [if_neg y]; decide)]
        rw [Bool.not_eq_true] at y
        rw [y]
        rfl
theorem sp_longWith (K : HC I h m) (ok : HOK h) (T : LT I h m u) (hu : u < 2 ^ h 0 0) (hb : u.testBit (w / 2) = false) (hw : w < 2 * h 0 0) : runM (d + 2) nX5_longWith [.ref 56, .int (nI u), .int (nI w)] (mm L X I J) = rI (nI (lw h m u w)) (mm L X I J) := by
  have h6 := ok.1
  have p6 := pow6 ok
  have g1 := or_gt hb
  have g2 := or_np (p := w / 2) hu (by omega)
  have e := T _ w g1 g2 hw (by rw [Nat.testBit_or, Nat.testBit_two_pow_self, Bool.or_true])
  rw [e_X5_longWith]
  (first | refine Eq.trans (q_X5_longWith_0) ?_ | refine Eq.trans (q_X5_longWith_21) ?_ | refine Eq.trans (q_X5_longWith_34) ?_)
  rw [n_shr (by omega) (by decide), Nat.pow_one, n_pow (by omega), n_or]
  refine (bndN_e (sp_pick ka_4 (by decide))).trans ?_
  rw [pk_n (by omega) (by decide), (K.2.2.2.1 (w / 2) (by omega)).1]
  (first | refine Eq.trans (q_X5_longWith_0) ?_ | refine Eq.trans (q_X5_longWith_21) ?_ | refine Eq.trans (q_X5_longWith_34) ?_)
  rw [pk_mul, nI_add]
  refine (bndN_e (sp_pick ka_58 (by decide))).trans ?_
  rw [pk_n (by omega) (by decide), e]
  (first | refine Eq.trans (q_X5_longWith_0) ?_ | refine Eq.trans (q_X5_longWith_21) ?_ | refine Eq.trans (q_X5_longWith_34) ?_)
  rw [nI_add]
  rfl
theorem lw_le (ok : HOK h) (hu : u < 2 ^ h 0 0) (hw : w < 2 * h 0 0) : lw h m u w ≤ 210 := by
  have h6 := ok.1
  have p6 := pow6 ok
  have := (ok.2.2.2.1 (w / 2) (by omega)).2.1
  have := lg_le (m := m) (l := some w) ok (Nat.lt_of_lt_of_le (or_np (p := w / 2) hu (by omega)) p6)
  unfold lw
  omega
theorem lp_lb (K : HC I h m) (F : FW I h m) (ok : HOK h) (T : LT I h m u) (hu : u < 2 ^ h 0 0) (hl : lOK h l) : ∀ q j a, j + q = 2 * h 0 0 → a ≤ 210 → c_X5_longestBehind_5 (d + 2) L X I J (nI u) (o2i l) (nI a) (nI j) = rI (nI (accF (mxA (cfw h m u l) (lw h m u)) q j a)) (mm L X I J)
  | 0, j, a, hj, ha => by
    have h6 := ok.1
    (first | refine Eq.trans (q_X5_longestBehind_0) ?_ | refine Eq.trans (q_X5_longestBehind_5) ?_ | refine Eq.trans (q_X5_longestBehind_27) ?_ | refine Eq.trans (q_X5_longestBehind_42) ?_ | refine Eq.trans (q_X5_longestBehind_38) ?_)
    rw [K.1, pk_mul, if_pos (by (try simp (disch := omega) only [nI_leI, nI_ltI, nI_eq, nI_add, pk_mul, n_0add, Nat.zero_add, nI_clamp]) <;> omega)]
    rfl
  | q + 1, j, a, hj, ha => by
    have ih := lp_lb K F ok T hu hl q (j + 1) (mxA (cfw h m u l) (lw h m u) j a) (by omega)
    have h6 := ok.1
    have p6 := pow6 ok
    (first | refine Eq.trans (q_X5_longestBehind_0) ?_ | refine Eq.trans (q_X5_longestBehind_5) ?_ | refine Eq.trans (q_X5_longestBehind_27) ?_ | refine Eq.trans (q_X5_longestBehind_42) ?_ | refine Eq.trans (q_X5_longestBehind_38) ?_)
    rw [K.1, pk_mul, if_neg (by (try simp (disch := omega) only [nI_leI, nI_ltI, nI_eq, nI_add, pk_mul, n_0add, Nat.zero_add, nI_clamp]) <;> omega)]
    refine (bnd_e (sp_canFollow F ok (by omega) hl (by omega))).trans ?_
    (first | refine Eq.trans (q_X5_longestBehind_0) ?_ | refine Eq.trans (q_X5_longestBehind_5) ?_ | refine Eq.trans (q_X5_longestBehind_27) ?_ | refine Eq.trans (q_X5_longestBehind_42) ?_ | refine Eq.trans (q_X5_longestBehind_38) ?_)
    show _ = rI (nI (accF (mxA (cfw h m u l) (lw h m u)) q (j + 1) (mxA (cfw h m u l) (lw h m u) j a))) _
    by_cases z : cfw h m u l j = true
    · rw [z, if_neg (by decide)]
      have b := lw_le (m := m) ok hu (show j < 2 * h 0 0 by omega)
      refine (bnd_e (sp_longWith K ok T hu (cfw_bit z) (by omega))).trans ?_
      (first | refine Eq.trans (q_X5_longestBehind_0) ?_ | refine Eq.trans (q_X5_longestBehind_5) ?_ | refine Eq.trans (q_X5_longestBehind_27) ?_ | refine Eq.trans (q_X5_longestBehind_42) ?_ | refine Eq.trans (q_X5_longestBehind_38) ?_)
      (first | refine Eq.trans (q_X5_longestBehind_0) ?_ | refine Eq.trans (q_X5_longestBehind_5) ?_ | refine Eq.trans (q_X5_longestBehind_27) ?_ | refine Eq.trans (q_X5_longestBehind_42) ?_ | refine Eq.trans (q_X5_longestBehind_38) ?_)
      rw [nI_add, mx_n (by omega) (by omega)]
      have e : mxA (cfw h m u l) (lw h m u) j a = Nat.max a (lw h m u j) := if_pos z
      rw [e] at ih ⊢
      exact ih (Nat.max_le.mpr ⟨ha, b⟩)
    · rw [Bool.not_eq_true] at z
      rw [z, if_pos bI_f]
      (first | refine Eq.trans (q_X5_longestBehind_0) ?_ | refine Eq.trans (q_X5_longestBehind_5) ?_ | refine Eq.trans (q_X5_longestBehind_27) ?_ | refine Eq.trans (q_X5_longestBehind_42) ?_ | refine Eq.trans (q_X5_longestBehind_38) ?_)
      rw [nI_add]
      have e : mxA (cfw h m u l) (lw h m u) j a = a := if_neg (by rw [z]; decide)
      rw [e] at ih ⊢
      exact ih ha
theorem sp_longestBehind (K : HC I h m) (F : FW I h m) (ok : HOK h) (T : LT I h m u) (hu : u < 2 ^ h 0 0) (hl : lOK h l) : runM (d + 3) nX5_longestBehind [.ref 56, .int (nI u), .int (o2i l)] (mm L X I J) = rI (nI (lg h m u l)) (mm L X I J) := by
  rw [lg_eq ok (Nat.lt_of_lt_of_le hu (pow6 ok)), e_X5_longestBehind]
  (first | refine Eq.trans (q_X5_longestBehind_0) ?_ | refine Eq.trans (q_X5_longestBehind_5) ?_ | refine Eq.trans (q_X5_longestBehind_27) ?_ | refine Eq.trans (q_X5_longestBehind_42) ?_ | refine Eq.trans (q_X5_longestBehind_38) ?_)
  exact lp_lb K F ok T hu hl (2 * h 0 0) 0 0 (by omega) (by omega)
theorem LT_up {v : Int32} (T : LT I h m u) (ok : HOK h) {k : Nat} (hk : k < u * 12 + 12) : LT (up2 I 58 k v) h m u := by
  intro u' l h1 h2 h3 h4
  have h6 := ok.1
  rw [up2_k (by omega)]
  exact T u' l h1 h2 h3 h4
theorem lp_ln2 {r : Option Value} {Q : MI32 → MI64 → Prop} (K : HC I h m) (F : FW I h m) (ok : HOK h) (h0 : 0 < u) (hu : u < 2 ^ h 0 0) (go : ∀ I' u2, Fr [(58, 0)] I I' → LT I' h m (u - 1) → Rt L X (c_X5_longestNow_16 (d + 3) L X I' J (nI (u - 1)) u2) r Q) : ∀ q j I', j + q = 2 * h 0 0 → Fr [(58, 0)] I I' → LT I' h m u → (∀ l, l < j → u.testBit (l / 2) = true → I' 58 (u * 12 + l) = nI (lg h m u (some l))) → Rt L X (c_X5_longestNow_22 (d + 3) L X I' J (nI u) (nI j)) r Q
  | 0, j, I', hj, hf, hT, hl => by
    have h6 := ok.1
    have K' := HC_fr K (ag_of hf (by decide))
    (first | refine rt_eq (q_X5_longestNow_0) ?_ | refine rt_eq (q_X5_longestNow_4) ?_ | refine rt_eq (q_X5_longestNow_16) ?_ | refine rt_eq (q_X5_longestNow_83) ?_ | refine rt_eq (q_X5_longestNow_22) ?_ | refine rt_eq (q_X5_longestNow_42) ?_ | refine rt_eq (q_X5_longestNow_65) ?_ | refine rt_eq (q_X5_longestNow_62) ?_)
    rw [K'.1, pk_mul]
    refine rt_t (by (try simp (disch := omega) only [nI_leI, nI_ltI, nI_eq, nI_add, pk_mul, n_0add, Nat.zero_add, nI_clamp]) <;> omega) ?_
    obtain ⟨v, rfl⟩ : ∃ v, u = v + 1 := ⟨u - 1, by omega⟩
    rw [n_addm1]
    refine go I' _ hf ?_
    intro u' l h1 h2 h3 h4
    rcases Nat.eq_or_lt_of_le (show v + 1 ≤ u' by omega) with e | e
    · subst e
      exact hl l (by omega) h4
    · exact hT u' l e h2 h3 h4
  | q + 1, j, I', hj, hf, hT, hl => by
    have ih := lp_ln2 K F ok h0 hu go q (j + 1)
    have h6 := ok.1
    have p6 := pow6 ok
    have K' := HC_fr K (ag_of hf (by decide))
    have F' : FW I' h m := fun w hw => by rw [hf 57 w rfl]; exact F w hw
    (first | refine rt_eq (q_X5_longestNow_0) ?_ | refine rt_eq (q_X5_longestNow_4) ?_ | refine rt_eq (q_X5_longestNow_16) ?_ | refine rt_eq (q_X5_longestNow_83) ?_ | refine rt_eq (q_X5_longestNow_22) ?_ | refine rt_eq (q_X5_longestNow_42) ?_ | refine rt_eq (q_X5_longestNow_65) ?_ | refine rt_eq (q_X5_longestNow_62) ?_)
    rw [K'.1, pk_mul]
    refine rt_f (by (try simp (disch := omega) only [nI_leI, nI_ltI, nI_eq, nI_add, pk_mul, n_0add, Nat.zero_add, nI_clamp]) <;> omega) ?_
    rw [n_shr (by omega) (by decide), Nat.pow_one]
    refine rt_bne sp_bit ?_
    rw [n_bit (by omega) (by omega)]
    (first | refine rt_eq (q_X5_longestNow_0) ?_ | refine rt_eq (q_X5_longestNow_4) ?_ | refine rt_eq (q_X5_longestNow_16) ?_ | refine rt_eq (q_X5_longestNow_83) ?_ | refine rt_eq (q_X5_longestNow_22) ?_ | refine rt_eq (q_X5_longestNow_42) ?_ | refine rt_eq (q_X5_longestNow_65) ?_ | refine rt_eq (q_X5_longestNow_62) ?_)
    by_cases z : u.testBit (j / 2) = true
    · refine rt_t (by rw [tb_test.mpr z]) ?_
      refine rt_be (sp_longestBehind (l := some j) K' F' ok hT hu (lOK_s (by omega))) ?_
      rw [pk_mul, nI_add]
      (first | refine rt_eq (q_X5_longestNow_0) ?_ | refine rt_eq (q_X5_longestNow_4) ?_ | refine rt_eq (q_X5_longestNow_16) ?_ | refine rt_eq (q_X5_longestNow_83) ?_ | refine rt_eq (q_X5_longestNow_22) ?_ | refine rt_eq (q_X5_longestNow_42) ?_ | refine rt_eq (q_X5_longestNow_65) ?_ | refine rt_eq (q_X5_longestNow_62) ?_)
      refine rt_bne (sp_put ka_58 (by decide)) ?_
      rw [pt_n (by omega) (by decide)]
      (first | refine rt_eq (q_X5_longestNow_0) ?_ | refine rt_eq (q_X5_longestNow_4) ?_ | refine rt_eq (q_X5_longestNow_16) ?_ | refine rt_eq (q_X5_longestNow_83) ?_ | refine rt_eq (q_X5_longestNow_22) ?_ | refine rt_eq (q_X5_longestNow_42) ?_ | refine rt_eq (q_X5_longestNow_65) ?_ | refine rt_eq (q_X5_longestNow_62) ?_)
      rw [nI_add]
      refine ih _ (by omega) (fr_up hf rfl) (LT_up hT ok (by omega)) ?_
      intro l hlj hb
      by_cases e : l = j
      · subst e
        rw [up2_s]
      · rw [up2_k (by omega)]
        exact hl l (by omega) hb
    · rw [Bool.not_eq_true] at z
      refine rt_f (by rw [tb_test0.mpr z]; decide) ?_
      (first | refine rt_eq (q_X5_longestNow_0) ?_ | refine rt_eq (q_X5_longestNow_4) ?_ | refine rt_eq (q_X5_longestNow_16) ?_ | refine rt_eq (q_X5_longestNow_83) ?_ | refine rt_eq (q_X5_longestNow_22) ?_ | refine rt_eq (q_X5_longestNow_42) ?_ | refine rt_eq (q_X5_longestNow_65) ?_ | refine rt_eq (q_X5_longestNow_62) ?_)
      rw [nI_add]
      refine ih _ (by omega) hf hT ?_
      intro l hlj hb
      by_cases e : l = j
      · subst e
        rw [z] at hb
        cases hb
      · exact hl l (by omega) hb
theorem lp_ln (K : HC I h m) (F : FW I h m) (ok : HOK h) : ∀ u I' u2, u < 2 ^ h 0 0 → Fr [(58, 0)] I I' → LT I' h m u → Rt L X (c_X5_longestNow_16 (d + 3) L X I' J (nI u) u2) (some (.int (nI (lg h m 0 none)))) (fun I'' J' => (Fr [(58, 0)] I I'' ∧ LT I'' h m 0) ∧ J' = J)
  | 0, I', u2, hu, hf, hT => by
    have K' := HC_fr K (ag_of hf (by decide))
    have F' : FW I' h m := fun w hw => by rw [hf 57 w rfl]; exact F w hw
    (first | refine rt_eq (q_X5_longestNow_0) ?_ | refine rt_eq (q_X5_longestNow_4) ?_ | refine rt_eq (q_X5_longestNow_16) ?_ | refine rt_eq (q_X5_longestNow_83) ?_ | refine rt_eq (q_X5_longestNow_22) ?_ | refine rt_eq (q_X5_longestNow_42) ?_ | refine rt_eq (q_X5_longestNow_65) ?_ | refine rt_eq (q_X5_longestNow_62) ?_)
    refine rt_t (by decide) ?_
    refine rt_be (sp_longestBehind (l := none) K' F' ok hT hu lOK_n) ?_
    (first | refine rt_eq (q_X5_longestNow_0) ?_ | refine rt_eq (q_X5_longestNow_4) ?_ | refine rt_eq (q_X5_longestNow_16) ?_ | refine rt_eq (q_X5_longestNow_83) ?_ | refine rt_eq (q_X5_longestNow_22) ?_ | refine rt_eq (q_X5_longestNow_42) ?_ | refine rt_eq (q_X5_longestNow_65) ?_ | refine rt_eq (q_X5_longestNow_62) ?_)
    exact rt_ret ⟨⟨hf, hT⟩, rfl⟩
  | u + 1, I', u2, hu, hf, hT => by
    have ih := lp_ln K F ok u
    have p6 := pow6 ok
    have h6 := ok.1
    have K' := HC_fr K (ag_of hf (by decide))
    have F' : FW I' h m := fun w hw => by rw [hf 57 w rfl]; exact F w hw
    (first | refine rt_eq (q_X5_longestNow_0) ?_ | refine rt_eq (q_X5_longestNow_4) ?_ | refine rt_eq (q_X5_longestNow_16) ?_ | refine rt_eq (q_X5_longestNow_83) ?_ | refine rt_eq (q_X5_longestNow_22) ?_ | refine rt_eq (q_X5_longestNow_42) ?_ | refine rt_eq (q_X5_longestNow_65) ?_ | refine rt_eq (q_X5_longestNow_62) ?_)
    refine rt_f (by (try simp (disch := omega) only [nI_leI, nI_ltI, nI_eq, nI_add, pk_mul, n_0add, Nat.zero_add, nI_clamp]) <;> omega) ?_
    refine lp_ln2 K' F' ok (by omega) hu (fun I2 u2 f2 T2 => ?_) (2 * h 0 0) 0 I' (by omega) fr_rfl hT (fun l hl => by omega)
    exact ih I2 u2 (by omega) (fr_tr hf f2) T2
theorem sp_longestNow (K : HC I h m) (ok : HOK h) : Rt L X (runM (d + 5) nX5_longestNow [.ref 56] (mm L X I J)) (some (.int (nI (lg h m 0 none)))) (fun I' J' => (Fr [(57, 0), (58, 0)] I I' ∧ FW I' h m ∧ LT I' h m 0) ∧ J' = J) := by
  have h6 := ok.1
  have p6 := pow6 ok
  have hp : 0 < 2 ^ h 0 0 := Nat.two_pow_pos _
  rw [e_X5_longestNow]
  (first | refine rt_eq (q_X5_longestNow_0) ?_ | refine rt_eq (q_X5_longestNow_4) ?_ | refine rt_eq (q_X5_longestNow_16) ?_ | refine rt_eq (q_X5_longestNow_83) ?_ | refine rt_eq (q_X5_longestNow_22) ?_ | refine rt_eq (q_X5_longestNow_42) ?_ | refine rt_eq (q_X5_longestNow_65) ?_ | refine rt_eq (q_X5_longestNow_62) ?_)
  refine rt_bnd (sp_fillFollowers K ok) ?_
  rintro I1 J1 ⟨⟨f1, F1⟩, rfl⟩
  have K1 := HC_fr K (ag_of f1 (by decide))
  (first | refine rt_eq (q_X5_longestNow_0) ?_ | refine rt_eq (q_X5_longestNow_4) ?_ | refine rt_eq (q_X5_longestNow_16) ?_ | refine rt_eq (q_X5_longestNow_83) ?_ | refine rt_eq (q_X5_longestNow_22) ?_ | refine rt_eq (q_X5_longestNow_42) ?_ | refine rt_eq (q_X5_longestNow_65) ?_ | refine rt_eq (q_X5_longestNow_62) ?_)
  rw [K1.1, n_pow (by omega), pk_sub (by omega)]
  refine rt_mono (lp_ln (d := d + 1) K1 F1 ok (2 ^ h 0 0 - 1) I1 _ (by omega) fr_rfl (fun u' l h1 h2 => by omega)) ?_
  rintro I2 J2 ⟨⟨f2, T2⟩, rfl⟩
  exact ⟨⟨fr_tr (fr_mono f1 (by decide)) (fr_mono f2 (by decide)), fun w hw => by rw [f2 57 w rfl]; exact F1 w hw, T2⟩, rfl⟩
theorem lp_fl {r : Nat} (K : HC I h m) (F : FW I h m) (ok : HOK h) (T : LT I h m 0) (T0 : LT I h m u) (hu : u < 2 ^ h 0 0) (hl : lOK h l) (hr : r < 2 ^ 31) : ∀ q j, j + q = 2 * h 0 0 → c_X5_firstLeaving_3 (d + 2) L X I J (nI u) (o2i l) (nI r) (nI j) = rI (nI ((fndF (fun w => cfw h m u l w && decide (lw h m u w = r)) q j).getD 0)) (mm L X I J)
  | 0, j, hj => by
    have h6 := ok.1
    (first | refine Eq.trans (q_X5_firstLeaving_0) ?_ | refine Eq.trans (q_X5_firstLeaving_3) ?_ | refine Eq.trans (q_X5_firstLeaving_25) ?_ | refine Eq.trans (q_X5_firstLeaving_42) ?_ | refine Eq.trans (q_X5_firstLeaving_35) ?_)
    rw [K.1, pk_mul, if_pos (by (try simp (disch := omega) only [nI_leI, nI_ltI, nI_eq, nI_add, pk_mul, n_0add, Nat.zero_add, nI_clamp]) <;> omega)]
    rfl
  | q + 1, j, hj => by
    have ih := lp_fl K F ok T T0 hu hl hr q (j + 1) (by omega)
    have h6 := ok.1
    have p6 := pow6 ok
    (first | refine Eq.trans (q_X5_firstLeaving_0) ?_ | refine Eq.trans (q_X5_firstLeaving_3) ?_ | refine Eq.trans (q_X5_firstLeaving_25) ?_ | refine Eq.trans (q_X5_firstLeaving_42) ?_ | refine Eq.trans (q_X5_firstLeaving_35) ?_)
    rw [K.1, pk_mul, if_neg (by (try simp (disch := omega) only [nI_leI, nI_ltI, nI_eq, nI_add, pk_mul, n_0add, Nat.zero_add, nI_clamp]) <;> omega)]
    refine (bnd_e (sp_canFollow F ok (by omega) hl (by omega))).trans ?_
    (first | refine Eq.trans (q_X5_firstLeaving_0) ?_ | refine Eq.trans (q_X5_firstLeaving_3) ?_ | refine Eq.trans (q_X5_firstLeaving_25) ?_ | refine Eq.trans (q_X5_firstLeaving_42) ?_ | refine Eq.trans (q_X5_firstLeaving_35) ?_)
    unfold fndF
    have hgo : runI (runM (d + 2)) iX5_firstLeaving (42, [some (.ref 56), some (.int (nI u)), some (.int (o2i l)), some (.int (nI r)), some (.int (nI j))], [], mm L X I J) = rI (nI ((fndF (fun w => cfw h m u l w && decide (lw h m u w = r)) q (j + 1)).getD 0)) (mm L X I J) := by
      (first | refine Eq.trans (q_X5_firstLeaving_0) ?_ | refine Eq.trans (q_X5_firstLeaving_3) ?_ | refine Eq.trans (q_X5_firstLeaving_25) ?_ | refine Eq.trans (q_X5_firstLeaving_42) ?_ | refine Eq.trans (q_X5_firstLeaving_35) ?_)
      rw [nI_add]
      exact ih
    by_cases z : cfw h m u l j = true
    · rw [z, if_neg (by decide)]
      have b := lw_le (m := m) ok hu (show j < 2 * h 0 0 by omega)
      refine (bnd_e (sp_longWith K ok T0 hu (cfw_bit z) (by omega))).trans ?_
      (first | refine Eq.trans (q_X5_firstLeaving_0) ?_ | refine Eq.trans (q_X5_firstLeaving_3) ?_ | refine Eq.trans (q_X5_firstLeaving_25) ?_ | refine Eq.trans (q_X5_firstLeaving_42) ?_ | refine Eq.trans (q_X5_firstLeaving_35) ?_)
      by_cases y : lw h m u j = r
      · rw [if_pos (congrArg nI y), if_pos (by rw [Bool.true_and]; exact decide_eq_true y)]
        rfl
      · rw [if_neg (by rw [nI_eq (by omega) hr]; exact y), if_neg (by rw [Bool.true_and]; simpa using y)]
        exact hgo
    · rw [Bool.not_eq_true] at z
      rw [z, if_pos bI_f, if_neg (by rw [Bool.false_and]; decide)]
      exact hgo
theorem LT_0 (T : LT I h m 0) : LT I h m u := fun u' l h1 h2 h3 h4 => T u' l (by omega) h2 h3 h4
theorem sp_firstLeaving {r : Nat} (K : HC I h m) (F : FW I h m) (ok : HOK h) (T : LT I h m 0) (hu : u < 2 ^ h 0 0) (hl : lOK h l) (hr : r < 2 ^ 31) : runM (d + 3) nX5_firstLeaving [.ref 56, .int (nI u), .int (o2i l), .int (nI r)] (mm L X I J) = rI (nI (chW h m (u, l, r))) (mm L X I J) := by
  rw [e_X5_firstLeaving]
  (first | refine Eq.trans (q_X5_firstLeaving_0) ?_ | refine Eq.trans (q_X5_firstLeaving_3) ?_ | refine Eq.trans (q_X5_firstLeaving_25) ?_ | refine Eq.trans (q_X5_firstLeaving_42) ?_ | refine Eq.trans (q_X5_firstLeaving_35) ?_)
  exact lp_fl K F ok T (LT_0 T) hu hl hr (2 * h 0 0) 0 (by omega)
/-! the chain -/
theorem chK_np (ok : HOK h) : ∀ k, (∀ i, i < k → 0 < (chK h m i).2.2) → (chK h m k).1 < 2 ^ h 0 0 ∧ lOK h (chK h m k).2.1
  | 0, _ => ⟨Nat.two_pow_pos _, lOK_n⟩
  | k + 1, hi => by
    obtain ⟨a1, a2⟩ := chK_np ok k (fun i h1 => hi i (by omega))
    have q := chW_ok ok (chK_ok ok k (fun i h1 => hi i (by omega))) (hi k (by omega))
    rw [chK_s]
    exact ⟨or_np a1 (by have := q.2.1; omega), lOK_s q.2.1⟩
/-- the chain as the class keeps it -/
def chC (I : MI32) (h : Hs) (m : Nat) : Prop := I 56 7 = nI (lg h m 0 none) ∧ I 56 6 = nI (chM h m) ∧ ∀ k, k < chM h m → I 59 k = nI (chW h m (chK h m k))
def fCh : Fls := [(57, 0), (58, 0), (59, 0), (56, 5), (56, 7), (56, 8)]
theorem lp_fc (K : HC I h m) (F : FW I h m) (ok : HOK h) (T : LT I h m 0) : ∀ q k I', k + q = chM h m → Fr [(59, 0), (56, 7)] I I' → I' 56 6 = nI k → (∀ i, i < k → I' 59 i = nI (chW h m (chK h m i))) → Rt L X (c_X5_findChain_33 (d + 3) L X I' J (nI (chK h m k).1) (o2i (chK h m k).2.1) (nI (chK h m k).2.2) (nI k)) none (fun I'' J' => (Fr [(59, 0), (56, 7), (56, 5)] I I'' ∧ I'' 56 4 = nI 1 ∧ I'' 56 6 = nI (chM h m) ∧ ∀ k, k < chM h m → I'' 59 k = nI (chW h m (chK h m k))) ∧ J' = J)
  | 0, k, I', hk, hf, h6, hl => by
    have e : k = chM h m := by omega
    subst e
    obtain ⟨m1, m2, m3⟩ := chM_ok (m := m) ok
    have n6 := ok.1
    rw [m2]
    (first | refine rt_eq (q_X5_findChain_0) ?_ | refine rt_eq (q_X5_findChain_13) ?_ | refine rt_eq (q_X5_findChain_33) ?_ | refine rt_eq (q_X5_findChain_100) ?_ | refine rt_eq (q_X5_findChain_51) ?_ | refine rt_eq (q_X5_findChain_74) ?_)
    have tail : Rt L X (runI (runM (d + 3)) iX5_findChain (100, [some (.ref 56), some (.int (nI (chK h m (chM h m)).1)), some (.int (o2i (chK h m (chM h m)).2.1)), some (.int (nI 0)), some (.int (nI (chM h m)))], [], mm L X I' J)) none (fun I'' J' => (Fr [(59, 0), (56, 7), (56, 5)] I I'' ∧ I'' 56 4 = nI 1 ∧ I'' 56 6 = nI (chM h m) ∧ ∀ k, k < chM h m → I'' 59 k = nI (chW h m (chK h m k))) ∧ J' = J) := by
      (first | refine rt_eq (q_X5_findChain_0) ?_ | refine rt_eq (q_X5_findChain_13) ?_ | refine rt_eq (q_X5_findChain_33) ?_ | refine rt_eq (q_X5_findChain_100) ?_ | refine rt_eq (q_X5_findChain_51) ?_ | refine rt_eq (q_X5_findChain_74) ?_)
      refine rt_ret ⟨⟨fr_up (fr_mono hf (by decide)) rfl, up2_s, by rw [up2_k (by decide)]; exact h6, fun i hi => by rw [up2_n (by decide)]; exact hl i hi⟩, rfl⟩
    by_cases z : nI 6 ≤ nI (chM h m)
    · exact rt_t z tail
    · exact rt_f z (rt_t (by decide) tail)
  | q + 1, k, I', hk, hf, h6, hl => by
    have ih := lp_fc K F ok T q (k + 1)
    obtain ⟨m1, m2, m3⟩ := chM_ok (m := m) ok
    have n6 := ok.1
    have p6 := pow6 ok
    have hpos := m3 k (by omega)
    have kok := chK_ok ok k (fun i hi => m3 i (by omega))
    obtain ⟨b1, b2⟩ := chK_np ok k (fun i hi => m3 i (by omega))
    obtain ⟨w0, w1, w2, w3⟩ := chW_ok ok kok hpos
    have hle : (chK h m k).2.2 ≤ 180 := by rw [kok.2]; exact lg_le ok kok.1
    have K' := HC_fr K (ag_of hf (by decide))
    have F' : FW I' h m := fun w hw => by rw [hf 57 w rfl]; exact F w hw
    have T' : LT I' h m 0 := fun u' l h1 h2 h3 h4 => by rw [hf 58 _ rfl]; exact T u' l h1 h2 h3 h4
    (first | refine rt_eq (q_X5_findChain_0) ?_ | refine rt_eq (q_X5_findChain_13) ?_ | refine rt_eq (q_X5_findChain_33) ?_ | refine rt_eq (q_X5_findChain_100) ?_ | refine rt_eq (q_X5_findChain_51) ?_ | refine rt_eq (q_X5_findChain_74) ?_)
    refine rt_f (by (try simp (disch := omega) only [nI_leI, nI_ltI, nI_eq, nI_add, pk_mul, n_0add, Nat.zero_add, nI_clamp]) <;> omega) (rt_f (by (try simp (disch := omega) only [nI_leI, nI_ltI, nI_eq, nI_add, pk_mul, n_0add, Nat.zero_add, nI_clamp]) <;> omega) ?_)
    refine rt_be (sp_firstLeaving K' F' ok T' b1 b2 (by omega)) ?_
    show Rt L X (runI (runM (d + 3)) iX5_findChain (_, _, [.int (nI (chW h m (chK h m k)))], _)) _ _
    generalize hw : chW h m (chK h m k) = w at w0 w1 w2 w3
    (first | refine rt_eq (q_X5_findChain_0) ?_ | refine rt_eq (q_X5_findChain_13) ?_ | refine rt_eq (q_X5_findChain_33) ?_ | refine rt_eq (q_X5_findChain_100) ?_ | refine rt_eq (q_X5_findChain_51) ?_ | refine rt_eq (q_X5_findChain_74) ?_)
    rw [n_shr (by omega) (by decide), Nat.pow_one, n_pow (by omega), n_or]
    refine rt_bne (sp_pick ka_4 (by decide)) ?_
    rw [pk_n (by omega) (by decide), (K'.2.2.2.1 (w / 2) (by omega)).1]
    (first | refine rt_eq (q_X5_findChain_0) ?_ | refine rt_eq (q_X5_findChain_13) ?_ | refine rt_eq (q_X5_findChain_33) ?_ | refine rt_eq (q_X5_findChain_100) ?_ | refine rt_eq (q_X5_findChain_51) ?_ | refine rt_eq (q_X5_findChain_74) ?_)
    refine rt_gd (inb_n (by omega) (by decide)) ?_
    have hlen : h 1 (w / 2) ≤ (chK h m k).2.2 := by unfold lw at w3; omega
    rw [nI_clamp (by omega), nI_add, pk_sub hlen, up2_n (by decide), h6, nI_add]
    have e1 : (chK h m k).1 ||| 2 ^ (w / 2) = (chK h m (k + 1)).1 := by rw [chK_s, ← hw]; rfl
    have e2 : nI w = o2i (chK h m (k + 1)).2.1 := by rw [chK_s, ← hw]; rfl
    have e3 : (chK h m k).2.2 - h 1 (w / 2) = (chK h m (k + 1)).2.2 := by rw [chK_s, ← hw]; rfl
    rw [e1, e3]
    have ih2 := ih (up2 (up2 I' 59 k (nI w)) 56 6 (nI (k + 1))) (by omega) (fr_up (fr_up hf rfl) rfl) up2_s ?_
    · rw [← e2] at ih2
      exact ih2
    · intro i hi
      rw [up2_n (by decide), up2_at]
      by_cases e : i = k
      · rw [if_pos e, e, hw]
      · rw [if_neg e]
        exact hl i (by omega)
theorem sp_findChain (K : HC I h m) (ok : HOK h) (hk : I 56 4 = nI 0 ∨ (I 56 4 = nI 1 ∧ chC I h m)) : Rt L X (runM (d + 6) nX5_findChain [.ref 56] (mm L X I J)) none (fun I' J' => (Fr fCh I I' ∧ I' 56 4 = nI 1 ∧ chC I' h m) ∧ J' = J) := by
  have n6 := ok.1
  have p6 := pow6 ok
  rw [e_X5_findChain]
  (first | refine rt_eq (q_X5_findChain_0) ?_ | refine rt_eq (q_X5_findChain_13) ?_ | refine rt_eq (q_X5_findChain_33) ?_ | refine rt_eq (q_X5_findChain_100) ?_ | refine rt_eq (q_X5_findChain_51) ?_ | refine rt_eq (q_X5_findChain_74) ?_)
  rcases hk with hk | ⟨hk, hc⟩
  · refine rt_t hk ?_
    refine rt_bnd (sp_longestNow K ok) ?_
    rintro I1 J1 ⟨⟨f1, F1, T1⟩, rfl⟩
    (first | refine rt_eq (q_X5_findChain_0) ?_ | refine rt_eq (q_X5_findChain_13) ?_ | refine rt_eq (q_X5_findChain_33) ?_ | refine rt_eq (q_X5_findChain_100) ?_ | refine rt_eq (q_X5_findChain_51) ?_ | refine rt_eq (q_X5_findChain_74) ?_)
    rw [up2_k (by decide), up2_s]
    generalize hI2 : up2 (up2 I1 56 7 (nI (lg h m 0 none))) 56 6 (nI 0) = I2
    have f2 : Fr fCh I I2 := by rw [← hI2]; exact fr_up (fr_up (fr_mono f1 (by decide)) rfl) rfl
    have g2 : Fr [(56, 0)] I1 I2 := by rw [← hI2]; exact fr_up (fr_up fr_rfl rfl) rfl
    have K2 := HC_fr K (ag_of f2 (by decide))
    have F2 : FW I2 h m := fun w hw => by rw [g2 57 w rfl]; exact F1 w hw
    have T2 : LT I2 h m 0 := fun u' l h1 h2 h3 h4 => by rw [g2 58 _ rfl]; exact T1 u' l h1 h2 h3 h4
    have e6 : I2 56 6 = nI 0 := by rw [← hI2, up2_s]
    have e7 : I2 56 7 = nI (lg h m 0 none) := by rw [← hI2, up2_k (by decide), up2_s]
    clear hI2
    refine rt_mono (lp_fc (d := d + 2) K2 F2 ok T2 (chM h m) 0 I2 (by omega) fr_rfl e6 (fun i hi => by omega)) ?_
    rintro I3 J3 ⟨⟨g1, g3, g4, g5⟩, rfl⟩
    exact ⟨⟨fr_tr f2 (fr_mono g1 (by decide)), g3, by rw [g1 56 7 rfl]; exact e7, g4, g5⟩, rfl⟩
  · refine rt_f (by rw [hk]; decide) ?_
    exact rt_ret ⟨⟨fr_rfl, hk, hc⟩, rfl⟩
end RC
