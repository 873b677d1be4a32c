/-! THE MODEL'S ROWS: the longest, the chain -/
def LTM (I : MI32) (h : Hs) (m u : Nat) : Prop := ∀ u' l, u ≤ u' → u' < 2 ^ h 0 0 → l < 2 * h 0 0 → u'.testBit (l / 2) = true → I (558 + u') l = nI (lg h m u' (some l))
section RM
variable {d L X : Nat} {I : MI32} {J : MI64} {h : Hs} {m u w : Nat} {l : Option Nat}
theorem has_n {b k : Nat} (hb : b < 2 ^ 31) (hk : k < 32) : runM (d + 1) nX12_has [.int (nI b), .int (nI k)] (mm L X I J) = rB (b.testBit k) (mm L X I J) := by
  rw [sp_has, n_bit hb hk]
  congr 3
  by_cases z : b.testBit k = true
  · rw [tb_test.mpr z, z]
    decide
  · rw [Bool.not_eq_true] at z
    rw [tb_test0.mpr z, z]
    decide
theorem sp_isNext (H : HM I h m) (ok : HOK h) (hl : lOK h l) (hw : w < 2 * h 0 0) : runM (d + 2) nX12_isNext [.ref 72, .int (o2i l), .int (nI w)] (mm L X I J) = rB (nxt h m l w) (mm L X I J) := by
  have h6 := ok.1
  rw [e_X12_isNext]
  (first | refine Eq.trans (q_X12_isNext_0) ?_ | refine Eq.trans (q_X12_isNext_16) ?_ | refine Eq.trans (q_X12_isNext_26) ?_ | refine Eq.trans (q_X12_isNext_29) ?_)
  rcases l with _ | v
  · rw [if_pos (show o2i none = -1 from rfl)]
    rfl
  · have hv := hl v rfl
    rw [if_neg (show ¬ o2i (some v) = -1 from nI_m1 v (by omega))]
    have e1 : o2i (some v) / nI 2 = nI (v / 2) := pk_div (by omega) (by decide) (by decide)
    have e2 : o2i (some v) - nI (v / 2) * nI 2 = nI (v % 2) := by
      rw [← e1]
      exact pk_rem (by omega) (by decide) (by decide)
    have e3 : nI w / nI 2 = nI (w / 2) := pk_div (by omega) (by decide) (by decide)
    have e4 : nI w - nI (w / 2) * nI 2 = nI (w % 2) := by
      rw [← e3]
      exact pk_rem (by omega) (by decide) (by decide)
    rw [e1, e2]
    refine (bnd_e (sp_footM H ok (by omega) (by omega))).trans ?_
    (first | refine Eq.trans (q_X12_isNext_0) ?_ | refine Eq.trans (q_X12_isNext_16) ?_ | refine Eq.trans (q_X12_isNext_26) ?_ | refine Eq.trans (q_X12_isNext_29) ?_)
    rw [e3, e4]
    refine (bnd_e (sp_headM H ok (by omega) (by omega))).trans ?_
    have b1 := hd_le ok (w := v) (by omega)
    have b2 := hd_le ok (w := w) (by omega)
    rw [show 2 * (v / 2) + v % 2 = v by omega, show 2 * (w / 2) + w % 2 = w by omega]
    (first | refine Eq.trans (q_X12_isNext_0) ?_ | refine Eq.trans (q_X12_isNext_16) ?_ | refine Eq.trans (q_X12_isNext_26) ?_ | refine Eq.trans (q_X12_isNext_29) ?_)
    refine (bnd_e (sp_isJoined H (by omega) (by omega))).trans ?_
    (first | refine Eq.trans (q_X12_isNext_0) ?_ | refine Eq.trans (q_X12_isNext_16) ?_ | refine Eq.trans (q_X12_isNext_26) ?_ | refine Eq.trans (q_X12_isNext_29) ?_)
    show _ = rB (fol h m v w) _
    unfold fol
    generalize jn h m (ftW h v) (hdW h w) = b
    cases b
    · exact if_pos rfl
    · exact if_neg (by decide)
theorem fr_row {l : Fls} {I' : MI32} {v : Int32} {k : Nat} (hf : Fr (cells 558 64 ++ l) I I') (hu : u < 64) : Fr (cells 558 64 ++ l) I (up2 I' (558 + u) k v) := fr_up hf (by rw [inF_app, in_cells hu, Bool.true_or])
theorem dr1 : dj (cells 558 64 ++ []) sHM = true := by decide +kernel
theorem LTM_up {v : Int32} {u0 k : Nat} (T : LTM I h m u) (hu : u0 < u) : LTM (up2 I (558 + u0) k v) h m u := by
  intro u' l h1 h2 h3 h4
  rw [up2_n (by omega)]
  exact T u' l h1 h2 h3 h4
/-- one row's entry -/
theorem lp_l3 {r : Option Value} {Q : MI32 → MI64 → Prop} {v : Nat} (H : HM I h m) (ok : HOK h) (hu : u < 2 ^ h 0 0) (hv : v < 2 * h 0 0) (hb : u.testBit (v / 2) = true) (go : ∀ I' u3, Fr (cells 558 64 ++ []) I I' → LTM I' h m (u + 1) → (∀ l, l < v → I' (558 + u) l = I (558 + u) l) → I' (558 + u) v = nI (lg h m u (some v)) → Rt L X (runI (runM (d + 2)) iX12_laysLongest (134, [some (.ref 72), some (.int (nI u)), some (.int (nI v)), u3], [], mm L X I' J)) r Q) : ∀ q j a I', j + q = 2 * h 0 0 → Fr (cells 558 64 ++ []) I I' → LTM I' h m (u + 1) → (∀ l, l < v → I' (558 + u) l = I (558 + u) l) → I' (558 + u) v = nI a → a ≤ 210 → accF (mxA (cfw h m u (some v)) (lw h m u)) q j a = lg h m u (some v) → Rt L X (c_X12_laysLongest_40 (d + 2) L X I' J (nI u) (nI v) (nI j)) r Q
  | 0, j, a, I', hj, hf, hT, hl, ha, h210, he => by
    have h6 := ok.1
    have H' := HM_fr H ok (ag_of hf dr1)
    (first | refine rt_eq (q_X12_laysLongest_0) ?_ | refine rt_eq (q_X12_laysLongest_11) ?_ | refine rt_eq (q_X12_laysLongest_17) ?_ | refine rt_eq (q_X12_laysLongest_40) ?_ | refine rt_eq (q_X12_laysLongest_134) ?_ | refine rt_eq (q_X12_laysLongest_59) ?_ | refine rt_eq (q_X12_laysLongest_69) ?_ | refine rt_eq (q_X12_laysLongest_128) ?_ | refine rt_eq (q_X12_laysLongest_78) ?_ | refine rt_eq (q_X12_laysLongest_127 (by first | assumption | rfl | exact .inl rfl | exact .inr rfl)) ?_)
    rw [H'.1, pk_mul]
    refine rt_t (by (try simp (disch := omega) only [nI_leI, nI_ltI, nI_eq, nI_add, pk_mul, n_0add, Nat.zero_add, nI_clamp]) <;> omega) ?_
    exact go I' _ hf hT hl (by rw [ha, ← he]; rfl)
  | q + 1, j, a, I', hj, hf, hT, hl, ha, h210, he => by
    have ih := lp_l3 H ok hu hv hb go q (j + 1)
    have h6 := ok.1
    have p6 := pow6 ok
    have H' := HM_fr H ok (ag_of hf dr1)
    have e3 : nI j / nI 2 = nI (j / 2) := pk_div (by omega) (by decide) (by decide)
    have e4 : nI v / nI 2 = nI (v / 2) := pk_div (by omega) (by decide) (by decide)
    have k1 : ka (558 + u) 1 12 := kr_557 (by omega)
    have he' : accF (mxA (cfw h m u (some v)) (lw h m u)) q (j + 1) (mxA (cfw h m u (some v)) (lw h m u) j a) = lg h m u (some v) := he
    have next : cfw h m u (some v) j = false → Rt L X (runI (runM (d + 2)) iX12_laysLongest (128, [some (.ref 72), some (.int (nI u)), some (.int (nI v)), some (.int (nI j))], [], mm L X I' J)) r Q := by
      intro hc
      (first | refine rt_eq (q_X12_laysLongest_0) ?_ | refine rt_eq (q_X12_laysLongest_11) ?_ | refine rt_eq (q_X12_laysLongest_17) ?_ | refine rt_eq (q_X12_laysLongest_40) ?_ | refine rt_eq (q_X12_laysLongest_134) ?_ | refine rt_eq (q_X12_laysLongest_59) ?_ | refine rt_eq (q_X12_laysLongest_69) ?_ | refine rt_eq (q_X12_laysLongest_128) ?_ | refine rt_eq (q_X12_laysLongest_78) ?_ | refine rt_eq (q_X12_laysLongest_127 (by first | assumption | rfl | exact .inl rfl | exact .inr rfl)) ?_)
      rw [nI_add]
      refine ih a I' (by omega) hf hT hl ha h210 ?_
      rw [← he']
      congr 1
      unfold mxA
      rw [if_neg (by rw [hc]; decide)]
    (first | refine rt_eq (q_X12_laysLongest_0) ?_ | refine rt_eq (q_X12_laysLongest_11) ?_ | refine rt_eq (q_X12_laysLongest_17) ?_ | refine rt_eq (q_X12_laysLongest_40) ?_ | refine rt_eq (q_X12_laysLongest_134) ?_ | refine rt_eq (q_X12_laysLongest_59) ?_ | refine rt_eq (q_X12_laysLongest_69) ?_ | refine rt_eq (q_X12_laysLongest_128) ?_ | refine rt_eq (q_X12_laysLongest_78) ?_ | refine rt_eq (q_X12_laysLongest_127 (by first | assumption | rfl | exact .inl rfl | exact .inr rfl)) ?_)
    rw [H'.1, pk_mul]
    refine rt_f (by (try simp (disch := omega) only [nI_leI, nI_ltI, nI_eq, nI_add, pk_mul, n_0add, Nat.zero_add, nI_clamp]) <;> omega) ?_
    rw [e4]
    refine rt_bne (has_n (by omega) (by omega)) ?_
    rw [hb]
    (first | refine rt_eq (q_X12_laysLongest_0) ?_ | refine rt_eq (q_X12_laysLongest_11) ?_ | refine rt_eq (q_X12_laysLongest_17) ?_ | refine rt_eq (q_X12_laysLongest_40) ?_ | refine rt_eq (q_X12_laysLongest_134) ?_ | refine rt_eq (q_X12_laysLongest_59) ?_ | refine rt_eq (q_X12_laysLongest_69) ?_ | refine rt_eq (q_X12_laysLongest_128) ?_ | refine rt_eq (q_X12_laysLongest_78) ?_ | refine rt_eq (q_X12_laysLongest_127 (by first | assumption | rfl | exact .inl rfl | exact .inr rfl)) ?_)
    refine rt_f (by decide) ?_
    rw [e3]
    refine rt_bne (has_n (by omega) (by omega)) ?_
    (first | refine rt_eq (q_X12_laysLongest_0) ?_ | refine rt_eq (q_X12_laysLongest_11) ?_ | refine rt_eq (q_X12_laysLongest_17) ?_ | refine rt_eq (q_X12_laysLongest_40) ?_ | refine rt_eq (q_X12_laysLongest_134) ?_ | refine rt_eq (q_X12_laysLongest_59) ?_ | refine rt_eq (q_X12_laysLongest_69) ?_ | refine rt_eq (q_X12_laysLongest_128) ?_ | refine rt_eq (q_X12_laysLongest_78) ?_ | refine rt_eq (q_X12_laysLongest_127 (by first | assumption | rfl | exact .inl rfl | exact .inr rfl)) ?_)
    by_cases z : u.testBit (j / 2) = true
    · rw [z]
      refine rt_f (by decide) ?_
      refine next ?_
      unfold cfw
      rw [z]
      rfl
    · rw [Bool.not_eq_true] at z
      rw [z]
      refine rt_t bI_f ?_
      refine rt_be (sp_isNext (l := some v) H' ok (lOK_s hv) (by omega)) ?_
      (first | refine rt_eq (q_X12_laysLongest_0) ?_ | refine rt_eq (q_X12_laysLongest_11) ?_ | refine rt_eq (q_X12_laysLongest_17) ?_ | refine rt_eq (q_X12_laysLongest_40) ?_ | refine rt_eq (q_X12_laysLongest_134) ?_ | refine rt_eq (q_X12_laysLongest_59) ?_ | refine rt_eq (q_X12_laysLongest_69) ?_ | refine rt_eq (q_X12_laysLongest_128) ?_ | refine rt_eq (q_X12_laysLongest_78) ?_ | refine rt_eq (q_X12_laysLongest_127 (by first | assumption | rfl | exact .inl rfl | exact .inr rfl)) ?_)
      by_cases y : nxt h m (some v) j = true
      · rw [y]
        refine rt_f (by decide) ?_
        have hc : cfw h m u (some v) j = true := by
          unfold cfw
          rw [z, y]
          rfl
        have g1 := or_gt z
        have g2 := or_np (p := j / 2) hu (by omega)
        have b := lw_le (m := m) ok hu (show j < 2 * h 0 0 by omega)
        rw [e3, n_pow (by omega), n_or]
        refine rt_gd (inb_n (by omega) (by decide)) (rt_gd (inb_n (by omega) (by decide)) (rt_gd (inb_n (by omega) (by decide)) (rt_gd (inb_n (by omega) (by decide)) (rt_gd (inb_n (by omega) (by decide)) ?_))))
        rw [nI_clamp (show u < 2 ^ 31 by omega), nI_clamp (show v < 2 ^ 31 by omega), nI_clamp (show j / 2 < 2 ^ 31 by omega), nI_clamp (show u ||| 2 ^ (j / 2) < 2 ^ 31 by omega), nI_clamp (show j < 2 ^ 31 by omega)]
        rw [ha, (H'.2.2.2.2.2.1 (j / 2) (by omega)).1, hT _ j (by omega) g2 (by omega) (by rw [Nat.testBit_or, Nat.testBit_two_pow_self, Bool.or_true]), nI_add]
        show Rt L X (bndN (runM (d + 2) nX12_more [.int (nI a), .int (nI (lw h m u j))] (mm L X I' J)) _) _ _
        refine rt_bne sp_more ?_
        have e5 : mxI (nI a) (nI (lw h m u j)) = nI (Nat.max a (lw h m u j)) := by rw [← mxI_alt, mx_n (by omega) (by omega)]
        rw [e5]
        (first | refine rt_eq (q_X12_laysLongest_0) ?_ | refine rt_eq (q_X12_laysLongest_11) ?_ | refine rt_eq (q_X12_laysLongest_17) ?_ | refine rt_eq (q_X12_laysLongest_40) ?_ | refine rt_eq (q_X12_laysLongest_134) ?_ | refine rt_eq (q_X12_laysLongest_59) ?_ | refine rt_eq (q_X12_laysLongest_69) ?_ | refine rt_eq (q_X12_laysLongest_128) ?_ | refine rt_eq (q_X12_laysLongest_78) ?_ | refine rt_eq (q_X12_laysLongest_127 (by first | assumption | rfl | exact .inl rfl | exact .inr rfl)) ?_)
        refine rt_gd (inb_n (by omega) (by decide)) ?_
        rw [nI_clamp (show v < 2 ^ 31 by omega)]
        (first | refine rt_eq (q_X12_laysLongest_0) ?_ | refine rt_eq (q_X12_laysLongest_11) ?_ | refine rt_eq (q_X12_laysLongest_17) ?_ | refine rt_eq (q_X12_laysLongest_40) ?_ | refine rt_eq (q_X12_laysLongest_134) ?_ | refine rt_eq (q_X12_laysLongest_59) ?_ | refine rt_eq (q_X12_laysLongest_69) ?_ | refine rt_eq (q_X12_laysLongest_128) ?_ | refine rt_eq (q_X12_laysLongest_78) ?_ | refine rt_eq (q_X12_laysLongest_127 (by first | assumption | rfl | exact .inl rfl | exact .inr rfl)) ?_)
        rw [nI_add]
        refine ih _ _ (by omega) (fr_row hf (by omega)) (LTM_up hT (by omega)) ?_ up2_s (Nat.max_le.mpr ⟨h210, b⟩) ?_
        · intro l hlv
          rw [up2_k (by omega)]
          exact hl l hlv
        · rw [← he']
          congr 1
          unfold mxA
          rw [if_pos hc]
      · rw [Bool.not_eq_true] at y
        rw [y]
        refine rt_t bI_f ?_
        refine next ?_
        unfold cfw
        rw [z, y]
        rfl
theorem lp_l2 {r : Option Value} {Q : MI32 → MI64 → Prop} (H : HM I h m) (ok : HOK h) (hu : u < 2 ^ h 0 0) (go : ∀ I' u2 u3, Fr (cells 558 64 ++ []) I I' → LTM I' h m u → Rt L X (c_X12_laysLongest_11 (d + 2) L X I' J (nI u + (-1)) u2 u3) r Q) : ∀ q j I' u3, j + q = 2 * h 0 0 → Fr (cells 558 64 ++ []) I I' → LTM I' h m (u + 1) → (∀ l, l < j → u.testBit (l / 2) = true → I' (558 + u) l = nI (lg h m u (some l))) → Rt L X (c_X12_laysLongest_17 (d + 2) L X I' J (nI u) (nI j) u3) r Q
  | 0, j, I', u3, hj, hf, hT, hl => by
    have h6 := ok.1
    have H' := HM_fr H ok (ag_of hf dr1)
    (first | refine rt_eq (q_X12_laysLongest_0) ?_ | refine rt_eq (q_X12_laysLongest_11) ?_ | refine rt_eq (q_X12_laysLongest_17) ?_ | refine rt_eq (q_X12_laysLongest_40) ?_ | refine rt_eq (q_X12_laysLongest_134) ?_ | refine rt_eq (q_X12_laysLongest_59) ?_ | refine rt_eq (q_X12_laysLongest_69) ?_ | refine rt_eq (q_X12_laysLongest_128) ?_ | refine rt_eq (q_X12_laysLongest_78) ?_ | refine rt_eq (q_X12_laysLongest_127 (by first | assumption | rfl | exact .inl rfl | exact .inr rfl)) ?_)
    rw [H'.1, pk_mul]
    refine rt_t (by (try simp (disch := omega) only [nI_leI, nI_ltI, nI_eq, nI_add, pk_mul, n_0add, Nat.zero_add, nI_clamp]) <;> omega) ?_
    refine go I' _ _ hf ?_
    intro u' l h1 h2 h3 h4
    rcases Nat.eq_or_lt_of_le h1 with e | e
    · subst e
      exact hl l (by omega) h4
    · exact hT u' l e h2 h3 h4
  | q + 1, j, I', u3, hj, hf, hT, hl => by
    have ih := lp_l2 H ok hu go q (j + 1)
    have h6 := ok.1
    have p6 := pow6 ok
    have H' := HM_fr H ok (ag_of hf dr1)
    (first | refine rt_eq (q_X12_laysLongest_0) ?_ | refine rt_eq (q_X12_laysLongest_11) ?_ | refine rt_eq (q_X12_laysLongest_17) ?_ | refine rt_eq (q_X12_laysLongest_40) ?_ | refine rt_eq (q_X12_laysLongest_134) ?_ | refine rt_eq (q_X12_laysLongest_59) ?_ | refine rt_eq (q_X12_laysLongest_69) ?_ | refine rt_eq (q_X12_laysLongest_128) ?_ | refine rt_eq (q_X12_laysLongest_78) ?_ | refine rt_eq (q_X12_laysLongest_127 (by first | assumption | rfl | exact .inl rfl | exact .inr rfl)) ?_)
    rw [H'.1, pk_mul]
    refine rt_f (by (try simp (disch := omega) only [nI_leI, nI_ltI, nI_eq, nI_add, pk_mul, n_0add, Nat.zero_add, nI_clamp]) <;> omega) (rt_gd (inb_n (by omega) (by decide)) (rt_gd (inb_n (by omega) (by decide)) ?_))
    rw [nI_clamp (show u < 2 ^ 31 by omega), nI_clamp (show j < 2 ^ 31 by omega)]
    have f1 := fr_row (u := u) (k := j) (v := nI 0) hf (by omega)
    have T1 := LTM_up (u0 := u) (k := j) (v := nI 0) hT (by omega)
    have l1 : ∀ l, l < j → u.testBit (l / 2) = true → (up2 I' (558 + u) j (nI 0)) (558 + u) l = nI (lg h m u (some l)) := fun l h1 h2 => by
      rw [up2_k (by omega)]
      exact hl l h1 h2
    have s1 : (up2 I' (558 + u) j (nI 0)) (558 + u) j = nI 0 := up2_s
    generalize up2 I' (558 + u) j (nI 0) = I1 at f1 T1 l1 s1 ⊢
    have H1 := HM_fr H ok (ag_of f1 dr1)
    by_cases z : u.testBit (j / 2) = true
    · refine lp_l3 (v := j) H1 ok hu (by omega) z (fun I2 u3 f2 T2 l2 s2 => ?_) (2 * h 0 0) 0 0 I1 (by omega) fr_rfl T1 (fun l _ => rfl) s1 (by omega) ?_
      · (first | refine rt_eq (q_X12_laysLongest_0) ?_ | refine rt_eq (q_X12_laysLongest_11) ?_ | refine rt_eq (q_X12_laysLongest_17) ?_ | refine rt_eq (q_X12_laysLongest_40) ?_ | refine rt_eq (q_X12_laysLongest_134) ?_ | refine rt_eq (q_X12_laysLongest_59) ?_ | refine rt_eq (q_X12_laysLongest_69) ?_ | refine rt_eq (q_X12_laysLongest_128) ?_ | refine rt_eq (q_X12_laysLongest_78) ?_ | refine rt_eq (q_X12_laysLongest_127 (by first | assumption | rfl | exact .inl rfl | exact .inr rfl)) ?_)
        rw [nI_add]
        refine ih I2 _ (by omega) (fr_tr f1 f2) T2 ?_
        intro l h1 h2
        by_cases e : l = j
        · rw [e]
          exact s2
        · rw [l2 l (by omega)]
          exact l1 l (by omega) h2
      · rw [lg_eq ok (Nat.lt_of_lt_of_le hu p6)]
        rfl
    · rw [Bool.not_eq_true] at z
      (first | refine rt_eq (q_X12_laysLongest_0) ?_ | refine rt_eq (q_X12_laysLongest_11) ?_ | refine rt_eq (q_X12_laysLongest_17) ?_ | refine rt_eq (q_X12_laysLongest_40) ?_ | refine rt_eq (q_X12_laysLongest_134) ?_ | refine rt_eq (q_X12_laysLongest_59) ?_ | refine rt_eq (q_X12_laysLongest_69) ?_ | refine rt_eq (q_X12_laysLongest_128) ?_ | refine rt_eq (q_X12_laysLongest_78) ?_ | refine rt_eq (q_X12_laysLongest_127 (by first | assumption | rfl | exact .inl rfl | exact .inr rfl)) ?_)
      rw [H1.1, pk_mul]
      refine rt_f (by (try simp (disch := omega) only [nI_leI, nI_ltI, nI_eq, nI_add, pk_mul, n_0add, Nat.zero_add, nI_clamp]) <;> omega) ?_
      rw [show nI j / nI 2 = nI (j / 2) from pk_div (by omega) (by decide) (by decide)]
      refine rt_bne (has_n (by omega) (by omega)) ?_
      rw [z]
      (first | refine rt_eq (q_X12_laysLongest_0) ?_ | refine rt_eq (q_X12_laysLongest_11) ?_ | refine rt_eq (q_X12_laysLongest_17) ?_ | refine rt_eq (q_X12_laysLongest_40) ?_ | refine rt_eq (q_X12_laysLongest_134) ?_ | refine rt_eq (q_X12_laysLongest_59) ?_ | refine rt_eq (q_X12_laysLongest_69) ?_ | refine rt_eq (q_X12_laysLongest_128) ?_ | refine rt_eq (q_X12_laysLongest_78) ?_ | refine rt_eq (q_X12_laysLongest_127 (by first | assumption | rfl | exact .inl rfl | exact .inr rfl)) ?_)
      refine rt_t bI_f ?_
      (first | refine rt_eq (q_X12_laysLongest_0) ?_ | refine rt_eq (q_X12_laysLongest_11) ?_ | refine rt_eq (q_X12_laysLongest_17) ?_ | refine rt_eq (q_X12_laysLongest_40) ?_ | refine rt_eq (q_X12_laysLongest_134) ?_ | refine rt_eq (q_X12_laysLongest_59) ?_ | refine rt_eq (q_X12_laysLongest_69) ?_ | refine rt_eq (q_X12_laysLongest_128) ?_ | refine rt_eq (q_X12_laysLongest_78) ?_ | refine rt_eq (q_X12_laysLongest_127 (by first | assumption | rfl | exact .inl rfl | exact .inr rfl)) ?_)
      rw [nI_add]
      refine ih I1 _ (by omega) f1 T1 ?_
      intro l h1 h2
      by_cases e : l = j
      · rw [e, z] at h2
        cases h2
      · exact l1 l (by omega) h2
theorem lp_l1 (H : HM I h m) (ok : HOK h) : ∀ u I' x u2 u3, u ≤ 2 ^ h 0 0 → x = nI u + (-1) → Fr (cells 558 64 ++ []) I I' → LTM I' h m u → Rt L X (c_X12_laysLongest_11 (d + 2) L X I' J x u2 u3) none (fun I'' J' => (Fr (cells 558 64 ++ []) I I'' ∧ LTM I'' h m 0) ∧ J' = J)
  | 0, I', x, u2, u3, hu, hx, hf, hT => by
    rw [hx, show nI 0 + (-1) = (-1 : Int32) by decide]
    (first | refine rt_eq (q_X12_laysLongest_0) ?_ | refine rt_eq (q_X12_laysLongest_11) ?_ | refine rt_eq (q_X12_laysLongest_17) ?_ | refine rt_eq (q_X12_laysLongest_40) ?_ | refine rt_eq (q_X12_laysLongest_134) ?_ | refine rt_eq (q_X12_laysLongest_59) ?_ | refine rt_eq (q_X12_laysLongest_69) ?_ | refine rt_eq (q_X12_laysLongest_128) ?_ | refine rt_eq (q_X12_laysLongest_78) ?_ | refine rt_eq (q_X12_laysLongest_127 (by first | assumption | rfl | exact .inl rfl | exact .inr rfl)) ?_)
    refine rt_t (by decide) ?_
    exact rt_ret ⟨⟨hf, hT⟩, rfl⟩
  | u + 1, I', x, u2, u3, hu, hx, hf, hT => by
    have ih := lp_l1 H ok u
    have p6 := pow6 ok
    have h6 := ok.1
    have H' := HM_fr H ok (ag_of hf dr1)
    rw [hx, n_addm1]
    (first | refine rt_eq (q_X12_laysLongest_0) ?_ | refine rt_eq (q_X12_laysLongest_11) ?_ | refine rt_eq (q_X12_laysLongest_17) ?_ | refine rt_eq (q_X12_laysLongest_40) ?_ | refine rt_eq (q_X12_laysLongest_134) ?_ | refine rt_eq (q_X12_laysLongest_59) ?_ | refine rt_eq (q_X12_laysLongest_69) ?_ | refine rt_eq (q_X12_laysLongest_128) ?_ | refine rt_eq (q_X12_laysLongest_78) ?_ | refine rt_eq (q_X12_laysLongest_127 (by first | assumption | rfl | exact .inl rfl | exact .inr rfl)) ?_)
    refine rt_f (nI_pos (by omega)) ?_
    refine lp_l2 H' ok (by omega) (fun I2 u2 u3 f2 T2 => ?_) (2 * h 0 0) 0 I' _ (by omega) fr_rfl hT (fun l hl => by omega)
    exact ih I2 _ u2 u3 (by omega) rfl (fr_tr hf f2) T2
theorem sp_laysLongest (H : HM I h m) (ok : HOK h) : Rt L X (runM (d + 3) nX12_laysLongest [.ref 72] (mm L X I J)) none (fun I'' J' => (Fr (cells 558 64 ++ []) I I'' ∧ LTM I'' h m 0) ∧ J' = J) := by
  have h6 := ok.1
  have hp : 0 < 2 ^ h 0 0 := Nat.two_pow_pos _
  rw [e_X12_laysLongest]
  (first | refine rt_eq (q_X12_laysLongest_0) ?_ | refine rt_eq (q_X12_laysLongest_11) ?_ | refine rt_eq (q_X12_laysLongest_17) ?_ | refine rt_eq (q_X12_laysLongest_40) ?_ | refine rt_eq (q_X12_laysLongest_134) ?_ | refine rt_eq (q_X12_laysLongest_59) ?_ | refine rt_eq (q_X12_laysLongest_69) ?_ | refine rt_eq (q_X12_laysLongest_128) ?_ | refine rt_eq (q_X12_laysLongest_78) ?_ | refine rt_eq (q_X12_laysLongest_127 (by first | assumption | rfl | exact .inl rfl | exact .inr rfl)) ?_)
  rw [H.1, n_pow (by omega)]
  refine lp_l1 H ok (2 ^ h 0 0) I _ _ _ (Nat.le_refl _) ?_ fr_rfl (fun u' l h1 h2 => by omega)
  obtain ⟨k, hk⟩ : ∃ k, 2 ^ h 0 0 = k + 1 := ⟨2 ^ h 0 0 - 1, by omega⟩
  rw [hk, n_sub1, n_addm1]
/-! the chain -/
def fChM : Fls := cells 558 64 ++ [(622, 0), (72, 46), (72, 47)]
theorem dr2 : dj fChM sHM = true := by decide +kernel
def chMd (I : MI32) (h : Hs) (m : Nat) : Prop := I 72 46 = nI (lg h m 0 none) ∧ I 72 45 = nI (chM h m) ∧ ∀ k, k < chM h m → I 622 k = nI (chW h m (chK h m k))
/-- looking for the next way -/
theorem lp_c80 {r : Option Value} {Q : MI32 → MI64 → Prop} {rs k wf : Nat} (H : HM I h m) (ok : HOK h) (T : LTM I h m 0) (hu : u < 2 ^ h 0 0) (hl : lOK h l) (hr : rs < 2 ^ 31) (hk : k < 6) (hc : I 72 45 = nI k) (hwf : h 1 (wf / 2) ≤ rs) (hw2 : wf < 2 * h 0 0) (go : ∀ u4, Rt L X (c_X12_chains_73 (d + 3) L X (up2 (up2 I 622 k (nI wf)) 72 45 (nI (k + 1))) J (nI (u ||| 2 ^ (wf / 2))) (nI wf) (nI (rs - h 1 (wf / 2))) u4) r Q) : ∀ q j, j + q = 2 * h 0 0 → fndF (fun w => cfw h m u l w && decide (lw h m u w = rs)) q j = some wf → Rt L X (c_X12_chains_80 (d + 3) L X I J (nI u) (o2i l) (nI rs) (nI j)) r Q
  | 0, j, hj, hf => by cases hf
  | q + 1, j, hj, hf => by
    have ih := lp_c80 H ok T hu hl hr hk hc hwf hw2 go q (j + 1) (by omega)
    have h6 := ok.1
    have p6 := pow6 ok
    have e3 : nI j / nI 2 = nI (j / 2) := pk_div (by omega) (by decide) (by decide)
    unfold fndF at hf
    have next : (cfw h m u l j && decide (lw h m u j = rs)) = false → Rt L X (runI (runM (d + 3)) iX12_chains (133, [some (.ref 72), some (.int (nI u)), some (.int (o2i l)), some (.int (nI rs)), some (.int (nI j))], [], mm L X I J)) r Q := by
      intro hn
      rw [if_neg (by rw [hn]; decide)] at hf
      (first | refine rt_eq (q_X12_chains_0) ?_ | refine rt_eq (q_X12_chains_10) ?_ | refine rt_eq (q_X12_chains_18) ?_ | refine rt_eq (q_X12_chains_73) ?_ | refine rt_eq (q_X12_chains_61) ?_ | refine rt_eq (q_X12_chains_80) ?_ | refine rt_eq (q_X12_chains_88) ?_ | refine rt_eq (q_X12_chains_133) ?_ | refine rt_eq (q_X12_chains_98) ?_)
      rw [nI_add]
      exact ih hf
    (first | refine rt_eq (q_X12_chains_0) ?_ | refine rt_eq (q_X12_chains_10) ?_ | refine rt_eq (q_X12_chains_18) ?_ | refine rt_eq (q_X12_chains_73) ?_ | refine rt_eq (q_X12_chains_61) ?_ | refine rt_eq (q_X12_chains_80) ?_ | refine rt_eq (q_X12_chains_88) ?_ | refine rt_eq (q_X12_chains_133) ?_ | refine rt_eq (q_X12_chains_98) ?_)
    rw [e3]
    refine rt_bne (has_n (by omega) (by omega)) ?_
    (first | refine rt_eq (q_X12_chains_0) ?_ | refine rt_eq (q_X12_chains_10) ?_ | refine rt_eq (q_X12_chains_18) ?_ | refine rt_eq (q_X12_chains_73) ?_ | refine rt_eq (q_X12_chains_61) ?_ | refine rt_eq (q_X12_chains_80) ?_ | refine rt_eq (q_X12_chains_88) ?_ | refine rt_eq (q_X12_chains_133) ?_ | refine rt_eq (q_X12_chains_98) ?_)
    by_cases z : u.testBit (j / 2) = true
    · rw [z]
      refine rt_f (by decide) (next ?_)
      unfold cfw
      rw [z]
      rfl
    · rw [Bool.not_eq_true] at z
      rw [z]
      refine rt_t bI_f ?_
      refine rt_be (sp_isNext H ok hl (by omega)) ?_
      (first | refine rt_eq (q_X12_chains_0) ?_ | refine rt_eq (q_X12_chains_10) ?_ | refine rt_eq (q_X12_chains_18) ?_ | refine rt_eq (q_X12_chains_73) ?_ | refine rt_eq (q_X12_chains_61) ?_ | refine rt_eq (q_X12_chains_80) ?_ | refine rt_eq (q_X12_chains_88) ?_ | refine rt_eq (q_X12_chains_133) ?_ | refine rt_eq (q_X12_chains_98) ?_)
      by_cases y : nxt h m l j = true
      · rw [y]
        refine rt_f (by decide) ?_
        have hcf : cfw h m u l j = true := by
          unfold cfw
          rw [z, y]
          rfl
        have g1 := or_gt z
        have g2 := or_np (p := j / 2) hu (by omega)
        have b := lw_le (m := m) ok hu (show j < 2 * h 0 0 by omega)
        have eP := (H.2.2.2.2.2.1 (j / 2) (by omega)).1
        rw [e3, n_pow (by omega), n_or]
        refine rt_gd (inb_n (by omega) (by decide)) (rt_gd (inb_n (by omega) (by decide)) (rt_gd (inb_n (by omega) (by decide)) ?_))
        rw [nI_clamp (show j / 2 < 2 ^ 31 by omega), nI_clamp (show u ||| 2 ^ (j / 2) < 2 ^ 31 by omega), nI_clamp (show j < 2 ^ 31 by omega), eP, T _ j (by omega) g2 (by omega) (by rw [Nat.testBit_or, Nat.testBit_two_pow_self, Bool.or_true]), nI_add]
        by_cases e : lw h m u j = rs
        · refine rt_t (congrArg nI e) ?_
          rw [if_pos (by rw [hcf, Bool.true_and]; exact decide_eq_true e)] at hf
          have ej : j = wf := Option.some.inj hf
          subst ej
          rw [hc]
          refine rt_gd (inb_n (by omega) (by decide)) ?_
          rw [nI_clamp (show k < 2 ^ 31 by omega), up2_n (show ¬ 72 = 622 by decide), hc, nI_add, up2_n (show ¬ 85 + j / 2 = 72 by omega), up2_n (show ¬ 85 + j / 2 = 622 by omega), eP, pk_sub hwf]
          exact go _
        · refine rt_f (fun q => e ((nI_eq (show h 1 (j / 2) + lg h m (u ||| 2 ^ (j / 2)) (some j) < 2 ^ 31 from by unfold lw at b; omega) hr).mp q)) ?_
          refine next ?_
          rw [hcf, Bool.true_and]
          exact decide_eq_false e
      · rw [Bool.not_eq_true] at y
        rw [y]
        refine rt_t bI_f (next ?_)
        unfold cfw
        rw [z, y]
        rfl
theorem lp_c73 (H : HM I h m) (ok : HOK h) (T : LTM I h m 0) : ∀ q k I' u4, k + q = chM h m → Fr [(622, 0), (72, 46)] I I' → I' 72 45 = nI k → (∀ i, i < k → I' 622 i = nI (chW h m (chK h m i))) → Rt L X (c_X12_chains_73 (d + 3) L X I' J (nI (chK h m k).1) (o2i (chK h m k).2.1) (nI (chK h m k).2.2) u4) none (fun I'' J' => (Fr [(622, 0), (72, 46)] I I'' ∧ I'' 72 45 = nI (chM h m) ∧ ∀ k, k < chM h m → I'' 622 k = nI (chW h m (chK h m k))) ∧ J' = J)
  | 0, k, I', u4, hk, hf, h45, hl => by
    have e : k = chM h m := by omega
    subst e
    obtain ⟨m1, m2, m3⟩ := chM_ok (m := m) ok
    rw [m2]
    (first | refine rt_eq (q_X12_chains_0) ?_ | refine rt_eq (q_X12_chains_10) ?_ | refine rt_eq (q_X12_chains_18) ?_ | refine rt_eq (q_X12_chains_73) ?_ | refine rt_eq (q_X12_chains_61) ?_ | refine rt_eq (q_X12_chains_80) ?_ | refine rt_eq (q_X12_chains_88) ?_ | refine rt_eq (q_X12_chains_133) ?_ | refine rt_eq (q_X12_chains_98) ?_)
    refine rt_t (by decide) ?_
    exact rt_ret ⟨⟨hf, h45, hl⟩, rfl⟩
  | q + 1, k, I', u4, hk, hf, h45, hl => by
    have ih := lp_c73 H ok T q (k + 1)
    obtain ⟨m1, m2, m3⟩ := chM_ok (m := m) ok
    have n6 := ok.1
    have hpos := m3 k (by omega)
    have kok := chK_ok ok k (fun i hi => m3 i (by omega))
    obtain ⟨b1, b2⟩ := chK_np ok k (fun i hi => m3 i (by omega))
    obtain ⟨w0, w1, w2, w3⟩ := chW_ok ok kok hpos
    have hle : (chK h m k).2.2 ≤ 180 := by rw [kok.2]; exact lg_le ok kok.1
    have H' := HM_fr H ok (ag_of hf (by decide +kernel))
    have T' : LTM I' h m 0 := fun u' l h1 h2 h3 h4 => by
      have p6 := pow6 ok
      rw [hf (558 + u') l (by
        rw [Bool.eq_false_iff]
        intro z
        rw [inF_t] at z
        obtain ⟨e, z1, z2, -⟩ := z
        simp only [List.mem_cons, List.not_mem_nil, or_false] at z1
        rcases z1 with rfl | rfl
        · simp only at z2
          omega
        · simp only at z2
          omega)]
      exact T u' l h1 h2 h3 h4
    (first | refine rt_eq (q_X12_chains_0) ?_ | refine rt_eq (q_X12_chains_10) ?_ | refine rt_eq (q_X12_chains_18) ?_ | refine rt_eq (q_X12_chains_73) ?_ | refine rt_eq (q_X12_chains_61) ?_ | refine rt_eq (q_X12_chains_80) ?_ | refine rt_eq (q_X12_chains_88) ?_ | refine rt_eq (q_X12_chains_133) ?_ | refine rt_eq (q_X12_chains_98) ?_)
    refine rt_f (by (try simp (disch := omega) only [nI_leI, nI_ltI, nI_eq, nI_add, pk_mul, n_0add, Nat.zero_add, nI_clamp]) <;> omega) ?_
    have hlen : h 1 (chW h m (chK h m k) / 2) ≤ (chK h m k).2.2 := by unfold lw at w3; omega
    refine lp_c80 H' ok T' b1 b2 (by omega) (by omega) h45 hlen w1 (fun u4 => ?_) (2 * h 0 0) 0 (by omega) w0
    have ih2 := ih (up2 (up2 I' 622 k (nI (chW h m (chK h m k)))) 72 45 (nI (k + 1))) u4 (by omega) (fr_up (fr_up hf rfl) rfl) up2_s ?_
    · rw [chK_s] at ih2
      exact ih2
    · intro i hi
      rw [up2_n (by decide), up2_at]
      by_cases e : i = k
      · rw [if_pos e, e]
      · rw [if_neg e]
        exact hl i (by omega)
theorem lp_c18 {r : Option Value} {Q : MI32 → MI64 → Prop} {x1 x2 : Int32} (H : HM I h m) (ok : HOK h) (T : LTM I h m 0) (go : ∀ u4, Rt L X (c_X12_chains_73 (d + 3) L X (up2 I 72 46 (nI (lg h m 0 none))) J x1 x2 (nI (lg h m 0 none)) u4) r Q) : ∀ q j a, j + q = 2 * h 0 0 → a ≤ 210 → accF (mxA (cfw h m 0 none) (lw h m 0)) q j a = lg h m 0 none → Rt L X (c_X12_chains_18 (d + 3) L X I J x1 x2 (nI a) (nI j)) r Q
  | 0, j, a, hj, ha, he => by
    have h6 := ok.1
    have e : a = lg h m 0 none := he
    (first | refine rt_eq (q_X12_chains_0) ?_ | refine rt_eq (q_X12_chains_10) ?_ | refine rt_eq (q_X12_chains_18) ?_ | refine rt_eq (q_X12_chains_73) ?_ | refine rt_eq (q_X12_chains_61) ?_ | refine rt_eq (q_X12_chains_80) ?_ | refine rt_eq (q_X12_chains_88) ?_ | refine rt_eq (q_X12_chains_133) ?_ | refine rt_eq (q_X12_chains_98) ?_)
    rw [H.1, pk_mul]
    refine rt_t (by (try simp (disch := omega) only [nI_leI, nI_ltI, nI_eq, nI_add, pk_mul, n_0add, Nat.zero_add, nI_clamp]) <;> omega) ?_
    rw [e]
    exact go _
  | q + 1, j, a, hj, ha, he => by
    have ih := lp_c18 H ok T go q (j + 1)
    have h6 := ok.1
    have p6 := pow6 ok
    have hp : 0 < 2 ^ h 0 0 := Nat.two_pow_pos _
    have e3 : nI j / nI 2 = nI (j / 2) := pk_div (by omega) (by decide) (by decide)
    have g2 : 2 ^ (j / 2) < 2 ^ h 0 0 := Nat.pow_lt_pow_right (by decide) (by omega)
    have b := lw_le (m := m) ok (u := 0) hp (show j < 2 * h 0 0 by omega)
    (first | refine rt_eq (q_X12_chains_0) ?_ | refine rt_eq (q_X12_chains_10) ?_ | refine rt_eq (q_X12_chains_18) ?_ | refine rt_eq (q_X12_chains_73) ?_ | refine rt_eq (q_X12_chains_61) ?_ | refine rt_eq (q_X12_chains_80) ?_ | refine rt_eq (q_X12_chains_88) ?_ | refine rt_eq (q_X12_chains_133) ?_ | refine rt_eq (q_X12_chains_98) ?_)
    rw [H.1, pk_mul]
    refine rt_f (by (try simp (disch := omega) only [nI_leI, nI_ltI, nI_eq, nI_add, pk_mul, n_0add, Nat.zero_add, nI_clamp]) <;> omega) ?_
    rw [e3, n_pow (by omega)]
    refine rt_gd (inb_n (by omega) (by decide)) (rt_gd (inb_n (by omega) (by decide)) (rt_gd (inb_n (by omega) (by decide)) ?_))
    rw [nI_clamp (show j / 2 < 2 ^ 31 by omega), nI_clamp (show 2 ^ (j / 2) < 2 ^ 31 by omega), nI_clamp (show j < 2 ^ 31 by omega), (H.2.2.2.2.2.1 (j / 2) (by omega)).1, T _ j (Nat.zero_le _) g2 (by omega) (by rw [Nat.testBit_two_pow_self]), nI_add]
    have el : h 1 (j / 2) + lg h m (2 ^ (j / 2)) (some j) = lw h m 0 j := by
      unfold lw
      rw [Nat.zero_or]
    rw [el]
    refine rt_bne sp_more ?_
    have e5 : mxI (nI a) (nI (lw h m 0 j)) = nI (Nat.max a (lw h m 0 j)) := by rw [← mxI_alt, mx_n (by omega) (by omega)]
    rw [e5]
    (first | refine rt_eq (q_X12_chains_0) ?_ | refine rt_eq (q_X12_chains_10) ?_ | refine rt_eq (q_X12_chains_18) ?_ | refine rt_eq (q_X12_chains_73) ?_ | refine rt_eq (q_X12_chains_61) ?_ | refine rt_eq (q_X12_chains_80) ?_ | refine rt_eq (q_X12_chains_88) ?_ | refine rt_eq (q_X12_chains_133) ?_ | refine rt_eq (q_X12_chains_98) ?_)
    rw [nI_add]
    refine ih _ (by omega) (Nat.max_le.mpr ⟨ha, b⟩) ?_
    have hc : cfw h m 0 none j = true := by
      unfold cfw
      rw [Nat.zero_testBit]
      rfl
    rw [← he]
    show accF (mxA (cfw h m 0 none) (lw h m 0)) q (j + 1) (Nat.max a (lw h m 0 j)) = accF (mxA (cfw h m 0 none) (lw h m 0)) q (j + 1) (mxA (cfw h m 0 none) (lw h m 0) j a)
    congr 1
    unfold mxA
    rw [if_pos hc]
theorem sp_chains (H : HM I h m) (ok : HOK h) : Rt L X (runM (d + 4) nX12_chains [.ref 72] (mm L X I J)) none (fun I' J' => (Fr fChM I I' ∧ chMd I' h m) ∧ J' = J) := by
  have h6 := ok.1
  rw [e_X12_chains]
  (first | refine rt_eq (q_X12_chains_0) ?_ | refine rt_eq (q_X12_chains_10) ?_ | refine rt_eq (q_X12_chains_18) ?_ | refine rt_eq (q_X12_chains_73) ?_ | refine rt_eq (q_X12_chains_61) ?_ | refine rt_eq (q_X12_chains_80) ?_ | refine rt_eq (q_X12_chains_88) ?_ | refine rt_eq (q_X12_chains_133) ?_ | refine rt_eq (q_X12_chains_98) ?_)
  refine rt_bnd (sp_laysLongest H ok) ?_
  rintro I1 J1 ⟨⟨f1, T1⟩, rfl⟩
  have f1' : Fr fChM I I1 := fr_mono f1 (by decide +kernel)
  (first | refine rt_eq (q_X12_chains_0) ?_ | refine rt_eq (q_X12_chains_10) ?_ | refine rt_eq (q_X12_chains_18) ?_ | refine rt_eq (q_X12_chains_73) ?_ | refine rt_eq (q_X12_chains_61) ?_ | refine rt_eq (q_X12_chains_80) ?_ | refine rt_eq (q_X12_chains_88) ?_ | refine rt_eq (q_X12_chains_133) ?_ | refine rt_eq (q_X12_chains_98) ?_)
  have T2 : LTM (up2 I1 72 45 (nI 0)) h m 0 := fun u' l h1 h2 h3 h4 => by
    rw [up2_n (by omega)]
    exact T1 u' l h1 h2 h3 h4
  have f2 : Fr fChM I (up2 I1 72 45 (nI 0)) := fr_up f1' (by decide +kernel)
  have s2 : (up2 I1 72 45 (nI 0)) 72 45 = nI 0 := up2_s
  generalize up2 I1 72 45 (nI 0) = I2 at T2 f2 s2 ⊢
  have H2 := HM_fr H ok (ag_of f2 dr2)
  refine lp_c18 H2 ok T2 (fun u4 => ?_) (2 * h 0 0) 0 0 (by omega) (by omega) ?_
  · have T3 : LTM (up2 I2 72 46 (nI (lg h m 0 none))) h m 0 := fun u' l h1 h2 h3 h4 => by
      rw [up2_n (by omega)]
      exact T2 u' l h1 h2 h3 h4
    have f3 : Fr fChM I (up2 I2 72 46 (nI (lg h m 0 none))) := fr_up f2 (by decide +kernel)
    have s3 : (up2 I2 72 46 (nI (lg h m 0 none))) 72 45 = nI 0 := by rw [up2_k (by decide)]; exact s2
    have s4 : (up2 I2 72 46 (nI (lg h m 0 none))) 72 46 = nI (lg h m 0 none) := up2_s
    generalize up2 I2 72 46 (nI (lg h m 0 none)) = I3 at T3 f3 s3 s4 ⊢
    have H3 := HM_fr H ok (ag_of f3 dr2)
    refine rt_mono (lp_c73 H3 ok T3 (chM h m) 0 I3 u4 (by omega) fr_rfl s3 (fun i hi => by omega)) ?_
    rintro I4 J4 ⟨⟨g1, g2, g3⟩, rfl⟩
    exact ⟨⟨fr_tr f3 (fr_mono g1 (by decide +kernel)), by rw [g1 72 46 rfl]; exact s4, g2, g3⟩, rfl⟩
  · rw [lg_eq ok (by decide)]
    rfl
end RM
