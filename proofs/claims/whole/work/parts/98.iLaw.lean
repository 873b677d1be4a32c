/-! THE READER OF A LAW, BY THE CLASS -/
section LC
variable {d L X : Nat} {I I1 I2 : MI32} {J : MI64} {W : Nat → Nat} {z a b c e o : Nat} {cd : Cd}
theorem dg_e {s : Nat} (hW : s < z → W s < 256) : decide (nI 48 ≤ byT W z s ∧ byT W z s ≤ nI 57) = decide (s < z ∧ isG W s = true) := by
  by_cases e : s < z
  · rw [show byT W z s = nI (W s) from if_pos e, dig_W (hW e)]
    cases isG W s with
    | true => exact (decide_eq_true ⟨e, rfl⟩).symm
    | false => exact (decide_eq_false (fun q => absurd q.2 (by decide))).symm
  · rw [show byT W z s = -1 from if_neg e, dig_n]
    exact (decide_eq_false (fun q => e q.1)).symm
theorem by_c {s : Nat} (hW : s < z → W s < 256) (hc : c < 256) : byT W z s = nI c ↔ s < z ∧ W s = c := by
  unfold byT
  by_cases q : s < z
  · rw [if_pos q, nI_eq (by have := hW q; omega) (by omega)]
    exact ⟨fun h => ⟨q, h⟩, fun h => h.2⟩
  · rw [if_neg q]
    exact ⟨fun h => absurd h.symm (nI_m1 c (by omega)), fun h => absurd h.1 q⟩
/-- the parts that have been read -/
def LWS (I : MI32) (e : Nat) (cd : Cd) : Prop := I 27 1 = nI e ∧ ∀ j, j < e → I 28 j = nI (encC (cd j))
def fLR : Fls := fTC ++ [(27, 2), (28, 0)]
def LQ (I I' : MI32) (W : Nat → Nat) (z : Nat) (R : Ls) : Prop := Fr fLR I I' ∧ (R.1 = 0 → RdC I' W z R.2.2.1 ∧ LWS I' R.2.2.2.1 R.2.2.2.2 ∧ I' 1 2 = I 1 2 ∧ I' 1 3 = I 1 3) ∧ (¬ R.1 = 0 → I' 1 2 = nI R.1 ∧ I' 1 3 = nI R.2.1)
theorem LWS_fr {I' : MI32} (H : LWS I e cd) (g : Fr fTC I I') : LWS I' e cd := ⟨(g 27 1 rfl).trans H.1, fun j hj => (g 28 j rfl).trans (H.2 j hj)⟩
theorem LWS_add {x : Nat × Nat} (H : LWS I e cd) : LWS (up2 (up2 I 28 e (nI (encC x))) 27 1 (nI (e + 1))) (e + 1) (setC cd e x) := by
  refine ⟨up2_s, fun j hj => ?_⟩
  rw [up2_n (by decide), up2_at]
  by_cases q : j = e
  · rw [if_pos q, q, setC_s]
  · rw [if_neg q, setC_n q, H.2 j (by omega)]
theorem sp_addL {x : Int32} (h : I 27 1 = nI e) (he : e < 150) : runM (d + 2) nX2_add [.ref 27, .int x] (mm L X I J) = rI (nI 1) (mm L X (up2 (up2 I 28 e x) 27 1 (nI (e + 1))) J) := by
  have h0 : oc2 27 := .inr rfl
  rw [e_X2_add]
  (first | refine Eq.trans (q_X2_add_0 (by first | assumption | rfl | exact .inl rfl | exact .inr rfl)) ?_ | refine Eq.trans (q_X2_add_12 (by first | assumption | rfl | exact .inl rfl | exact .inr rfl)) ?_)
  simp only [Nat.reduceAdd]
  rw [h, sp_put ka_28 (by decide), pt_n he (by decide)]
  refine Eq.trans (bndN_e rfl) ?_
  (first | refine Eq.trans (q_X2_add_0 (by first | assumption | rfl | exact .inl rfl | exact .inr rfl)) ?_ | refine Eq.trans (q_X2_add_12 (by first | assumption | rfl | exact .inl rfl | exact .inr rfl)) ?_)
  rw [up2_n (by decide), h, nI_add]
  by_cases q : e + 1 < 150
  · rw [if_pos (by ((try simp (disch := omega) only [nI_leI, nI_ltI, nI_eq, nI_add, pk_mul, n_0add, Nat.zero_add, nI_clamp]) <;> omega))]
  · rw [if_neg (by ((try simp (disch := omega) only [nI_leI, nI_ltI, nI_eq, nI_add, pk_mul, n_0add, Nat.zero_add, nI_clamp]) <;> omega)), show e + 1 = 150 by omega]
theorem lq_f {R : Ls} (hf : ¬ R.1 = 0) (g : Fr fLR I I2) (h2 : I2 1 2 = nI R.1) (h3 : I2 1 3 = nI R.2.1) : Rt L X (some (.inl (some (.int (nI 0))), mm L X I2 J)) (some (.int (bI (decide (R.1 = 0))))) (fun I' J' => LQ I I' W z R ∧ J' = J) := by
  rw [decide_eq_false hf]
  exact rt_ret ⟨⟨g, fun q => absurd q hf, fun _ => ⟨h2, h3⟩⟩, rfl⟩
theorem lq_t {R : Ls} (h0 : R.1 = 0) (g : Fr fLR I I2) (Rd : RdC I2 W z R.2.2.1) (H : LWS I2 R.2.2.2.1 R.2.2.2.2) (h2 : I2 1 2 = I 1 2) (h3 : I2 1 3 = I 1 3) : Rt L X (some (.inl (some (.int (nI 1))), mm L X I2 J)) (some (.int (bI (decide (R.1 = 0))))) (fun I' J' => LQ I I' W z R ∧ J' = J) := by
  rw [decide_eq_true h0]
  exact rt_ret ⟨⟨g, fun _ => ⟨Rd, H, h2, h3⟩, fun q => absurd h0 q⟩, rfl⟩
/-- a method of the class reads as u says -/
def CR (D L X id : Nat) (W : Nat → Nat) (z : Nat) (u : LRec) (o : Nat) : Prop := ∀ a e cd I J, SO I → RdC I W z a → LWS I e cd → e ≤ a → Rt L X (runM D id [.ref 27, .ref 1, .int (nI o)] (mm L X I J)) (some (.int (bI (decide ((u o a e cd).1 = 0))))) (fun I' J' => LQ I I' W z (u o a e cd) ∧ J' = J)
theorem RdC_T {I' : MI32} (R : RdC I W z a) (g : Fr fLR I I') (h5 : I' 1 5 = nI b) (hb : b ≤ z) : RdC I' W z b := RdC_fr R g (by decide) h5 hb
theorem lrT : sbF fTC fLR = true := by decide
set_option maxHeartbeats 8000000 in
theorem cr_unit {k : Nat} (hz2 : z ≤ 150) (hok : o + k = 6) (RS : ∀ k', k = k' + 1 → CR (d + 3 * k' + 9) L X nX2_readSum W z (lsumK W z k') (o + 1)) : CR (d + 3 * k + 7) L X nX2_readUnit W z (lu W z (recK W z k)) o := by
  intro a e cd I J O R H hea
  have h0 : oc2 27 := .inr rfl
  have R' := R
  obtain ⟨B, hz, hz6, ha, h5⟩ := R
  have hs := sk_le (W := W) ha
  have he := wE_le (W := W) ha
  have v := nmV_le (W := W) ha
  have hB : ∀ s, s < z → W s < 256 := fun s q => (B s (by omega)).2
  have os4 : os 1000004 := .inr (.inl rfl)
  have ews : wdS 1000004 = wdL := rfl
  rw [e_X2_readUnit]
  (first | refine rt_eq (q_X2_readUnit_0 (by first | assumption | rfl | exact .inl rfl | exact .inr rfl)) ?_ | refine rt_eq (q_X2_readUnit_4 (by first | assumption | rfl | exact .inl rfl | exact .inr rfl)) ?_ | refine rt_eq (q_X2_readUnit_9 (by first | assumption | rfl | exact .inl rfl | exact .inr rfl)) ?_ | refine rt_eq (q_X2_readUnit_98 (by first | assumption | rfl | exact .inl rfl | exact .inr rfl) (by first | assumption | rfl | exact .inl rfl | exact .inr rfl)) ?_ | refine rt_eq (q_X2_readUnit_63 (by first | assumption | rfl | exact .inl rfl | exact .inr rfl)) ?_ | refine rt_eq (q_X2_readUnit_56) ?_ | refine rt_eq (q_X2_readUnit_20 (by first | assumption | rfl | exact .inl rfl | exact .inr rfl)) ?_ | refine rt_eq (q_X2_readUnit_148 (by first | assumption | rfl | exact .inl rfl | exact .inr rfl)) ?_ | refine rt_eq (q_X2_readUnit_141) ?_ | refine rt_eq (q_X2_readUnit_122) ?_ | refine rt_eq (q_X2_readUnit_74) ?_ | refine rt_eq (q_X2_readUnit_31) ?_ | refine rt_eq (q_X2_readUnit_159 (by first | assumption | rfl | exact .inl rfl | exact .inr rfl)) ?_ | refine rt_eq (q_X2_readUnit_83) ?_ | refine rt_eq (q_X2_readUnit_168 (by first | assumption | rfl | exact .inl rfl | exact .inr rfl)) ?_ | refine rt_eq (q_X2_readUnit_179 (by first | assumption | rfl | exact .inl rfl | exact .inr rfl)) ?_ | refine rt_eq (q_X2_readUnit_188 (by first | assumption | rfl | exact .inl rfl | exact .inr rfl)) ?_ | refine rt_eq (q_X2_readUnit_204) ?_)
  refine rt_bnd (sp_peek B hz hz6 ha h5) ?_
  rintro I1 J1 ⟨⟨f1, f2, f3⟩, rfl⟩
  have g1 : Fr fTC I I1 := fr_mono f1 (by decide)
  have gL1 : Fr fLR I I1 := fr_mono g1 lrT
  have R1 : RdC I1 W z (sk W z a) := RdC_T R' gL1 f2 hs.2
  have e2 : I1 1 2 = I 1 2 := f1 1 2 rfl
  have e3 : I1 1 3 = I 1 3 := f1 1 3 rfl
  (first | refine rt_eq (q_X2_readUnit_0 (by first | assumption | rfl | exact .inl rfl | exact .inr rfl)) ?_ | refine rt_eq (q_X2_readUnit_4 (by first | assumption | rfl | exact .inl rfl | exact .inr rfl)) ?_ | refine rt_eq (q_X2_readUnit_9 (by first | assumption | rfl | exact .inl rfl | exact .inr rfl)) ?_ | refine rt_eq (q_X2_readUnit_98 (by first | assumption | rfl | exact .inl rfl | exact .inr rfl) (by first | assumption | rfl | exact .inl rfl | exact .inr rfl)) ?_ | refine rt_eq (q_X2_readUnit_63 (by first | assumption | rfl | exact .inl rfl | exact .inr rfl)) ?_ | refine rt_eq (q_X2_readUnit_56) ?_ | refine rt_eq (q_X2_readUnit_20 (by first | assumption | rfl | exact .inl rfl | exact .inr rfl)) ?_ | refine rt_eq (q_X2_readUnit_148 (by first | assumption | rfl | exact .inl rfl | exact .inr rfl)) ?_ | refine rt_eq (q_X2_readUnit_141) ?_ | refine rt_eq (q_X2_readUnit_122) ?_ | refine rt_eq (q_X2_readUnit_74) ?_ | refine rt_eq (q_X2_readUnit_31) ?_ | refine rt_eq (q_X2_readUnit_159 (by first | assumption | rfl | exact .inl rfl | exact .inr rfl)) ?_ | refine rt_eq (q_X2_readUnit_83) ?_ | refine rt_eq (q_X2_readUnit_168 (by first | assumption | rfl | exact .inl rfl | exact .inr rfl)) ?_ | refine rt_eq (q_X2_readUnit_179 (by first | assumption | rfl | exact .inl rfl | exact .inr rfl)) ?_ | refine rt_eq (q_X2_readUnit_188 (by first | assumption | rfl | exact .inl rfl | exact .inr rfl)) ?_ | refine rt_eq (q_X2_readUnit_204) ?_)
  refine rt_bne sp_isDigC ?_
  rw [dg_e (hB _)]
  (first | refine rt_eq (q_X2_readUnit_0 (by first | assumption | rfl | exact .inl rfl | exact .inr rfl)) ?_ | refine rt_eq (q_X2_readUnit_4 (by first | assumption | rfl | exact .inl rfl | exact .inr rfl)) ?_ | refine rt_eq (q_X2_readUnit_9 (by first | assumption | rfl | exact .inl rfl | exact .inr rfl)) ?_ | refine rt_eq (q_X2_readUnit_98 (by first | assumption | rfl | exact .inl rfl | exact .inr rfl) (by first | assumption | rfl | exact .inl rfl | exact .inr rfl)) ?_ | refine rt_eq (q_X2_readUnit_63 (by first | assumption | rfl | exact .inl rfl | exact .inr rfl)) ?_ | refine rt_eq (q_X2_readUnit_56) ?_ | refine rt_eq (q_X2_readUnit_20 (by first | assumption | rfl | exact .inl rfl | exact .inr rfl)) ?_ | refine rt_eq (q_X2_readUnit_148 (by first | assumption | rfl | exact .inl rfl | exact .inr rfl)) ?_ | refine rt_eq (q_X2_readUnit_141) ?_ | refine rt_eq (q_X2_readUnit_122) ?_ | refine rt_eq (q_X2_readUnit_74) ?_ | refine rt_eq (q_X2_readUnit_31) ?_ | refine rt_eq (q_X2_readUnit_159 (by first | assumption | rfl | exact .inl rfl | exact .inr rfl)) ?_ | refine rt_eq (q_X2_readUnit_83) ?_ | refine rt_eq (q_X2_readUnit_168 (by first | assumption | rfl | exact .inl rfl | exact .inr rfl)) ?_ | refine rt_eq (q_X2_readUnit_179 (by first | assumption | rfl | exact .inl rfl | exact .inr rfl)) ?_ | refine rt_eq (q_X2_readUnit_188 (by first | assumption | rfl | exact .inl rfl | exact .inr rfl)) ?_ | refine rt_eq (q_X2_readUnit_204) ?_)
  by_cases c1 : dgt W z a
  · rw [decide_eq_true c1]
    have nm := sp_numeral (d := d + 3 * k + 3) (L := L) (X := X) (J := J1) (lo := nI 0) (hi := nI 999) R1.1 R1.2.1 hz6 hs.2 f2
    rw [nmF_sk ha, nmV_sk ha, sk_sk ha] at nm
    refine rt_f (show ¬ bI true = nI 0 by decide) (rt_bnd nm ?_)
    rintro I2 J2 ⟨⟨k1, k2, k3⟩, rfl⟩
    have g2 : Fr fTC I I2 := fr_tr g1 k1
    (first | refine rt_eq (q_X2_readUnit_0 (by first | assumption | rfl | exact .inl rfl | exact .inr rfl)) ?_ | refine rt_eq (q_X2_readUnit_4 (by first | assumption | rfl | exact .inl rfl | exact .inr rfl)) ?_ | refine rt_eq (q_X2_readUnit_9 (by first | assumption | rfl | exact .inl rfl | exact .inr rfl)) ?_ | refine rt_eq (q_X2_readUnit_98 (by first | assumption | rfl | exact .inl rfl | exact .inr rfl) (by first | assumption | rfl | exact .inl rfl | exact .inr rfl)) ?_ | refine rt_eq (q_X2_readUnit_63 (by first | assumption | rfl | exact .inl rfl | exact .inr rfl)) ?_ | refine rt_eq (q_X2_readUnit_56) ?_ | refine rt_eq (q_X2_readUnit_20 (by first | assumption | rfl | exact .inl rfl | exact .inr rfl)) ?_ | refine rt_eq (q_X2_readUnit_148 (by first | assumption | rfl | exact .inl rfl | exact .inr rfl)) ?_ | refine rt_eq (q_X2_readUnit_141) ?_ | refine rt_eq (q_X2_readUnit_122) ?_ | refine rt_eq (q_X2_readUnit_74) ?_ | refine rt_eq (q_X2_readUnit_31) ?_ | refine rt_eq (q_X2_readUnit_159 (by first | assumption | rfl | exact .inl rfl | exact .inr rfl)) ?_ | refine rt_eq (q_X2_readUnit_83) ?_ | refine rt_eq (q_X2_readUnit_168 (by first | assumption | rfl | exact .inl rfl | exact .inr rfl)) ?_ | refine rt_eq (q_X2_readUnit_179 (by first | assumption | rfl | exact .inl rfl | exact .inr rfl)) ?_ | refine rt_eq (q_X2_readUnit_188 (by first | assumption | rfl | exact .inl rfl | exact .inr rfl)) ?_ | refine rt_eq (q_X2_readUnit_204) ?_)
    by_cases c2 : nmF W z a (nI 0) (nI 999) = 0
    · obtain ⟨l5, l4, l2, l3, l7⟩ := k2 c2
      have eu : lu W z (recK W z k) o a e cd = (0, 0, (nmV W z a).1, e + 1, setC cd e (0, (nmV W z a).2)) := by
        unfold lu
        rw [if_pos c1, if_pos c2]
      have hlt : e < 150 := by
        have := c1.1
        omega
      have H2 := LWS_fr H g2
      rw [decide_eq_true c2]
      refine rt_f (show ¬ bI true = nI 0 by decide) (rt_be (sp_addL H2.1 hlt) ?_)
      (first | refine rt_eq (q_X2_readUnit_0 (by first | assumption | rfl | exact .inl rfl | exact .inr rfl)) ?_ | refine rt_eq (q_X2_readUnit_4 (by first | assumption | rfl | exact .inl rfl | exact .inr rfl)) ?_ | refine rt_eq (q_X2_readUnit_9 (by first | assumption | rfl | exact .inl rfl | exact .inr rfl)) ?_ | refine rt_eq (q_X2_readUnit_98 (by first | assumption | rfl | exact .inl rfl | exact .inr rfl) (by first | assumption | rfl | exact .inl rfl | exact .inr rfl)) ?_ | refine rt_eq (q_X2_readUnit_63 (by first | assumption | rfl | exact .inl rfl | exact .inr rfl)) ?_ | refine rt_eq (q_X2_readUnit_56) ?_ | refine rt_eq (q_X2_readUnit_20 (by first | assumption | rfl | exact .inl rfl | exact .inr rfl)) ?_ | refine rt_eq (q_X2_readUnit_148 (by first | assumption | rfl | exact .inl rfl | exact .inr rfl)) ?_ | refine rt_eq (q_X2_readUnit_141) ?_ | refine rt_eq (q_X2_readUnit_122) ?_ | refine rt_eq (q_X2_readUnit_74) ?_ | refine rt_eq (q_X2_readUnit_31) ?_ | refine rt_eq (q_X2_readUnit_159 (by first | assumption | rfl | exact .inl rfl | exact .inr rfl)) ?_ | refine rt_eq (q_X2_readUnit_83) ?_ | refine rt_eq (q_X2_readUnit_168 (by first | assumption | rfl | exact .inl rfl | exact .inr rfl)) ?_ | refine rt_eq (q_X2_readUnit_179 (by first | assumption | rfl | exact .inl rfl | exact .inr rfl)) ?_ | refine rt_eq (q_X2_readUnit_188 (by first | assumption | rfl | exact .inl rfl | exact .inr rfl)) ?_ | refine rt_eq (q_X2_readUnit_204) ?_)
      rw [eu, l4]
      have ee : nI (nmV W z a).2 = nI (encC (0, (nmV W z a).2)) := rfl
      rw [ee]
      refine rt_f (by decide) (lq_t rfl (fr_up (fr_up (fr_mono g2 lrT) rfl) rfl) ?_ (LWS_add H2) ?_ ?_)
      · refine RdC_T R' (fr_up (fr_up (fr_mono g2 lrT) rfl) rfl) ?_ v.2.1
        rw [up2_n (by decide), up2_n (by decide), l5]
      · rw [up2_n (by decide), up2_n (by decide), l2, e2]
      · rw [up2_n (by decide), up2_n (by decide), l3, e3]
    · obtain ⟨l2, l3⟩ := k3 c2
      have eu : lu W z (recK W z k) o a e cd = (nmF W z a (nI 0) (nI 999), sk W z a, 0, e, cd) := by
        unfold lu
        rw [if_pos c1, if_neg c2]
      rw [eu]
      rw [decide_eq_false c2]
      exact rt_t bI_f (rt_r (lq_f (R := (nmF W z a (nI 0) (nI 999), sk W z a, 0, e, cd)) c2 (fr_mono g2 lrT) l2 l3) (by rw [decide_eq_false c2]))
  · rw [decide_eq_false c1]
    refine rt_t bI_f ?_
    by_cases c2 : sgn W z a 40
    · refine rt_t ((by_c (hB _) (by decide)).mpr c2) ?_
      have c21 := c2.1
      by_cases c3 : o = 6
      · have eu : lu W z (recK W z k) o a e cd = (3, sk W z a, 0, e, cd) := by
          unfold lu
          rw [if_neg c1, if_pos c2, if_pos c3]
        rw [c3]
        refine rt_f (by decide) (rt_be sp_tooMany ?_)
        (first | refine rt_eq (q_X2_readUnit_0 (by first | assumption | rfl | exact .inl rfl | exact .inr rfl)) ?_ | refine rt_eq (q_X2_readUnit_4 (by first | assumption | rfl | exact .inl rfl | exact .inr rfl)) ?_ | refine rt_eq (q_X2_readUnit_9 (by first | assumption | rfl | exact .inl rfl | exact .inr rfl)) ?_ | refine rt_eq (q_X2_readUnit_98 (by first | assumption | rfl | exact .inl rfl | exact .inr rfl) (by first | assumption | rfl | exact .inl rfl | exact .inr rfl)) ?_ | refine rt_eq (q_X2_readUnit_63 (by first | assumption | rfl | exact .inl rfl | exact .inr rfl)) ?_ | refine rt_eq (q_X2_readUnit_56) ?_ | refine rt_eq (q_X2_readUnit_20 (by first | assumption | rfl | exact .inl rfl | exact .inr rfl)) ?_ | refine rt_eq (q_X2_readUnit_148 (by first | assumption | rfl | exact .inl rfl | exact .inr rfl)) ?_ | refine rt_eq (q_X2_readUnit_141) ?_ | refine rt_eq (q_X2_readUnit_122) ?_ | refine rt_eq (q_X2_readUnit_74) ?_ | refine rt_eq (q_X2_readUnit_31) ?_ | refine rt_eq (q_X2_readUnit_159 (by first | assumption | rfl | exact .inl rfl | exact .inr rfl)) ?_ | refine rt_eq (q_X2_readUnit_83) ?_ | refine rt_eq (q_X2_readUnit_168 (by first | assumption | rfl | exact .inl rfl | exact .inr rfl)) ?_ | refine rt_eq (q_X2_readUnit_179 (by first | assumption | rfl | exact .inl rfl | exact .inr rfl)) ?_ | refine rt_eq (q_X2_readUnit_188 (by first | assumption | rfl | exact .inl rfl | exact .inr rfl)) ?_ | refine rt_eq (q_X2_readUnit_204) ?_)
        rw [← c3, eu]
        refine rt_gd (by decide) (lq_f n30 (fr_up (fr_up gL1 rfl) rfl) ?_ ?_)
        · rw [up2_k (by decide), up2_s]
        · rw [up2_s, f3]
      · obtain ⟨k', rfl⟩ : ∃ k', k = k' + 1 := ⟨k - 1, by omega⟩
        have RS' := RS k' rfl
        refine rt_t (by (try simp (disch := omega) only [nI_leI, nI_ltI, nI_eq, nI_add, pk_mul, n_0add, Nat.zero_add, nI_clamp]) <;> omega) ?_
        have sg := sp_signC (d := d + 3 * (k' + 1) + 3) (L := L) (X := X) (J := J1) (c := 40) R1.1 R1.2.1 hz6 hs.2 f2 (by decide)
        rw [sk_sk ha] at sg
        refine rt_bnd sg ?_
        rintro I2 J2 ⟨⟨k1, k2, k3⟩, rfl⟩
        obtain ⟨l5, l2, l3⟩ := k2 c2
        have g2 : Fr fTC I I2 := fr_tr g1 k1
        (first | refine rt_eq (q_X2_readUnit_0 (by first | assumption | rfl | exact .inl rfl | exact .inr rfl)) ?_ | refine rt_eq (q_X2_readUnit_4 (by first | assumption | rfl | exact .inl rfl | exact .inr rfl)) ?_ | refine rt_eq (q_X2_readUnit_9 (by first | assumption | rfl | exact .inl rfl | exact .inr rfl)) ?_ | refine rt_eq (q_X2_readUnit_98 (by first | assumption | rfl | exact .inl rfl | exact .inr rfl) (by first | assumption | rfl | exact .inl rfl | exact .inr rfl)) ?_ | refine rt_eq (q_X2_readUnit_63 (by first | assumption | rfl | exact .inl rfl | exact .inr rfl)) ?_ | refine rt_eq (q_X2_readUnit_56) ?_ | refine rt_eq (q_X2_readUnit_20 (by first | assumption | rfl | exact .inl rfl | exact .inr rfl)) ?_ | refine rt_eq (q_X2_readUnit_148 (by first | assumption | rfl | exact .inl rfl | exact .inr rfl)) ?_ | refine rt_eq (q_X2_readUnit_141) ?_ | refine rt_eq (q_X2_readUnit_122) ?_ | refine rt_eq (q_X2_readUnit_74) ?_ | refine rt_eq (q_X2_readUnit_31) ?_ | refine rt_eq (q_X2_readUnit_159 (by first | assumption | rfl | exact .inl rfl | exact .inr rfl)) ?_ | refine rt_eq (q_X2_readUnit_83) ?_ | refine rt_eq (q_X2_readUnit_168 (by first | assumption | rfl | exact .inl rfl | exact .inr rfl)) ?_ | refine rt_eq (q_X2_readUnit_179 (by first | assumption | rfl | exact .inl rfl | exact .inr rfl)) ?_ | refine rt_eq (q_X2_readUnit_188 (by first | assumption | rfl | exact .inl rfl | exact .inr rfl)) ?_ | refine rt_eq (q_X2_readUnit_204) ?_)
        rw [decide_eq_true c2, nI_add]
        refine rt_f (show ¬ bI true = nI 0 by decide) ?_
        have eu : lu W z (recK W z (k' + 1)) o a e cd = lb W z (lsumK W z k' (o + 1) (sk W z a + 1) e cd) 41 (fun a' e' cd' => (0, 0, a', e', cd')) := by
          unfold lu
          rw [if_neg c1, if_pos c2, if_neg c3]
          rfl
        refine rt_bnd (RS' (sk W z a + 1) e cd I2 J2 (SO_fr O g2 (by decide)) (RdC_T R' (fr_mono g2 lrT) l5 (by omega)) (LWS_fr H g2) (by omega)) ?_
        rw [eu]
        generalize lsumK W z k' (o + 1) (sk W z a + 1) e cd = R
        rintro I3 J3 ⟨⟨m1, m2, m3⟩, rfl⟩
        have gL3 : Fr fLR I I3 := fr_tr (fr_mono g2 lrT) m1
        (first | refine rt_eq (q_X2_readUnit_0 (by first | assumption | rfl | exact .inl rfl | exact .inr rfl)) ?_ | refine rt_eq (q_X2_readUnit_4 (by first | assumption | rfl | exact .inl rfl | exact .inr rfl)) ?_ | refine rt_eq (q_X2_readUnit_9 (by first | assumption | rfl | exact .inl rfl | exact .inr rfl)) ?_ | refine rt_eq (q_X2_readUnit_98 (by first | assumption | rfl | exact .inl rfl | exact .inr rfl) (by first | assumption | rfl | exact .inl rfl | exact .inr rfl)) ?_ | refine rt_eq (q_X2_readUnit_63 (by first | assumption | rfl | exact .inl rfl | exact .inr rfl)) ?_ | refine rt_eq (q_X2_readUnit_56) ?_ | refine rt_eq (q_X2_readUnit_20 (by first | assumption | rfl | exact .inl rfl | exact .inr rfl)) ?_ | refine rt_eq (q_X2_readUnit_148 (by first | assumption | rfl | exact .inl rfl | exact .inr rfl)) ?_ | refine rt_eq (q_X2_readUnit_141) ?_ | refine rt_eq (q_X2_readUnit_122) ?_ | refine rt_eq (q_X2_readUnit_74) ?_ | refine rt_eq (q_X2_readUnit_31) ?_ | refine rt_eq (q_X2_readUnit_159 (by first | assumption | rfl | exact .inl rfl | exact .inr rfl)) ?_ | refine rt_eq (q_X2_readUnit_83) ?_ | refine rt_eq (q_X2_readUnit_168 (by first | assumption | rfl | exact .inl rfl | exact .inr rfl)) ?_ | refine rt_eq (q_X2_readUnit_179 (by first | assumption | rfl | exact .inl rfl | exact .inr rfl)) ?_ | refine rt_eq (q_X2_readUnit_188 (by first | assumption | rfl | exact .inl rfl | exact .inr rfl)) ?_ | refine rt_eq (q_X2_readUnit_204) ?_)
        by_cases c4 : R.1 = 0
        · obtain ⟨R3, H3, n2, n3⟩ := m2 c4
          rw [decide_eq_true c4]
          refine rt_f (show ¬ bI true = nI 0 by decide) (rt_bnd (sp_signC (c := 41) R3.1 R3.2.1 hz6 R3.2.2.2.1 R3.2.2.2.2 (by decide)) ?_)
          rintro I4 J4 ⟨⟨p1, p2, p3⟩, rfl⟩
          have gL4 : Fr fLR I I4 := fr_tr gL3 (fr_mono p1 lrT)
          (first | refine rt_eq (q_X2_readUnit_0 (by first | assumption | rfl | exact .inl rfl | exact .inr rfl)) ?_ | refine rt_eq (q_X2_readUnit_4 (by first | assumption | rfl | exact .inl rfl | exact .inr rfl)) ?_ | refine rt_eq (q_X2_readUnit_9 (by first | assumption | rfl | exact .inl rfl | exact .inr rfl)) ?_ | refine rt_eq (q_X2_readUnit_98 (by first | assumption | rfl | exact .inl rfl | exact .inr rfl) (by first | assumption | rfl | exact .inl rfl | exact .inr rfl)) ?_ | refine rt_eq (q_X2_readUnit_63 (by first | assumption | rfl | exact .inl rfl | exact .inr rfl)) ?_ | refine rt_eq (q_X2_readUnit_56) ?_ | refine rt_eq (q_X2_readUnit_20 (by first | assumption | rfl | exact .inl rfl | exact .inr rfl)) ?_ | refine rt_eq (q_X2_readUnit_148 (by first | assumption | rfl | exact .inl rfl | exact .inr rfl)) ?_ | refine rt_eq (q_X2_readUnit_141) ?_ | refine rt_eq (q_X2_readUnit_122) ?_ | refine rt_eq (q_X2_readUnit_74) ?_ | refine rt_eq (q_X2_readUnit_31) ?_ | refine rt_eq (q_X2_readUnit_159 (by first | assumption | rfl | exact .inl rfl | exact .inr rfl)) ?_ | refine rt_eq (q_X2_readUnit_83) ?_ | refine rt_eq (q_X2_readUnit_168 (by first | assumption | rfl | exact .inl rfl | exact .inr rfl)) ?_ | refine rt_eq (q_X2_readUnit_179 (by first | assumption | rfl | exact .inl rfl | exact .inr rfl)) ?_ | refine rt_eq (q_X2_readUnit_188 (by first | assumption | rfl | exact .inl rfl | exact .inr rfl)) ?_ | refine rt_eq (q_X2_readUnit_204) ?_)
          by_cases c5 : sgn W z R.2.2.1 41
          · obtain ⟨q5, q2, q3⟩ := p2 c5
            have el : lb W z R 41 (fun a' e' cd' => (0, 0, a', e', cd')) = (0, 0, sk W z R.2.2.1 + 1, R.2.2.2.1, R.2.2.2.2) := by
              unfold lb
              rw [if_neg (not_not_intro c4), if_pos c5]
            rw [el, decide_eq_true c5]
            refine rt_f (show ¬ bI true = nI 0 by decide) (lq_t rfl gL4 (RdC_T R' gL4 q5 ?_) (LWS_fr H3 p1) ?_ ?_)
            · have := c5.1
              show sk W z R.2.2.1 + 1 ≤ z
              omega
            · rw [q2, n2, l2, e2]
            · rw [q3, n3, l3, e3]
          · obtain ⟨q2, q3⟩ := p3 c5
            have el : lb W z R 41 (fun a' e' cd' => (0, 0, a', e', cd')) = (1, sk W z R.2.2.1, 0, R.2.2.2.1, R.2.2.2.2) := by
              unfold lb
              rw [if_neg (not_not_intro c4), if_neg c5]
            rw [el, decide_eq_false c5]
            exact rt_t bI_f (lq_f n10 gL4 q2 q3)
        · obtain ⟨n2, n3⟩ := m3 c4
          have el : lb W z R 41 (fun a' e' cd' => (0, 0, a', e', cd')) = R := if_pos c4
          rw [el]
          refine rt_t (by rw [decide_eq_false c4]; rfl) (lq_f c4 gL3 n2 n3)
    · refine rt_f (fun q => c2 ((by_c (hB _) (by decide)).mp q)) ?_
      have nm := sp_named (d := d + 3 * k) (L := L) (X := X) (J := J1) os4 (SO_fr O g1 (by decide)) R1.1 R1.2.1 hz6 hs.2 f2
      rw [sk_sk ha, wE_sk ha, ews] at nm
      have ew : plA W (sk W z a) (wE W z a) wdL 0 = lkI W z a := rfl
      rw [ew] at nm
      refine rt_bnd nm ?_
      rintro I2 J2 ⟨⟨k1, k2, k3⟩, rfl⟩
      have g2 : Fr fTC I I2 := fr_tr g1 k1
      have gL2 : Fr fLR I I2 := fr_mono g2 lrT
      have hu3 : okv (some (.int (byT W z (sk W z a)))) = true := rfl
      (first | refine rt_eq (q_X2_readUnit_0 (by first | assumption | rfl | exact .inl rfl | exact .inr rfl)) ?_ | refine rt_eq (q_X2_readUnit_4 (by first | assumption | rfl | exact .inl rfl | exact .inr rfl)) ?_ | refine rt_eq (q_X2_readUnit_9 (by first | assumption | rfl | exact .inl rfl | exact .inr rfl)) ?_ | refine rt_eq (q_X2_readUnit_98 (by first | assumption | rfl | exact .inl rfl | exact .inr rfl) (by first | assumption | rfl | exact .inl rfl | exact .inr rfl)) ?_ | refine rt_eq (q_X2_readUnit_63 (by first | assumption | rfl | exact .inl rfl | exact .inr rfl)) ?_ | refine rt_eq (q_X2_readUnit_56) ?_ | refine rt_eq (q_X2_readUnit_20 (by first | assumption | rfl | exact .inl rfl | exact .inr rfl)) ?_ | refine rt_eq (q_X2_readUnit_148 (by first | assumption | rfl | exact .inl rfl | exact .inr rfl)) ?_ | refine rt_eq (q_X2_readUnit_141) ?_ | refine rt_eq (q_X2_readUnit_122) ?_ | refine rt_eq (q_X2_readUnit_74) ?_ | refine rt_eq (q_X2_readUnit_31) ?_ | refine rt_eq (q_X2_readUnit_159 (by first | assumption | rfl | exact .inl rfl | exact .inr rfl)) ?_ | refine rt_eq (q_X2_readUnit_83) ?_ | refine rt_eq (q_X2_readUnit_168 (by first | assumption | rfl | exact .inl rfl | exact .inr rfl)) ?_ | refine rt_eq (q_X2_readUnit_179 (by first | assumption | rfl | exact .inl rfl | exact .inr rfl)) ?_ | refine rt_eq (q_X2_readUnit_188 (by first | assumption | rfl | exact .inl rfl | exact .inr rfl)) ?_ | refine rt_eq (q_X2_readUnit_204) ?_)
      by_cases c3 : lkI W z a = -1
      · have eu : lu W z (recK W z k) o a e cd = (1, sk W z a, 0, e, cd) := by
          unfold lu
          rw [if_neg c1, if_neg c2, if_pos c3]
        obtain ⟨l2, l3⟩ := k3 c3
        rw [eu, c3]
        exact rt_f (by decide) (rt_t (by decide) (lq_f n10 gL2 l2 l3))
      · obtain ⟨w1, w2, w3⟩ := lk_n c3
        obtain ⟨l5, l2, l3, l7⟩ := k2 c3
        have H2 := LWS_fr H g2
        rw [w1]
        by_cases c4 : lkN W z a < 9
        · have eu : lu W z (recK W z k) o a e cd = (0, 0, wE W z a, e + 1, setC cd e (1, lkN W z a)) := by
            unfold lu
            rw [if_neg c1, if_neg c2, if_neg c3, if_pos c4]
          rw [eu]
          refine rt_f (by (try simp (disch := omega) only [nI_leI, nI_ltI, nI_eq, nI_add, pk_mul, n_0add, Nat.zero_add, nI_clamp]) <;> omega) (rt_f (by (try simp (disch := omega) only [nI_leI, nI_ltI, nI_eq, nI_add, pk_mul, n_0add, Nat.zero_add, nI_clamp]) <;> omega) ?_)
          rw [nI_add]
          refine rt_be (sp_addL H2.1 (by omega)) ?_
          (first | refine rt_eq (q_X2_readUnit_0 (by first | assumption | rfl | exact .inl rfl | exact .inr rfl)) ?_ | refine rt_eq (q_X2_readUnit_4 (by first | assumption | rfl | exact .inl rfl | exact .inr rfl)) ?_ | refine rt_eq (q_X2_readUnit_9 (by first | assumption | rfl | exact .inl rfl | exact .inr rfl)) ?_ | refine rt_eq (q_X2_readUnit_98 (by first | assumption | rfl | exact .inl rfl | exact .inr rfl) (by first | assumption | rfl | exact .inl rfl | exact .inr rfl)) ?_ | refine rt_eq (q_X2_readUnit_63 (by first | assumption | rfl | exact .inl rfl | exact .inr rfl)) ?_ | refine rt_eq (q_X2_readUnit_56) ?_ | refine rt_eq (q_X2_readUnit_20 (by first | assumption | rfl | exact .inl rfl | exact .inr rfl)) ?_ | refine rt_eq (q_X2_readUnit_148 (by first | assumption | rfl | exact .inl rfl | exact .inr rfl)) ?_ | refine rt_eq (q_X2_readUnit_141) ?_ | refine rt_eq (q_X2_readUnit_122) ?_ | refine rt_eq (q_X2_readUnit_74) ?_ | refine rt_eq (q_X2_readUnit_31) ?_ | refine rt_eq (q_X2_readUnit_159 (by first | assumption | rfl | exact .inl rfl | exact .inr rfl)) ?_ | refine rt_eq (q_X2_readUnit_83) ?_ | refine rt_eq (q_X2_readUnit_168 (by first | assumption | rfl | exact .inl rfl | exact .inr rfl)) ?_ | refine rt_eq (q_X2_readUnit_179 (by first | assumption | rfl | exact .inl rfl | exact .inr rfl)) ?_ | refine rt_eq (q_X2_readUnit_188 (by first | assumption | rfl | exact .inl rfl | exact .inr rfl)) ?_ | refine rt_eq (q_X2_readUnit_204) ?_)
          have ee : nI (1000 + lkN W z a) = nI (encC (1, lkN W z a)) := rfl
          rw [ee]
          refine rt_f (by decide) (lq_t rfl (fr_up (fr_up gL2 rfl) rfl) ?_ (LWS_add H2) ?_ ?_)
          · refine RdC_T R' (fr_up (fr_up gL2 rfl) rfl) ?_ he.2
            rw [up2_n (by decide), up2_n (by decide), l5]
          · rw [up2_n (by decide), up2_n (by decide), l2, e2]
          · rw [up2_n (by decide), up2_n (by decide), l3, e3]
        · refine rt_t (by (try simp (disch := omega) only [nI_leI, nI_ltI, nI_eq, nI_add, pk_mul, n_0add, Nat.zero_add, nI_clamp]) <;> omega) ?_
          by_cases c5 : o = 6
          · have eu : lu W z (recK W z k) o a e cd = (3, sk W z a, 0, e, cd) := by
              unfold lu
              rw [if_neg c1, if_neg c2, if_neg c3, if_neg c4, if_pos c5]
            rw [c5]
            refine rt_f (by decide) (rt_be sp_tooMany ?_)
            (first | refine rt_eq (q_X2_readUnit_0 (by first | assumption | rfl | exact .inl rfl | exact .inr rfl)) ?_ | refine rt_eq (q_X2_readUnit_4 (by first | assumption | rfl | exact .inl rfl | exact .inr rfl)) ?_ | refine rt_eq (q_X2_readUnit_9 (by first | assumption | rfl | exact .inl rfl | exact .inr rfl)) ?_ | refine rt_eq (q_X2_readUnit_98 (by first | assumption | rfl | exact .inl rfl | exact .inr rfl) (by first | assumption | rfl | exact .inl rfl | exact .inr rfl)) ?_ | refine rt_eq (q_X2_readUnit_63 (by first | assumption | rfl | exact .inl rfl | exact .inr rfl)) ?_ | refine rt_eq (q_X2_readUnit_56) ?_ | refine rt_eq (q_X2_readUnit_20 (by first | assumption | rfl | exact .inl rfl | exact .inr rfl)) ?_ | refine rt_eq (q_X2_readUnit_148 (by first | assumption | rfl | exact .inl rfl | exact .inr rfl)) ?_ | refine rt_eq (q_X2_readUnit_141) ?_ | refine rt_eq (q_X2_readUnit_122) ?_ | refine rt_eq (q_X2_readUnit_74) ?_ | refine rt_eq (q_X2_readUnit_31) ?_ | refine rt_eq (q_X2_readUnit_159 (by first | assumption | rfl | exact .inl rfl | exact .inr rfl)) ?_ | refine rt_eq (q_X2_readUnit_83) ?_ | refine rt_eq (q_X2_readUnit_168 (by first | assumption | rfl | exact .inl rfl | exact .inr rfl)) ?_ | refine rt_eq (q_X2_readUnit_179 (by first | assumption | rfl | exact .inl rfl | exact .inr rfl)) ?_ | refine rt_eq (q_X2_readUnit_188 (by first | assumption | rfl | exact .inl rfl | exact .inr rfl)) ?_ | refine rt_eq (q_X2_readUnit_204) ?_)
            rw [← c5, eu]
            refine rt_gd (by decide) (lq_f n30 (fr_up (fr_up gL2 rfl) rfl) ?_ ?_)
            · rw [up2_k (by decide), up2_s]
            · rw [up2_s, l7]
          · obtain ⟨k', rfl⟩ : ∃ k', k = k' + 1 := ⟨k - 1, by omega⟩
            have RS' := RS k' rfl
            have eu : lu W z (recK W z (k' + 1)) o a e cd = lMost W z (lsumK W z k') o a e cd := by
              unfold lu
              rw [if_neg c1, if_neg c2, if_neg c3, if_neg c4, if_neg c5]
              rfl
            have R2 : RdC I2 W z (wE W z a) := RdC_T R' gL2 l5 he.2
            refine rt_t (by (try simp (disch := omega) only [nI_leI, nI_ltI, nI_eq, nI_add, pk_mul, n_0add, Nat.zero_add, nI_clamp]) <;> omega) (rt_bnd (sp_signC (c := 91) R2.1 R2.2.1 hz6 he.2 l5 (by decide)) ?_)
            rintro I3 J3 ⟨⟨m1, m2, m3⟩, rfl⟩
            have g3 : Fr fTC I I3 := fr_tr g2 m1
            (first | refine rt_eq (q_X2_readUnit_0 (by first | assumption | rfl | exact .inl rfl | exact .inr rfl)) ?_ | refine rt_eq (q_X2_readUnit_4 (by first | assumption | rfl | exact .inl rfl | exact .inr rfl)) ?_ | refine rt_eq (q_X2_readUnit_9 (by first | assumption | rfl | exact .inl rfl | exact .inr rfl)) ?_ | refine rt_eq (q_X2_readUnit_98 (by first | assumption | rfl | exact .inl rfl | exact .inr rfl) (by first | assumption | rfl | exact .inl rfl | exact .inr rfl)) ?_ | refine rt_eq (q_X2_readUnit_63 (by first | assumption | rfl | exact .inl rfl | exact .inr rfl)) ?_ | refine rt_eq (q_X2_readUnit_56) ?_ | refine rt_eq (q_X2_readUnit_20 (by first | assumption | rfl | exact .inl rfl | exact .inr rfl)) ?_ | refine rt_eq (q_X2_readUnit_148 (by first | assumption | rfl | exact .inl rfl | exact .inr rfl)) ?_ | refine rt_eq (q_X2_readUnit_141) ?_ | refine rt_eq (q_X2_readUnit_122) ?_ | refine rt_eq (q_X2_readUnit_74) ?_ | refine rt_eq (q_X2_readUnit_31) ?_ | refine rt_eq (q_X2_readUnit_159 (by first | assumption | rfl | exact .inl rfl | exact .inr rfl)) ?_ | refine rt_eq (q_X2_readUnit_83) ?_ | refine rt_eq (q_X2_readUnit_168 (by first | assumption | rfl | exact .inl rfl | exact .inr rfl)) ?_ | refine rt_eq (q_X2_readUnit_179 (by first | assumption | rfl | exact .inl rfl | exact .inr rfl)) ?_ | refine rt_eq (q_X2_readUnit_188 (by first | assumption | rfl | exact .inl rfl | exact .inr rfl)) ?_ | refine rt_eq (q_X2_readUnit_204) ?_)
            rw [eu]
            by_cases c6 : sgn W z (wE W z a) 91
            · obtain ⟨n5, n2, n3⟩ := m2 c6
              have c61 := c6.1
              have es := sk_le (W := W) he.2
              have em : lMost W z (lsumK W z k') o a e cd = lb W z (lsumK W z k' (o + 1) (sk W z (wE W z a) + 1) e cd) 44 (fun a' e' cd' => lb W z (lsumK W z k' (o + 1) a' e' cd') 93 (fun a2 e2 cd2 => (0, 0, a2, e2 + 1, setC cd2 e2 (lkN W z a - 2, 0)))) := if_pos c6
              rw [em, decide_eq_true c6, nI_add]
              have gk := lsumK_ok (W := W) (z := z) k' (o + 1) (sk W z (wE W z a) + 1) e cd 0 (by omega) (Nat.zero_le _) c61
              refine rt_f (show ¬ bI true = nI 0 by decide) (rt_bnd (RS' (sk W z (wE W z a) + 1) e cd I3 J3 (SO_fr O g3 (by decide)) (RdC_T R' (fr_mono g3 lrT) n5 c61) (LWS_fr H g3) (by omega)) ?_)
              generalize lsumK W z k' (o + 1) (sk W z (wE W z a) + 1) e cd = Ra at gk
              rintro I4 J4 ⟨⟨p1, p2, p3⟩, rfl⟩
              have gL4 : Fr fLR I I4 := fr_tr (fr_mono g3 lrT) p1
              (first | refine rt_eq (q_X2_readUnit_0 (by first | assumption | rfl | exact .inl rfl | exact .inr rfl)) ?_ | refine rt_eq (q_X2_readUnit_4 (by first | assumption | rfl | exact .inl rfl | exact .inr rfl)) ?_ | refine rt_eq (q_X2_readUnit_9 (by first | assumption | rfl | exact .inl rfl | exact .inr rfl)) ?_ | refine rt_eq (q_X2_readUnit_98 (by first | assumption | rfl | exact .inl rfl | exact .inr rfl) (by first | assumption | rfl | exact .inl rfl | exact .inr rfl)) ?_ | refine rt_eq (q_X2_readUnit_63 (by first | assumption | rfl | exact .inl rfl | exact .inr rfl)) ?_ | refine rt_eq (q_X2_readUnit_56) ?_ | refine rt_eq (q_X2_readUnit_20 (by first | assumption | rfl | exact .inl rfl | exact .inr rfl)) ?_ | refine rt_eq (q_X2_readUnit_148 (by first | assumption | rfl | exact .inl rfl | exact .inr rfl)) ?_ | refine rt_eq (q_X2_readUnit_141) ?_ | refine rt_eq (q_X2_readUnit_122) ?_ | refine rt_eq (q_X2_readUnit_74) ?_ | refine rt_eq (q_X2_readUnit_31) ?_ | refine rt_eq (q_X2_readUnit_159 (by first | assumption | rfl | exact .inl rfl | exact .inr rfl)) ?_ | refine rt_eq (q_X2_readUnit_83) ?_ | refine rt_eq (q_X2_readUnit_168 (by first | assumption | rfl | exact .inl rfl | exact .inr rfl)) ?_ | refine rt_eq (q_X2_readUnit_179 (by first | assumption | rfl | exact .inl rfl | exact .inr rfl)) ?_ | refine rt_eq (q_X2_readUnit_188 (by first | assumption | rfl | exact .inl rfl | exact .inr rfl)) ?_ | refine rt_eq (q_X2_readUnit_204) ?_)
              by_cases c7 : Ra.1 = 0
              · obtain ⟨R4, H4, q2, q3⟩ := p2 c7
                obtain ⟨t1, t2, t3, t4, t5, t6⟩ := gk c7
                rw [decide_eq_true c7]
                refine rt_f (show ¬ bI true = nI 0 by decide) (rt_bnd (sp_signC (c := 44) R4.1 R4.2.1 hz6 R4.2.2.2.1 R4.2.2.2.2 (by decide)) ?_)
                rintro I5 J5 ⟨⟨r1, r2, r3⟩, rfl⟩
                have gL5 : Fr fLR I I5 := fr_tr gL4 (fr_mono r1 lrT)
                (first | refine rt_eq (q_X2_readUnit_0 (by first | assumption | rfl | exact .inl rfl | exact .inr rfl)) ?_ | refine rt_eq (q_X2_readUnit_4 (by first | assumption | rfl | exact .inl rfl | exact .inr rfl)) ?_ | refine rt_eq (q_X2_readUnit_9 (by first | assumption | rfl | exact .inl rfl | exact .inr rfl)) ?_ | refine rt_eq (q_X2_readUnit_98 (by first | assumption | rfl | exact .inl rfl | exact .inr rfl) (by first | assumption | rfl | exact .inl rfl | exact .inr rfl)) ?_ | refine rt_eq (q_X2_readUnit_63 (by first | assumption | rfl | exact .inl rfl | exact .inr rfl)) ?_ | refine rt_eq (q_X2_readUnit_56) ?_ | refine rt_eq (q_X2_readUnit_20 (by first | assumption | rfl | exact .inl rfl | exact .inr rfl)) ?_ | refine rt_eq (q_X2_readUnit_148 (by first | assumption | rfl | exact .inl rfl | exact .inr rfl)) ?_ | refine rt_eq (q_X2_readUnit_141) ?_ | refine rt_eq (q_X2_readUnit_122) ?_ | refine rt_eq (q_X2_readUnit_74) ?_ | refine rt_eq (q_X2_readUnit_31) ?_ | refine rt_eq (q_X2_readUnit_159 (by first | assumption | rfl | exact .inl rfl | exact .inr rfl)) ?_ | refine rt_eq (q_X2_readUnit_83) ?_ | refine rt_eq (q_X2_readUnit_168 (by first | assumption | rfl | exact .inl rfl | exact .inr rfl)) ?_ | refine rt_eq (q_X2_readUnit_179 (by first | assumption | rfl | exact .inl rfl | exact .inr rfl)) ?_ | refine rt_eq (q_X2_readUnit_188 (by first | assumption | rfl | exact .inl rfl | exact .inr rfl)) ?_ | refine rt_eq (q_X2_readUnit_204) ?_)
                by_cases c8 : sgn W z Ra.2.2.1 44
                · obtain ⟨s5, s2, s3⟩ := r2 c8
                  have c81 := c8.1
                  have as := sk_le (W := W) t2
                  have el : lb W z Ra 44 (fun a' e' cd' => lb W z (lsumK W z k' (o + 1) a' e' cd') 93 (fun a2 e2 cd2 => (0, 0, a2, e2 + 1, setC cd2 e2 (lkN W z a - 2, 0)))) = lb W z (lsumK W z k' (o + 1) (sk W z Ra.2.2.1 + 1) Ra.2.2.2.1 Ra.2.2.2.2) 93 (fun a2 e2 cd2 => (0, 0, a2, e2 + 1, setC cd2 e2 (lkN W z a - 2, 0))) := by
                    unfold lb
                    rw [if_neg (not_not_intro c7), if_pos c8]
                  rw [el, decide_eq_true c8, nI_add]
                  have gk2 := lsumK_ok (W := W) (z := z) k' (o + 1) (sk W z Ra.2.2.1 + 1) Ra.2.2.2.1 Ra.2.2.2.2 0 (by omega) (Nat.zero_le _) c81
                  have hea2 : Ra.2.2.2.1 ≤ sk W z Ra.2.2.1 + 1 := by
                    clear el em eu c1 c2 c6 c8 gk2 nm f2 f3 l5 l7 n5 s5
                    omega
                  refine rt_f (show ¬ bI true = nI 0 by decide) (rt_bnd (RS' (sk W z Ra.2.2.1 + 1) Ra.2.2.2.1 Ra.2.2.2.2 I5 J5 (SO_fr O gL5 (by decide)) (RdC_T R' gL5 s5 c81) (LWS_fr H4 r1) hea2) ?_)
                  generalize lsumK W z k' (o + 1) (sk W z Ra.2.2.1 + 1) Ra.2.2.2.1 Ra.2.2.2.2 = Rb at gk2
                  rintro I6 J6 ⟨⟨x1, x2, x3⟩, rfl⟩
                  have gL6 : Fr fLR I I6 := fr_tr gL5 x1
                  (first | refine rt_eq (q_X2_readUnit_0 (by first | assumption | rfl | exact .inl rfl | exact .inr rfl)) ?_ | refine rt_eq (q_X2_readUnit_4 (by first | assumption | rfl | exact .inl rfl | exact .inr rfl)) ?_ | refine rt_eq (q_X2_readUnit_9 (by first | assumption | rfl | exact .inl rfl | exact .inr rfl)) ?_ | refine rt_eq (q_X2_readUnit_98 (by first | assumption | rfl | exact .inl rfl | exact .inr rfl) (by first | assumption | rfl | exact .inl rfl | exact .inr rfl)) ?_ | refine rt_eq (q_X2_readUnit_63 (by first | assumption | rfl | exact .inl rfl | exact .inr rfl)) ?_ | refine rt_eq (q_X2_readUnit_56) ?_ | refine rt_eq (q_X2_readUnit_20 (by first | assumption | rfl | exact .inl rfl | exact .inr rfl)) ?_ | refine rt_eq (q_X2_readUnit_148 (by first | assumption | rfl | exact .inl rfl | exact .inr rfl)) ?_ | refine rt_eq (q_X2_readUnit_141) ?_ | refine rt_eq (q_X2_readUnit_122) ?_ | refine rt_eq (q_X2_readUnit_74) ?_ | refine rt_eq (q_X2_readUnit_31) ?_ | refine rt_eq (q_X2_readUnit_159 (by first | assumption | rfl | exact .inl rfl | exact .inr rfl)) ?_ | refine rt_eq (q_X2_readUnit_83) ?_ | refine rt_eq (q_X2_readUnit_168 (by first | assumption | rfl | exact .inl rfl | exact .inr rfl)) ?_ | refine rt_eq (q_X2_readUnit_179 (by first | assumption | rfl | exact .inl rfl | exact .inr rfl)) ?_ | refine rt_eq (q_X2_readUnit_188 (by first | assumption | rfl | exact .inl rfl | exact .inr rfl)) ?_ | refine rt_eq (q_X2_readUnit_204) ?_)
                  by_cases c9 : Rb.1 = 0
                  · obtain ⟨R6, H6, y2, y3⟩ := x2 c9
                    obtain ⟨tt1, tt2, tt3, tt4, tt5, tt6⟩ := gk2 c9
                    rw [decide_eq_true c9]
                    refine rt_f (show ¬ bI true = nI 0 by decide) (rt_bnd (sp_signC (c := 93) R6.1 R6.2.1 hz6 R6.2.2.2.1 R6.2.2.2.2 (by decide)) ?_)
                    rintro I7 J7 ⟨⟨z1, z2, z3⟩, rfl⟩
                    have gL7 : Fr fLR I I7 := fr_tr gL6 (fr_mono z1 lrT)
                    (first | refine rt_eq (q_X2_readUnit_0 (by first | assumption | rfl | exact .inl rfl | exact .inr rfl)) ?_ | refine rt_eq (q_X2_readUnit_4 (by first | assumption | rfl | exact .inl rfl | exact .inr rfl)) ?_ | refine rt_eq (q_X2_readUnit_9 (by first | assumption | rfl | exact .inl rfl | exact .inr rfl)) ?_ | refine rt_eq (q_X2_readUnit_98 (by first | assumption | rfl | exact .inl rfl | exact .inr rfl) (by first | assumption | rfl | exact .inl rfl | exact .inr rfl)) ?_ | refine rt_eq (q_X2_readUnit_63 (by first | assumption | rfl | exact .inl rfl | exact .inr rfl)) ?_ | refine rt_eq (q_X2_readUnit_56) ?_ | refine rt_eq (q_X2_readUnit_20 (by first | assumption | rfl | exact .inl rfl | exact .inr rfl)) ?_ | refine rt_eq (q_X2_readUnit_148 (by first | assumption | rfl | exact .inl rfl | exact .inr rfl)) ?_ | refine rt_eq (q_X2_readUnit_141) ?_ | refine rt_eq (q_X2_readUnit_122) ?_ | refine rt_eq (q_X2_readUnit_74) ?_ | refine rt_eq (q_X2_readUnit_31) ?_ | refine rt_eq (q_X2_readUnit_159 (by first | assumption | rfl | exact .inl rfl | exact .inr rfl)) ?_ | refine rt_eq (q_X2_readUnit_83) ?_ | refine rt_eq (q_X2_readUnit_168 (by first | assumption | rfl | exact .inl rfl | exact .inr rfl)) ?_ | refine rt_eq (q_X2_readUnit_179 (by first | assumption | rfl | exact .inl rfl | exact .inr rfl)) ?_ | refine rt_eq (q_X2_readUnit_188 (by first | assumption | rfl | exact .inl rfl | exact .inr rfl)) ?_ | refine rt_eq (q_X2_readUnit_204) ?_)
                    by_cases c10 : sgn W z Rb.2.2.1 93
                    · obtain ⟨v5, v2', v3'⟩ := z2 c10
                      have el2 : lb W z Rb 93 (fun a2 e2 cd2 => (0, 0, a2, e2 + 1, setC cd2 e2 (lkN W z a - 2, 0))) = (0, 0, sk W z Rb.2.2.1 + 1, Rb.2.2.2.1 + 1, setC Rb.2.2.2.2 Rb.2.2.2.1 (lkN W z a - 2, 0)) := by
                        unfold lb
                        rw [if_neg (not_not_intro c9), if_pos c10]
                      rw [el2, decide_eq_true c10]
                      have H7 := LWS_fr H6 z1
                      have c101 := c10.1
                      have hlt : Rb.2.2.2.1 < 150 := by
                        clear el el2 em eu c1 c2 c6 c8 c10 nm f2 f3 l5 l7 n5 s5 v5
                        omega
                      have ex : nI 2005 + nI (lkN W z a) - nI 9 = nI (encC (lkN W z a - 2, 0)) := by
                        have : lkN W z a = 9 ∨ lkN W z a = 10 := by omega
                        rcases this with q | q
                        · rw [q]
                          decide
                        · rw [q]
                          decide
                      rw [ex]
                      refine rt_f (show ¬ bI true = nI 0 by decide) (rt_be (sp_addL H7.1 hlt) ?_)
                      (first | refine rt_eq (q_X2_readUnit_0 (by first | assumption | rfl | exact .inl rfl | exact .inr rfl)) ?_ | refine rt_eq (q_X2_readUnit_4 (by first | assumption | rfl | exact .inl rfl | exact .inr rfl)) ?_ | refine rt_eq (q_X2_readUnit_9 (by first | assumption | rfl | exact .inl rfl | exact .inr rfl)) ?_ | refine rt_eq (q_X2_readUnit_98 (by first | assumption | rfl | exact .inl rfl | exact .inr rfl) (by first | assumption | rfl | exact .inl rfl | exact .inr rfl)) ?_ | refine rt_eq (q_X2_readUnit_63 (by first | assumption | rfl | exact .inl rfl | exact .inr rfl)) ?_ | refine rt_eq (q_X2_readUnit_56) ?_ | refine rt_eq (q_X2_readUnit_20 (by first | assumption | rfl | exact .inl rfl | exact .inr rfl)) ?_ | refine rt_eq (q_X2_readUnit_148 (by first | assumption | rfl | exact .inl rfl | exact .inr rfl)) ?_ | refine rt_eq (q_X2_readUnit_141) ?_ | refine rt_eq (q_X2_readUnit_122) ?_ | refine rt_eq (q_X2_readUnit_74) ?_ | refine rt_eq (q_X2_readUnit_31) ?_ | refine rt_eq (q_X2_readUnit_159 (by first | assumption | rfl | exact .inl rfl | exact .inr rfl)) ?_ | refine rt_eq (q_X2_readUnit_83) ?_ | refine rt_eq (q_X2_readUnit_168 (by first | assumption | rfl | exact .inl rfl | exact .inr rfl)) ?_ | refine rt_eq (q_X2_readUnit_179 (by first | assumption | rfl | exact .inl rfl | exact .inr rfl)) ?_ | refine rt_eq (q_X2_readUnit_188 (by first | assumption | rfl | exact .inl rfl | exact .inr rfl)) ?_ | refine rt_eq (q_X2_readUnit_204) ?_)
                      refine rt_f (by decide) (lq_t rfl (fr_up (fr_up gL7 rfl) rfl) ?_ (LWS_add H7) ?_ ?_)
                      · refine RdC_T R' (fr_up (fr_up gL7 rfl) rfl) ?_ c101
                        rw [up2_n (by decide), up2_n (by decide), v5]
                      · rw [up2_n (by decide), up2_n (by decide), v2', y2, s2, q2, n2, l2, e2]
                      · rw [up2_n (by decide), up2_n (by decide), v3', y3, s3, q3, n3, l3, e3]
                    · obtain ⟨v2', v3'⟩ := z3 c10
                      have el2 : lb W z Rb 93 (fun a2 e2 cd2 => (0, 0, a2, e2 + 1, setC cd2 e2 (lkN W z a - 2, 0))) = (1, sk W z Rb.2.2.1, 0, Rb.2.2.2.1, Rb.2.2.2.2) := by
                        unfold lb
                        rw [if_neg (not_not_intro c9), if_neg c10]
                      rw [el2, decide_eq_false c10]
                      exact rt_t bI_f (lq_f n10 gL7 v2' v3')
                  · obtain ⟨y2, y3⟩ := x3 c9
                    have el2 : lb W z Rb 93 (fun a2 e2 cd2 => (0, 0, a2, e2 + 1, setC cd2 e2 (lkN W z a - 2, 0))) = Rb := if_pos c9
                    rw [el2]
                    exact rt_t (by rw [decide_eq_false c9]; rfl) (lq_f c9 gL6 y2 y3)
                · obtain ⟨s2, s3⟩ := r3 c8
                  have el : lb W z Ra 44 (fun a' e' cd' => lb W z (lsumK W z k' (o + 1) a' e' cd') 93 (fun a2 e2 cd2 => (0, 0, a2, e2 + 1, setC cd2 e2 (lkN W z a - 2, 0)))) = (1, sk W z Ra.2.2.1, 0, Ra.2.2.2.1, Ra.2.2.2.2) := by
                    unfold lb
                    rw [if_neg (not_not_intro c7), if_neg c8]
                  rw [el, decide_eq_false c8]
                  exact rt_t bI_f (lq_f n10 gL5 s2 s3)
              · obtain ⟨q2, q3⟩ := p3 c7
                have el : lb W z Ra 44 (fun a' e' cd' => lb W z (lsumK W z k' (o + 1) a' e' cd') 93 (fun a2 e2 cd2 => (0, 0, a2, e2 + 1, setC cd2 e2 (lkN W z a - 2, 0)))) = Ra := if_pos c7
                rw [el]
                exact rt_t (by rw [decide_eq_false c7]; rfl) (lq_f c7 gL4 q2 q3)
            · obtain ⟨n2, n3⟩ := m3 c6
              have em : lMost W z (lsumK W z k') o a e cd = (1, sk W z (wE W z a), 0, e, cd) := if_neg c6
              rw [em, decide_eq_false c6]
              exact rt_t bI_f (lq_f n10 (fr_mono g3 lrT) n2 n3)
end LC
