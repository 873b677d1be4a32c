/-! SHORT, BY THE MODEL -/
def ftO (h : Hs) (l : Option Nat) : Nat := match l with
  | none => 10
  | some v => ftW h v
theorem has_bt {d L X : Nat} {I : MI32} {J : MI64} {x : Int32} {k : Nat} (hk : k < 32) : runM (d + 1) nX12_has [.int x, .int (nI k)] (mm L X I J) = rB (bt x k) (mm L X I J) := by
  rw [sp_has]
  congr 3
  have e : ((x >>> (nI k &&& 31)) &&& nI 1 = nI 1) ↔ bt x k = true := by
    constructor
    · intro q
      have := congrArg (fun z => bt z 0) q
      rw [b_and, b_sshr k hk x (by decide), if_pos (by omega)] at this
      simpa [show bt (nI 1) 0 = true by decide] using this
    · intro q
      apply b_ext
      intro i hi
      rw [b_and, b_sshr k hk x hi]
      rcases Nat.eq_zero_or_pos i with z | z
      · subst z
        rw [if_pos (by omega), Nat.add_zero, q]
        decide
      · have : ∀ i, i < 32 → 0 < i → bt (nI 1) i = false := by decide +kernel
        rw [this i hi z, Bool.and_false]
  by_cases z : bt x k = true
  · rw [z]
    exact decide_eq_true (e.mpr z)
  · rw [decide_eq_false (fun q => z (e.mp q))]
    simpa using z
theorem b_or {x y : Int32} {i : Nat} : bt (x ||| y) i = (bt x i || bt y i) := by
  unfold bt
  rw [Int32.toBitVec_or, BitVec.getLsbD_or]
section BM
variable {d L X : Nat} {I : MI32} {J : MI64} {h : Hs} {m nL n : Nat} {cd : Cd} {N : Nt} {f : Nat}
theorem nxt_ft {l l' : Option Nat} {w : Nat} (ok : HOK h) (hl : lOK h l) (hl' : lOK h l') (e : ftO h l = ftO h l') : nxt h m l w = nxt h m l' w := by
  rcases l with _ | v <;> rcases l' with _ | v'
  · rfl
  · have := (hd_le ok (w := v') (by have := hl' v' rfl; omega)).2
    have e2 : 10 = ftW h v' := e
    omega
  · have := (hd_le ok (w := v) (by have := hl v rfl; omega)).2
    have e2 : ftW h v = 10 := e
    omega
  · have e2 : ftW h v = ftW h v' := e
    show fol h m v w = fol h m v' w
    unfold fol
    rw [e2]
theorem sE_ft {k u fl : Nat} {l l' : Option Nat} (ok : HOK h) (hl : lOK h l) (hl' : lOK h l') (e : ftO h l = ftO h l') : sE h m nL cd N f k u l fl = sE h m nL cd N f k u l' fl := by
  rcases k with _ | k
  · rfl
  · unfold sE
    congr 1
    funext w
    have : cfw h m u l w = cfw h m u l' w := by
      unfold cfw
      rw [nxt_ft ok hl hl' e]
    rw [this]
/-- what is marked was tried in vain -/
def TrI (h : Hs) (m nL : Nat) (cd : Cd) (N : Nt) (f many : Nat) (I : MI32) : Prop := ∀ u fl l, u < 2 ^ h 0 0 → fl ≤ 99 → lOK h l → bt (I 623 (4 * (11 * u + ftO h l) + fl / 32)) (fl % 32) = true → sE h m nL cd N f (many - pcN u) u l fl = none
def fBr : Fls := [(450, 0), (451, 0), (623, 0), (624, 0)]
def BX (I : MI32) (h : Hs) (m nL : Nat) (cd : Cd) (N : Nt) : Prop := HM I h m ∧ LawM I nL cd ∧ I 533 = N
theorem dbr1 : dj fBr sHM = true := by decide +kernel
theorem dbr2 : dj fBr sLM = true := by decide +kernel
theorem BX_fr {I' : MI32} (C : BX I h m nL cd N) (ok : HOK h) (g : Fr fBr I I') : BX I' h m nL cd N := ⟨HM_fr C.1 ok (ag_of g dbr1), LawM_fr C.2.1 (ag_of g dbr2), (funext fun k => g 533 k rfl).trans C.2.2⟩
def BrQ (h : Hs) (m nL : Nat) (cd : Cd) (N : Nt) (f many : Nat) (I : MI32) (J : MI64) (k : Nat) (o : Option (List Nat)) (I' : MI32) (J' : MI64) : Prop := (Fr fBr I I' ∧ TrI h m nL cd N f many I' ∧ (∀ i, i < k → I' 624 i = I 624 i) ∧ ∀ s, o = some s → ∀ i, i < s.length → I' 624 (k + i) = nI (s.getD i 0)) ∧ J' = J
theorem ft_le {l : Option Nat} (ok : HOK h) (hl : lOK h l) : ftO h l ≤ 10 := by
  rcases l with _ | v
  · exact Nat.le_refl _
  · have := (hd_le ok (w := v) (by have := hl v rfl; omega)).2
    show ftW h v ≤ 10
    omega
theorem TrI_mark {many u fl : Nat} {l : Option Nat} (ok : HOK h) (hu : u < 2 ^ h 0 0) (hfl : fl ≤ 99) (hl : lOK h l) (T : TrI h m nL cd N f many I) (hs : sE h m nL cd N f (many - pcN u) u l fl = none) : TrI h m nL cd N f many (up2 I 623 (4 * (11 * u + ftO h l) + fl / 32) (I 623 (4 * (11 * u + ftO h l) + fl / 32) ||| (nI 1 <<< (nI (fl % 32) &&& 31)))) := by
  intro u' fl' l' hu' hfl' hl' hb
  have a1 := ft_le ok hl
  have a2 := ft_le ok hl'
  rw [up2_at] at hb
  by_cases z : 4 * (11 * u' + ftO h l') + fl' / 32 = 4 * (11 * u + ftO h l) + fl / 32
  · rw [if_pos z, b_or, n_pow (by omega), b_n (by omega), Nat.testBit_two_pow, Bool.or_eq_true] at hb
    rcases hb with hb | hb
    · rw [← z] at hb
      exact T u' fl' l' hu' hfl' hl' hb
    · have e3 : fl % 32 = fl' % 32 := by simpa using hb
      have e4 : u' = u := by omega
      have e5 : fl' = fl := by omega
      have e6 : ftO h l' = ftO h l := by omega
      subst e4 e5
      rw [sE_ft ok hl' hl e6]
      exact hs
  · rw [if_neg z] at hb
    exact T u' fl' l' hu' hfl' hl' hb
theorem TrI_of {many : Nat} {I' : MI32} (T : TrI h m nL cd N f many I) (e : ∀ c, I' 623 c = I 623 c) : TrI h m nL cd N f many I' := fun u fl l h1 h2 h3 h4 => T u fl l h1 h2 h3 (by rw [← e]; exact h4)
theorem lp_brief {u fl K many : Nat} {l : Option Nat} {u8 : Option Value} (ok : HOK h) (W : wfC cd nL 0 0) (hf : f < h 0 2) (hK : pcN u + (K + 1) = many) (hm6 : many ≤ 6) (hu : u < 2 ^ h 0 0) (hl : lOK h l) (hfl : fl ≤ 99) (C : BX I h m nL cd N) (ih : ∀ u l fl I, pcN u + K = many → u < 2 ^ h 0 0 → lOK h l → fl ≤ 99 → BX I h m nL cd N → TrI h m nL cd N f many I → Rt L X (runM (d + K + 7) nX12_isBrief [.ref 72, .int (nI f), .int (nI many), .int (nI (pcN u)), .int (nI u), .int (o2i l), .int (nI fl), .int (nI (lnN h u))] (mm L X I J)) (some (.int (bI (sE h m nL cd N f K u l fl).isSome))) (BrQ h m nL cd N f many I J (pcN u) (sE h m nL cd N f K u l fl))) (g : Nat → Option (List Nat)) (hg : g = fun w => if cfw h m u l w = true then sE h m nL cd N f K (u ||| 2 ^ (w / 2)) (some w) (lfN h nL cd N w fl (pcN u)) else none) : ∀ q w I' u11, w + q = 2 * h 0 0 → Fr fBr I I' → TrI h m nL cd N f many I' → (∀ i, i < pcN u → I' 624 i = I 624 i) → (∀ i, i < w → g i = none) → Rt L X (c_X12_isBrief_103 (d + K + 7) L X I' J (nI f) (nI many) (nI (pcN u)) (nI u) (o2i l) (nI fl) (nI (lnN h u)) u8 (nI (4 * (11 * u + ftO h l) + fl / 32)) (nI w) u11) (some (.int (bI (srF g q w).isSome))) (BrQ h m nL cd N f many I J (pcN u) (srF g q w))
  | 0, w, I', u11, hw, hfr, T, hp, hn => by
    have h6 := ok.1
    have p6 := pow6 ok
    have a1 := ft_le ok hl
    have C' := BX_fr C ok hfr
    have ecell : nI fl - nI fl / nI 32 * nI 32 = nI (fl % 32) := pk_rem (by omega) (by decide) (by decide)
    have hs : sE h m nL cd N f (many - pcN u) u l fl = none := by
      rw [show many - pcN u = K + 1 by omega]
      unfold sE
      rw [srF_none]
      intro i _ hi
      have := hn i (by omega)
      rw [hg] at this
      exact this
    (first | refine rt_eq (q_X12_isBrief_0) ?_ | refine rt_eq (q_X12_isBrief_60) ?_ | refine rt_eq (q_X12_isBrief_95) ?_ | refine rt_eq (q_X12_isBrief_103) ?_ | refine rt_eq (q_X12_isBrief_129) ?_ | refine rt_eq (q_X12_isBrief_206) ?_ | refine rt_eq (q_X12_isBrief_140) ?_ | refine rt_eq (q_X12_isBrief_186) ?_ | refine rt_eq (q_X12_isBrief_201) ?_)
    rw [C'.1.1, pk_mul]
    refine rt_t (by (try simp (disch := omega) only [nI_leI, nI_ltI, nI_eq, nI_add, pk_mul, n_0add, Nat.zero_add, nI_clamp]) <;> omega) (rt_gd (inb_n (by omega) (by decide)) ?_)
    rw [nI_clamp (by omega), ecell]
    refine rt_ret ⟨⟨fr_up hfr rfl, TrI_mark ok hu hfl hl T hs, fun i hi => by rw [up2_n (by decide)]; exact hp i hi, fun s e => by cases e⟩, rfl⟩
  | q + 1, w, I', u11, hw, hfr, T, hp, hn => by
    have go := lp_brief (u8 := u8) ok W hf hK hm6 hu hl hfl C ih g hg q (w + 1)
    have h6 := ok.1
    have p6 := pow6 ok
    have hln := ln_le ok hu
    have C' := BX_fr C ok hfr
    have e3 : nI w / nI 2 = nI (w / 2) := pk_div (by omega) (by decide) (by decide)
    have e4 : nI w - nI (w / 2) * nI 2 = nI (w % 2) := by
      rw [← e3]
      exact pk_rem (by omega) (by decide) (by decide)
    have hgw : g w = if cfw h m u l w = true then sE h m nL cd N f K (u ||| 2 ^ (w / 2)) (some w) (lfN h nL cd N w fl (pcN u)) else none := by rw [hg]
    have next : g w = none → ∀ I2 u11, Fr fBr I I2 → TrI h m nL cd N f many I2 → (∀ i, i < pcN u → I2 624 i = I 624 i) → Rt L X (runI (runM (d + K + 7)) iX12_isBrief (206, [some (.ref 72), some (.int (nI f)), some (.int (nI many)), some (.int (nI (pcN u))), some (.int (nI u)), some (.int (o2i l)), some (.int (nI fl)), some (.int (nI (lnN h u))), u8, some (.int (nI (4 * (11 * u + ftO h l) + fl / 32))), some (.int (nI w)), u11], [], mm L X I2 J)) (some (.int (bI (srF g (q + 1) w).isSome))) (BrQ h m nL cd N f many I J (pcN u) (srF g (q + 1) w)) := by
      intro hgn I2 u11 f2 T2 p2
      have es : srF g (q + 1) w = srF g q (w + 1) := by
        conv => lhs; unfold srF
        rw [hgn]
      rw [es]
      (first | refine rt_eq (q_X12_isBrief_0) ?_ | refine rt_eq (q_X12_isBrief_60) ?_ | refine rt_eq (q_X12_isBrief_95) ?_ | refine rt_eq (q_X12_isBrief_103) ?_ | refine rt_eq (q_X12_isBrief_129) ?_ | refine rt_eq (q_X12_isBrief_206) ?_ | refine rt_eq (q_X12_isBrief_140) ?_ | refine rt_eq (q_X12_isBrief_186) ?_ | refine rt_eq (q_X12_isBrief_201) ?_)
      rw [nI_add]
      refine go I2 _ (by omega) f2 T2 p2 ?_
      intro i hi
      rcases Nat.eq_or_lt_of_le (Nat.le_of_lt_succ hi) with e | e
      · rw [e]
        exact hgn
      · exact hn i e
    (first | refine rt_eq (q_X12_isBrief_0) ?_ | refine rt_eq (q_X12_isBrief_60) ?_ | refine rt_eq (q_X12_isBrief_95) ?_ | refine rt_eq (q_X12_isBrief_103) ?_ | refine rt_eq (q_X12_isBrief_129) ?_ | refine rt_eq (q_X12_isBrief_206) ?_ | refine rt_eq (q_X12_isBrief_140) ?_ | refine rt_eq (q_X12_isBrief_186) ?_ | refine rt_eq (q_X12_isBrief_201) ?_)
    rw [C'.1.1, pk_mul]
    refine rt_f (by (try simp (disch := omega) only [nI_leI, nI_ltI, nI_eq, nI_add, pk_mul, n_0add, Nat.zero_add, nI_clamp]) <;> omega) ?_
    rw [e3]
    refine rt_bne (has_n (by omega) (by omega)) ?_
    (first | refine rt_eq (q_X12_isBrief_0) ?_ | refine rt_eq (q_X12_isBrief_60) ?_ | refine rt_eq (q_X12_isBrief_95) ?_ | refine rt_eq (q_X12_isBrief_103) ?_ | refine rt_eq (q_X12_isBrief_129) ?_ | refine rt_eq (q_X12_isBrief_206) ?_ | refine rt_eq (q_X12_isBrief_140) ?_ | refine rt_eq (q_X12_isBrief_186) ?_ | refine rt_eq (q_X12_isBrief_201) ?_)
    by_cases z : u.testBit (w / 2) = true
    · rw [z]
      refine rt_f (by decide) ?_
      refine next ?_ I' _ hfr T hp
      rw [hgw, if_neg]
      unfold cfw
      rw [z]
      simp
    · rw [Bool.not_eq_true] at z
      rw [z]
      refine rt_t bI_f ?_
      refine rt_be (sp_isNext C'.1 ok hl (by omega)) ?_
      (first | refine rt_eq (q_X12_isBrief_0) ?_ | refine rt_eq (q_X12_isBrief_60) ?_ | refine rt_eq (q_X12_isBrief_95) ?_ | refine rt_eq (q_X12_isBrief_103) ?_ | refine rt_eq (q_X12_isBrief_129) ?_ | refine rt_eq (q_X12_isBrief_206) ?_ | refine rt_eq (q_X12_isBrief_140) ?_ | refine rt_eq (q_X12_isBrief_186) ?_ | refine rt_eq (q_X12_isBrief_201) ?_)
      by_cases y : nxt h m l w = true
      · rw [y]
        refine rt_f (by decide) ?_
        have hc : cfw h m u l w = true := by
          unfold cfw
          rw [z, y]
          rfl
        have g2 := or_np (p := w / 2) hu (by omega)
        have ep := pc_or (p := w / 2) (by omega) z
        have el := ln_or (h := h) (p := w / 2) (by omega) z
        rw [if_pos hc] at hgw
        refine rt_gd (inb_n (by omega) (by decide)) ?_
        rw [nI_clamp (show pcN u < 2 ^ 31 by omega), e3, e4, n_pow (by omega), n_or]
        generalize hI2 : up2 I' 624 (pcN u) (nI w) = I2
        have f2 : Fr fBr I' I2 := by rw [← hI2]; exact fr_up fr_rfl rfl
        have k2 : I2 624 (pcN u) = nI w := by rw [← hI2, up2_s]
        have p2 : ∀ i, i < pcN u → I2 624 i = I 624 i := fun i hi => by rw [← hI2, up2_k (by omega)]; exact hp i hi
        have t2 : ∀ c, I2 623 c = I' 623 c := fun c => by rw [← hI2, up2_n (by decide)]
        clear hI2
        have C2 := BX_fr C' ok f2
        have lo := sp_leftOf (d := d + K + 2) (L := L) (X := X) (J := J) (r := 533) (x4 := nI fl) (x5 := nI (pcN u)) (t := w % 2) (p := w / 2) (.inl rfl) C2.1 ok C2.2.1 W (by omega)
        rw [C2.2.2, (lf_eq (h := h) (nL := nL) (cd := cd) (N := N) (fl := fl) (w := w) (k := pcN u)).1] at lo
        have hlf := (lf_eq (h := h) (nL := nL) (cd := cd) (N := N) (fl := fl) (w := w) (k := pcN u)).2
        refine rt_bnd lo ?_
        rintro I3 J3 ⟨f3, rfl⟩
        have f3' : Fr fBr I2 I3 := fr_mono f3 (by decide)
        have C3 := BX_fr C2 ok f3'
        have T3 : TrI h m nL cd N f many I3 := TrI_of T (fun c => by rw [f3 623 c rfl, t2])
        (first | refine rt_eq (q_X12_isBrief_0) ?_ | refine rt_eq (q_X12_isBrief_60) ?_ | refine rt_eq (q_X12_isBrief_95) ?_ | refine rt_eq (q_X12_isBrief_103) ?_ | refine rt_eq (q_X12_isBrief_129) ?_ | refine rt_eq (q_X12_isBrief_206) ?_ | refine rt_eq (q_X12_isBrief_140) ?_ | refine rt_eq (q_X12_isBrief_186) ?_ | refine rt_eq (q_X12_isBrief_201) ?_)
        refine rt_gd (inb_n (by omega) (by decide)) ?_
        rw [nI_clamp (show w / 2 < 2 ^ 31 by omega), (C3.1.2.2.2.2.2.1 (w / 2) (by omega)).1, nI_add, nI_add, ← el, ← ep]
        refine rt_bnd (ih (u ||| 2 ^ (w / 2)) (some w) (lfN h nL cd N w fl (pcN u)) I3 (by omega) g2 (lOK_s (by omega)) hlf C3 T3) ?_
        rintro I4 J4 ⟨⟨r1, r2, r3, r4⟩, rfl⟩
        rw [← hgw] at r4 ⊢
        rw [ep] at r3 r4
        have k4 : I4 624 (pcN u) = nI w := by rw [r3 _ (by omega), f3 624 _ rfl, k2]
        have p4 : ∀ i, i < pcN u → I4 624 i = I 624 i := fun i hi => by rw [r3 i (by omega), f3 624 i rfl, p2 i hi]
        have fr4 : Fr fBr I I4 := fr_tr hfr (fr_tr f2 (fr_tr f3' r1))
        (first | refine rt_eq (q_X12_isBrief_0) ?_ | refine rt_eq (q_X12_isBrief_60) ?_ | refine rt_eq (q_X12_isBrief_95) ?_ | refine rt_eq (q_X12_isBrief_103) ?_ | refine rt_eq (q_X12_isBrief_129) ?_ | refine rt_eq (q_X12_isBrief_206) ?_ | refine rt_eq (q_X12_isBrief_140) ?_ | refine rt_eq (q_X12_isBrief_186) ?_ | refine rt_eq (q_X12_isBrief_201) ?_)
        rcases hgs : g w with _ | s
        · refine rt_t rfl ?_
          exact next hgs I4 _ fr4 r2 p4
        · refine rt_f (show ¬ bI true = nI 0 by decide) ?_
          have es : srF g (q + 1) w = some (w :: s) := by
            conv => lhs; unfold srF
            rw [hgs]
          rw [es]
          refine rt_ret ⟨⟨fr4, r2, p4, ?_⟩, rfl⟩
          intro s' e i hi
          cases e
          rcases i with _ | i
          · exact k4
          · rw [show pcN u + (i + 1) = pcN u + 1 + i by omega]
            have := r4 s hgs i (by simpa using hi)
            rw [this]
            rfl
      · rw [Bool.not_eq_true] at y
        rw [y]
        refine rt_t bI_f ?_
        refine next ?_ I' _ hfr T hp
        rw [hgw, if_neg]
        unfold cfw
        rw [y, Bool.and_false]
        simp
theorem sp_isBrief {many : Nat} (ok : HOK h) (W : wfC cd nL 0 0) (hf : f < h 0 2) (hm6 : many ≤ 6) : ∀ K u l fl I, pcN u + K = many → u < 2 ^ h 0 0 → lOK h l → fl ≤ 99 → BX I h m nL cd N → TrI h m nL cd N f many I → Rt L X (runM (d + K + 7) nX12_isBrief [.ref 72, .int (nI f), .int (nI many), .int (nI (pcN u)), .int (nI u), .int (o2i l), .int (nI fl), .int (nI (lnN h u))] (mm L X I J)) (some (.int (bI (sE h m nL cd N f K u l fl).isSome))) (BrQ h m nL cd N f many I J (pcN u) (sE h m nL cd N f K u l fl))
  | 0, u, l, fl, I, hK, hu, hl, hfl, C, T => by
    have h5 := ok.2.2.1
    have hln := ln_le ok hu
    have hpc := pc_le ok.1 hu
    have b := ok.2.2.2.2 f hf
    obtain ⟨k1, k2⟩ := C.1.2.2.2.2.2.2.2 f hf
    have hk : nI (pcN u) = nI many := congrArg nI (by omega)
    rw [show d + 0 + 7 = (d + 6) + 1 by omega, e_X12_isBrief]
    (first | refine rt_eq (q_X12_isBrief_0) ?_ | refine rt_eq (q_X12_isBrief_60) ?_ | refine rt_eq (q_X12_isBrief_95) ?_ | refine rt_eq (q_X12_isBrief_103) ?_ | refine rt_eq (q_X12_isBrief_129) ?_ | refine rt_eq (q_X12_isBrief_206) ?_ | refine rt_eq (q_X12_isBrief_140) ?_ | refine rt_eq (q_X12_isBrief_186) ?_ | refine rt_eq (q_X12_isBrief_201) ?_)
    refine rt_t hk (rt_gd (inb_n (by omega) (by decide)) ?_)
    rw [nI_clamp (by omega), k1, k2]
    have e0 : sE h m nL cd N f 0 u l fl = if rcN h f u fl = true then some [] else none := rfl
    rw [e0]
    by_cases a1 : h 7 f ≤ lnN h u
    · refine rt_f (by (try simp (disch := omega) only [nI_leI, nI_ltI, nI_eq, nI_add, pk_mul, n_0add, Nat.zero_add, nI_clamp]) <;> omega) ?_
      by_cases a2 : h 8 f ≤ fl
      · refine rt_f (by (try simp (disch := omega) only [nI_leI, nI_ltI, nI_eq, nI_add, pk_mul, n_0add, Nat.zero_add, nI_clamp]) <;> omega) ?_
        have hr : rcN h f u fl = true := by
          unfold rcN
          rw [decide_eq_true a1, decide_eq_true a2]
          rfl
        rw [if_pos hr]
        exact rt_ret ⟨⟨fr_rfl, T, fun i _ => rfl, fun s e i hi => by cases e; exact absurd hi (Nat.not_lt_zero i)⟩, rfl⟩
      · refine rt_t (by (try simp (disch := omega) only [nI_leI, nI_ltI, nI_eq, nI_add, pk_mul, n_0add, Nat.zero_add, nI_clamp]) <;> omega) ?_
        have hr : rcN h f u fl = false := by
          unfold rcN
          rw [decide_eq_false a2, Bool.and_false]
        rw [if_neg (by rw [hr]; decide)]
        exact rt_ret ⟨⟨fr_rfl, T, fun i _ => rfl, fun s e => by cases e⟩, rfl⟩
    · refine rt_t (by (try simp (disch := omega) only [nI_leI, nI_ltI, nI_eq, nI_add, pk_mul, n_0add, Nat.zero_add, nI_clamp]) <;> omega) ?_
      have hr : rcN h f u fl = false := by
        unfold rcN
        rw [decide_eq_false a1, Bool.false_and]
      rw [if_neg (by rw [hr]; decide)]
      exact rt_ret ⟨⟨fr_rfl, T, fun i _ => rfl, fun s e => by cases e⟩, rfl⟩
  | K + 1, u, l, fl, I, hK, hu, hl, hfl, C, T => by
    have ih := sp_isBrief ok W hf hm6 K
    have h6 := ok.1
    have p6 := pow6 ok
    have a1 := ft_le ok hl
    have hpc := pc_le ok.1 hu
    rw [show d + (K + 1) + 7 = (d + K + 7) + 1 by omega, e_X12_isBrief]
    (first | refine rt_eq (q_X12_isBrief_0) ?_ | refine rt_eq (q_X12_isBrief_60) ?_ | refine rt_eq (q_X12_isBrief_95) ?_ | refine rt_eq (q_X12_isBrief_103) ?_ | refine rt_eq (q_X12_isBrief_129) ?_ | refine rt_eq (q_X12_isBrief_206) ?_ | refine rt_eq (q_X12_isBrief_140) ?_ | refine rt_eq (q_X12_isBrief_186) ?_ | refine rt_eq (q_X12_isBrief_201) ?_)
    refine rt_f (fun q => ?_) ?_
    · have := (nI_eq (by omega) (by omega)).mp q
      omega
    have ed : nI fl / nI 32 = nI (fl / 32) := pk_div (by omega) (by decide) (by decide)
    have er : nI fl - nI (fl / 32) * nI 32 = nI (fl % 32) := by
      rw [← ed]
      exact pk_rem (by omega) (by decide) (by decide)
    have tail : ∀ u8 u9 u10 u11, Rt L X (runI (runM (d + K + 7)) iX12_isBrief (60, [some (.ref 72), some (.int (nI f)), some (.int (nI many)), some (.int (nI (pcN u))), some (.int (nI u)), some (.int (o2i l)), some (.int (nI fl)), some (.int (nI (lnN h u))), u8, u9, u10, u11], [.int (nI (ftO h l))], mm L X I J)) (some (.int (bI (sE h m nL cd N f (K + 1) u l fl).isSome))) (BrQ h m nL cd N f many I J (pcN u) (sE h m nL cd N f (K + 1) u l fl)) := by
      intro u8 u9 u10 u11
      (first | refine rt_eq (q_X12_isBrief_0) ?_ | refine rt_eq (q_X12_isBrief_60) ?_ | refine rt_eq (q_X12_isBrief_95) ?_ | refine rt_eq (q_X12_isBrief_103) ?_ | refine rt_eq (q_X12_isBrief_129) ?_ | refine rt_eq (q_X12_isBrief_206) ?_ | refine rt_eq (q_X12_isBrief_140) ?_ | refine rt_eq (q_X12_isBrief_186) ?_ | refine rt_eq (q_X12_isBrief_201) ?_)
      rw [ed, pk_mul, nI_add, pk_mul, nI_add, er]
      refine rt_gd (inb_n (by omega) (by decide)) ?_
      rw [nI_clamp (by omega)]
      refine rt_bne (has_bt (by omega)) ?_
      (first | refine rt_eq (q_X12_isBrief_0) ?_ | refine rt_eq (q_X12_isBrief_60) ?_ | refine rt_eq (q_X12_isBrief_95) ?_ | refine rt_eq (q_X12_isBrief_103) ?_ | refine rt_eq (q_X12_isBrief_129) ?_ | refine rt_eq (q_X12_isBrief_206) ?_ | refine rt_eq (q_X12_isBrief_140) ?_ | refine rt_eq (q_X12_isBrief_186) ?_ | refine rt_eq (q_X12_isBrief_201) ?_)
      by_cases z : bt (I 623 (4 * (11 * u + ftO h l) + fl / 32)) (fl % 32) = true
      · rw [z]
        refine rt_f (by decide) ?_
        have hs := T u fl l hu hfl hl z
        rw [show many - pcN u = K + 1 by omega] at hs
        rw [hs]
        exact rt_ret ⟨⟨fr_rfl, T, fun i _ => rfl, fun s e => by cases e⟩, rfl⟩
      · rw [Bool.not_eq_true] at z
        rw [z]
        refine rt_t bI_f ?_
        exact lp_brief ok W hf hK hm6 hu hl hfl C ih _ rfl (2 * h 0 0) 0 I _ (by omega) fr_rfl T (fun i _ => rfl) (fun i hi => absurd hi (Nat.not_lt_zero i))
    rcases l with _ | v
    · refine rt_t rfl ?_
      exact tail _ _ _ _
    · have hv := hl v rfl
      refine rt_f (nI_m1 v (by omega)) ?_
      have e1 : o2i (some v) / nI 2 = nI (v / 2) := pk_div (by omega) (by decide) (by decide)
      have e2 : o2i (some v) - nI (v / 2) * nI 2 = nI (v % 2) := by
        rw [← e1]
        exact pk_rem (by omega) (by decide) (by decide)
      rw [e1, e2]
      refine rt_be (sp_footM C.1 ok (by omega) (by omega)) ?_
      rw [show 2 * (v / 2) + v % 2 = v by omega]
      exact tail _ _ _ _
theorem lp_br14 {r : Option Value} {Q : MI32 → MI64 → Prop} {x1 x2 : Int32} (go : ∀ I', Fr [(623, 0)] I I' → (∀ c, c < 2816 → I' 623 c = nI 0) → Rt L X (bnd (runM d nX12_isBrief [.ref 72, .int x1, .int x2, .int (nI 0), .int (nI 0), .int (-1), .int (I' 533 29), .int (nI 0)] (mm L X I' J)) (fun v m' => runI (runM d) iX12_briefs (53, [some (.ref 72), some (.int x1), some (.int x2), some (.int (nI 2816))], v.toList ++ [], m'))) r Q) : ∀ q j I', j + q = 2816 → Fr [(623, 0)] I I' → (∀ c, c < j → I' 623 c = nI 0) → Rt L X (c_X12_briefs_14 d L X I' J x1 x2 (nI j)) r Q
  | 0, j, I', hj, hf, hl => by
    have e : j = 2816 := by omega
    subst e
    (first | refine rt_eq (q_X12_briefs_0) ?_ | refine rt_eq (q_X12_briefs_2) ?_ | refine rt_eq (q_X12_briefs_14) ?_ | refine rt_eq (q_X12_briefs_53) ?_)
    refine rt_t (by decide) ?_
    exact go I' hf hl
  | q + 1, j, I', hj, hf, hl => by
    have ih := lp_br14 go q (j + 1)
    (first | refine rt_eq (q_X12_briefs_0) ?_ | refine rt_eq (q_X12_briefs_2) ?_ | refine rt_eq (q_X12_briefs_14) ?_ | refine rt_eq (q_X12_briefs_53) ?_)
    refine rt_f (by (try simp (disch := omega) only [nI_leI, nI_ltI, nI_eq, nI_add, pk_mul, n_0add, Nat.zero_add, nI_clamp]) <;> omega) (rt_gd (inb_n (by omega) (by decide)) ?_)
    rw [nI_clamp (by omega), nI_add]
    refine ih _ (by omega) (fr_up hf rfl) ?_
    intro c hc
    rw [up2_at]
    by_cases z : c = j
    · rw [if_pos z]
    · rw [if_neg z]
      exact hl c (by omega)
def brA (o : Option (Nat × List Nat)) : Int32 := match o with
  | none => -1
  | some y => nI y.1
theorem lp_briefs (ok : HOK h) (W : wfC cd nL 0 0) (hf : f < h 0 2) (hn : N 29 = nI (nv (N 29)) ∧ nv (N 29) ≤ 99) (C : BX I h m nL cd N) : ∀ q k I' u3, k + q = h 0 0 + 1 → Fr fBr I I' → (∀ i, i < k → sE h m nL cd N f i 0 none (nv (N 29)) = none) → Rt L X (c_X12_briefs_2 (d + 14) L X I' J (nI f) (nI k) u3) (some (.int (brA (shN h m nL cd N f (h 0 0 + 1) 0 none (nv (N 29)))))) (fun I'' J' => (Fr fBr I I'' ∧ ∀ y, shN h m nL cd N f (h 0 0 + 1) 0 none (nv (N 29)) = some y → ∀ i, i < y.1 → I'' 624 i = nI (y.2.getD i 0)) ∧ J' = J)
  | 0, k, I', u3, hk, hfr, hno => by
    have h6 := ok.1
    have C' := BX_fr C ok hfr
    have e : shN h m nL cd N f (h 0 0 + 1) 0 none (nv (N 29)) = none := shN_none.mpr (fun i hi => hno i (by omega))
    (first | refine rt_eq (q_X12_briefs_0) ?_ | refine rt_eq (q_X12_briefs_2) ?_ | refine rt_eq (q_X12_briefs_14) ?_ | refine rt_eq (q_X12_briefs_53) ?_)
    rw [C'.1.1, e]
    refine rt_t (by (try simp (disch := omega) only [nI_leI, nI_ltI, nI_eq, nI_add, pk_mul, n_0add, Nat.zero_add, nI_clamp]) <;> omega) ?_
    exact rt_ret ⟨⟨hfr, fun y e => by cases e⟩, rfl⟩
  | q + 1, k, I', u3, hk, hfr, hno => by
    have go := lp_briefs ok W hf hn C q (k + 1)
    have h6 := ok.1
    have C' := BX_fr C ok hfr
    (first | refine rt_eq (q_X12_briefs_0) ?_ | refine rt_eq (q_X12_briefs_2) ?_ | refine rt_eq (q_X12_briefs_14) ?_ | refine rt_eq (q_X12_briefs_53) ?_)
    rw [C'.1.1]
    refine rt_f (by (try simp (disch := omega) only [nI_leI, nI_ltI, nI_eq, nI_add, pk_mul, n_0add, Nat.zero_add, nI_clamp]) <;> omega) ?_
    refine lp_br14 (fun I2 f2 z2 => ?_) 2816 0 I' (by omega) fr_rfl (fun c hc => absurd hc (Nat.not_lt_zero c))
    have fr2 : Fr fBr I I2 := fr_tr hfr (fr_mono f2 (by decide))
    have C2 := BX_fr C ok fr2
    have T2 : TrI h m nL cd N f k I2 := fun u fl l h1 h2 h3 h4 => by
      have p6 := pow6 ok
      have a1 := ft_le ok h3
      rw [z2 _ (by omega), b_n (by omega), Nat.zero_testBit] at h4
      cases h4
    rw [C2.2.2]
    have eln : lnN h 0 = 0 := by
      unfold lnN accF accF accF accF accF accF accF
      simp [tb]
    have hb := sp_isBrief (d := d + 7 - k) (L := L) (X := X) (J := J) ok W hf (show k ≤ 6 by omega) k 0 none (nv (N 29)) I2 (by rw [show pcN 0 = 0 from rfl]; omega) (Nat.two_pow_pos _) lOK_n hn.2 C2 T2
    rw [show d + 7 - k + k + 7 = d + 14 by omega, show pcN 0 = 0 from rfl, eln, ← hn.1] at hb
    refine rt_bnd hb ?_
    rintro I3 J3 ⟨⟨r1, r2, r3, r4⟩, rfl⟩
    (first | refine rt_eq (q_X12_briefs_0) ?_ | refine rt_eq (q_X12_briefs_2) ?_ | refine rt_eq (q_X12_briefs_14) ?_ | refine rt_eq (q_X12_briefs_53) ?_)
    have fr3 : Fr fBr I I3 := fr_tr fr2 r1
    rcases hs : sE h m nL cd N f k 0 none (nv (N 29)) with _ | s
    · refine rt_t rfl ?_
      rw [nI_add]
      refine go I3 _ (by omega) fr3 ?_
      intro i hi
      rcases Nat.eq_or_lt_of_le (Nat.le_of_lt_succ hi) with e | e
      · rw [e]
        exact hs
      · exact hno i e
    · refine rt_f (show ¬ bI true = nI 0 by decide) ?_
      have e : shN h m nL cd N f (h 0 0 + 1) 0 none (nv (N 29)) = some (k, s) := shN_some.mpr ⟨by omega, hs, fun i hi => hno i hi⟩
      rw [e]
      refine rt_ret ⟨⟨fr3, ?_⟩, rfl⟩
      intro y ey i hi
      cases ey
      have := r4 s hs i (by rw [sE_len _ _ _ _ _ hs]; exact hi)
      rw [Nat.zero_add] at this
      exact this
theorem shN_7 (ok : HOK h) {u fl : Nat} {l : Option Nat} (hu : u < 2 ^ h 0 0) (h0 : pcN u = 0) : shN h m nL cd N f 7 u l fl = shN h m nL cd N f (h 0 0 + 1) u l fl := by
  have h6 := ok.1
  rcases hs : shN h m nL cd N f (h 0 0 + 1) u l fl with _ | ⟨k, s⟩
  · rw [shN_none] at hs ⊢
    intro i hi
    rcases Nat.lt_or_ge i (h 0 0 + 1) with z | z
    · exact hs i z
    · exact sE_far ok i u l fl hu (by omega)
  · rw [shN_some] at hs ⊢
    exact ⟨by omega, hs.2.1, hs.2.2⟩
theorem sp_briefs (ok : HOK h) (W : wfC cd nL 0 0) (hf : f < h 0 2) (hn : N 29 = nI (nv (N 29)) ∧ nv (N 29) ≤ 99) (C : BX I h m nL cd N) : Rt L X (runM (d + 15) nX12_briefs [.ref 72, .int (nI f)] (mm L X I J)) (some (.int (brA (shN h m nL cd N f 7 0 none (nv (N 29)))))) (fun I'' J' => (Fr fBr I I'' ∧ ∀ y, shN h m nL cd N f 7 0 none (nv (N 29)) = some y → ∀ i, i < y.1 → I'' 624 i = nI (y.2.getD i 0)) ∧ J' = J) := by
  rw [shN_7 ok (Nat.two_pow_pos _) rfl, e_X12_briefs]
  (first | refine rt_eq (q_X12_briefs_0) ?_ | refine rt_eq (q_X12_briefs_2) ?_ | refine rt_eq (q_X12_briefs_14) ?_ | refine rt_eq (q_X12_briefs_53) ?_)
  exact lp_briefs ok W hf hn C (h 0 0 + 1) 0 I _ (by omega) fr_rfl (fun i hi => absurd hi (Nat.not_lt_zero i))
end BM
