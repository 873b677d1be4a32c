/-! THE LAW'S START: where it ends, both states hold together; the law runs -/
def rD : List Ev → Nat → Nat → Option Nat
  | [] => fun _ _ => none
  | e :: E => if e.1 = 0 then up1 (rD E) e.2.1 (fun _ => none) else if e.1 = 1 then up1 (rD E) e.2.1 (fun i => if i < e.2.2.1 then some (e.2.1 + 1 + i) else none) else if e.1 = 2 then up2 (rD E) e.2.1 e.2.2.1 (some e.2.2.2.1) else rD E
theorem rD_ok (a k : Nat) : ∀ E, rE E a k = rD E a k
  | [] => rfl
  | e :: E => by
    have ih := rD_ok a k E
    unfold rE rD
    by_cases c0 : e.1 = 0
    · rw [if_pos c0, if_pos c0]
      by_cases q : a = e.2.1
      · rw [if_pos q, q, up1_s]
      · rw [if_neg q, up1_n q, ih]
    · rw [if_neg c0, if_neg c0]
      by_cases c1 : e.1 = 1
      · rw [if_pos c1, if_pos c1]
        by_cases q : a = e.2.1
        · rw [if_pos q, q, up1_s]
        · rw [if_neg q, up1_n q, ih]
      · rw [if_neg c1, if_neg c1]
        by_cases c2 : e.1 = 2
        · rw [if_pos c2, if_pos c2, ih]
          rfl
        · rw [if_neg c2, if_neg c2, ih]
set_option maxRecDepth 100000 in
theorem rD_EF : rD EF = R0 := rfl
/-- a cell that is zero everywhere -/
def zE (a : Nat) : List Ev → Bool
  | [] => false
  | e :: E => if e.1 = 0 then (if a = e.2.1 then true else zE a E) else if e.1 = 1 then (if e.2.1 < a ∧ a ≤ e.2.1 + e.2.2.1 then true else zE a E) else if e.1 = 2 then zE a E else (if a = e.2.1 then false else zE a E)
theorem zE_ok {a : Nat} (k : Nat) : ∀ E, zE a E = true → iE E a k = some 0
  | [], h => by cases h
  | e :: E, h => by
    unfold zE at h
    unfold iE
    by_cases c0 : e.1 = 0
    · rw [if_pos c0] at h ⊢
      by_cases q : a = e.2.1
      · rw [if_pos q]
      · rw [if_neg q] at h ⊢
        exact zE_ok k E h
    · rw [if_neg c0] at h ⊢
      by_cases c1 : e.1 = 1
      · rw [if_pos c1] at h ⊢
        by_cases q : e.2.1 < a ∧ a ≤ e.2.1 + e.2.2.1
        · rw [if_pos q]
        · rw [if_neg q] at h ⊢
          exact zE_ok k E h
      · rw [if_neg c1] at h ⊢
        by_cases c2 : e.1 = 2
        · rw [if_pos c2] at h ⊢
          exact zE_ok k E h
        · rw [if_neg c2] at h ⊢
          by_cases q : a = e.2.1
          · rw [if_pos q] at h
            cases h
          · rw [if_neg q] at h
            rw [if_neg (fun x => q x.1)]
            exact zE_ok k E h
theorem inv_0 {I : MI32} {L : Nat} {xs : Nat → Int32} (q : ∀ a k v, iE EF a k = some v → I a k = v) (g : ∀ a k, XB ≤ a → I a k = mI (m00 L xs) a k) : Inv I := by
  have z : ∀ a, zE a EF = true → ∀ k, I a k = nI 0 := fun a h k => q a k 0 (zE_ok k EF h)
  have n1 : ∀ k, k < 31 → I 533 k = nt0 (nI 60) k := by
    intro k hk
    have : ∀ k, k < 31 → iE EF 533 k = some (nt0 (nI 60) k) := by decide +kernel
    exact q _ _ _ (this k hk)
  have a3 : ∀ k, k < 3 → I 3 k = nI 0 := by
    intro k hk
    have : ∀ k, k < 3 → iE EF 3 k = some (nI 0) := by decide +kernel
    exact q _ _ _ (this k hk)
  have a76 : ∀ k, k < 3 → I 76 k = nI 0 := by
    intro k hk
    have : ∀ k, k < 3 → iE EF 76 k = some (nI 0) := by decide +kernel
    exact q _ _ _ (this k hk)
  have a12 : ∀ k, k < 10 → I 12 k = nI (2 ^ k) := by
    intro k hk
    have : ∀ k, k < 10 → iE EF 12 k = some (nI (2 ^ k)) := by decide +kernel
    exact q _ _ _ (this k hk)
  have a24 : ∀ k, k < 11 → I 24 k = nI (encC (cd0 k)) := by
    intro k hk
    have : ∀ k, k < 11 → iE EF 24 k = some (nI (encC (cd0 k))) := by decide +kernel
    exact q _ _ _ (this k hk)
  have a32 : ∀ k, k < 6 → I 32 k = -1 := by
    intro k hk
    have : ∀ k, k < 6 → iE EF 32 k = some (-1) := by decide +kernel
    exact q _ _ _ (this k hk)
  have hHC : HC I h00 (h00 0 1) := by
    refine ⟨a3 0 (by decide), a3 1 (by decide), a3 2 (by decide), fun p hp => absurd hp (Nat.not_lt_zero _), fun p hp => absurd hp (Nat.not_lt_zero _), fun p hp => absurd hp (Nat.not_lt_zero _), fun t ht => ?_⟩
    have := kin_0 t ht
    show I 12 t = nI (bitsN (jn h00 0 t) 10)
    rw [this]
    exact a12 t ht
  have hHM : HM I h00 (h00 0 1) := ⟨a76 0 (by decide), a76 1 (by decide), a76 2 (by decide), q 72 39 _ (by decide +kernel), by decide, fun p hp => absurd hp (Nat.not_lt_zero _), fun p hp => absurd hp (Nat.not_lt_zero _), fun p hp => absurd hp (Nat.not_lt_zero _)⟩
  have hLC : LawC I 11 cd0 := ⟨q 23 1 _ (by decide +kernel), by decide, a24⟩
  have hLM : LawM I 11 cd0 := .inr ⟨q 72 19 _ (by decide +kernel), rfl, fun _ _ => rfl⟩
  have hCa : Calm I := ⟨q 52 5 _ (by decide +kernel), fun k _ => z 54 (by decide +kernel) k, fun k _ => z 55 (by decide +kernel) k⟩
  have hN0 : NC I 43 0 (nt0 (nI 60)) := by
    refine ⟨q 43 5 _ (by decide +kernel), fun k hk => absurd hk (Nat.not_lt_zero _), ?_, ?_, ?_, q 43 7 _ (by decide +kernel), q 43 6 _ (by decide +kernel), 0, by decide, q 43 4 _ (by decide +kernel), by decide +kernel⟩
    · intro k hk
      have : ∀ k, k < 6 → iE EF 45 k = some (nt0 (nI 60) (12 + k)) := by decide +kernel
      exact q _ _ _ (this k hk)
    · intro k hk
      have : ∀ k, k < 6 → iE EF 46 k = some (nt0 (nI 60) (18 + k)) := by decide +kernel
      exact q _ _ _ (this k hk)
    · intro k hk
      have : ∀ k, k < 5 → iE EF 47 k = some (nt0 (nI 60) (24 + k)) := by decide +kernel
      exact q _ _ _ (this k hk)
  have hNC : NC I 43 0 (I 533) := NC_cong (by decide) hN0 n1
  have hSO : SO I := by
    intro a ha k hk
    rcases ha with rfl | rfl | rfl
    · rw [g 1000003 k (by decide)]
      have e : mI (m00 L xs) 1000003 k = (bytS.getD 0 []).getD k 0 := rfl
      rw [e]
      have : ∀ k, k < 23 → (bytS.getD 0 []).getD k 0 = nI ((flt (wdS 1000002)).getD k 0) := by decide +kernel
      exact this k hk
    · rw [g 1000005 k (by decide)]
      have e : mI (m00 L xs) 1000005 k = (bytS.getD 1 []).getD k 0 := rfl
      rw [e]
      have : ∀ k, k < 64 → (bytS.getD 1 []).getD k 0 = nI ((flt (wdS 1000004)).getD k 0) := by decide +kernel
      exact this k hk
    · rw [g 1000007 k (by decide)]
      have e : mI (m00 L xs) 1000007 k = (bytS.getD 2 []).getD k 0 := rfl
      rw [e]
      have : ∀ k, k < 47 → (bytS.getD 2 []).getD k 0 = nI ((flt (wdS 1000006)).getD k 0) := by decide +kernel
      exact this k hk
  have hUT : UT I := by
    intro k hk
    rw [g 1000001 k (by decide)]
    have e : mI (m00 L xs) 1000001 k = untL.getD k 0 := rfl
    rw [e]
    have : ∀ k, k < 11 → untL.getD k 0 = nI (encC (cd0 k)) := by decide +kernel
    exact this k hk
  have hBC : BC I (fun _ => 0) := fun k _ => ⟨by rw [z 2 (by decide +kernel) k]; show nI 0 &&& nI 255 = nI 0; decide, show 0 < 256 by decide⟩
  have hBM : BM I (fun _ => 0) := fun k _ => z 73 (by decide +kernel) k
  have hNR : NR (h00 0 0) 0 (I 533) := NR_cong (NR_nt0 (by decide)) n1
  have hNX : NX (h00 0 0) (h00 0 2) (I 533) := NX_cong (NX_nt0 (by decide)) n1
  refine ⟨h00, 11, cd0, 0, I 533, fun _ => 0, 0, 0, fun _ => (0, fun _ => 0), 0, fun _ => (0, (0, fun _ => 0), fun _ => (0, fun _ => 0)), 0, fun _ => (0, 0), fun _ => none, -1, 0, 0, 0, ?_, ?_, ?_, ?_⟩
  · exact ⟨⟨hHC, hLC, hCa⟩, hNC, hSO, hUT, hBC, q 1 1 _ (by decide +kernel), q 1 3 _ (by decide +kernel), q 37 7 _ (by decide +kernel), q 0 14 _ (by decide +kernel), q 0 15 _ (by decide +kernel), ⟨q 31 0 _ (by decide +kernel), a32⟩, ⟨q 48 3 _ (by decide +kernel), by decide, fun i hi => absurd hi (Nat.not_lt_zero _)⟩, ⟨q 48 4 _ (by decide +kernel), by decide, fun i hi => absurd hi (Nat.not_lt_zero _)⟩⟩
  · exact ⟨.inl (q 56 4 _ (by decide +kernel)), .inl (q 56 8 _ (by decide +kernel)), fun f hf => absurd hf (Nat.not_lt_zero _), q 63 0 _ (by decide +kernel)⟩
  · exact ⟨⟨hHM, hLM⟩, rfl, hBM, q 72 1 _ (by decide +kernel), q 72 3 _ (by decide +kernel), q 72 36 _ (by decide +kernel), q 74 0 _ (by decide +kernel), q 74 1 _ (by decide +kernel), ⟨q 72 34 _ (by decide +kernel), by decide, fun i hi => absurd hi (Nat.not_lt_zero _)⟩, ⟨q 72 35 _ (by decide +kernel), fun i hi => absurd hi (Nat.not_lt_zero _)⟩, ⟨q 72 37 _ (by decide +kernel), fun i hi => absurd hi (Nat.not_lt_zero _)⟩⟩
  · exact ⟨hOK_0.1, wf_0, hNR, hNX, by decide, fun _ _ => show 0 < 256 by decide, ⟨fun i hi => absurd hi (Nat.not_lt_zero _), fun k v _ h => by cases h⟩, fun i hi => absurd hi (Nat.not_lt_zero _), fun i hi => absurd hi (Nat.not_lt_zero _)⟩
theorem K0_len : K0.length = 633 := by decide +kernel
theorem K0_sum : (K0.map szK).sum ≤ 7000000 := by decide +kernel
theorem LawRuns_so : LawRuns := by
  intro L xs hL
  have hU : ∀ k, mI (m00 L xs) (XB + 1) k = untL.getD k 0 := fun k => rfl
  have H0 : WE (m00 L xs) ([], []) := ⟨rfl, rfl, rfl, fun _ _ => rfl, fun _ _ _ h => (by cases h), fun _ _ _ => rfl⟩
  obtain ⟨e1, e2⟩ := dUn_ok (mi := iLaw) (rs := rs_L_law_) (stop := 23) hU (dM_ok hU tbD_ok 1000) rk_L_law_ 3000 (0, entL [.ref XB] 8, [], ([], [])) _ H0 (cF_ok run0)
  obtain ⟨f1, f2, f3, f4, f5, f6⟩ := e2
  have e3 : den (m00 L xs) EF = mm L 0 (mI (den (m00 L xs) EF)) (mJ (den (m00 L xs) EF)) := by
    have hR : mR (den (m00 L xs) EF) = R0 := by
      funext a k
      have := f4 a k
      rw [rD_ok, rD_EF] at this
      exact this
    exact Prod.ext f3 (Prod.ext f2 (Prod.ext f1 (Prod.ext hR rfl)))
  have hI : Inv (mI (den (m00 L xs) EF)) := inv_0 f5 f6
  obtain ⟨X', I', J', g1, g2⟩ := lp_law hL (L + 10) 0 0 (mI (den (m00 L xs) EF)) (mJ (den (m00 L xs) EF)) none none none (by omega) hI (by omega) (by omega)
  refine ⟨mm L X' I' J', ?_, ?_, ?_⟩
  · have e4 : runI (runM 1000) iLaw (0, entL [.ref XB] 8, [], m00 L xs) = runI (runM 1000) iLaw (23, L0D, [], den (m00 L xs) EF) := e1
    rw [e4, e3]
    exact g1
  · show K0.length + X' ≤ 601024
    rw [K0_len]
    omega
  · show (K0.map szK).sum + 6 * X' ≤ 7293034
    have := K0_sum
    omega
