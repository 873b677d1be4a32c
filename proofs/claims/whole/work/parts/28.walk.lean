/-! MORE STEPS OF THE ABSTRACT MACHINE (head by hand, constants by gen_eq.py) -/
def okv (u : Option Value) : Bool := match u with
  | some v => v.category == 1
  | none => true
def nz (y : Int32) : Bool := !decide (y = 0)
def b01 (x : Int32) : Bool := decide (x = 0 ∨ x = 1)
def cpok (sp dp cn : Int32) (n0 n1 : Nat) : Bool := decide (¬ sp < 0 ∧ ¬ dp < 0 ∧ ¬ cn < 0 ∧ sp.toNatClampNeg + cn.toNatClampNeg ≤ n0 ∧ dp.toNatClampNeg + cn.toNatClampNeg ≤ n1)
section EX2
variable {call : CALL} {mi : MI} {pc n : Nat} {L : List (Option Value)} {st : List Value} {m : AM} {x y : Int32} {z : Int}
theorem xiconst (hd : decode mi.2.1 pc = .ok (.iconst z, 1)) (hz : Int32.ofInt z = x) : runI call mi (pc, L, st, m) = runI call mi (pc + 1, L, .int x :: st, m) := by
  subst hz
  exact st1 hd rfl rfl
theorem xbipush (hd : decode mi.2.1 pc = .ok (.bipush z, 2)) (hz : (Int8.ofInt z).toInt32 = x) : runI call mi (pc, L, st, m) = runI call mi (pc + 2, L, .int x :: st, m) := by
  subst hz
  exact st1 hd rfl rfl
theorem xsipush (hd : decode mi.2.1 pc = .ok (.sipush z, 3)) (hz : (Int16.ofInt z).toInt32 = x) : runI call mi (pc, L, st, m) = runI call mi (pc + 3, L, .int x :: st, m) := by
  subst hz
  exact st1 hd rfl rfl
theorem xldc1 {idx v b c : Nat} (hd : decode mi.2.1 pc = .ok (.ldc idx, 2)) (hc : cp mi.1 idx = some (14, v, b, c)) (hz : Int32.ofNat v = x) : runI call mi (pc, L, st, m) = runI call mi (pc + 2, L, .int x :: st, m) := by
  subst hz
  refine st1 hd rfl ?_
  show xldc mi.1 (pc + 2) L st m idx false = _
  unfold xldc
  simp only [hc]
  rfl
theorem xldc2 {idx v b c : Nat} (hd : decode mi.2.1 pc = .ok (.ldc_w idx, 3)) (hc : cp mi.1 idx = some (14, v, b, c)) (hz : Int32.ofNat v = x) : runI call mi (pc, L, st, m) = runI call mi (pc + 3, L, .int x :: st, m) := by
  subst hz
  refine st1 hd rfl ?_
  show xldc mi.1 (pc + 3) L st m idx true = _
  unfold xldc
  simp only [hc]
  rfl
theorem xst1 {k : Fin 4} (hd : decode mi.2.1 pc = .ok (.istore_n k, 1)) (hu : okSt L k.val = true) (hk : Nat.blt k.val L.length = true) : runI call mi (pc, L, .int x :: st, m) = runI call mi (pc + 1, L.set k.val (some (.int x)), st, m) := by
  refine st1 hd rfl ?_
  show (if 0 = 0 ∧ k.val < L.length ∧ okSt L k.val = true then _ else none) = _
  rw [if_pos ⟨rfl, by simpa [Nat.blt_eq] using hk, hu⟩]
  rfl
theorem xst2 {k : Nat} (hd : decode mi.2.1 pc = .ok (.istore k, 2)) (hu : okSt L k = true) (hk : Nat.blt k L.length = true) : runI call mi (pc, L, .int x :: st, m) = runI call mi (pc + 2, L.set k (some (.int x)), st, m) := by
  refine st1 hd rfl ?_
  show (if 0 = 0 ∧ k < L.length ∧ okSt L k = true then _ else none) = _
  rw [if_pos ⟨rfl, by simpa [Nat.blt_eq] using hk, hu⟩]
  rfl
theorem xinc2 {k : Nat} (hd : decode mi.2.1 pc = .ok (.iinc k z, 3)) (hz : Int32.ofInt z = y) (hl : ld L k = some (.int x)) (hk : k < L.length) (hu : okSt L k = true) : runI call mi (pc, L, st, m) = runI call mi (pc + 3, L.set k (some (.int (x + y))), st, m) := by
  subst hz
  refine st1 hd rfl ?_
  show xinc (pc + 3) L st m k z = _
  unfold xinc
  rw [hl]
  exact if_pos ⟨hk, hu⟩
theorem idivg_aux {α : Type} {p : Prop} [Decidable p] {u : Option α} {b : Bool} (h : b = true ↔ ¬ p) : (if p then none else u) = if b = true then u else none := by
  by_cases hp : p
  · rw [if_pos hp, if_neg (fun q => h.mp q hp)]
  · rw [if_neg hp, if_pos (h.mpr hp)]
theorem nz_iff {y : Int32} : nz y = true ↔ ¬ y = 0 := by
  simp [nz]
theorem idvg (hd : decode mi.2.1 pc = .ok (.idiv, 1)) : runI call mi (pc, L, .int y :: .int x :: st, m) = gd (nz y) (runI call mi (pc + 1, L, .int (x / y) :: st, m)) := by
  refine stG hd rfl ?_
  exact idivg_aux nz_iff
theorem irmg (hd : decode mi.2.1 pc = .ok (.irem, 1)) : runI call mi (pc, L, .int y :: .int x :: st, m) = gd (nz y) (runI call mi (pc + 1, L, .int (x - x / y * y) :: st, m)) := by
  refine stG hd rfl ?_
  exact idivg_aux nz_iff
theorem ret1g (hd : decode mi.2.1 pc = .ok (.ireturn, 1)) (ht : mi.2.2.1 = 1) : runI call mi (pc, L, [.int x], m) = gd (b01 x) (some (.inl (some (.int x)), m)) := by
  by_cases hx : x = 0 ∨ x = 1
  · rw [ret1 hd ht hx, gd_t (by simpa [b01] using hx)]
  · rw [runI_eq, st_of hd rfl]
    have he : exec1 call mi pc 1 L [.int x] m .ireturn = none := by
      show xret mi.2.2.1 [.int x] m = none
      unfold xret
      dsimp only
      rw [ht]
      refine if_neg ?_
      rintro (h | ⟨-, h⟩ | ⟨h, -⟩ | ⟨h, -⟩)
      · exact absurd h (by decide)
      · exact hx h
      · exact absurd h (by decide)
      · exact absurd h (by decide)
    rw [he]
    unfold gd
    rw [if_neg (by simpa [b01] using hx)]
theorem alen2 {t a nn : Nat} (hd : decode mi.2.1 pc = .ok (.arraylength, 1)) (hk : kd m a = some (t, nn)) (ha : (a < XB ∧ (t = 1 ∨ t = 2 ∨ t = 3 ∨ t = 4)) ∨ (XB ≤ a ∧ (t = 5 ∨ t = 7))) (hz : Int32.ofNat nn = x) : runI call mi (pc, L, .ref a :: st, m) = runI call mi (pc + 1, L, .int x :: st, m) := by
  subst hz
  exact alen hd hk ha
theorem putBg {idx ci k w a : Nat} (hd : decode mi.2.1 pc = .ok (.putfield idx, 3)) (hc : cp mi.1 idx = some (0, ci, k, w)) (hk : kd m a = some (0, ci)) (ha : a < XB) (hf : fk ci k = 3) : runI call mi (pc, L, .int x :: .ref a :: st, m) = gd (b01 x) (runI call mi (pc + 3, L, st, sI m a k x)) := by
  refine stG hd rfl ?_
  show xput mi.1 mi.2.2.1 pc L (.int x :: .ref a :: st) m idx = _
  unfold xput
  simp only [hc]
  by_cases hx : x = 0 ∨ x = 1
  · rw [if_pos (⟨hk, ha, .inr ⟨hf, hx⟩⟩ : kd m a = some (0, ci) ∧ a < XB ∧ (fk ci k = 0 ∨ fk ci k = 3 ∧ (x = 0 ∨ x = 1))), if_pos (by simpa [b01] using hx)]
    rfl
  · rw [if_neg (fun h => h.2.2.elim (fun q => absurd (hf.symm.trans q) (by decide)) (fun q => hx q.2)), if_neg (by simpa [b01] using hx)]
theorem icpyg {idx b c z a a0 n0 n1 : Nat} {sp dp cn : Int32} (hd : decode mi.2.1 pc = .ok (.invokestatic idx, 3)) (hc : cp mi.1 idx = some (7, b, c, z)) (hk0 : kd m a0 = some (1, n0)) (hk : kd m a = some (1, n1)) (ha : a < XB) (ha0 : a0 < XB) (hw : wds st ≤ 8) : runI call mi (pc, L, .int cn :: .int dp :: .ref a :: .int sp :: .ref a0 :: st, m) = gd (cpok sp dp cn n0 n1) (runI call mi (pc + 3, L, st, sIc m a (va_cpy (mI m a0) (mI m a) sp.toNatClampNeg dp.toNatClampNeg cn.toNatClampNeg))) := by
  refine stG hd rfl ?_
  show xis call mi pc L (.int cn :: .int dp :: .ref a :: .int sp :: .ref a0 :: st) m idx = _
  unfold xis
  simp only [hc]
  unfold xcpy
  simp only [hk0, hk]
  by_cases hx : cpok sp dp cn n0 n1 = true
  · rw [if_pos hx]
    have h2 := of_decide_eq_true hx
    exact if_pos ⟨ha, ha0, h2.1, h2.2.1, h2.2.2.1, h2.2.2.2.1, h2.2.2.2.2, hw⟩
  · rw [if_neg hx]
    exact if_neg (fun h => hx (decide_eq_true ⟨h.2.2.1, h.2.2.2.1, h.2.2.2.2.1, h.2.2.2.2.2.1, h.2.2.2.2.2.2.1⟩))
end EX2
theorem cb_6 : (Int8.ofInt 6).toInt32 = (6 : Int32) := by decide +kernel
theorem ci_0 : Int32.ofInt 0 = (0 : Int32) := by decide +kernel
theorem ci_1 : Int32.ofInt 1 = (1 : Int32) := by decide +kernel
theorem ci_2 : Int32.ofInt 2 = (2 : Int32) := by decide +kernel
theorem ci_m1 : Int32.ofInt (-1) = (-1 : Int32) := by decide +kernel
