/-! MORE STEPS OF THE ABSTRACT MACHINE (head by hand, constants by gen_eq.py) -/
def okv (u : Option Value) : Bool := match u with
  | some v => v.category == 1
  | none => true
def nz (y : Int32) : Bool := !decide (y = 0)
def b01 (x : Int32) : Bool := decide (x = 0 ∨ x = 1)
def cpok (sp dp cn : Int32) (n0 n1 : Nat) : Bool := decide (¬ sp < 0 ∧ ¬ dp < 0 ∧ ¬ cn < 0 ∧ sp.toNatClampNeg + cn.toNatClampNeg ≤ n0 ∧ dp.toNatClampNeg + cn.toNatClampNeg ≤ n1)
section EX2
variable {call : CALL} {mi : MI} {pc n : Nat} {L : List (Option Value)} {st : List Value} {m : AM} {x y : Int32} {z : Int}
theorem xiconst (hd : decode mi.2.1 pc = .ok (.iconst z, 1)) (hz : Int32.ofInt z = x) : runI call mi (pc, L, st, m) = runI call mi (pc + 1, L, .int x :: st, m) := by
  subst hz
  exact st1 hd rfl rfl
theorem xbipush (hd : decode mi.2.1 pc = .ok (.bipush z, 2)) (hz : (Int8.ofInt z).toInt32 = x) : runI call mi (pc, L, st, m) = runI call mi (pc + 2, L, .int x :: st, m) := by
  subst hz
  exact st1 hd rfl rfl
theorem xsipush (hd : decode mi.2.1 pc = .ok (.sipush z, 3)) (hz : (Int16.ofInt z).toInt32 = x) : runI call mi (pc, L, st, m) = runI call mi (pc + 3, L, .int x :: st, m) := by
  subst hz
  exact st1 hd rfl rfl
theorem xldc1 {idx v b c : Nat} (hd : decode mi.2.1 pc = .ok (.ldc idx, 2)) (hc : cp mi.1 idx = some (14, v, b, c)) (hz : Int32.ofNat v = x) : runI call mi (pc, L, st, m) = runI call mi (pc + 2, L, .int x :: st, m) := by
  subst hz
  refine st1 hd rfl ?_
  show xldc mi.1 (pc + 2) L st m idx false = _
  unfold xldc
  simp only [hc]
  rfl
theorem xldc2 {idx v b c : Nat} (hd : decode mi.2.1 pc = .ok (.ldc_w idx, 3)) (hc : cp mi.1 idx = some (14, v, b, c)) (hz : Int32.ofNat v = x) : runI call mi (pc, L, st, m) = runI call mi (pc + 3, L, .int x :: st, m) := by
  subst hz
  refine st1 hd rfl ?_
  show xldc mi.1 (pc + 3) L st m idx true = _
  unfold xldc
  simp only [hc]
  rfl
theorem xst1 {k : Fin 4} (hd : decode mi.2.1 pc = .ok (.istore_n k, 1)) (hu : okSt L k.val = true) (hk : Nat.blt k.val L.length = true) : runI call mi (pc, L, .int x :: st, m) = runI call mi (pc + 1, L.set k.val (some (.int x)), st, m) := by
  refine st1 hd rfl ?_
  show (if 0 = 0 ∧ k.val < L.length ∧ okSt L k.val = true then _ else none) = _
  rw [if_pos ⟨rfl, by simpa [Nat.blt_eq] using hk, hu⟩]
  rfl
theorem xst2 {k : Nat} (hd : decode mi.2.1 pc = .ok (.istore k, 2)) (hu : okSt L k = true) (hk : Nat.blt k L.length = true) : runI call mi (pc, L, .int x :: st, m) = runI call mi (pc + 2, L.set k (some (.int x)), st, m) := by
  refine st1 hd rfl ?_
  show (if 0 = 0 ∧ k < L.length ∧ okSt L k = true then _ else none) = _
  rw [if_pos ⟨rfl, by simpa [Nat.blt_eq] using hk, hu⟩]
  rfl
theorem xinc2 {k : Nat} (hd : decode mi.2.1 pc = .ok (.iinc k z, 3)) (hz : Int32.ofInt z = y) (hl : ld L k = some (.int x)) (hk : k < L.length) (hu : okSt L k = true) : runI call mi (pc, L, st, m) = runI call mi (pc + 3, L.set k (some (.int (x + y))), st, m) := by
  subst hz
  refine st1 hd rfl ?_
  show xinc (pc + 3) L st m k z = _
  unfold xinc
  rw [hl]
  exact if_pos ⟨hk, hu⟩
theorem idivg_aux {α : Type} {p : Prop} [Decidable p] {u : Option α} {b : Bool} (h : b = true ↔ ¬ p) : (if p then none else u) = if b = true then u else none := by
  by_cases hp : p
  · rw [if_pos hp, if_neg (fun q => h.mp q hp)]
  · rw [if_neg hp, if_pos (h.mpr hp)]
theorem nz_iff {y : Int32} : nz y = true ↔ ¬ y = 0 := by
  simp [nz]
theorem idvg (hd : decode mi.2.1 pc = .ok (.idiv, 1)) : runI call mi (pc, L, .int y :: .int x :: st, m) = gd (nz y) (runI call mi (pc + 1, L, .int (x / y) :: st, m)) := by
  refine stG hd rfl ?_
  exact idivg_aux nz_iff
theorem irmg (hd : decode mi.2.1 pc = .ok (.irem, 1)) : runI call mi (pc, L, .int y :: .int x :: st, m) = gd (nz y) (runI call mi (pc + 1, L, .int (x - x / y * y) :: st, m)) := by
  refine stG hd rfl ?_
  exact idivg_aux nz_iff
theorem ret1g (hd : decode mi.2.1 pc = .ok (.ireturn, 1)) (ht : mi.2.2.1 = 1) : runI call mi (pc, L, [.int x], m) = gd (b01 x) (some (.inl (some (.int x)), m)) := by
  by_cases hx : x = 0 ∨ x = 1
  · rw [ret1 hd ht hx, gd_t (by simpa [b01] using hx)]
  · rw [runI_eq, st_of hd rfl]
    have he : exec1 call mi pc 1 L [.int x] m .ireturn = none := by
      show xret mi.2.2.1 [.int x] m = none
      unfold xret
      dsimp only
      rw [ht]
      refine if_neg ?_
      rintro (h | ⟨-, h⟩ | ⟨h, -⟩ | ⟨h, -⟩)
      · exact absurd h (by decide)
      · exact hx h
      · exact absurd h (by decide)
      · exact absurd h (by decide)
    rw [he]
    unfold gd
    rw [if_neg (by simpa [b01] using hx)]
theorem alen2 {t a nn : Nat} (hd : decode mi.2.1 pc = .ok (.arraylength, 1)) (hk : kd m a = some (t, nn)) (ha : (a < XB ∧ (t = 1 ∨ t = 2 ∨ t = 3 ∨ t = 4)) ∨ (XB ≤ a ∧ (t = 5 ∨ t = 7))) (hz : Int32.ofNat nn = x) : runI call mi (pc, L, .ref a :: st, m) = runI call mi (pc + 1, L, .int x :: st, m) := by
  subst hz
  exact alen hd hk ha
theorem putBg {idx ci k w a : Nat} (hd : decode mi.2.1 pc = .ok (.putfield idx, 3)) (hc : cp mi.1 idx = some (0, ci, k, w)) (hk : kd m a = some (0, ci)) (ha : a < XB) (hf : fk ci k = 3) : runI call mi (pc, L, .int x :: .ref a :: st, m) = gd (b01 x) (runI call mi (pc + 3, L, st, sI m a k x)) := by
  refine stG hd rfl ?_
  show xput mi.1 mi.2.2.1 pc L (.int x :: .ref a :: st) m idx = _
  unfold xput
  simp only [hc]
  by_cases hx : x = 0 ∨ x = 1
  · rw [if_pos (⟨hk, ha, .inr ⟨hf, hx⟩⟩ : kd m a = some (0, ci) ∧ a < XB ∧ (fk ci k = 0 ∨ fk ci k = 3 ∧ (x = 0 ∨ x = 1))), if_pos (by simpa [b01] using hx)]
    rfl
  · rw [if_neg (fun h => h.2.2.elim (fun q => absurd (hf.symm.trans q) (by decide)) (fun q => hx q.2)), if_neg (by simpa [b01] using hx)]
theorem icpyg {idx b c z a a0 n0 n1 : Nat} {sp dp cn : Int32} (hd : decode mi.2.1 pc = .ok (.invokestatic idx, 3)) (hc : cp mi.1 idx = some (7, b, c, z)) (hk0 : kd m a0 = some (1, n0)) (hk : kd m a = some (1, n1)) (ha : a < XB) (ha0 : a0 < XB) (hw : wds st ≤ 8) : runI call mi (pc, L, .int cn :: .int dp :: .ref a :: .int sp :: .ref a0 :: st, m) = gd (cpok sp dp cn n0 n1) (runI call mi (pc + 3, L, st, sIc m a (va_cpy (mI m a0) (mI m a) sp.toNatClampNeg dp.toNatClampNeg cn.toNatClampNeg))) := by
  refine stG hd rfl ?_
  show xis call mi pc L (.int cn :: .int dp :: .ref a :: .int sp :: .ref a0 :: st) m idx = _
  unfold xis
  simp only [hc]
  unfold xcpy
  simp only [hk0, hk]
  by_cases hx : cpok sp dp cn n0 n1 = true
  · rw [if_pos hx]
    have h2 := of_decide_eq_true hx
    exact if_pos ⟨ha, ha0, h2.1, h2.2.1, h2.2.2.1, h2.2.2.2.1, h2.2.2.2.2, hw⟩
  · rw [if_neg hx]
    exact if_neg (fun h => hx (decide_eq_true ⟨h.2.2.1, h.2.2.2.1, h.2.2.2.2.1, h.2.2.2.2.2.1, h.2.2.2.2.2.2.1⟩))
end EX2
section EX3
variable {call : CALL} {mi : MI} {pc : Nat} {V : List (Option Value)} {st : List Value} {x i : Int32} {L X : Nat} {I : Nat → Nat → Int32} {J : Nat → Nat → Int64} {idx ci k z a nn : Nat}
theorem putIm (hd : decode mi.2.1 pc = .ok (.putfield idx, 3)) (hc : cp mi.1 idx = some (0, ci, k, z)) (hk : ka a 0 ci) (hf : fk ci k = 0) : runI call mi (pc, V, .int x :: .ref a :: st, mm L X I J) = runI call mi (pc + 3, V, st, mm L X (up2 I a k x) J) := putI hd hc (kd_ka hk) hk.1 hf
theorem putBm (hd : decode mi.2.1 pc = .ok (.putfield idx, 3)) (hc : cp mi.1 idx = some (0, ci, k, z)) (hk : ka a 0 ci) (hf : fk ci k = 3) (hx : x = 0 ∨ x = 1) : runI call mi (pc, V, .int x :: .ref a :: st, mm L X I J) = runI call mi (pc + 3, V, st, mm L X (up2 I a k x) J) := putB hd hc (kd_ka hk) hk.1 hf hx
theorem putBgm (hd : decode mi.2.1 pc = .ok (.putfield idx, 3)) (hc : cp mi.1 idx = some (0, ci, k, z)) (hk : ka a 0 ci) (hf : fk ci k = 3) : runI call mi (pc, V, .int x :: .ref a :: st, mm L X I J) = gd (b01 x) (runI call mi (pc + 3, V, st, mm L X (up2 I a k x) J)) := putBg hd hc (kd_ka hk) hk.1 hf
theorem as1m (hd : decode mi.2.1 pc = .ok (.iastore, 1)) (hk : ka a 1 nn) : runI call mi (pc, V, .int x :: .int i :: .ref a :: st, mm L X I J) = gd (inb i nn) (runI call mi (pc + 1, V, st, mm L X (up2 I a i.toNatClampNeg x) J)) := as1 hd (kd_ka hk) hk.1
theorem as2m (hd : decode mi.2.1 pc = .ok (.bastore, 1)) (hk : ka a 2 nn) : runI call mi (pc, V, .int x :: .int i :: .ref a :: st, mm L X I J) = gd (inb i nn) (runI call mi (pc + 1, V, st, mm L X (up2 I a i.toNatClampNeg (vp_nar .byte x)) J)) := as2 hd (kd_ka hk) hk.1
theorem as3m {y : Int64} (hd : decode mi.2.1 pc = .ok (.lastore, 1)) (hk : ka a 3 nn) : runI call mi (pc, V, .long y :: .int i :: .ref a :: st, mm L X I J) = gd (inb i nn) (runI call mi (pc + 1, V, st, mm L X I (up2 J a i.toNatClampNeg y))) := as3 hd (kd_ka hk) hk.1
theorem icpym {b c a0 n0 n1 : Nat} {sp dp cn : Int32} (hd : decode mi.2.1 pc = .ok (.invokestatic idx, 3)) (hc : cp mi.1 idx = some (7, b, c, z)) (hk0 : ka a0 1 n0) (hk : ka a 1 n1) (hw : wds st ≤ 8) : runI call mi (pc, V, .int cn :: .int dp :: .ref a :: .int sp :: .ref a0 :: st, mm L X I J) = gd (cpok sp dp cn n0 n1) (runI call mi (pc + 3, V, st, mm L X (up1 I a (va_cpy (I a0) (I a) sp.toNatClampNeg dp.toNatClampNeg cn.toNatClampNeg)) J)) := icpyg hd hc (kd_ka hk0) (kd_ka hk) hk.1 hk0.1 hw
theorem getIm (hd : decode mi.2.1 pc = .ok (.getfield idx, 3)) (hc : cp mi.1 idx = some (0, ci, k, z)) (hk : ka a 0 ci) (hf : fk ci k = 0 ∨ fk ci k = 3) : runI call mi (pc, V, .ref a :: st, mm L X I J) = runI call mi (pc + 3, V, .int (I a k) :: st, mm L X I J) := getI hd hc (kd_ka hk) hk.1 hf
theorem getRm {q : Nat} (hd : decode mi.2.1 pc = .ok (.getfield idx, 3)) (hc : cp mi.1 idx = some (0, ci, k, z)) (hk : ka a 0 ci) (hf : fk ci k = 2) (hr : R0 a k = some q) : runI call mi (pc, V, .ref a :: st, mm L X I J) = runI call mi (pc + 3, V, .ref q :: st, mm L X I J) := getR hd hc (kd_ka hk) hk.1 hf (mR_mm hr)
theorem al1m (hd : decode mi.2.1 pc = .ok (.iaload, 1)) (hk : ka a 1 nn) : runI call mi (pc, V, .int i :: .ref a :: st, mm L X I J) = gd (inb i nn) (runI call mi (pc + 1, V, .int (I a i.toNatClampNeg) :: st, mm L X I J)) := al1 hd (kd_ka hk) hk.1
theorem al2m (hd : decode mi.2.1 pc = .ok (.baload, 1)) (hk : ka a 2 nn) : runI call mi (pc, V, .int i :: .ref a :: st, mm L X I J) = gd (inb i nn) (runI call mi (pc + 1, V, .int (I a i.toNatClampNeg) :: st, mm L X I J)) := al2 hd (kd_ka hk) hk.1
theorem al3m (hd : decode mi.2.1 pc = .ok (.laload, 1)) (hk : ka a 3 nn) : runI call mi (pc, V, .int i :: .ref a :: st, mm L X I J) = gd (inb i nn) (runI call mi (pc + 1, V, .long (J a i.toNatClampNeg) :: st, mm L X I J)) := al3 hd (kd_ka hk) hk.1
theorem al4m (hd : decode mi.2.1 pc = .ok (.aaload, 1)) (hk : ka a 4 nn) (hr : ∀ j, j < nn → R0 a j = some (a + 1 + j)) : runI call mi (pc, V, .int i :: .ref a :: st, mm L X I J) = gd (inb i nn) (runI call mi (pc + 1, V, .ref (a + 1 + i.toNatClampNeg) :: st, mm L X I J)) := al4 hd (kd_ka hk) hk.1 (fun j h => mR_mm (hr j h))
end EX3
/-! switches -/
def tg (pc : Nat) (off : Int) : Option Nat := if 0 ≤ (pc : Int) + off then some ((pc : Int) + off).toNat else none
def swT (pc : Nat) (d lo hi : Int) (offs : Array Int) (x : Int) : Option Nat := if x < lo ∨ hi < x then tg pc d else match offs[(x - lo).toNat]? with
  | some o => tg pc o
  | none => none
def swL (pc : Nat) (d : Int) (ps : Array (Int × Int)) (x : Int) : Option Nat := if (ps.toList.zip (ps.toList.drop 1)).all (fun (a, next) => a.1 < next.1) = true then tg pc (Op.lookupswitch.offset ps.toList d x) else none
def swTD (pc : Nat) (d lo hi : Int) (offs : Array Int) (vs : List Int) (t : Nat) : Bool := decide (hi = lo + offs.size - 1) && (tg pc d == some t) && (List.range offs.size).all (fun k => (swT pc d lo hi offs (lo + (k : Int)) == some t) || vs.contains (lo + (k : Int)))
theorem swT_dflt {pc t : Nat} {d lo hi : Int} {offs : Array Int} {vs : List Int} {x : Int} (h : swTD pc d lo hi offs vs t = true) (hx : ∀ v ∈ vs, ¬ x = v) : swT pc d lo hi offs x = some t := by
  simp only [swTD, Bool.and_eq_true, decide_eq_true_eq, beq_iff_eq, List.all_eq_true, List.mem_range, Bool.or_eq_true, List.contains_iff_mem] at h
  obtain ⟨⟨h1, h2⟩, h3⟩ := h
  by_cases hr : x < lo ∨ hi < x
  · unfold swT
    rw [if_pos hr, h2]
  · have hk := h3 (x - lo).toNat (by omega)
    have he : lo + (((x - lo).toNat : Nat) : Int) = x := by omega
    rw [he] at hk
    rcases hk with hk | hk
    · exact hk
    · exact absurd rfl (hx x hk)
section EX4
variable {call : CALL} {mi : MI} {pc n t : Nat} {L : List (Option Value)} {st : List Value} {m : AM} {x : Int32} {d lo hi : Int} {offs : Array Int} {ps : Array (Int × Int)}
theorem jmp_tg {off : Int} (h : tg pc off = some t) : jmp pc off L st m = some (.inl (t, L, st, m)) := by
  unfold tg at h
  unfold jmp
  by_cases hp : 0 ≤ (pc : Int) + off
  · rw [if_pos hp] at h ⊢
    cases h
    rfl
  · rw [if_neg hp] at h
    cases h
theorem sw_t (hd : decode mi.2.1 pc = .ok (.tableswitch d lo hi offs, n)) (h : swT pc d lo hi offs x.toInt = some t) : runI call mi (pc, L, .int x :: st, m) = runI call mi (t, L, st, m) := by
  refine st1 hd rfl ?_
  show (if x.toInt < lo ∨ hi < x.toInt then jmp pc d L st m else match offs[(x.toInt - lo).toNat]? with
    | some off => jmp pc off L st m
    | none => none) = _
  unfold swT at h
  by_cases hr : x.toInt < lo ∨ hi < x.toInt
  · rw [if_pos hr] at h ⊢
    exact jmp_tg h
  · rw [if_neg hr] at h ⊢
    rcases ho : offs[(x.toInt - lo).toNat]? with _ | o
    · rw [ho] at h
      cases h
    · rw [ho] at h
      exact jmp_tg h
theorem sw_l (hd : decode mi.2.1 pc = .ok (.lookupswitch d ps, n)) (h : swL pc d ps x.toInt = some t) : runI call mi (pc, L, .int x :: st, m) = runI call mi (t, L, st, m) := by
  refine st1 hd rfl ?_
  show (if (ps.toList.zip (ps.toList.drop 1)).all (fun (a, next) => a.1 < next.1) = true then jmp pc (Op.lookupswitch.offset ps.toList d x.toInt) L st m else none) = _
  unfold swL at h
  by_cases hr : (ps.toList.zip (ps.toList.drop 1)).all (fun (a, next) => a.1 < next.1) = true
  · rw [if_pos hr] at h ⊢
    exact jmp_tg h
  · rw [if_neg hr] at h
    cases h
theorem off_dflt {l : List (Int × Int)} {k : Int} (h : ∀ v ∈ l.map Prod.fst, ¬ k = v) : Op.lookupswitch.offset l d k = d := by
  induction l with
  | nil => rfl
  | cons a r ih =>
    obtain ⟨a, o⟩ := a
    rw [Op.lookupswitch.offset_cons, if_neg (fun e => h a (by simp) e.symm)]
    exact ih (fun v hv => h v (by simp only [List.map_cons, List.mem_cons]; exact .inr hv))
theorem swL_dflt {k : Int} (hs : (ps.toList.zip (ps.toList.drop 1)).all (fun (a, next) => a.1 < next.1) = true) (ht : tg pc d = some t) (h : ∀ v ∈ ps.toList.map Prod.fst, ¬ k = v) : swL pc d ps k = some t := by
  unfold swL
  rw [if_pos hs, off_dflt h, ht]
theorem ne_toInt {v : Int32} {z : Int} (hz : v.toInt = z) (h : ¬ x = v) : ¬ x.toInt = z := fun e => h (Int32.toInt_inj.mp (e.trans hz.symm))
end EX4
/-! what lies outside, handlers, long division, grids -/
theorem ite_cong2 {α : Type} {p : Prop} [Decidable p] {z x y : α} (h : p → z = x) (g : ¬ p → z = y) : z = if p then x else y := by
  by_cases hp : p
  · rw [if_pos hp]
    exact h hp
  · rw [if_neg hp]
    exact g hp
theorem swL_dflt2 {pc t : Nat} {d k : Int} {ps : Array (Int × Int)} {vs : List Int} (hs : (ps.toList.zip (ps.toList.drop 1)).all (fun (a, next) => a.1 < next.1) = true) (ht : tg pc d = some t) (hv : ps.toList.map Prod.fst = vs) (h : ∀ v ∈ vs, ¬ k = v) : swL pc d ps k = some t := swL_dflt hs ht (fun v hw => h v (hv ▸ hw))
def os (a : Nat) : Prop := a = 1000002 ∨ a = 1000004 ∨ a = 1000006
def sj (a : Nat) : Nat := (a - 1000002) / 2
def gr (g n w : Nat) : Prop := ka g 4 n ∧ (∀ j, j < n → R0 g j = some (g + 1 + j)) ∧ (∀ j, j < n → ka (g + 1 + j) 1 w)
def nzl (y : Int64) : Bool := !decide (y = 0)
noncomputable def hdl (call : CALL) (mi : MI) (pc : Nat) (L : List (Option Value)) (e : Nat) (m : AM) : Option (RS × AM) := match bck mi pc L [] (some (.inr e, m)) with
  | some (.inl c') => runI call mi c'
  | some (.inr r) => some r
  | none => none
section EX5
variable {call : CALL} {mi : MI} {pc n : Nat} {V : List (Option Value)} {st : List Value} {m : AM} {L X : Nat} {I : Nat → Nat → Int32} {J : Nat → Nat → Int64} {idx a b c : Nat} {x y : Int64}
theorem os_le (h : os a) : XB ≤ a := by
  rcases h with rfl | rfl | rfl <;> decide
theorem kd_os (h : os a) : kd (mm L X I J) a = some (6, sj a) := by
  rcases h with rfl | rfl | rfl <;> exact (if_neg (by decide)).trans ((if_neg (by decide)).trans rfl)
theorem kd_XB : kd (mm L X I J) 1000000 = some (5, L) := (if_neg (by decide)).trans ((if_pos (by decide)).trans rfl)
theorem kd_XU : kd (mm L X I J) 1000001 = some (5, 11) := (if_neg (by decide)).trans ((if_neg (by decide)).trans rfl)
theorem xldcS {j : Nat} (hd : decode mi.2.1 pc = .ok (.ldc idx, 2)) (hc : cp mi.1 idx = some (15, j, b, c)) (hz : XB + 2 + 2 * j = a) : runI call mi (pc, V, st, m) = runI call mi (pc + 2, V, .ref a :: st, m) := by
  subst hz
  refine st1 hd rfl ?_
  show xldc mi.1 (pc + 2) V st m idx false = _
  unfold xldc
  simp only [hc]
  rfl
theorem xgsU {z : Nat} (hd : decode mi.2.1 pc = .ok (.getstatic idx, 3)) (hc : cp mi.1 idx = some (16, b, c, z)) : runI call mi (pc, V, st, m) = runI call mi (pc + 3, V, .ref 1000001 :: st, m) := by
  refine st1 hd rfl ?_
  show xgs mi.1 pc V st m idx = _
  unfold xgs
  simp only [hc]
  rfl
theorem nzl_iff : nzl y = true ↔ ¬ y = 0 := by
  simp [nzl]
theorem ldvg (hd : decode mi.2.1 pc = .ok (.ldiv, 1)) : runI call mi (pc, V, .long y :: .long x :: st, m) = gd (nzl y) (runI call mi (pc + 1, V, .long (x / y) :: st, m)) := by
  refine stG hd rfl ?_
  exact idivg_aux nzl_iff
theorem lrmg (hd : decode mi.2.1 pc = .ok (.lrem, 1)) : runI call mi (pc, V, .long y :: .long x :: st, m) = gd (nzl y) (runI call mi (pc + 1, V, .long (x - x / y * y) :: st, m)) := by
  refine stG hd rfl ?_
  exact idivg_aux nzl_iff
theorem ivH {id nn ci : Nat} {r args : List Value} (hd : decode mi.2.1 pc = .ok (.invokevirtual idx, 3)) (hc : cp mi.1 idx = some (1, id, nn, ci)) (hs : st.drop nn = .ref a :: r) (hg : (st.take nn).reverse = args) (hk : kd m a = some (0, ci)) (ha : a < XB) (hw : wds r ≤ 8) : runI call mi (pc, V, st, m) = bndH (call id (.ref a :: args) m) (fun v m' => runI call mi (pc + 3, V, v.toList ++ r, m')) (hdl call mi pc V) := by
  have he : xiv call mi pc V st m idx = bck mi pc V r (call id (.ref a :: args) m) := by
    unfold xiv
    simp only [hc, hs, hg]
    exact if_pos ⟨hk, ha, hw⟩
  rw [runI_eq, st_of hd rfl]
  show (match xiv call mi pc V st m idx with
    | some (.inl c') => runI call mi c'
    | some (.inr r) => some r
    | none => none) = _
  rw [he]
  rcases call id (.ref a :: args) m with _ | ⟨v | e, m'⟩ <;> rfl
theorem hdl_of {e h : Nat} {c' : CF} (hne : mi.2.2.2.isEmpty = false) (hh : hnd mi.1 pc e mi.2.2.2 = some h) (hx : xcat mi h V m = some (.inl c')) : hdl call mi pc V e m = runI call mi c' := by
  have hb : bck mi pc V [] (some (.inr e, m)) = some (.inl c') := by
    unfold bck
    dsimp only
    generalize mi.2.2.2 = hs at hne hh
    cases hs with
    | nil => cases hne
    | cons a r =>
      dsimp only
      rw [hh]
      exact hx
  unfold hdl
  rw [hb]
end EX5
section EX6
variable {call : CALL} {mi : MI} {pc : Nat} {V : List (Option Value)} {st : List Value} {x i : Int32} {L X : Nat} {I : Nat → Nat → Int32} {J : Nat → Nat → Int64} {k a nn : Nat}
theorem al1c (hd : decode mi.2.1 pc = .ok (.iaload, 1)) (hk : ka a 1 nn) (hi : inb i nn = true) (hc : i.toNatClampNeg = k) : runI call mi (pc, V, .int i :: .ref a :: st, mm L X I J) = runI call mi (pc + 1, V, .int (I a k) :: st, mm L X I J) := by
  rw [al1m hd hk, gd_t hi, hc]
theorem as1c (hd : decode mi.2.1 pc = .ok (.iastore, 1)) (hk : ka a 1 nn) (hi : inb i nn = true) (hc : i.toNatClampNeg = k) : runI call mi (pc, V, .int x :: .int i :: .ref a :: st, mm L X I J) = runI call mi (pc + 1, V, st, mm L X (up2 I a k x) J) := by
  rw [as1m hd hk, gd_t hi, hc]
end EX6
theorem cb_10 : (Int8.ofInt 10).toInt32 = (nI 10) := by decide +kernel
theorem cb_100 : (Int8.ofInt 100).toInt32 = (nI 100) := by decide +kernel
theorem cb_11 : (Int8.ofInt 11).toInt32 = (nI 11) := by decide +kernel
theorem cb_12 : (Int8.ofInt 12).toInt32 = (nI 12) := by decide +kernel
theorem cb_122 : (Int8.ofInt 122).toInt32 = (nI 122) := by decide +kernel
theorem cb_13 : (Int8.ofInt 13).toInt32 = (nI 13) := by decide +kernel
theorem cb_14 : (Int8.ofInt 14).toInt32 = (nI 14) := by decide +kernel
theorem cb_15 : (Int8.ofInt 15).toInt32 = (nI 15) := by decide +kernel
theorem cb_16 : (Int8.ofInt 16).toInt32 = (nI 16) := by decide +kernel
theorem cb_18 : (Int8.ofInt 18).toInt32 = (nI 18) := by decide +kernel
theorem cb_19 : (Int8.ofInt 19).toInt32 = (nI 19) := by decide +kernel
theorem cb_20 : (Int8.ofInt 20).toInt32 = (nI 20) := by decide +kernel
theorem cb_21 : (Int8.ofInt 21).toInt32 = (nI 21) := by decide +kernel
theorem cb_23 : (Int8.ofInt 23).toInt32 = (nI 23) := by decide +kernel
theorem cb_24 : (Int8.ofInt 24).toInt32 = (nI 24) := by decide +kernel
theorem cb_25 : (Int8.ofInt 25).toInt32 = (nI 25) := by decide +kernel
theorem cb_27 : (Int8.ofInt 27).toInt32 = (nI 27) := by decide +kernel
theorem cb_29 : (Int8.ofInt 29).toInt32 = (nI 29) := by decide +kernel
theorem cb_30 : (Int8.ofInt 30).toInt32 = (nI 30) := by decide +kernel
theorem cb_31 : (Int8.ofInt 31).toInt32 = (nI 31) := by decide +kernel
theorem cb_32 : (Int8.ofInt 32).toInt32 = (nI 32) := by decide +kernel
theorem cb_37 : (Int8.ofInt 37).toInt32 = (nI 37) := by decide +kernel
theorem cb_40 : (Int8.ofInt 40).toInt32 = (nI 40) := by decide +kernel
theorem cb_41 : (Int8.ofInt 41).toInt32 = (nI 41) := by decide +kernel
theorem cb_42 : (Int8.ofInt 42).toInt32 = (nI 42) := by decide +kernel
theorem cb_43 : (Int8.ofInt 43).toInt32 = (nI 43) := by decide +kernel
theorem cb_44 : (Int8.ofInt 44).toInt32 = (nI 44) := by decide +kernel
theorem cb_45 : (Int8.ofInt 45).toInt32 = (nI 45) := by decide +kernel
theorem cb_47 : (Int8.ofInt 47).toInt32 = (nI 47) := by decide +kernel
theorem cb_48 : (Int8.ofInt 48).toInt32 = (nI 48) := by decide +kernel
theorem cb_57 : (Int8.ofInt 57).toInt32 = (nI 57) := by decide +kernel
theorem cb_59 : (Int8.ofInt 59).toInt32 = (nI 59) := by decide +kernel
theorem cb_6 : (Int8.ofInt 6).toInt32 = (nI 6) := by decide +kernel
theorem cb_60 : (Int8.ofInt 60).toInt32 = (nI 60) := by decide +kernel
theorem cb_63 : (Int8.ofInt 63).toInt32 = (nI 63) := by decide +kernel
theorem cb_64 : (Int8.ofInt 64).toInt32 = (nI 64) := by decide +kernel
theorem cb_7 : (Int8.ofInt 7).toInt32 = (nI 7) := by decide +kernel
theorem cb_75 : (Int8.ofInt 75).toInt32 = (nI 75) := by decide +kernel
theorem cb_8 : (Int8.ofInt 8).toInt32 = (nI 8) := by decide +kernel
theorem cb_9 : (Int8.ofInt 9).toInt32 = (nI 9) := by decide +kernel
theorem cb_91 : (Int8.ofInt 91).toInt32 = (nI 91) := by decide +kernel
theorem cb_93 : (Int8.ofInt 93).toInt32 = (nI 93) := by decide +kernel
theorem cb_96 : (Int8.ofInt 96).toInt32 = (nI 96) := by decide +kernel
theorem cb_97 : (Int8.ofInt 97).toInt32 = (nI 97) := by decide +kernel
theorem cb_99 : (Int8.ofInt 99).toInt32 = (nI 99) := by decide +kernel
theorem cb_m20 : (Int8.ofInt (-20)).toInt32 = (-20 : Int32) := by decide +kernel
theorem ci_0 : Int32.ofInt 0 = (nI 0) := by decide +kernel
theorem ci_1 : Int32.ofInt 1 = (nI 1) := by decide +kernel
theorem ci_10 : Int32.ofInt 10 = (nI 10) := by decide +kernel
theorem ci_2 : Int32.ofInt 2 = (nI 2) := by decide +kernel
theorem ci_3 : Int32.ofInt 3 = (nI 3) := by decide +kernel
theorem ci_4 : Int32.ofInt 4 = (nI 4) := by decide +kernel
theorem ci_5 : Int32.ofInt 5 = (nI 5) := by decide +kernel
theorem ci_m1 : Int32.ofInt (-1) = (-1 : Int32) := by decide +kernel
theorem ci_m8 : Int32.ofInt (-8) = (-8 : Int32) := by decide +kernel
theorem cn_100000 : Int32.ofNat 100000 = (nI 100000) := by decide +kernel
theorem cn_11 : Int32.ofNat 11 = (nI 11) := by decide +kernel
theorem cn_1103515245 : Int32.ofNat 1103515245 = (nI 1103515245) := by decide +kernel
theorem cn_2816 : Int32.ofNat 2816 = (nI 2816) := by decide +kernel
theorem cn_76800 : Int32.ofNat 76800 = (nI 76800) := by decide +kernel
theorem cs_1000 : (Int16.ofInt 1000).toInt32 = (nI 1000) := by decide +kernel
theorem cs_12345 : (Int16.ofInt 12345).toInt32 = (nI 12345) := by decide +kernel
theorem cs_150 : (Int16.ofInt 150).toInt32 = (nI 150) := by decide +kernel
theorem cs_200 : (Int16.ofInt 200).toInt32 = (nI 200) := by decide +kernel
theorem cs_2000 : (Int16.ofInt 2000).toInt32 = (nI 2000) := by decide +kernel
theorem cs_2001 : (Int16.ofInt 2001).toInt32 = (nI 2001) := by decide +kernel
theorem cs_2002 : (Int16.ofInt 2002).toInt32 = (nI 2002) := by decide +kernel
theorem cs_2003 : (Int16.ofInt 2003).toInt32 = (nI 2003) := by decide +kernel
theorem cs_2004 : (Int16.ofInt 2004).toInt32 = (nI 2004) := by decide +kernel
theorem cs_2005 : (Int16.ofInt 2005).toInt32 = (nI 2005) := by decide +kernel
theorem cs_255 : (Int16.ofInt 255).toInt32 = (nI 255) := by decide +kernel
theorem cs_32767 : (Int16.ofInt 32767).toInt32 = (nI 32767) := by decide +kernel
theorem cs_432 : (Int16.ofInt 432).toInt32 = (nI 432) := by decide +kernel
theorem cs_459 : (Int16.ofInt 459).toInt32 = (nI 459) := by decide +kernel
theorem cs_500 : (Int16.ofInt 500).toInt32 = (nI 500) := by decide +kernel
theorem cs_600 : (Int16.ofInt 600).toInt32 = (nI 600) := by decide +kernel
theorem cs_6200 : (Int16.ofInt 6200).toInt32 = (nI 6200) := by decide +kernel
theorem cs_999 : (Int16.ofInt 999).toInt32 = (nI 999) := by decide +kernel
theorem nc_0 : (nI 0).toNatClampNeg = 0 := by decide +kernel
theorem nc_1 : (nI 1).toNatClampNeg = 1 := by decide +kernel
theorem nc_2 : (nI 2).toNatClampNeg = 2 := by decide +kernel
theorem nc_29 : (nI 29).toNatClampNeg = 29 := by decide +kernel
theorem nc_3 : (nI 3).toNatClampNeg = 3 := by decide +kernel
theorem nc_30 : (nI 30).toNatClampNeg = 30 := by decide +kernel
theorem nc_4 : (nI 4).toNatClampNeg = 4 := by decide +kernel
theorem nc_5 : (nI 5).toNatClampNeg = 5 := by decide +kernel
theorem nc_6 : (nI 6).toNatClampNeg = 6 := by decide +kernel
theorem nc_7 : (nI 7).toNatClampNeg = 7 := by decide +kernel
theorem nc_8 : (nI 8).toNatClampNeg = 8 := by decide +kernel
