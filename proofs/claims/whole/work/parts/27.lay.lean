/-! THE LAYOUT OF THE CELLS BEHIND THE LAW'S PROLOGUE (written by gen_lay.py) -/
def K0 : List (Nat × Nat) := [(0, 11), (0, 7), (2, 600), (0, 1), (1, 6), (1, 6), (1, 6), (1, 6), (1, 4), (1, 4), (1, 5), (1, 5), (1, 10), (0, 1), (1, 6), (1, 6), (1, 6), (1, 6), (1, 4), (1, 4), (1, 5), (1, 5), (1, 10), (0, 2), (1, 150), (1, 32), (1, 9), (0, 2), (1, 150), (1, 32), (1, 9), (0, 0), (1, 6), (1, 600), (0, 0), (1, 6), (1, 600), (0, 9), (1, 75), (1, 75), (1, 75), (1, 6), (1, 6), (0, 3), (1, 6), (1, 6), (1, 6), (1, 5), (0, 4), (1, 432), (1, 1377), (1, 3), (0, 8), (1, 6), (1, 6), (1, 6), (0, 5), (1, 12), (1, 768), (1, 6), (1, 6), (1, 6), (3, 1200), (1, 64), (0, 6), (1, 49), (0, 10), (0, 3), (1, 6), (1, 6), (1, 6), (1, 5), (0, 12), (1, 600), (1, 2), (1, 4), (1, 4), (4, 6), (1, 4), (1, 4), (1, 4), (1, 4), (1, 4), (1, 4), (4, 6), (1, 4), (1, 4), (1, 4), (1, 4), (1, 4), (1, 4), (4, 4), (1, 2), (1, 2), (1, 2), (1, 2), (4, 5), (1, 2), (1, 2), (1, 2), (1, 2), (1, 2), (4, 5), (1, 2), (1, 2), (1, 2), (1, 2), (1, 2), (4, 5), (1, 2), (1, 2), (1, 2), (1, 2), (1, 2), (4, 160), (1, 2), (1, 2), (1, 2), (1, 2), (1, 2), (1, 2), (1, 2), (1, 2), (1, 2), (1, 2), (1, 2), (1, 2), (1, 2), (1, 2), (1, 2), (1, 2), (1, 2), (1, 2), (1, 2), (1, 2), (1, 2), (1, 2), (1, 2), (1, 2), (1, 2), (1, 2), (1, 2), (1, 2), (1, 2), (1, 2), (1, 2), (1, 2), (1, 2), (1, 2), (1, 2), (1, 2), (1, 2), (1, 2), (1, 2), (1, 2), (1, 2), (1, 2), (1, 2), (1, 2), (1, 2), (1, 2), (1, 2), (1, 2), (1, 2), (1, 2), (1, 2), (1, 2), (1, 2), (1, 2), (1, 2), (1, 2), (1, 2), (1, 2), (1, 2), (1, 2), (1, 2), (1, 2), (1, 2), (1, 2), (1, 2), (1, 2), (1, 2), (1, 2), (1, 2), (1, 2), (1, 2), (1, 2), (1, 2), (1, 2), (1, 2), (1, 2), (1, 2), (1, 2), (1, 2), (1, 2), (1, 2), (1, 2), (1, 2), (1, 2), (1, 2), (1, 2), (1, 2), (1, 2), (1, 2), (1, 2), (1, 2), (1, 2), (1, 2), (1, 2), (1, 2), (1, 2), (1, 2), (1, 2), (1, 2), (1, 2), (1, 2), (1, 2), (1, 2), (1, 2), (1, 2), (1, 2), (1, 2), (1, 2), (1, 2), (1, 2), (1, 2), (1, 2), (1, 2), (1, 2), (1, 2), (1, 2), (1, 2), (1, 2), (1, 2), (1, 2), (1, 2), (1, 2), (1, 2), (1, 2), (1, 2), (1, 2), (1, 2), (1, 2), (1, 2), (1, 2), (1, 2), (1, 2), (1, 2), (1, 2), (1, 2), (1, 2), (1, 2), (1, 2), (1, 2), (1, 2), (1, 2), (1, 2), (1, 2), (1, 2), (1, 2), (1, 2), (1, 2), (1, 2), (1, 2), (1, 2), (1, 2), (1, 2), (1, 2), (1, 2), (1, 2), (1, 2), (1, 2), (1, 2), (1, 2), (1, 2), (4, 160), (1, 2), (1, 2), (1, 2), (1, 2), (1, 2), (1, 2), (1, 2), (1, 2), (1, 2), (1, 2), (1, 2), (1, 2), (1, 2), (1, 2), (1, 2), (1, 2), (1, 2), (1, 2), (1, 2), (1, 2), (1, 2), (1, 2), (1, 2), (1, 2), (1, 2), (1, 2), (1, 2), (1, 2), (1, 2), (1, 2), (1, 2), (1, 2), (1, 2), (1, 2), (1, 2), (1, 2), (1, 2), (1, 2), (1, 2), (1, 2), (1, 2), (1, 2), (1, 2), (1, 2), (1, 2), (1, 2), (1, 2), (1, 2), (1, 2), (1, 2), (1, 2), (1, 2), (1, 2), (1, 2), (1, 2), (1, 2), (1, 2), (1, 2), (1, 2), (1, 2), (1, 2), (1, 2), (1, 2), (1, 2), (1, 2), (1, 2), (1, 2), (1, 2), (1, 2), (1, 2), (1, 2), (1, 2), (1, 2), (1, 2), (1, 2), (1, 2), (1, 2), (1, 2), (1, 2), (1, 2), (1, 2), (1, 2), (1, 2), (1, 2), (1, 2), (1, 2), (1, 2), (1, 2), (1, 2), (1, 2), (1, 2), (1, 2), (1, 2), (1, 2), (1, 2), (1, 2), (1, 2), (1, 2), (1, 2), (1, 2), (1, 2), (1, 2), (1, 2), (1, 2), (1, 2), (1, 2), (1, 2), (1, 2), (1, 2), (1, 2), (1, 2), (1, 2), (1, 2), (1, 2), (1, 2), (1, 2), (1, 2), (1, 2), (1, 2), (1, 2), (1, 2), (1, 2), (1, 2), (1, 2), (1, 2), (1, 2), (1, 2), (1, 2), (1, 2), (1, 2), (1, 2), (1, 2), (1, 2), (1, 2), (1, 2), (1, 2), (1, 2), (1, 2), (1, 2), (1, 2), (1, 2), (1, 2), (1, 2), (1, 2), (1, 2), (1, 2), (1, 2), (1, 2), (1, 2), (1, 2), (1, 2), (1, 2), (1, 2), (1, 2), (1, 2), (1, 2), (1, 2), (1, 2), (1, 2), (1, 2), (4, 6), (1, 2), (1, 2), (1, 2), (1, 2), (1, 2), (1, 2), (4, 6), (1, 2), (1, 2), (1, 2), (1, 2), (1, 2), (1, 2), (1, 160), (1, 9), (4, 80), (1, 4), (1, 4), (1, 4), (1, 4), (1, 4), (1, 4), (1, 4), (1, 4), (1, 4), (1, 4), (1, 4), (1, 4), (1, 4), (1, 4), (1, 4), (1, 4), (1, 4), (1, 4), (1, 4), (1, 4), (1, 4), (1, 4), (1, 4), (1, 4), (1, 4), (1, 4), (1, 4), (1, 4), (1, 4), (1, 4), (1, 4), (1, 4), (1, 4), (1, 4), (1, 4), (1, 4), (1, 4), (1, 4), (1, 4), (1, 4), (1, 4), (1, 4), (1, 4), (1, 4), (1, 4), (1, 4), (1, 4), (1, 4), (1, 4), (1, 4), (1, 4), (1, 4), (1, 4), (1, 4), (1, 4), (1, 4), (1, 4), (1, 4), (1, 4), (1, 4), (1, 4), (1, 4), (1, 4), (1, 4), (1, 4), (1, 4), (1, 4), (1, 4), (1, 4), (1, 4), (1, 4), (1, 4), (1, 4), (1, 4), (1, 4), (1, 4), (1, 4), (1, 4), (1, 4), (1, 4), (1, 31), (1, 31), (1, 6), (4, 16), (1, 31), (1, 31), (1, 31), (1, 31), (1, 31), (1, 31), (1, 31), (1, 31), (1, 31), (1, 31), (1, 31), (1, 31), (1, 31), (1, 31), (1, 31), (1, 31), (4, 3), (1, 528), (1, 528), (1, 528), (4, 64), (1, 12), (1, 12), (1, 12), (1, 12), (1, 12), (1, 12), (1, 12), (1, 12), (1, 12), (1, 12), (1, 12), (1, 12), (1, 12), (1, 12), (1, 12), (1, 12), (1, 12), (1, 12), (1, 12), (1, 12), (1, 12), (1, 12), (1, 12), (1, 12), (1, 12), (1, 12), (1, 12), (1, 12), (1, 12), (1, 12), (1, 12), (1, 12), (1, 12), (1, 12), (1, 12), (1, 12), (1, 12), (1, 12), (1, 12), (1, 12), (1, 12), (1, 12), (1, 12), (1, 12), (1, 12), (1, 12), (1, 12), (1, 12), (1, 12), (1, 12), (1, 12), (1, 12), (1, 12), (1, 12), (1, 12), (1, 12), (1, 12), (1, 12), (1, 12), (1, 12), (1, 12), (1, 12), (1, 12), (1, 12), (1, 6), (1, 2816), (1, 6), (4, 6), (1, 100), (1, 100), (1, 100), (1, 100), (1, 100), (1, 100), (3, 1)]
def R0_0 : Nat → Nat → Option Nat := up2 (up1 (up2 (up1 (up2 (up1 (up1 (up2 (up2 (up1 (up1 (up1 ((fun _ _ => none : Nat → Nat → Option Nat)) 0 (fun _ => none)) 1 (fun _ => none)) 2 (fun _ => none)) 1 0 (some 2)) 0 0 (some 1)) 3 (fun _ => none)) 4 (fun _ => none)) 3 4 (some 4)) 5 (fun _ => none)) 3 5 (some 5)) 6 (fun _ => none)) 3 6 (some 6)
def R0_1 : Nat → Nat → Option Nat := up2 (up1 (up2 (up1 (up2 (up1 (up2 (up1 (up2 (up1 (up2 (up1 (R0_0) 7 (fun _ => none)) 3 7 (some 7)) 8 (fun _ => none)) 3 8 (some 8)) 9 (fun _ => none)) 3 9 (some 9)) 10 (fun _ => none)) 3 10 (some 10)) 11 (fun _ => none)) 3 11 (some 11)) 12 (fun _ => none)) 3 12 (some 12)
def R0_2 : Nat → Nat → Option Nat := up2 (up1 (up2 (up1 (up2 (up1 (up2 (up1 (up2 (up1 (up1 (up2 (R0_1) 0 1 (some 3)) 13 (fun _ => none)) 14 (fun _ => none)) 13 4 (some 14)) 15 (fun _ => none)) 13 5 (some 15)) 16 (fun _ => none)) 13 6 (some 16)) 17 (fun _ => none)) 13 7 (some 17)) 18 (fun _ => none)) 13 8 (some 18)
def R0_3 : Nat → Nat → Option Nat := up2 (up1 (up1 (up2 (up2 (up1 (up2 (up1 (up2 (up1 (up2 (up1 (R0_2) 19 (fun _ => none)) 13 9 (some 19)) 20 (fun _ => none)) 13 10 (some 20)) 21 (fun _ => none)) 13 11 (some 21)) 22 (fun _ => none)) 13 12 (some 22)) 0 2 (some 13)) 23 (fun _ => none)) 24 (fun _ => none)) 23 0 (some 24)
def R0_4 : Nat → Nat → Option Nat := up2 (up1 (up2 (up1 (up2 (up1 (up1 (up2 (up2 (up1 (up2 (up1 (R0_3) 25 (fun _ => none)) 23 2 (some 25)) 26 (fun _ => none)) 23 3 (some 26)) 0 3 (some 23)) 27 (fun _ => none)) 28 (fun _ => none)) 27 0 (some 28)) 29 (fun _ => none)) 27 2 (some 29)) 30 (fun _ => none)) 27 3 (some 30)
def R0_5 : Nat → Nat → Option Nat := up2 (up1 (up2 (up1 (up1 (up2 (up2 (up1 (up2 (up1 (up1 (up2 (R0_4) 0 4 (some 27)) 31 (fun _ => none)) 32 (fun _ => none)) 31 1 (some 32)) 33 (fun _ => none)) 31 2 (some 33)) 0 5 (some 31)) 34 (fun _ => none)) 35 (fun _ => none)) 34 1 (some 35)) 36 (fun _ => none)) 34 2 (some 36)
def R0_6 : Nat → Nat → Option Nat := up2 (up1 (up2 (up1 (up2 (up1 (up2 (up1 (up2 (up1 (up1 (up2 (R0_5) 0 6 (some 34)) 37 (fun _ => none)) 38 (fun _ => none)) 37 0 (some 38)) 39 (fun _ => none)) 37 1 (some 39)) 40 (fun _ => none)) 37 2 (some 40)) 41 (fun _ => none)) 37 4 (some 41)) 42 (fun _ => none)) 37 5 (some 42)
def R0_7 : Nat → Nat → Option Nat := up1 (up2 (up2 (up1 (up2 (up1 (up2 (up1 (up2 (up1 (up1 (up2 (R0_6) 0 7 (some 37)) 43 (fun _ => none)) 44 (fun _ => none)) 43 0 (some 44)) 45 (fun _ => none)) 43 1 (some 45)) 46 (fun _ => none)) 43 2 (some 46)) 47 (fun _ => none)) 43 3 (some 47)) 0 8 (some 43)) 48 (fun _ => none)
def R0_8 : Nat → Nat → Option Nat := up2 (up1 (up2 (up1 (up1 (up2 (up2 (up1 (up2 (up1 (up2 (up1 (R0_7) 49 (fun _ => none)) 48 0 (some 49)) 50 (fun _ => none)) 48 1 (some 50)) 51 (fun _ => none)) 48 2 (some 51)) 0 9 (some 48)) 52 (fun _ => none)) 53 (fun _ => none)) 52 2 (some 53)) 54 (fun _ => none)) 52 3 (some 54)
def R0_9 : Nat → Nat → Option Nat := up2 (up1 (up2 (up1 (up2 (up1 (up1 (up2 (up2 (up2 (up2 (up1 (R0_8) 55 (fun _ => none)) 52 4 (some 55)) 52 0 (some 3)) 52 1 (some 23)) 0 10 (some 52)) 56 (fun _ => none)) 57 (fun _ => none)) 56 2 (some 57)) 58 (fun _ => none)) 56 3 (some 58)) 59 (fun _ => none)) 56 5 (some 59)
def R0_10 : Nat → Nat → Option Nat := up1 (up2 (up2 (up2 (up2 (up1 (up2 (up1 (up2 (up1 (up2 (up1 (R0_9) 60 (fun _ => none)) 56 12 (some 60)) 61 (fun _ => none)) 56 14 (some 61)) 62 (fun _ => none)) 56 15 (some 62)) 63 (fun _ => none)) 56 16 (some 63)) 56 0 (some 3)) 56 1 (some 52)) 0 11 (some 56)) 64 (fun _ => none)
def R0_11 : Nat → Nat → Option Nat := up2 (up1 (up2 (up1 (up2 (up1 (up1 (up1 (up2 (up2 (up2 (up1 (R0_10) 65 (fun _ => none)) 64 1 (some 65)) 64 0 (some 52)) 0 12 (some 64)) 66 (fun _ => none)) 67 (fun _ => none)) 68 (fun _ => none)) 67 0 (some 68)) 69 (fun _ => none)) 67 1 (some 69)) 70 (fun _ => none)) 67 2 (some 70)
def R0_12 : Nat → Nat → Option Nat := up1 (up2 (up1 (up2 (up1 (up1 (up2 (up2 (up2 (up2 (up2 (up1 (R0_11) 71 (fun _ => none)) 67 3 (some 71)) 66 2 (some 67)) 66 0 (some 3)) 66 1 (some 52)) 0 13 (some 66)) 72 (fun _ => none)) 73 (fun _ => none)) 72 9 (some 73)) 74 (fun _ => none)) 72 10 (some 74)) 75 (fun _ => none)
def R0_13 : Nat → Nat → Option Nat := up1 (up2 (up1 (up2 (up1 (up2 (up1 (up2 (up1 (up2 (up1 (up2 (R0_12) 72 11 (some 75)) 76 (fun _ => none)) 72 12 (some 76)) 77 (fun i => if i < 6 then some (77 + 1 + i) else none)) 72 13 (some 77)) 84 (fun i => if i < 6 then some (84 + 1 + i) else none)) 72 14 (some 84)) 91 (fun i => if i < 4 then some (91 + 1 + i) else none)) 72 15 (some 91)) 96 (fun i => if i < 5 then some (96 + 1 + i) else none)) 72 16 (some 96)) 102 (fun i => if i < 5 then some (102 + 1 + i) else none)
def R0_14 : Nat → Nat → Option Nat := up1 (up2 (up1 (up2 (up1 (up2 (up1 (up2 (up1 (up2 (up1 (up2 (R0_13) 72 17 (some 102)) 108 (fun i => if i < 5 then some (108 + 1 + i) else none)) 72 18 (some 108)) 114 (fun i => if i < 160 then some (114 + 1 + i) else none)) 72 21 (some 114)) 275 (fun i => if i < 160 then some (275 + 1 + i) else none)) 72 22 (some 275)) 436 (fun i => if i < 6 then some (436 + 1 + i) else none)) 72 23 (some 436)) 443 (fun i => if i < 6 then some (443 + 1 + i) else none)) 72 24 (some 443)) 450 (fun _ => none)
def R0_15 : Nat → Nat → Option Nat := up1 (up2 (up1 (up2 (up1 (up2 (up1 (up2 (up1 (up2 (up1 (up2 (R0_14) 72 25 (some 450)) 451 (fun _ => none)) 72 26 (some 451)) 452 (fun i => if i < 80 then some (452 + 1 + i) else none)) 72 27 (some 452)) 533 (fun _ => none)) 72 29 (some 533)) 534 (fun _ => none)) 72 30 (some 534)) 535 (fun _ => none)) 72 31 (some 535)) 536 (fun i => if i < 16 then some (536 + 1 + i) else none)
def R0_16 : Nat → Nat → Option Nat := up1 (up2 (up1 (up2 (up1 (up2 (up1 (up2 (up1 (up2 (up1 (up2 (R0_15) 72 32 (some 536)) 553 (fun i => if i < 3 then some (553 + 1 + i) else none)) 72 33 (some 553)) 557 (fun i => if i < 64 then some (557 + 1 + i) else none)) 72 43 (some 557)) 622 (fun _ => none)) 72 44 (some 622)) 623 (fun _ => none)) 72 47 (some 623)) 624 (fun _ => none)) 72 48 (some 624)) 625 (fun i => if i < 6 then some (625 + 1 + i) else none)
def R0 : Nat → Nat → Option Nat := up1 (up2 (R0_16) 72 49 (some 625)) 632 (fun _ => none)
/-- memory behind the prologue: ints and longs alone still change, and the exceptions made -/
def mm (L X : Nat) (I : Nat → Nat → Int32) (J : Nat → Nat → Int64) : AM := (L, X, K0, R0, I, J)
def ka (a t n : Nat) : Prop := a < XB ∧ K0[a]? = some (t, n)
theorem kd_ka {L X : Nat} {I : Nat → Nat → Int32} {J : Nat → Nat → Int64} {a t n : Nat} (h : ka a t n) : kd (mm L X I J) a = some (t, n) := (if_pos h.1).trans h.2
theorem mR_mm {L X : Nat} {I : Nat → Nat → Int32} {J : Nat → Nat → Int64} {a k q : Nat} (h : R0 a k = some q) : mR (mm L X I J) a k = some q := h
theorem ka_of {a t n : Nat} (h : (Nat.blt a 1000000 && (K0[a]? == some (t, n))) = true) : ka a t n := by
  simp only [Bool.and_eq_true, beq_iff_eq, Nat.blt_eq] at h
  exact ⟨h.1, h.2⟩
theorem gd_congr {α : Type} {b : Bool} {x y : Option α} (h : b = true → x = y) : gd b x = gd b y := by
  by_cases hb : b = true
  · rw [gd_t hb, gd_t hb, h hb]
  · unfold gd
    rw [if_neg hb, if_neg hb]
theorem ite_cong {α : Type} {p : Prop} [Decidable p] {x y x' y' : α} (h : p → x = x') (g : ¬ p → y = y') : (if p then x else y) = if p then x' else y' := by
  by_cases hp : p
  · rw [if_pos hp, if_pos hp, h hp]
  · rw [if_neg hp, if_neg hp, g hp]
theorem inb_lt {i : Int32} {n : Nat} (h : inb i n = true) : i.toNatClampNeg < n := by
  simp only [inb, Bool.and_eq_true, decide_eq_true_eq] at h
  exact h.2
theorem ka_0 : ka 0 0 11 := ka_of (by decide +kernel)
theorem ka_1 : ka 1 0 7 := ka_of (by decide +kernel)
theorem ka_2 : ka 2 2 600 := ka_of (by decide +kernel)
theorem ka_3 : ka 3 0 1 := ka_of (by decide +kernel)
theorem ka_4 : ka 4 1 6 := ka_of (by decide +kernel)
theorem ka_5 : ka 5 1 6 := ka_of (by decide +kernel)
theorem ka_6 : ka 6 1 6 := ka_of (by decide +kernel)
theorem ka_7 : ka 7 1 6 := ka_of (by decide +kernel)
theorem ka_8 : ka 8 1 4 := ka_of (by decide +kernel)
theorem ka_9 : ka 9 1 4 := ka_of (by decide +kernel)
theorem ka_10 : ka 10 1 5 := ka_of (by decide +kernel)
theorem ka_11 : ka 11 1 5 := ka_of (by decide +kernel)
theorem ka_12 : ka 12 1 10 := ka_of (by decide +kernel)
theorem ka_13 : ka 13 0 1 := ka_of (by decide +kernel)
theorem ka_14 : ka 14 1 6 := ka_of (by decide +kernel)
theorem ka_15 : ka 15 1 6 := ka_of (by decide +kernel)
theorem ka_16 : ka 16 1 6 := ka_of (by decide +kernel)
theorem ka_17 : ka 17 1 6 := ka_of (by decide +kernel)
theorem ka_18 : ka 18 1 4 := ka_of (by decide +kernel)
theorem ka_19 : ka 19 1 4 := ka_of (by decide +kernel)
theorem ka_20 : ka 20 1 5 := ka_of (by decide +kernel)
theorem ka_21 : ka 21 1 5 := ka_of (by decide +kernel)
theorem ka_22 : ka 22 1 10 := ka_of (by decide +kernel)
theorem ka_23 : ka 23 0 2 := ka_of (by decide +kernel)
theorem ka_24 : ka 24 1 150 := ka_of (by decide +kernel)
theorem ka_25 : ka 25 1 32 := ka_of (by decide +kernel)
theorem ka_26 : ka 26 1 9 := ka_of (by decide +kernel)
theorem ka_27 : ka 27 0 2 := ka_of (by decide +kernel)
theorem ka_28 : ka 28 1 150 := ka_of (by decide +kernel)
theorem ka_29 : ka 29 1 32 := ka_of (by decide +kernel)
theorem ka_30 : ka 30 1 9 := ka_of (by decide +kernel)
theorem ka_31 : ka 31 0 0 := ka_of (by decide +kernel)
theorem ka_32 : ka 32 1 6 := ka_of (by decide +kernel)
theorem ka_33 : ka 33 1 600 := ka_of (by decide +kernel)
theorem ka_34 : ka 34 0 0 := ka_of (by decide +kernel)
theorem ka_35 : ka 35 1 6 := ka_of (by decide +kernel)
theorem ka_36 : ka 36 1 600 := ka_of (by decide +kernel)
theorem ka_37 : ka 37 0 9 := ka_of (by decide +kernel)
theorem ka_38 : ka 38 1 75 := ka_of (by decide +kernel)
theorem ka_39 : ka 39 1 75 := ka_of (by decide +kernel)
theorem ka_40 : ka 40 1 75 := ka_of (by decide +kernel)
theorem ka_41 : ka 41 1 6 := ka_of (by decide +kernel)
theorem ka_42 : ka 42 1 6 := ka_of (by decide +kernel)
theorem ka_43 : ka 43 0 3 := ka_of (by decide +kernel)
theorem ka_44 : ka 44 1 6 := ka_of (by decide +kernel)
theorem ka_45 : ka 45 1 6 := ka_of (by decide +kernel)
theorem ka_46 : ka 46 1 6 := ka_of (by decide +kernel)
theorem ka_47 : ka 47 1 5 := ka_of (by decide +kernel)
theorem ka_48 : ka 48 0 4 := ka_of (by decide +kernel)
theorem ka_49 : ka 49 1 432 := ka_of (by decide +kernel)
theorem ka_50 : ka 50 1 1377 := ka_of (by decide +kernel)
theorem ka_51 : ka 51 1 3 := ka_of (by decide +kernel)
theorem ka_52 : ka 52 0 8 := ka_of (by decide +kernel)
theorem ka_53 : ka 53 1 6 := ka_of (by decide +kernel)
theorem ka_54 : ka 54 1 6 := ka_of (by decide +kernel)
theorem ka_55 : ka 55 1 6 := ka_of (by decide +kernel)
theorem ka_56 : ka 56 0 5 := ka_of (by decide +kernel)
theorem ka_57 : ka 57 1 12 := ka_of (by decide +kernel)
theorem ka_58 : ka 58 1 768 := ka_of (by decide +kernel)
theorem ka_59 : ka 59 1 6 := ka_of (by decide +kernel)
theorem ka_60 : ka 60 1 6 := ka_of (by decide +kernel)
theorem ka_61 : ka 61 1 6 := ka_of (by decide +kernel)
theorem ka_62 : ka 62 3 1200 := ka_of (by decide +kernel)
theorem ka_63 : ka 63 1 64 := ka_of (by decide +kernel)
theorem ka_64 : ka 64 0 6 := ka_of (by decide +kernel)
theorem ka_65 : ka 65 1 49 := ka_of (by decide +kernel)
theorem ka_66 : ka 66 0 10 := ka_of (by decide +kernel)
theorem ka_67 : ka 67 0 3 := ka_of (by decide +kernel)
theorem ka_68 : ka 68 1 6 := ka_of (by decide +kernel)
theorem ka_69 : ka 69 1 6 := ka_of (by decide +kernel)
theorem ka_70 : ka 70 1 6 := ka_of (by decide +kernel)
theorem ka_71 : ka 71 1 5 := ka_of (by decide +kernel)
theorem ka_72 : ka 72 0 12 := ka_of (by decide +kernel)
theorem ka_73 : ka 73 1 600 := ka_of (by decide +kernel)
theorem ka_74 : ka 74 1 2 := ka_of (by decide +kernel)
theorem ka_75 : ka 75 1 4 := ka_of (by decide +kernel)
theorem ka_76 : ka 76 1 4 := ka_of (by decide +kernel)
theorem ka_77 : ka 77 4 6 := ka_of (by decide +kernel)
theorem ka_84 : ka 84 4 6 := ka_of (by decide +kernel)
theorem ka_91 : ka 91 4 4 := ka_of (by decide +kernel)
theorem ka_96 : ka 96 4 5 := ka_of (by decide +kernel)
theorem ka_102 : ka 102 4 5 := ka_of (by decide +kernel)
theorem ka_108 : ka 108 4 5 := ka_of (by decide +kernel)
theorem ka_114 : ka 114 4 160 := ka_of (by decide +kernel)
theorem ka_275 : ka 275 4 160 := ka_of (by decide +kernel)
theorem ka_436 : ka 436 4 6 := ka_of (by decide +kernel)
theorem ka_443 : ka 443 4 6 := ka_of (by decide +kernel)
theorem ka_450 : ka 450 1 160 := ka_of (by decide +kernel)
theorem ka_451 : ka 451 1 9 := ka_of (by decide +kernel)
theorem ka_452 : ka 452 4 80 := ka_of (by decide +kernel)
theorem ka_533 : ka 533 1 31 := ka_of (by decide +kernel)
theorem ka_534 : ka 534 1 31 := ka_of (by decide +kernel)
theorem ka_535 : ka 535 1 6 := ka_of (by decide +kernel)
theorem ka_536 : ka 536 4 16 := ka_of (by decide +kernel)
theorem ka_553 : ka 553 4 3 := ka_of (by decide +kernel)
theorem ka_557 : ka 557 4 64 := ka_of (by decide +kernel)
theorem ka_622 : ka 622 1 6 := ka_of (by decide +kernel)
theorem ka_623 : ka 623 1 2816 := ka_of (by decide +kernel)
theorem ka_624 : ka 624 1 6 := ka_of (by decide +kernel)
theorem ka_625 : ka 625 4 6 := ka_of (by decide +kernel)
theorem ka_632 : ka 632 3 1 := ka_of (by decide +kernel)
theorem r_0_0 : R0 0 0 = some 1 := by decide +kernel
theorem r_0_1 : R0 0 1 = some 3 := by decide +kernel
theorem r_0_2 : R0 0 2 = some 13 := by decide +kernel
theorem r_0_3 : R0 0 3 = some 23 := by decide +kernel
theorem r_0_4 : R0 0 4 = some 27 := by decide +kernel
theorem r_0_5 : R0 0 5 = some 31 := by decide +kernel
theorem r_0_6 : R0 0 6 = some 34 := by decide +kernel
theorem r_0_7 : R0 0 7 = some 37 := by decide +kernel
theorem r_0_8 : R0 0 8 = some 43 := by decide +kernel
theorem r_0_9 : R0 0 9 = some 48 := by decide +kernel
theorem r_0_10 : R0 0 10 = some 52 := by decide +kernel
theorem r_0_11 : R0 0 11 = some 56 := by decide +kernel
theorem r_0_12 : R0 0 12 = some 64 := by decide +kernel
theorem r_0_13 : R0 0 13 = some 66 := by decide +kernel
theorem r_1_0 : R0 1 0 = some 2 := by decide +kernel
theorem r_3_4 : R0 3 4 = some 4 := by decide +kernel
theorem r_3_5 : R0 3 5 = some 5 := by decide +kernel
theorem r_3_6 : R0 3 6 = some 6 := by decide +kernel
theorem r_3_7 : R0 3 7 = some 7 := by decide +kernel
theorem r_3_8 : R0 3 8 = some 8 := by decide +kernel
theorem r_3_9 : R0 3 9 = some 9 := by decide +kernel
theorem r_3_10 : R0 3 10 = some 10 := by decide +kernel
theorem r_3_11 : R0 3 11 = some 11 := by decide +kernel
theorem r_3_12 : R0 3 12 = some 12 := by decide +kernel
theorem r_13_4 : R0 13 4 = some 14 := by decide +kernel
theorem r_13_5 : R0 13 5 = some 15 := by decide +kernel
theorem r_13_6 : R0 13 6 = some 16 := by decide +kernel
theorem r_13_7 : R0 13 7 = some 17 := by decide +kernel
theorem r_13_8 : R0 13 8 = some 18 := by decide +kernel
theorem r_13_9 : R0 13 9 = some 19 := by decide +kernel
theorem r_13_10 : R0 13 10 = some 20 := by decide +kernel
theorem r_13_11 : R0 13 11 = some 21 := by decide +kernel
theorem r_13_12 : R0 13 12 = some 22 := by decide +kernel
theorem r_23_0 : R0 23 0 = some 24 := by decide +kernel
theorem r_23_2 : R0 23 2 = some 25 := by decide +kernel
theorem r_23_3 : R0 23 3 = some 26 := by decide +kernel
theorem r_27_0 : R0 27 0 = some 28 := by decide +kernel
theorem r_27_2 : R0 27 2 = some 29 := by decide +kernel
theorem r_27_3 : R0 27 3 = some 30 := by decide +kernel
theorem r_31_1 : R0 31 1 = some 32 := by decide +kernel
theorem r_31_2 : R0 31 2 = some 33 := by decide +kernel
theorem r_34_1 : R0 34 1 = some 35 := by decide +kernel
theorem r_34_2 : R0 34 2 = some 36 := by decide +kernel
theorem r_37_0 : R0 37 0 = some 38 := by decide +kernel
theorem r_37_1 : R0 37 1 = some 39 := by decide +kernel
theorem r_37_2 : R0 37 2 = some 40 := by decide +kernel
theorem r_37_4 : R0 37 4 = some 41 := by decide +kernel
theorem r_37_5 : R0 37 5 = some 42 := by decide +kernel
theorem r_43_0 : R0 43 0 = some 44 := by decide +kernel
theorem r_43_1 : R0 43 1 = some 45 := by decide +kernel
theorem r_43_2 : R0 43 2 = some 46 := by decide +kernel
theorem r_43_3 : R0 43 3 = some 47 := by decide +kernel
theorem r_67_0 : R0 67 0 = some 68 := by decide +kernel
theorem r_67_1 : R0 67 1 = some 69 := by decide +kernel
theorem r_67_2 : R0 67 2 = some 70 := by decide +kernel
theorem r_67_3 : R0 67 3 = some 71 := by decide +kernel
theorem r_48_0 : R0 48 0 = some 49 := by decide +kernel
theorem r_48_1 : R0 48 1 = some 50 := by decide +kernel
theorem r_48_2 : R0 48 2 = some 51 := by decide +kernel
theorem r_52_0 : R0 52 0 = some 3 := by decide +kernel
theorem r_52_1 : R0 52 1 = some 23 := by decide +kernel
theorem r_52_2 : R0 52 2 = some 53 := by decide +kernel
theorem r_52_3 : R0 52 3 = some 54 := by decide +kernel
theorem r_52_4 : R0 52 4 = some 55 := by decide +kernel
theorem r_56_0 : R0 56 0 = some 3 := by decide +kernel
theorem r_56_1 : R0 56 1 = some 52 := by decide +kernel
theorem r_56_2 : R0 56 2 = some 57 := by decide +kernel
theorem r_56_3 : R0 56 3 = some 58 := by decide +kernel
theorem r_56_5 : R0 56 5 = some 59 := by decide +kernel
theorem r_56_12 : R0 56 12 = some 60 := by decide +kernel
theorem r_56_14 : R0 56 14 = some 61 := by decide +kernel
theorem r_56_15 : R0 56 15 = some 62 := by decide +kernel
theorem r_56_16 : R0 56 16 = some 63 := by decide +kernel
theorem r_64_0 : R0 64 0 = some 52 := by decide +kernel
theorem r_64_1 : R0 64 1 = some 65 := by decide +kernel
theorem r_66_0 : R0 66 0 = some 3 := by decide +kernel
theorem r_66_1 : R0 66 1 = some 52 := by decide +kernel
theorem r_66_2 : R0 66 2 = some 67 := by decide +kernel
theorem r_72_9 : R0 72 9 = some 73 := by decide +kernel
theorem r_72_10 : R0 72 10 = some 74 := by decide +kernel
theorem r_72_11 : R0 72 11 = some 75 := by decide +kernel
theorem r_72_12 : R0 72 12 = some 76 := by decide +kernel
theorem r_72_13 : R0 72 13 = some 77 := by decide +kernel
theorem r_72_14 : R0 72 14 = some 84 := by decide +kernel
theorem r_72_15 : R0 72 15 = some 91 := by decide +kernel
theorem r_72_16 : R0 72 16 = some 96 := by decide +kernel
theorem r_72_17 : R0 72 17 = some 102 := by decide +kernel
theorem r_72_18 : R0 72 18 = some 108 := by decide +kernel
theorem r_72_21 : R0 72 21 = some 114 := by decide +kernel
theorem r_72_22 : R0 72 22 = some 275 := by decide +kernel
theorem r_72_23 : R0 72 23 = some 436 := by decide +kernel
theorem r_72_24 : R0 72 24 = some 443 := by decide +kernel
theorem r_72_25 : R0 72 25 = some 450 := by decide +kernel
theorem r_72_26 : R0 72 26 = some 451 := by decide +kernel
theorem r_72_27 : R0 72 27 = some 452 := by decide +kernel
theorem r_72_29 : R0 72 29 = some 533 := by decide +kernel
theorem r_72_30 : R0 72 30 = some 534 := by decide +kernel
theorem r_72_31 : R0 72 31 = some 535 := by decide +kernel
theorem r_72_32 : R0 72 32 = some 536 := by decide +kernel
theorem r_72_33 : R0 72 33 = some 553 := by decide +kernel
theorem r_72_43 : R0 72 43 = some 557 := by decide +kernel
theorem r_72_44 : R0 72 44 = some 622 := by decide +kernel
theorem r_72_47 : R0 72 47 = some 623 := by decide +kernel
theorem r_72_48 : R0 72 48 = some 624 := by decide +kernel
theorem r_72_49 : R0 72 49 = some 625 := by decide +kernel
theorem kr_77 {i : Nat} (h : i < 6) : ka (77 + 1 + i) 1 4 := by
  have h2 : ∀ i, i < 6 → (Nat.blt (77 + 1 + i) 1000000 && (K0[77 + 1 + i]? == some (1, 4))) = true := by decide +kernel
  exact ka_of (h2 i h)
theorem rr_77 : ∀ j, j < 6 → R0 77 j = some (77 + 1 + j) := by decide +kernel
theorem kr_84 {i : Nat} (h : i < 6) : ka (84 + 1 + i) 1 4 := by
  have h2 : ∀ i, i < 6 → (Nat.blt (84 + 1 + i) 1000000 && (K0[84 + 1 + i]? == some (1, 4))) = true := by decide +kernel
  exact ka_of (h2 i h)
theorem rr_84 : ∀ j, j < 6 → R0 84 j = some (84 + 1 + j) := by decide +kernel
theorem kr_91 {i : Nat} (h : i < 4) : ka (91 + 1 + i) 1 2 := by
  have h2 : ∀ i, i < 4 → (Nat.blt (91 + 1 + i) 1000000 && (K0[91 + 1 + i]? == some (1, 2))) = true := by decide +kernel
  exact ka_of (h2 i h)
theorem rr_91 : ∀ j, j < 4 → R0 91 j = some (91 + 1 + j) := by decide +kernel
theorem kr_96 {i : Nat} (h : i < 5) : ka (96 + 1 + i) 1 2 := by
  have h2 : ∀ i, i < 5 → (Nat.blt (96 + 1 + i) 1000000 && (K0[96 + 1 + i]? == some (1, 2))) = true := by decide +kernel
  exact ka_of (h2 i h)
theorem rr_96 : ∀ j, j < 5 → R0 96 j = some (96 + 1 + j) := by decide +kernel
theorem kr_102 {i : Nat} (h : i < 5) : ka (102 + 1 + i) 1 2 := by
  have h2 : ∀ i, i < 5 → (Nat.blt (102 + 1 + i) 1000000 && (K0[102 + 1 + i]? == some (1, 2))) = true := by decide +kernel
  exact ka_of (h2 i h)
theorem rr_102 : ∀ j, j < 5 → R0 102 j = some (102 + 1 + j) := by decide +kernel
theorem kr_108 {i : Nat} (h : i < 5) : ka (108 + 1 + i) 1 2 := by
  have h2 : ∀ i, i < 5 → (Nat.blt (108 + 1 + i) 1000000 && (K0[108 + 1 + i]? == some (1, 2))) = true := by decide +kernel
  exact ka_of (h2 i h)
theorem rr_108 : ∀ j, j < 5 → R0 108 j = some (108 + 1 + j) := by decide +kernel
theorem kr_114 {i : Nat} (h : i < 160) : ka (114 + 1 + i) 1 2 := by
  have h2 : ∀ i, i < 160 → (Nat.blt (114 + 1 + i) 1000000 && (K0[114 + 1 + i]? == some (1, 2))) = true := by decide +kernel
  exact ka_of (h2 i h)
theorem rr_114 : ∀ j, j < 160 → R0 114 j = some (114 + 1 + j) := by decide +kernel
theorem kr_275 {i : Nat} (h : i < 160) : ka (275 + 1 + i) 1 2 := by
  have h2 : ∀ i, i < 160 → (Nat.blt (275 + 1 + i) 1000000 && (K0[275 + 1 + i]? == some (1, 2))) = true := by decide +kernel
  exact ka_of (h2 i h)
theorem rr_275 : ∀ j, j < 160 → R0 275 j = some (275 + 1 + j) := by decide +kernel
theorem kr_436 {i : Nat} (h : i < 6) : ka (436 + 1 + i) 1 2 := by
  have h2 : ∀ i, i < 6 → (Nat.blt (436 + 1 + i) 1000000 && (K0[436 + 1 + i]? == some (1, 2))) = true := by decide +kernel
  exact ka_of (h2 i h)
theorem rr_436 : ∀ j, j < 6 → R0 436 j = some (436 + 1 + j) := by decide +kernel
theorem kr_443 {i : Nat} (h : i < 6) : ka (443 + 1 + i) 1 2 := by
  have h2 : ∀ i, i < 6 → (Nat.blt (443 + 1 + i) 1000000 && (K0[443 + 1 + i]? == some (1, 2))) = true := by decide +kernel
  exact ka_of (h2 i h)
theorem rr_443 : ∀ j, j < 6 → R0 443 j = some (443 + 1 + j) := by decide +kernel
theorem kr_452 {i : Nat} (h : i < 80) : ka (452 + 1 + i) 1 4 := by
  have h2 : ∀ i, i < 80 → (Nat.blt (452 + 1 + i) 1000000 && (K0[452 + 1 + i]? == some (1, 4))) = true := by decide +kernel
  exact ka_of (h2 i h)
theorem rr_452 : ∀ j, j < 80 → R0 452 j = some (452 + 1 + j) := by decide +kernel
theorem kr_536 {i : Nat} (h : i < 16) : ka (536 + 1 + i) 1 31 := by
  have h2 : ∀ i, i < 16 → (Nat.blt (536 + 1 + i) 1000000 && (K0[536 + 1 + i]? == some (1, 31))) = true := by decide +kernel
  exact ka_of (h2 i h)
theorem rr_536 : ∀ j, j < 16 → R0 536 j = some (536 + 1 + j) := by decide +kernel
theorem kr_553 {i : Nat} (h : i < 3) : ka (553 + 1 + i) 1 528 := by
  have h2 : ∀ i, i < 3 → (Nat.blt (553 + 1 + i) 1000000 && (K0[553 + 1 + i]? == some (1, 528))) = true := by decide +kernel
  exact ka_of (h2 i h)
theorem rr_553 : ∀ j, j < 3 → R0 553 j = some (553 + 1 + j) := by decide +kernel
theorem kr_557 {i : Nat} (h : i < 64) : ka (557 + 1 + i) 1 12 := by
  have h2 : ∀ i, i < 64 → (Nat.blt (557 + 1 + i) 1000000 && (K0[557 + 1 + i]? == some (1, 12))) = true := by decide +kernel
  exact ka_of (h2 i h)
theorem rr_557 : ∀ j, j < 64 → R0 557 j = some (557 + 1 + j) := by decide +kernel
theorem kr_625 {i : Nat} (h : i < 6) : ka (625 + 1 + i) 1 100 := by
  have h2 : ∀ i, i < 6 → (Nat.blt (625 + 1 + i) 1000000 && (K0[625 + 1 + i]? == some (1, 100))) = true := by decide +kernel
  exact ka_of (h2 i h)
theorem rr_625 : ∀ j, j < 6 → R0 625 j = some (625 + 1 + j) := by decide +kernel
def oc1 (a : Nat) : Prop := a = 3 ∨ a = 13
theorem ks1_0 {a : Nat} (h : oc1 a) : ka a 0 1 := by
  rcases h with rfl | rfl
  · exact ka_3
  · exact ka_13
theorem ks1_1 {a : Nat} (h : oc1 a) : ka (a + 1) 1 6 := by
  rcases h with rfl | rfl
  · exact ka_4
  · exact ka_14
theorem rs1_4 {a : Nat} (h : oc1 a) : R0 a 4 = some (a + 1) := by
  rcases h with rfl | rfl
  · exact r_3_4
  · exact r_13_4
theorem ks1_2 {a : Nat} (h : oc1 a) : ka (a + 2) 1 6 := by
  rcases h with rfl | rfl
  · exact ka_5
  · exact ka_15
theorem rs1_5 {a : Nat} (h : oc1 a) : R0 a 5 = some (a + 2) := by
  rcases h with rfl | rfl
  · exact r_3_5
  · exact r_13_5
theorem ks1_3 {a : Nat} (h : oc1 a) : ka (a + 3) 1 6 := by
  rcases h with rfl | rfl
  · exact ka_6
  · exact ka_16
theorem rs1_6 {a : Nat} (h : oc1 a) : R0 a 6 = some (a + 3) := by
  rcases h with rfl | rfl
  · exact r_3_6
  · exact r_13_6
theorem ks1_4 {a : Nat} (h : oc1 a) : ka (a + 4) 1 6 := by
  rcases h with rfl | rfl
  · exact ka_7
  · exact ka_17
theorem rs1_7 {a : Nat} (h : oc1 a) : R0 a 7 = some (a + 4) := by
  rcases h with rfl | rfl
  · exact r_3_7
  · exact r_13_7
theorem ks1_5 {a : Nat} (h : oc1 a) : ka (a + 5) 1 4 := by
  rcases h with rfl | rfl
  · exact ka_8
  · exact ka_18
theorem rs1_8 {a : Nat} (h : oc1 a) : R0 a 8 = some (a + 5) := by
  rcases h with rfl | rfl
  · exact r_3_8
  · exact r_13_8
theorem ks1_6 {a : Nat} (h : oc1 a) : ka (a + 6) 1 4 := by
  rcases h with rfl | rfl
  · exact ka_9
  · exact ka_19
theorem rs1_9 {a : Nat} (h : oc1 a) : R0 a 9 = some (a + 6) := by
  rcases h with rfl | rfl
  · exact r_3_9
  · exact r_13_9
theorem ks1_7 {a : Nat} (h : oc1 a) : ka (a + 7) 1 5 := by
  rcases h with rfl | rfl
  · exact ka_10
  · exact ka_20
theorem rs1_10 {a : Nat} (h : oc1 a) : R0 a 10 = some (a + 7) := by
  rcases h with rfl | rfl
  · exact r_3_10
  · exact r_13_10
theorem ks1_8 {a : Nat} (h : oc1 a) : ka (a + 8) 1 5 := by
  rcases h with rfl | rfl
  · exact ka_11
  · exact ka_21
theorem rs1_11 {a : Nat} (h : oc1 a) : R0 a 11 = some (a + 8) := by
  rcases h with rfl | rfl
  · exact r_3_11
  · exact r_13_11
theorem ks1_9 {a : Nat} (h : oc1 a) : ka (a + 9) 1 10 := by
  rcases h with rfl | rfl
  · exact ka_12
  · exact ka_22
theorem rs1_12 {a : Nat} (h : oc1 a) : R0 a 12 = some (a + 9) := by
  rcases h with rfl | rfl
  · exact r_3_12
  · exact r_13_12
def oc2 (a : Nat) : Prop := a = 23 ∨ a = 27
theorem ks2_0 {a : Nat} (h : oc2 a) : ka a 0 2 := by
  rcases h with rfl | rfl
  · exact ka_23
  · exact ka_27
theorem ks2_1 {a : Nat} (h : oc2 a) : ka (a + 1) 1 150 := by
  rcases h with rfl | rfl
  · exact ka_24
  · exact ka_28
theorem rs2_0 {a : Nat} (h : oc2 a) : R0 a 0 = some (a + 1) := by
  rcases h with rfl | rfl
  · exact r_23_0
  · exact r_27_0
theorem ks2_2 {a : Nat} (h : oc2 a) : ka (a + 2) 1 32 := by
  rcases h with rfl | rfl
  · exact ka_25
  · exact ka_29
theorem rs2_2 {a : Nat} (h : oc2 a) : R0 a 2 = some (a + 2) := by
  rcases h with rfl | rfl
  · exact r_23_2
  · exact r_27_2
theorem ks2_3 {a : Nat} (h : oc2 a) : ka (a + 3) 1 9 := by
  rcases h with rfl | rfl
  · exact ka_26
  · exact ka_30
theorem rs2_3 {a : Nat} (h : oc2 a) : R0 a 3 = some (a + 3) := by
  rcases h with rfl | rfl
  · exact r_23_3
  · exact r_27_3
def oc0 (a : Nat) : Prop := a = 31 ∨ a = 34
theorem ks0_0 {a : Nat} (h : oc0 a) : ka a 0 0 := by
  rcases h with rfl | rfl
  · exact ka_31
  · exact ka_34
theorem ks0_1 {a : Nat} (h : oc0 a) : ka (a + 1) 1 6 := by
  rcases h with rfl | rfl
  · exact ka_32
  · exact ka_35
theorem rs0_1 {a : Nat} (h : oc0 a) : R0 a 1 = some (a + 1) := by
  rcases h with rfl | rfl
  · exact r_31_1
  · exact r_34_1
theorem ks0_2 {a : Nat} (h : oc0 a) : ka (a + 2) 1 600 := by
  rcases h with rfl | rfl
  · exact ka_33
  · exact ka_36
theorem rs0_2 {a : Nat} (h : oc0 a) : R0 a 2 = some (a + 2) := by
  rcases h with rfl | rfl
  · exact r_31_2
  · exact r_34_2
def oc3 (a : Nat) : Prop := a = 43 ∨ a = 67
theorem ks3_0 {a : Nat} (h : oc3 a) : ka a 0 3 := by
  rcases h with rfl | rfl
  · exact ka_43
  · exact ka_67
theorem ks3_1 {a : Nat} (h : oc3 a) : ka (a + 1) 1 6 := by
  rcases h with rfl | rfl
  · exact ka_44
  · exact ka_68
theorem rs3_0 {a : Nat} (h : oc3 a) : R0 a 0 = some (a + 1) := by
  rcases h with rfl | rfl
  · exact r_43_0
  · exact r_67_0
theorem ks3_2 {a : Nat} (h : oc3 a) : ka (a + 2) 1 6 := by
  rcases h with rfl | rfl
  · exact ka_45
  · exact ka_69
theorem rs3_1 {a : Nat} (h : oc3 a) : R0 a 1 = some (a + 2) := by
  rcases h with rfl | rfl
  · exact r_43_1
  · exact r_67_1
theorem ks3_3 {a : Nat} (h : oc3 a) : ka (a + 3) 1 6 := by
  rcases h with rfl | rfl
  · exact ka_46
  · exact ka_70
theorem rs3_2 {a : Nat} (h : oc3 a) : R0 a 2 = some (a + 3) := by
  rcases h with rfl | rfl
  · exact r_43_2
  · exact r_67_2
theorem ks3_4 {a : Nat} (h : oc3 a) : ka (a + 4) 1 5 := by
  rcases h with rfl | rfl
  · exact ka_47
  · exact ka_71
theorem rs3_3 {a : Nat} (h : oc3 a) : R0 a 3 = some (a + 4) := by
  rcases h with rfl | rfl
  · exact r_43_3
  · exact r_67_3
