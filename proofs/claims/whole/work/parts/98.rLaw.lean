/-! THE LAW'S CALLS, ONE BY ONE -/
/-- it ends with 1 -/
def Gd (L Bx : Nat) (x : Option (RS × AM)) : Prop := ∃ (X' : Nat) (I' : MI32) (J' : MI64), x = rI (nI 1) (mm L X' I' J') ∧ X' ≤ Bx
section SG
variable {I : MI32} {L X i Bx mid : Nat} {J : MI64} {x y : Option (RS × AM)} {r : Option Value} {f : Option Value → AM → Option (RS × AM)} {u5 u6 u7 : Option Value} {x1 x2 x3 x4 x5 x6 x7 x8 x9 : Int32}
theorem g_eq (h : x = y) (g : Gd L Bx y) : Gd L Bx x := h ▸ g
theorem g_gd {b : Bool} (h : b = true) (g : Gd L Bx x) : Gd L Bx (gd b x) := by rw [gd_t h]; exact g
theorem g_t {p : Prop} [Decidable p] (h : p) (g : Gd L Bx x) : Gd L Bx (if p then x else y) := by rw [if_pos h]; exact g
theorem g_f {p : Prop} [Decidable p] (h : ¬ p) (g : Gd L Bx y) : Gd L Bx (if p then x else y) := by rw [if_neg h]; exact g
theorem g_be {m : AM} (e : x = some (.inl r, m)) (g : Gd L Bx (f r m)) : Gd L Bx (bnd x f) := by
  rw [e]
  exact g
theorem g_bne {m : AM} (e : x = some (.inl r, m)) (g : Gd L Bx (f r m)) : Gd L Bx (bndN x f) := by
  rw [e]
  exact g
theorem tg_int {v : Value} (h : tgV v = tgV (.int (nI 0))) : ∃ y, v = .int y := by
  cases v with
  | int y => exact ⟨y, rfl⟩
  | _ => simp [tgV] at h
theorem tg_long {v : Value} (h : tgV v = tgV (.long (lN 0))) : ∃ y, v = .long y := by
  cases v with
  | long y => exact ⟨y, rfl⟩
  | _ => simp [tgV] at h
theorem th_e : runM 1000 nX12_thrown [.ref 72] (mm L X I J) = rI (I 72 0) (mm L X I J) := by
  rw [e_X12_thrown]
  exact q_X12_thrown_0
theorem ix_a (hi : i + 10 ≤ L) (hL : L ≤ 5120) : ∀ k, k ≤ 9 → inb (nI i + nI k) L = true := fun k hk => by
  rw [nI_add]
  exact inb_n (by omega) (by omega)
theorem ix_b (hi : i + 10 ≤ L) (hL : L ≤ 5120) : ∀ k, k ≤ 9 → (nI i + nI k).toNatClampNeg = i + k := fun k hk => by
  rw [nI_add, nI_clamp (by omega)]
theorem w1_house (A : A1 999 nX11_house mid [.int x1] (.int (nI 0)) I L X J) : ∃ (y : Int32) (I1 : MI32) (J1 : MI64), runM 1000 nL_house [.ref 0, .int x1, .ref 632] (mm L X I J) = rI (nI 0) (mm L X I1 J1) ∧ J1 632 0 = y.toInt64 ∧ AgM I I1 ∧ ∀ J2, ∃ I2, runM 1000 mid [.ref 72, .int x1] (mm L X I1 J2) = rI y (mm L X I2 J2) ∧ I2 72 0 = nI 0 ∧ Inv I2 := by
  obtain ⟨v, I1, J1, e1, g1, hv, H⟩ := A
  obtain ⟨y, rfl⟩ := tg_int hv
  refine ⟨y, I1, up2 J1 632 0 y.toInt64, ?_, up2_s, g1, H⟩
  rw [e_L_house]
  (first | refine Eq.trans (q_L_house_0) ?_ | refine Eq.trans (q_L_house_13) ?_ | refine Eq.trans (q_L_house_7) ?_)
  rw [e1, bndH_ret]
  (first | refine Eq.trans (q_L_house_0) ?_ | refine Eq.trans (q_L_house_13) ?_ | refine Eq.trans (q_L_house_7) ?_)
  exact gd_t (by decide)
theorem w2_house (A : A2 999 nX11_house mid [.int x1] cI (.int (nI 0)) I L X J) : ∃ (k : Nat) (I1 : MI32), 1 ≤ cI k ∧ cI k ≤ 2 ∧ runM 1000 nL_house [.ref 0, .int x1, .ref 632] (mm L X I J) = rI (nI (cI k)) (mm L (X + 1) I1 J) ∧ AgM I I1 ∧ ∀ J2, ∃ I2, runM 1000 mid [.ref 72, .int x1] (mm L (X + 1) I1 J2) = some (.inl (some (.int (nI 0))), mm L (X + 1) I2 J2) ∧ I2 72 0 = nI (cI k) ∧ Inv I2 := by
  obtain ⟨k, I1, hk, hk2, e1, g1, H⟩ := A
  have k01 : k = 0 ∨ k = 1 := by omega
  rcases k01 with rfl | rfl
  · exact absurd hk2 (by decide)
  · refine ⟨1, I1, by decide, hk2, ?_, g1, H⟩
    rw [e_L_house]
    (first | refine Eq.trans (q_L_house_0) ?_ | refine Eq.trans (q_L_house_13) ?_ | refine Eq.trans (q_L_house_7) ?_)
    rw [e1, bndH_thr, hd_L_house_4_1]
    (first | refine Eq.trans (q_L_house_0) ?_ | refine Eq.trans (q_L_house_13) ?_ | refine Eq.trans (q_L_house_7) ?_)
    rfl
theorem w1_law (A : A1 999 nX11_law mid [.int x1] (.int (nI 0)) I L X J) : ∃ (y : Int32) (I1 : MI32) (J1 : MI64), runM 1000 nL_law [.ref 0, .int x1, .ref 632] (mm L X I J) = rI (nI 0) (mm L X I1 J1) ∧ J1 632 0 = y.toInt64 ∧ AgM I I1 ∧ ∀ J2, ∃ I2, runM 1000 mid [.ref 72, .int x1] (mm L X I1 J2) = rI y (mm L X I2 J2) ∧ I2 72 0 = nI 0 ∧ Inv I2 := by
  obtain ⟨v, I1, J1, e1, g1, hv, H⟩ := A
  obtain ⟨y, rfl⟩ := tg_int hv
  refine ⟨y, I1, up2 J1 632 0 y.toInt64, ?_, up2_s, g1, H⟩
  rw [e_L_law]
  (first | refine Eq.trans (q_L_law_0) ?_ | refine Eq.trans (q_L_law_13) ?_ | refine Eq.trans (q_L_law_7) ?_)
  rw [e1, bndH_ret]
  (first | refine Eq.trans (q_L_law_0) ?_ | refine Eq.trans (q_L_law_13) ?_ | refine Eq.trans (q_L_law_7) ?_)
  exact gd_t (by decide)
theorem w2_law (A : A2 999 nX11_law mid [.int x1] cI (.int (nI 0)) I L X J) : ∃ (k : Nat) (I1 : MI32), 1 ≤ cI k ∧ cI k ≤ 2 ∧ runM 1000 nL_law [.ref 0, .int x1, .ref 632] (mm L X I J) = rI (nI (cI k)) (mm L (X + 1) I1 J) ∧ AgM I I1 ∧ ∀ J2, ∃ I2, runM 1000 mid [.ref 72, .int x1] (mm L (X + 1) I1 J2) = some (.inl (some (.int (nI 0))), mm L (X + 1) I2 J2) ∧ I2 72 0 = nI (cI k) ∧ Inv I2 := by
  obtain ⟨k, I1, hk, hk2, e1, g1, H⟩ := A
  have k01 : k = 0 ∨ k = 1 := by omega
  rcases k01 with rfl | rfl
  · exact absurd hk2 (by decide)
  · refine ⟨1, I1, by decide, hk2, ?_, g1, H⟩
    rw [e_L_law]
    (first | refine Eq.trans (q_L_law_0) ?_ | refine Eq.trans (q_L_law_13) ?_ | refine Eq.trans (q_L_law_7) ?_)
    rw [e1, bndH_thr, hd_L_law_4_1]
    (first | refine Eq.trans (q_L_law_0) ?_ | refine Eq.trans (q_L_law_13) ?_ | refine Eq.trans (q_L_law_7) ?_)
    rfl
theorem w1_work (A : A1 999 nX11_work mid [.int x1] (.int (nI 0)) I L X J) : ∃ (y : Int32) (I1 : MI32) (J1 : MI64), runM 1000 nL_work [.ref 0, .int x1, .ref 632] (mm L X I J) = rI (nI 0) (mm L X I1 J1) ∧ J1 632 0 = y.toInt64 ∧ AgM I I1 ∧ ∀ J2, ∃ I2, runM 1000 mid [.ref 72, .int x1] (mm L X I1 J2) = rI y (mm L X I2 J2) ∧ I2 72 0 = nI 0 ∧ Inv I2 := by
  obtain ⟨v, I1, J1, e1, g1, hv, H⟩ := A
  obtain ⟨y, rfl⟩ := tg_int hv
  refine ⟨y, I1, up2 J1 632 0 y.toInt64, ?_, up2_s, g1, H⟩
  rw [e_L_work]
  (first | refine Eq.trans (q_L_work_0) ?_ | refine Eq.trans (q_L_work_13) ?_ | refine Eq.trans (q_L_work_7) ?_)
  rw [e1, bndH_ret]
  (first | refine Eq.trans (q_L_work_0) ?_ | refine Eq.trans (q_L_work_13) ?_ | refine Eq.trans (q_L_work_7) ?_)
  exact gd_t (by decide)
theorem w2_work (A : A2 999 nX11_work mid [.int x1] cI (.int (nI 0)) I L X J) : ∃ (k : Nat) (I1 : MI32), 1 ≤ cI k ∧ cI k ≤ 2 ∧ runM 1000 nL_work [.ref 0, .int x1, .ref 632] (mm L X I J) = rI (nI (cI k)) (mm L (X + 1) I1 J) ∧ AgM I I1 ∧ ∀ J2, ∃ I2, runM 1000 mid [.ref 72, .int x1] (mm L (X + 1) I1 J2) = some (.inl (some (.int (nI 0))), mm L (X + 1) I2 J2) ∧ I2 72 0 = nI (cI k) ∧ Inv I2 := by
  obtain ⟨k, I1, hk, hk2, e1, g1, H⟩ := A
  have k01 : k = 0 ∨ k = 1 := by omega
  rcases k01 with rfl | rfl
  · exact absurd hk2 (by decide)
  · refine ⟨1, I1, by decide, hk2, ?_, g1, H⟩
    rw [e_L_work]
    (first | refine Eq.trans (q_L_work_0) ?_ | refine Eq.trans (q_L_work_13) ?_ | refine Eq.trans (q_L_work_7) ?_)
    rw [e1, bndH_thr, hd_L_work_4_1]
    (first | refine Eq.trans (q_L_work_0) ?_ | refine Eq.trans (q_L_work_13) ?_ | refine Eq.trans (q_L_work_7) ?_)
    rfl
theorem w1_book (A : A1 999 nX11_book mid [.int x1] (.int (nI 0)) I L X J) : ∃ (y : Int32) (I1 : MI32) (J1 : MI64), runM 1000 nL_book [.ref 0, .int x1, .ref 632] (mm L X I J) = rI (nI 0) (mm L X I1 J1) ∧ J1 632 0 = y.toInt64 ∧ AgM I I1 ∧ ∀ J2, ∃ I2, runM 1000 mid [.ref 72, .int x1] (mm L X I1 J2) = rI y (mm L X I2 J2) ∧ I2 72 0 = nI 0 ∧ Inv I2 := by
  obtain ⟨v, I1, J1, e1, g1, hv, H⟩ := A
  obtain ⟨y, rfl⟩ := tg_int hv
  refine ⟨y, I1, up2 J1 632 0 y.toInt64, ?_, up2_s, g1, H⟩
  rw [e_L_book]
  (first | refine Eq.trans (q_L_book_0) ?_ | refine Eq.trans (q_L_book_13) ?_ | refine Eq.trans (q_L_book_7) ?_)
  rw [e1, bndH_ret]
  (first | refine Eq.trans (q_L_book_0) ?_ | refine Eq.trans (q_L_book_13) ?_ | refine Eq.trans (q_L_book_7) ?_)
  exact gd_t (by decide)
theorem w2_book (A : A2 999 nX11_book mid [.int x1] cI (.int (nI 0)) I L X J) : ∃ (k : Nat) (I1 : MI32), 1 ≤ cI k ∧ cI k ≤ 2 ∧ runM 1000 nL_book [.ref 0, .int x1, .ref 632] (mm L X I J) = rI (nI (cI k)) (mm L (X + 1) I1 J) ∧ AgM I I1 ∧ ∀ J2, ∃ I2, runM 1000 mid [.ref 72, .int x1] (mm L (X + 1) I1 J2) = some (.inl (some (.int (nI 0))), mm L (X + 1) I2 J2) ∧ I2 72 0 = nI (cI k) ∧ Inv I2 := by
  obtain ⟨k, I1, hk, hk2, e1, g1, H⟩ := A
  have k01 : k = 0 ∨ k = 1 := by omega
  rcases k01 with rfl | rfl
  · exact absurd hk2 (by decide)
  · refine ⟨1, I1, by decide, hk2, ?_, g1, H⟩
    rw [e_L_book]
    (first | refine Eq.trans (q_L_book_0) ?_ | refine Eq.trans (q_L_book_13) ?_ | refine Eq.trans (q_L_book_7) ?_)
    rw [e1, bndH_thr, hd_L_book_4_1]
    (first | refine Eq.trans (q_L_book_0) ?_ | refine Eq.trans (q_L_book_13) ?_ | refine Eq.trans (q_L_book_7) ?_)
    rfl
theorem w1_told (A : A1 999 nX11_told mid [.int x1] (.int (nI 0)) I L X J) : ∃ (y : Int32) (I1 : MI32) (J1 : MI64), runM 1000 nL_told [.ref 0, .int x1, .ref 632] (mm L X I J) = rI (nI 0) (mm L X I1 J1) ∧ J1 632 0 = y.toInt64 ∧ AgM I I1 ∧ ∀ J2, ∃ I2, runM 1000 mid [.ref 72, .int x1] (mm L X I1 J2) = rI y (mm L X I2 J2) ∧ I2 72 0 = nI 0 ∧ Inv I2 := by
  obtain ⟨v, I1, J1, e1, g1, hv, H⟩ := A
  obtain ⟨y, rfl⟩ := tg_int hv
  refine ⟨y, I1, up2 J1 632 0 y.toInt64, ?_, up2_s, g1, H⟩
  rw [e_L_told]
  (first | refine Eq.trans (q_L_told_0) ?_ | refine Eq.trans (q_L_told_13) ?_ | refine Eq.trans (q_L_told_7) ?_)
  rw [e1, bndH_ret]
  (first | refine Eq.trans (q_L_told_0) ?_ | refine Eq.trans (q_L_told_13) ?_ | refine Eq.trans (q_L_told_7) ?_)
  exact gd_t (by decide)
theorem w2_told (A : A2 999 nX11_told mid [.int x1] cI (.int (nI 0)) I L X J) : ∃ (k : Nat) (I1 : MI32), 1 ≤ cI k ∧ cI k ≤ 2 ∧ runM 1000 nL_told [.ref 0, .int x1, .ref 632] (mm L X I J) = rI (nI (cI k)) (mm L (X + 1) I1 J) ∧ AgM I I1 ∧ ∀ J2, ∃ I2, runM 1000 mid [.ref 72, .int x1] (mm L (X + 1) I1 J2) = some (.inl (some (.int (nI 0))), mm L (X + 1) I2 J2) ∧ I2 72 0 = nI (cI k) ∧ Inv I2 := by
  obtain ⟨k, I1, hk, hk2, e1, g1, H⟩ := A
  have k01 : k = 0 ∨ k = 1 := by omega
  rcases k01 with rfl | rfl
  · exact absurd hk2 (by decide)
  · refine ⟨1, I1, by decide, hk2, ?_, g1, H⟩
    rw [e_L_told]
    (first | refine Eq.trans (q_L_told_0) ?_ | refine Eq.trans (q_L_told_13) ?_ | refine Eq.trans (q_L_told_7) ?_)
    rw [e1, bndH_thr, hd_L_told_4_1]
    (first | refine Eq.trans (q_L_told_0) ?_ | refine Eq.trans (q_L_told_13) ?_ | refine Eq.trans (q_L_told_7) ?_)
    rfl
theorem w1_piece (A : A1 999 nX11_piece mid [.int x1, .int x2] (.int (nI 0)) I L X J) : ∃ (y : Int32) (I1 : MI32) (J1 : MI64), runM 1000 nL_piece [.ref 0, .int x1, .int x2, .ref 632] (mm L X I J) = rI (nI 0) (mm L X I1 J1) ∧ J1 632 0 = y.toInt64 ∧ AgM I I1 ∧ ∀ J2, ∃ I2, runM 1000 mid [.ref 72, .int x1, .int x2] (mm L X I1 J2) = rI y (mm L X I2 J2) ∧ I2 72 0 = nI 0 ∧ Inv I2 := by
  obtain ⟨v, I1, J1, e1, g1, hv, H⟩ := A
  obtain ⟨y, rfl⟩ := tg_int hv
  refine ⟨y, I1, up2 J1 632 0 y.toInt64, ?_, up2_s, g1, H⟩
  rw [e_L_piece]
  (first | refine Eq.trans (q_L_piece_0) ?_ | refine Eq.trans (q_L_piece_15) ?_ | refine Eq.trans (q_L_piece_19) ?_ | refine Eq.trans (q_L_piece_8) ?_)
  rw [e1, bndH_ret]
  (first | refine Eq.trans (q_L_piece_0) ?_ | refine Eq.trans (q_L_piece_15) ?_ | refine Eq.trans (q_L_piece_19) ?_ | refine Eq.trans (q_L_piece_8) ?_)
  exact gd_t (by decide)
theorem w2_piece (A : A2 999 nX11_piece mid [.int x1, .int x2] cB (.int (nI 0)) I L X J) : ∃ (k : Nat) (I1 : MI32), 1 ≤ cB k ∧ cB k ≤ 2 ∧ runM 1000 nL_piece [.ref 0, .int x1, .int x2, .ref 632] (mm L X I J) = rI (nI (cB k)) (mm L (X + 1) I1 J) ∧ AgM I I1 ∧ ∀ J2, ∃ I2, runM 1000 mid [.ref 72, .int x1, .int x2] (mm L (X + 1) I1 J2) = some (.inl (some (.int (nI 0))), mm L (X + 1) I2 J2) ∧ I2 72 0 = nI (cB k) ∧ Inv I2 := by
  obtain ⟨k, I1, hk, hk2, e1, g1, H⟩ := A
  have k01 : k = 0 ∨ k = 1 := by omega
  rcases k01 with rfl | rfl
  · refine ⟨0, I1, by decide, hk2, ?_, g1, H⟩
    rw [e_L_piece]
    (first | refine Eq.trans (q_L_piece_0) ?_ | refine Eq.trans (q_L_piece_15) ?_ | refine Eq.trans (q_L_piece_19) ?_ | refine Eq.trans (q_L_piece_8) ?_)
    rw [e1, bndH_thr, hd_L_piece_5_0]
    (first | refine Eq.trans (q_L_piece_0) ?_ | refine Eq.trans (q_L_piece_15) ?_ | refine Eq.trans (q_L_piece_19) ?_ | refine Eq.trans (q_L_piece_8) ?_)
    rfl
  · refine ⟨1, I1, by decide, hk2, ?_, g1, H⟩
    rw [e_L_piece]
    (first | refine Eq.trans (q_L_piece_0) ?_ | refine Eq.trans (q_L_piece_15) ?_ | refine Eq.trans (q_L_piece_19) ?_ | refine Eq.trans (q_L_piece_8) ?_)
    rw [e1, bndH_thr, hd_L_piece_5_1]
    (first | refine Eq.trans (q_L_piece_0) ?_ | refine Eq.trans (q_L_piece_15) ?_ | refine Eq.trans (q_L_piece_19) ?_ | refine Eq.trans (q_L_piece_8) ?_)
    rfl
theorem w1_collar (A : A1 999 nX11_collar mid [.int x1, .int x2] (.int (nI 0)) I L X J) : ∃ (y : Int32) (I1 : MI32) (J1 : MI64), runM 1000 nL_collar [.ref 0, .int x1, .int x2, .ref 632] (mm L X I J) = rI (nI 0) (mm L X I1 J1) ∧ J1 632 0 = y.toInt64 ∧ AgM I I1 ∧ ∀ J2, ∃ I2, runM 1000 mid [.ref 72, .int x1, .int x2] (mm L X I1 J2) = rI y (mm L X I2 J2) ∧ I2 72 0 = nI 0 ∧ Inv I2 := by
  obtain ⟨v, I1, J1, e1, g1, hv, H⟩ := A
  obtain ⟨y, rfl⟩ := tg_int hv
  refine ⟨y, I1, up2 J1 632 0 y.toInt64, ?_, up2_s, g1, H⟩
  rw [e_L_collar]
  (first | refine Eq.trans (q_L_collar_0) ?_ | refine Eq.trans (q_L_collar_15) ?_ | refine Eq.trans (q_L_collar_19) ?_ | refine Eq.trans (q_L_collar_8) ?_)
  rw [e1, bndH_ret]
  (first | refine Eq.trans (q_L_collar_0) ?_ | refine Eq.trans (q_L_collar_15) ?_ | refine Eq.trans (q_L_collar_19) ?_ | refine Eq.trans (q_L_collar_8) ?_)
  exact gd_t (by decide)
theorem w2_collar (A : A2 999 nX11_collar mid [.int x1, .int x2] cB (.int (nI 0)) I L X J) : ∃ (k : Nat) (I1 : MI32), 1 ≤ cB k ∧ cB k ≤ 2 ∧ runM 1000 nL_collar [.ref 0, .int x1, .int x2, .ref 632] (mm L X I J) = rI (nI (cB k)) (mm L (X + 1) I1 J) ∧ AgM I I1 ∧ ∀ J2, ∃ I2, runM 1000 mid [.ref 72, .int x1, .int x2] (mm L (X + 1) I1 J2) = some (.inl (some (.int (nI 0))), mm L (X + 1) I2 J2) ∧ I2 72 0 = nI (cB k) ∧ Inv I2 := by
  obtain ⟨k, I1, hk, hk2, e1, g1, H⟩ := A
  have k01 : k = 0 ∨ k = 1 := by omega
  rcases k01 with rfl | rfl
  · refine ⟨0, I1, by decide, hk2, ?_, g1, H⟩
    rw [e_L_collar]
    (first | refine Eq.trans (q_L_collar_0) ?_ | refine Eq.trans (q_L_collar_15) ?_ | refine Eq.trans (q_L_collar_19) ?_ | refine Eq.trans (q_L_collar_8) ?_)
    rw [e1, bndH_thr, hd_L_collar_5_0]
    (first | refine Eq.trans (q_L_collar_0) ?_ | refine Eq.trans (q_L_collar_15) ?_ | refine Eq.trans (q_L_collar_19) ?_ | refine Eq.trans (q_L_collar_8) ?_)
    rfl
  · refine ⟨1, I1, by decide, hk2, ?_, g1, H⟩
    rw [e_L_collar]
    (first | refine Eq.trans (q_L_collar_0) ?_ | refine Eq.trans (q_L_collar_15) ?_ | refine Eq.trans (q_L_collar_19) ?_ | refine Eq.trans (q_L_collar_8) ?_)
    rw [e1, bndH_thr, hd_L_collar_5_1]
    (first | refine Eq.trans (q_L_collar_0) ?_ | refine Eq.trans (q_L_collar_15) ?_ | refine Eq.trans (q_L_collar_19) ?_ | refine Eq.trans (q_L_collar_8) ?_)
    rfl
theorem w1_fire (A : A1 999 nX11_fire mid [.int x1, .int x2] (.int (nI 0)) I L X J) : ∃ (y : Int32) (I1 : MI32) (J1 : MI64), runM 1000 nL_fire [.ref 0, .int x1, .int x2, .ref 632] (mm L X I J) = rI (nI 0) (mm L X I1 J1) ∧ J1 632 0 = y.toInt64 ∧ AgM I I1 ∧ ∀ J2, ∃ I2, runM 1000 mid [.ref 72, .int x1, .int x2] (mm L X I1 J2) = rI y (mm L X I2 J2) ∧ I2 72 0 = nI 0 ∧ Inv I2 := by
  obtain ⟨v, I1, J1, e1, g1, hv, H⟩ := A
  obtain ⟨y, rfl⟩ := tg_int hv
  refine ⟨y, I1, up2 J1 632 0 y.toInt64, ?_, up2_s, g1, H⟩
  rw [e_L_fire]
  (first | refine Eq.trans (q_L_fire_0) ?_ | refine Eq.trans (q_L_fire_15) ?_ | refine Eq.trans (q_L_fire_19) ?_ | refine Eq.trans (q_L_fire_8) ?_)
  rw [e1, bndH_ret]
  (first | refine Eq.trans (q_L_fire_0) ?_ | refine Eq.trans (q_L_fire_15) ?_ | refine Eq.trans (q_L_fire_19) ?_ | refine Eq.trans (q_L_fire_8) ?_)
  exact gd_t (by decide)
theorem w2_fire (A : A2 999 nX11_fire mid [.int x1, .int x2] cB (.int (nI 0)) I L X J) : ∃ (k : Nat) (I1 : MI32), 1 ≤ cB k ∧ cB k ≤ 2 ∧ runM 1000 nL_fire [.ref 0, .int x1, .int x2, .ref 632] (mm L X I J) = rI (nI (cB k)) (mm L (X + 1) I1 J) ∧ AgM I I1 ∧ ∀ J2, ∃ I2, runM 1000 mid [.ref 72, .int x1, .int x2] (mm L (X + 1) I1 J2) = some (.inl (some (.int (nI 0))), mm L (X + 1) I2 J2) ∧ I2 72 0 = nI (cB k) ∧ Inv I2 := by
  obtain ⟨k, I1, hk, hk2, e1, g1, H⟩ := A
  have k01 : k = 0 ∨ k = 1 := by omega
  rcases k01 with rfl | rfl
  · refine ⟨0, I1, by decide, hk2, ?_, g1, H⟩
    rw [e_L_fire]
    (first | refine Eq.trans (q_L_fire_0) ?_ | refine Eq.trans (q_L_fire_15) ?_ | refine Eq.trans (q_L_fire_19) ?_ | refine Eq.trans (q_L_fire_8) ?_)
    rw [e1, bndH_thr, hd_L_fire_5_0]
    (first | refine Eq.trans (q_L_fire_0) ?_ | refine Eq.trans (q_L_fire_15) ?_ | refine Eq.trans (q_L_fire_19) ?_ | refine Eq.trans (q_L_fire_8) ?_)
    rfl
  · refine ⟨1, I1, by decide, hk2, ?_, g1, H⟩
    rw [e_L_fire]
    (first | refine Eq.trans (q_L_fire_0) ?_ | refine Eq.trans (q_L_fire_15) ?_ | refine Eq.trans (q_L_fire_19) ?_ | refine Eq.trans (q_L_fire_8) ?_)
    rw [e1, bndH_thr, hd_L_fire_5_1]
    (first | refine Eq.trans (q_L_fire_0) ?_ | refine Eq.trans (q_L_fire_15) ?_ | refine Eq.trans (q_L_fire_19) ?_ | refine Eq.trans (q_L_fire_8) ?_)
    rfl
theorem w1_row (A : A1 999 nX11_row mid [.int x1] (.int (nI 0)) I L X J) : ∃ (y : Int32) (I1 : MI32) (J1 : MI64), runM 1000 nL_row [.ref 0, .int x1, .ref 632] (mm L X I J) = rI (nI 0) (mm L X I1 J1) ∧ J1 632 0 = y.toInt64 ∧ AgM I I1 ∧ ∀ J2, ∃ I2, runM 1000 mid [.ref 72, .int x1] (mm L X I1 J2) = rI y (mm L X I2 J2) ∧ I2 72 0 = nI 0 ∧ Inv I2 := by
  obtain ⟨v, I1, J1, e1, g1, hv, H⟩ := A
  obtain ⟨y, rfl⟩ := tg_int hv
  refine ⟨y, I1, up2 J1 632 0 y.toInt64, ?_, up2_s, g1, H⟩
  rw [e_L_row]
  (first | refine Eq.trans (q_L_row_0) ?_ | refine Eq.trans (q_L_row_13) ?_ | refine Eq.trans (q_L_row_7) ?_)
  rw [e1, bndH_ret]
  (first | refine Eq.trans (q_L_row_0) ?_ | refine Eq.trans (q_L_row_13) ?_ | refine Eq.trans (q_L_row_7) ?_)
  exact gd_t (by decide)
theorem w2_row (A : A2 999 nX11_row mid [.int x1] cI (.int (nI 0)) I L X J) : ∃ (k : Nat) (I1 : MI32), 1 ≤ cI k ∧ cI k ≤ 2 ∧ runM 1000 nL_row [.ref 0, .int x1, .ref 632] (mm L X I J) = rI (nI (cI k)) (mm L (X + 1) I1 J) ∧ AgM I I1 ∧ ∀ J2, ∃ I2, runM 1000 mid [.ref 72, .int x1] (mm L (X + 1) I1 J2) = some (.inl (some (.int (nI 0))), mm L (X + 1) I2 J2) ∧ I2 72 0 = nI (cI k) ∧ Inv I2 := by
  obtain ⟨k, I1, hk, hk2, e1, g1, H⟩ := A
  have k01 : k = 0 ∨ k = 1 := by omega
  rcases k01 with rfl | rfl
  · exact absurd hk2 (by decide)
  · refine ⟨1, I1, by decide, hk2, ?_, g1, H⟩
    rw [e_L_row]
    (first | refine Eq.trans (q_L_row_0) ?_ | refine Eq.trans (q_L_row_13) ?_ | refine Eq.trans (q_L_row_7) ?_)
    rw [e1, bndH_thr, hd_L_row_4_1]
    (first | refine Eq.trans (q_L_row_0) ?_ | refine Eq.trans (q_L_row_13) ?_ | refine Eq.trans (q_L_row_7) ?_)
    rfl
theorem w1_behind (A : A1 999 nX11_behind mid [.int x1] (.int (nI 0)) I L X J) : ∃ (y : Int32) (I1 : MI32) (J1 : MI64), runM 1000 nL_behind [.ref 0, .int x1, .ref 632] (mm L X I J) = rI (nI 0) (mm L X I1 J1) ∧ J1 632 0 = y.toInt64 ∧ AgM I I1 ∧ ∀ J2, ∃ I2, runM 1000 mid [.ref 72, .int x1] (mm L X I1 J2) = rI y (mm L X I2 J2) ∧ I2 72 0 = nI 0 ∧ Inv I2 := by
  obtain ⟨v, I1, J1, e1, g1, hv, H⟩ := A
  obtain ⟨y, rfl⟩ := tg_int hv
  refine ⟨y, I1, up2 J1 632 0 y.toInt64, ?_, up2_s, g1, H⟩
  rw [e_L_behind]
  (first | refine Eq.trans (q_L_behind_0) ?_ | refine Eq.trans (q_L_behind_13) ?_ | refine Eq.trans (q_L_behind_7) ?_)
  rw [e1, bndH_ret]
  (first | refine Eq.trans (q_L_behind_0) ?_ | refine Eq.trans (q_L_behind_13) ?_ | refine Eq.trans (q_L_behind_7) ?_)
  exact gd_t (by decide)
theorem w2_behind (A : A2 999 nX11_behind mid [.int x1] cI (.int (nI 0)) I L X J) : ∃ (k : Nat) (I1 : MI32), 1 ≤ cI k ∧ cI k ≤ 2 ∧ runM 1000 nL_behind [.ref 0, .int x1, .ref 632] (mm L X I J) = rI (nI (cI k)) (mm L (X + 1) I1 J) ∧ AgM I I1 ∧ ∀ J2, ∃ I2, runM 1000 mid [.ref 72, .int x1] (mm L (X + 1) I1 J2) = some (.inl (some (.int (nI 0))), mm L (X + 1) I2 J2) ∧ I2 72 0 = nI (cI k) ∧ Inv I2 := by
  obtain ⟨k, I1, hk, hk2, e1, g1, H⟩ := A
  have k01 : k = 0 ∨ k = 1 := by omega
  rcases k01 with rfl | rfl
  · exact absurd hk2 (by decide)
  · refine ⟨1, I1, by decide, hk2, ?_, g1, H⟩
    rw [e_L_behind]
    (first | refine Eq.trans (q_L_behind_0) ?_ | refine Eq.trans (q_L_behind_13) ?_ | refine Eq.trans (q_L_behind_7) ?_)
    rw [e1, bndH_thr, hd_L_behind_4_1]
    (first | refine Eq.trans (q_L_behind_0) ?_ | refine Eq.trans (q_L_behind_13) ?_ | refine Eq.trans (q_L_behind_7) ?_)
    rfl
theorem w1_would (A : A1 999 nX11_would mid [.int x1, .int x2, .int x3, .int x4, .int x5, .int x6, .int x7, .int x8, .int x9] (.int (nI 0)) I L X J) : ∃ (y : Int32) (I1 : MI32) (J1 : MI64), runM 1000 nL_would [.ref 0, .int x1, .int x2, .int x3, .int x4, .int x5, .int x6, .int x7, .int x8, .int x9, .ref 632] (mm L X I J) = rI (nI 0) (mm L X I1 J1) ∧ J1 632 0 = y.toInt64 ∧ AgM I I1 ∧ ∀ J2, ∃ I2, runM 1000 mid [.ref 72, .int x1, .int x2, .int x3, .int x4, .int x5, .int x6, .int x7, .int x8, .int x9] (mm L X I1 J2) = rI y (mm L X I2 J2) ∧ I2 72 0 = nI 0 ∧ Inv I2 := by
  obtain ⟨v, I1, J1, e1, g1, hv, H⟩ := A
  obtain ⟨y, rfl⟩ := tg_int hv
  refine ⟨y, I1, up2 J1 632 0 y.toInt64, ?_, up2_s, g1, H⟩
  rw [e_L_would]
  (first | refine Eq.trans (q_L_would_0) ?_ | refine Eq.trans (q_L_would_29) ?_ | refine Eq.trans (q_L_would_22) ?_)
  rw [e1, bndH_ret]
  (first | refine Eq.trans (q_L_would_0) ?_ | refine Eq.trans (q_L_would_29) ?_ | refine Eq.trans (q_L_would_22) ?_)
  exact gd_t (by decide)
theorem w2_would (A : A2 999 nX11_would mid [.int x1, .int x2, .int x3, .int x4, .int x5, .int x6, .int x7, .int x8, .int x9] cI (.int (nI 0)) I L X J) : ∃ (k : Nat) (I1 : MI32), 1 ≤ cI k ∧ cI k ≤ 2 ∧ runM 1000 nL_would [.ref 0, .int x1, .int x2, .int x3, .int x4, .int x5, .int x6, .int x7, .int x8, .int x9, .ref 632] (mm L X I J) = rI (nI (cI k)) (mm L (X + 1) I1 J) ∧ AgM I I1 ∧ ∀ J2, ∃ I2, runM 1000 mid [.ref 72, .int x1, .int x2, .int x3, .int x4, .int x5, .int x6, .int x7, .int x8, .int x9] (mm L (X + 1) I1 J2) = some (.inl (some (.int (nI 0))), mm L (X + 1) I2 J2) ∧ I2 72 0 = nI (cI k) ∧ Inv I2 := by
  obtain ⟨k, I1, hk, hk2, e1, g1, H⟩ := A
  have k01 : k = 0 ∨ k = 1 := by omega
  rcases k01 with rfl | rfl
  · exact absurd hk2 (by decide)
  · refine ⟨1, I1, by decide, hk2, ?_, g1, H⟩
    rw [e_L_would]
    (first | refine Eq.trans (q_L_would_0) ?_ | refine Eq.trans (q_L_would_29) ?_ | refine Eq.trans (q_L_would_22) ?_)
    rw [e1, bndH_thr, hd_L_would_19_1]
    (first | refine Eq.trans (q_L_would_0) ?_ | refine Eq.trans (q_L_would_29) ?_ | refine Eq.trans (q_L_would_22) ?_)
    rfl
theorem w1_fits (A : A1 999 nX11_fits mid [.int x1, .int x2] (.int (nI 0)) I L X J) : ∃ (y : Int32) (I1 : MI32) (J1 : MI64), runM 1000 nL_fits [.ref 0, .int x1, .int x2, .ref 632] (mm L X I J) = rI (nI 0) (mm L X I1 J1) ∧ J1 632 0 = (if y = nI 0 then lN 0 else lN 1) ∧ AgM I I1 ∧ ∀ J2, ∃ I2, runM 1000 mid [.ref 72, .int x1, .int x2] (mm L X I1 J2) = rI y (mm L X I2 J2) ∧ I2 72 0 = nI 0 ∧ Inv I2 := by
  obtain ⟨v, I1, J1, e1, g1, hv, H⟩ := A
  obtain ⟨y, rfl⟩ := tg_int hv
  refine ⟨y, I1, up2 J1 632 0 (if y = nI 0 then lN 0 else lN 1), ?_, up2_s, g1, H⟩
  rw [e_L_fits]
  (first | refine Eq.trans (q_L_fits_0) ?_ | refine Eq.trans (q_L_fits_22) ?_ | refine Eq.trans (q_L_fits_8) ?_ | refine Eq.trans (q_L_fits_16) ?_)
  rw [e1, bndH_ret]
  (first | refine Eq.trans (q_L_fits_0) ?_ | refine Eq.trans (q_L_fits_22) ?_ | refine Eq.trans (q_L_fits_8) ?_ | refine Eq.trans (q_L_fits_16) ?_)
  by_cases q : y = nI 0
  · rw [if_pos q, if_pos q]
    (first | refine Eq.trans (q_L_fits_0) ?_ | refine Eq.trans (q_L_fits_22) ?_ | refine Eq.trans (q_L_fits_8) ?_ | refine Eq.trans (q_L_fits_16) ?_)
    exact gd_t (by decide)
  · rw [if_neg q, if_neg q]
    (first | refine Eq.trans (q_L_fits_0) ?_ | refine Eq.trans (q_L_fits_22) ?_ | refine Eq.trans (q_L_fits_8) ?_ | refine Eq.trans (q_L_fits_16) ?_)
    exact gd_t (by decide)
theorem w2_fits (A : A2 999 nX11_fits mid [.int x1, .int x2] cI (.int (nI 0)) I L X J) : ∃ (k : Nat) (I1 : MI32), 1 ≤ cI k ∧ cI k ≤ 2 ∧ runM 1000 nL_fits [.ref 0, .int x1, .int x2, .ref 632] (mm L X I J) = rI (nI (cI k)) (mm L (X + 1) I1 J) ∧ AgM I I1 ∧ ∀ J2, ∃ I2, runM 1000 mid [.ref 72, .int x1, .int x2] (mm L (X + 1) I1 J2) = some (.inl (some (.int (nI 0))), mm L (X + 1) I2 J2) ∧ I2 72 0 = nI (cI k) ∧ Inv I2 := by
  obtain ⟨k, I1, hk, hk2, e1, g1, H⟩ := A
  have k01 : k = 0 ∨ k = 1 := by omega
  rcases k01 with rfl | rfl
  · exact absurd hk2 (by decide)
  · refine ⟨1, I1, by decide, hk2, ?_, g1, H⟩
    rw [e_L_fits]
    (first | refine Eq.trans (q_L_fits_0) ?_ | refine Eq.trans (q_L_fits_22) ?_ | refine Eq.trans (q_L_fits_8) ?_ | refine Eq.trans (q_L_fits_16) ?_)
    rw [e1, bndH_thr, hd_L_fits_5_1]
    (first | refine Eq.trans (q_L_fits_0) ?_ | refine Eq.trans (q_L_fits_22) ?_ | refine Eq.trans (q_L_fits_8) ?_ | refine Eq.trans (q_L_fits_16) ?_)
    rfl
theorem w1_can (A : A1 999 nX11_can mid [.int x1] (.int (nI 0)) I L X J) : ∃ (y : Int32) (I1 : MI32) (J1 : MI64), runM 1000 nL_can [.ref 0, .int x1, .ref 632] (mm L X I J) = rI (nI 0) (mm L X I1 J1) ∧ J1 632 0 = (if y = nI 0 then lN 0 else lN 1) ∧ AgM I I1 ∧ ∀ J2, ∃ I2, runM 1000 mid [.ref 72, .int x1] (mm L X I1 J2) = rI y (mm L X I2 J2) ∧ I2 72 0 = nI 0 ∧ Inv I2 := by
  obtain ⟨v, I1, J1, e1, g1, hv, H⟩ := A
  obtain ⟨y, rfl⟩ := tg_int hv
  refine ⟨y, I1, up2 J1 632 0 (if y = nI 0 then lN 0 else lN 1), ?_, up2_s, g1, H⟩
  rw [e_L_can]
  (first | refine Eq.trans (q_L_can_0) ?_ | refine Eq.trans (q_L_can_20) ?_ | refine Eq.trans (q_L_can_7) ?_ | refine Eq.trans (q_L_can_15) ?_)
  rw [e1, bndH_ret]
  (first | refine Eq.trans (q_L_can_0) ?_ | refine Eq.trans (q_L_can_20) ?_ | refine Eq.trans (q_L_can_7) ?_ | refine Eq.trans (q_L_can_15) ?_)
  by_cases q : y = nI 0
  · rw [if_pos q, if_pos q]
    (first | refine Eq.trans (q_L_can_0) ?_ | refine Eq.trans (q_L_can_20) ?_ | refine Eq.trans (q_L_can_7) ?_ | refine Eq.trans (q_L_can_15) ?_)
    exact gd_t (by decide)
  · rw [if_neg q, if_neg q]
    (first | refine Eq.trans (q_L_can_0) ?_ | refine Eq.trans (q_L_can_20) ?_ | refine Eq.trans (q_L_can_7) ?_ | refine Eq.trans (q_L_can_15) ?_)
    exact gd_t (by decide)
theorem w2_can (A : A2 999 nX11_can mid [.int x1] cN (.int (nI 0)) I L X J) : ∃ (k : Nat) (I1 : MI32), 1 ≤ cN k ∧ cN k ≤ 2 ∧ runM 1000 nL_can [.ref 0, .int x1, .ref 632] (mm L X I J) = rI (nI (cN k)) (mm L (X + 1) I1 J) ∧ AgM I I1 ∧ ∀ J2, ∃ I2, runM 1000 mid [.ref 72, .int x1] (mm L (X + 1) I1 J2) = some (.inl (some (.int (nI 0))), mm L (X + 1) I2 J2) ∧ I2 72 0 = nI (cN k) ∧ Inv I2 := by
  obtain ⟨k, I1, hk, hk2, e1, g1, H⟩ := A
  have k01 : k = 0 ∨ k = 1 := by omega
  rcases k01 with rfl | rfl
  · refine ⟨0, I1, by decide, hk2, ?_, g1, H⟩
    rw [e_L_can]
    (first | refine Eq.trans (q_L_can_0) ?_ | refine Eq.trans (q_L_can_20) ?_ | refine Eq.trans (q_L_can_7) ?_ | refine Eq.trans (q_L_can_15) ?_)
    rw [e1, bndH_thr, hd_L_can_4_0]
    (first | refine Eq.trans (q_L_can_0) ?_ | refine Eq.trans (q_L_can_20) ?_ | refine Eq.trans (q_L_can_7) ?_ | refine Eq.trans (q_L_can_15) ?_)
    rfl
  · exact absurd hk2 (by decide)
theorem w1_ahead (A : A1 999 nX11_ahead mid [.int x1] (.int (nI 0)) I L X J) : ∃ (y : Int32) (I1 : MI32) (J1 : MI64), runM 1000 nL_ahead [.ref 0, .int x1, .ref 632] (mm L X I J) = rI (nI 0) (mm L X I1 J1) ∧ J1 632 0 = y.toInt64 ∧ AgM I I1 ∧ ∀ J2, ∃ I2, runM 1000 mid [.ref 72, .int x1] (mm L X I1 J2) = rI y (mm L X I2 J2) ∧ I2 72 0 = nI 0 ∧ Inv I2 := by
  obtain ⟨v, I1, J1, e1, g1, hv, H⟩ := A
  obtain ⟨y, rfl⟩ := tg_int hv
  refine ⟨y, I1, up2 J1 632 0 y.toInt64, ?_, up2_s, g1, H⟩
  rw [e_L_ahead]
  (first | refine Eq.trans (q_L_ahead_0) ?_ | refine Eq.trans (q_L_ahead_13) ?_ | refine Eq.trans (q_L_ahead_7) ?_)
  rw [e1, bndH_ret]
  (first | refine Eq.trans (q_L_ahead_0) ?_ | refine Eq.trans (q_L_ahead_13) ?_ | refine Eq.trans (q_L_ahead_7) ?_)
  exact gd_t (by decide)
theorem w2_ahead (A : A2 999 nX11_ahead mid [.int x1] cI (.int (nI 0)) I L X J) : ∃ (k : Nat) (I1 : MI32), 1 ≤ cI k ∧ cI k ≤ 2 ∧ runM 1000 nL_ahead [.ref 0, .int x1, .ref 632] (mm L X I J) = rI (nI (cI k)) (mm L (X + 1) I1 J) ∧ AgM I I1 ∧ ∀ J2, ∃ I2, runM 1000 mid [.ref 72, .int x1] (mm L (X + 1) I1 J2) = some (.inl (some (.int (nI 0))), mm L (X + 1) I2 J2) ∧ I2 72 0 = nI (cI k) ∧ Inv I2 := by
  obtain ⟨k, I1, hk, hk2, e1, g1, H⟩ := A
  have k01 : k = 0 ∨ k = 1 := by omega
  rcases k01 with rfl | rfl
  · exact absurd hk2 (by decide)
  · refine ⟨1, I1, by decide, hk2, ?_, g1, H⟩
    rw [e_L_ahead]
    (first | refine Eq.trans (q_L_ahead_0) ?_ | refine Eq.trans (q_L_ahead_13) ?_ | refine Eq.trans (q_L_ahead_7) ?_)
    rw [e1, bndH_thr, hd_L_ahead_4_1]
    (first | refine Eq.trans (q_L_ahead_0) ?_ | refine Eq.trans (q_L_ahead_13) ?_ | refine Eq.trans (q_L_ahead_7) ?_)
    rfl
theorem w1_chain (A : A1 999 nX11_chain mid [.int x1] (.int (nI 0)) I L X J) : ∃ (y : Int32) (I1 : MI32) (J1 : MI64), runM 1000 nL_chain [.ref 0, .int x1, .ref 632] (mm L X I J) = rI (nI 0) (mm L X I1 J1) ∧ J1 632 0 = y.toInt64 ∧ AgM I I1 ∧ ∀ J2, ∃ I2, runM 1000 mid [.ref 72, .int x1] (mm L X I1 J2) = rI y (mm L X I2 J2) ∧ I2 72 0 = nI 0 ∧ Inv I2 := by
  obtain ⟨v, I1, J1, e1, g1, hv, H⟩ := A
  obtain ⟨y, rfl⟩ := tg_int hv
  refine ⟨y, I1, up2 J1 632 0 y.toInt64, ?_, up2_s, g1, H⟩
  rw [e_L_chain]
  (first | refine Eq.trans (q_L_chain_0) ?_ | refine Eq.trans (q_L_chain_13) ?_ | refine Eq.trans (q_L_chain_7) ?_)
  rw [e1, bndH_ret]
  (first | refine Eq.trans (q_L_chain_0) ?_ | refine Eq.trans (q_L_chain_13) ?_ | refine Eq.trans (q_L_chain_7) ?_)
  exact gd_t (by decide)
theorem w2_chain (A : A2 999 nX11_chain mid [.int x1] cI (.int (nI 0)) I L X J) : ∃ (k : Nat) (I1 : MI32), 1 ≤ cI k ∧ cI k ≤ 2 ∧ runM 1000 nL_chain [.ref 0, .int x1, .ref 632] (mm L X I J) = rI (nI (cI k)) (mm L (X + 1) I1 J) ∧ AgM I I1 ∧ ∀ J2, ∃ I2, runM 1000 mid [.ref 72, .int x1] (mm L (X + 1) I1 J2) = some (.inl (some (.int (nI 0))), mm L (X + 1) I2 J2) ∧ I2 72 0 = nI (cI k) ∧ Inv I2 := by
  obtain ⟨k, I1, hk, hk2, e1, g1, H⟩ := A
  have k01 : k = 0 ∨ k = 1 := by omega
  rcases k01 with rfl | rfl
  · exact absurd hk2 (by decide)
  · refine ⟨1, I1, by decide, hk2, ?_, g1, H⟩
    rw [e_L_chain]
    (first | refine Eq.trans (q_L_chain_0) ?_ | refine Eq.trans (q_L_chain_13) ?_ | refine Eq.trans (q_L_chain_7) ?_)
    rw [e1, bndH_thr, hd_L_chain_4_1]
    (first | refine Eq.trans (q_L_chain_0) ?_ | refine Eq.trans (q_L_chain_13) ?_ | refine Eq.trans (q_L_chain_7) ?_)
    rfl
theorem w1_chained (A : A1 999 nX11_chained mid [.int x1] (.int (nI 0)) I L X J) : ∃ (y : Int32) (I1 : MI32) (J1 : MI64), runM 1000 nL_chained [.ref 0, .int x1, .ref 632] (mm L X I J) = rI (nI 0) (mm L X I1 J1) ∧ J1 632 0 = y.toInt64 ∧ AgM I I1 ∧ ∀ J2, ∃ I2, runM 1000 mid [.ref 72, .int x1] (mm L X I1 J2) = rI y (mm L X I2 J2) ∧ I2 72 0 = nI 0 ∧ Inv I2 := by
  obtain ⟨v, I1, J1, e1, g1, hv, H⟩ := A
  obtain ⟨y, rfl⟩ := tg_int hv
  refine ⟨y, I1, up2 J1 632 0 y.toInt64, ?_, up2_s, g1, H⟩
  rw [e_L_chained]
  (first | refine Eq.trans (q_L_chained_0) ?_ | refine Eq.trans (q_L_chained_13) ?_ | refine Eq.trans (q_L_chained_7) ?_)
  rw [e1, bndH_ret]
  (first | refine Eq.trans (q_L_chained_0) ?_ | refine Eq.trans (q_L_chained_13) ?_ | refine Eq.trans (q_L_chained_7) ?_)
  exact gd_t (by decide)
theorem w2_chained (A : A2 999 nX11_chained mid [.int x1] cI (.int (nI 0)) I L X J) : ∃ (k : Nat) (I1 : MI32), 1 ≤ cI k ∧ cI k ≤ 2 ∧ runM 1000 nL_chained [.ref 0, .int x1, .ref 632] (mm L X I J) = rI (nI (cI k)) (mm L (X + 1) I1 J) ∧ AgM I I1 ∧ ∀ J2, ∃ I2, runM 1000 mid [.ref 72, .int x1] (mm L (X + 1) I1 J2) = some (.inl (some (.int (nI 0))), mm L (X + 1) I2 J2) ∧ I2 72 0 = nI (cI k) ∧ Inv I2 := by
  obtain ⟨k, I1, hk, hk2, e1, g1, H⟩ := A
  have k01 : k = 0 ∨ k = 1 := by omega
  rcases k01 with rfl | rfl
  · exact absurd hk2 (by decide)
  · refine ⟨1, I1, by decide, hk2, ?_, g1, H⟩
    rw [e_L_chained]
    (first | refine Eq.trans (q_L_chained_0) ?_ | refine Eq.trans (q_L_chained_13) ?_ | refine Eq.trans (q_L_chained_7) ?_)
    rw [e1, bndH_thr, hd_L_chained_4_1]
    (first | refine Eq.trans (q_L_chained_0) ?_ | refine Eq.trans (q_L_chained_13) ?_ | refine Eq.trans (q_L_chained_7) ?_)
    rfl
theorem w1_brief (A : A1 999 nX11_brief mid [.int x1] (.int (nI 0)) I L X J) : ∃ (y : Int32) (I1 : MI32) (J1 : MI64), runM 1000 nL_brief [.ref 0, .int x1, .ref 632] (mm L X I J) = rI (nI 0) (mm L X I1 J1) ∧ J1 632 0 = y.toInt64 ∧ AgM I I1 ∧ ∀ J2, ∃ I2, runM 1000 mid [.ref 72, .int x1] (mm L X I1 J2) = rI y (mm L X I2 J2) ∧ I2 72 0 = nI 0 ∧ Inv I2 := by
  obtain ⟨v, I1, J1, e1, g1, hv, H⟩ := A
  obtain ⟨y, rfl⟩ := tg_int hv
  refine ⟨y, I1, up2 J1 632 0 y.toInt64, ?_, up2_s, g1, H⟩
  rw [e_L_brief]
  (first | refine Eq.trans (q_L_brief_0) ?_ | refine Eq.trans (q_L_brief_13) ?_ | refine Eq.trans (q_L_brief_7) ?_)
  rw [e1, bndH_ret]
  (first | refine Eq.trans (q_L_brief_0) ?_ | refine Eq.trans (q_L_brief_13) ?_ | refine Eq.trans (q_L_brief_7) ?_)
  exact gd_t (by decide)
theorem w2_brief (A : A2 999 nX11_brief mid [.int x1] cN (.int (nI 0)) I L X J) : ∃ (k : Nat) (I1 : MI32), 1 ≤ cN k ∧ cN k ≤ 2 ∧ runM 1000 nL_brief [.ref 0, .int x1, .ref 632] (mm L X I J) = rI (nI (cN k)) (mm L (X + 1) I1 J) ∧ AgM I I1 ∧ ∀ J2, ∃ I2, runM 1000 mid [.ref 72, .int x1] (mm L (X + 1) I1 J2) = some (.inl (some (.int (nI 0))), mm L (X + 1) I2 J2) ∧ I2 72 0 = nI (cN k) ∧ Inv I2 := by
  obtain ⟨k, I1, hk, hk2, e1, g1, H⟩ := A
  have k01 : k = 0 ∨ k = 1 := by omega
  rcases k01 with rfl | rfl
  · refine ⟨0, I1, by decide, hk2, ?_, g1, H⟩
    rw [e_L_brief]
    (first | refine Eq.trans (q_L_brief_0) ?_ | refine Eq.trans (q_L_brief_13) ?_ | refine Eq.trans (q_L_brief_7) ?_)
    rw [e1, bndH_thr, hd_L_brief_4_0]
    (first | refine Eq.trans (q_L_brief_0) ?_ | refine Eq.trans (q_L_brief_13) ?_ | refine Eq.trans (q_L_brief_7) ?_)
    rfl
  · exact absurd hk2 (by decide)
theorem w1_briefly (A : A1 999 nX11_briefly mid [.int x1, .int x2] (.int (nI 0)) I L X J) : ∃ (y : Int32) (I1 : MI32) (J1 : MI64), runM 1000 nL_briefly [.ref 0, .int x1, .int x2, .ref 632] (mm L X I J) = rI (nI 0) (mm L X I1 J1) ∧ J1 632 0 = y.toInt64 ∧ AgM I I1 ∧ ∀ J2, ∃ I2, runM 1000 mid [.ref 72, .int x1, .int x2] (mm L X I1 J2) = rI y (mm L X I2 J2) ∧ I2 72 0 = nI 0 ∧ Inv I2 := by
  obtain ⟨v, I1, J1, e1, g1, hv, H⟩ := A
  obtain ⟨y, rfl⟩ := tg_int hv
  refine ⟨y, I1, up2 J1 632 0 y.toInt64, ?_, up2_s, g1, H⟩
  rw [e_L_briefly]
  (first | refine Eq.trans (q_L_briefly_0) ?_ | refine Eq.trans (q_L_briefly_15) ?_ | refine Eq.trans (q_L_briefly_19) ?_ | refine Eq.trans (q_L_briefly_8) ?_)
  rw [e1, bndH_ret]
  (first | refine Eq.trans (q_L_briefly_0) ?_ | refine Eq.trans (q_L_briefly_15) ?_ | refine Eq.trans (q_L_briefly_19) ?_ | refine Eq.trans (q_L_briefly_8) ?_)
  exact gd_t (by decide)
theorem w2_briefly (A : A2 999 nX11_briefly mid [.int x1, .int x2] cB (.int (nI 0)) I L X J) : ∃ (k : Nat) (I1 : MI32), 1 ≤ cB k ∧ cB k ≤ 2 ∧ runM 1000 nL_briefly [.ref 0, .int x1, .int x2, .ref 632] (mm L X I J) = rI (nI (cB k)) (mm L (X + 1) I1 J) ∧ AgM I I1 ∧ ∀ J2, ∃ I2, runM 1000 mid [.ref 72, .int x1, .int x2] (mm L (X + 1) I1 J2) = some (.inl (some (.int (nI 0))), mm L (X + 1) I2 J2) ∧ I2 72 0 = nI (cB k) ∧ Inv I2 := by
  obtain ⟨k, I1, hk, hk2, e1, g1, H⟩ := A
  have k01 : k = 0 ∨ k = 1 := by omega
  rcases k01 with rfl | rfl
  · refine ⟨0, I1, by decide, hk2, ?_, g1, H⟩
    rw [e_L_briefly]
    (first | refine Eq.trans (q_L_briefly_0) ?_ | refine Eq.trans (q_L_briefly_15) ?_ | refine Eq.trans (q_L_briefly_19) ?_ | refine Eq.trans (q_L_briefly_8) ?_)
    rw [e1, bndH_thr, hd_L_briefly_5_0]
    (first | refine Eq.trans (q_L_briefly_0) ?_ | refine Eq.trans (q_L_briefly_15) ?_ | refine Eq.trans (q_L_briefly_19) ?_ | refine Eq.trans (q_L_briefly_8) ?_)
    rfl
  · refine ⟨1, I1, by decide, hk2, ?_, g1, H⟩
    rw [e_L_briefly]
    (first | refine Eq.trans (q_L_briefly_0) ?_ | refine Eq.trans (q_L_briefly_15) ?_ | refine Eq.trans (q_L_briefly_19) ?_ | refine Eq.trans (q_L_briefly_8) ?_)
    rw [e1, bndH_thr, hd_L_briefly_5_1]
    (first | refine Eq.trans (q_L_briefly_0) ?_ | refine Eq.trans (q_L_briefly_15) ?_ | refine Eq.trans (q_L_briefly_19) ?_ | refine Eq.trans (q_L_briefly_8) ?_)
    rfl
theorem w1_joiner (A : A1 999 nX11_joiner mid [.int x1] (.int (nI 0)) I L X J) : ∃ (y : Int32) (I1 : MI32) (J1 : MI64), runM 1000 nL_joiner [.ref 0, .int x1, .ref 632] (mm L X I J) = rI (nI 0) (mm L X I1 J1) ∧ J1 632 0 = y.toInt64 ∧ AgM I I1 ∧ ∀ J2, ∃ I2, runM 1000 mid [.ref 72, .int x1] (mm L X I1 J2) = rI y (mm L X I2 J2) ∧ I2 72 0 = nI 0 ∧ Inv I2 := by
  obtain ⟨v, I1, J1, e1, g1, hv, H⟩ := A
  obtain ⟨y, rfl⟩ := tg_int hv
  refine ⟨y, I1, up2 J1 632 0 y.toInt64, ?_, up2_s, g1, H⟩
  rw [e_L_joiner]
  (first | refine Eq.trans (q_L_joiner_0) ?_ | refine Eq.trans (q_L_joiner_13) ?_ | refine Eq.trans (q_L_joiner_7) ?_)
  rw [e1, bndH_ret]
  (first | refine Eq.trans (q_L_joiner_0) ?_ | refine Eq.trans (q_L_joiner_13) ?_ | refine Eq.trans (q_L_joiner_7) ?_)
  exact gd_t (by decide)
theorem w2_joiner (A : A2 999 nX11_joiner mid [.int x1] cI (.int (nI 0)) I L X J) : ∃ (k : Nat) (I1 : MI32), 1 ≤ cI k ∧ cI k ≤ 2 ∧ runM 1000 nL_joiner [.ref 0, .int x1, .ref 632] (mm L X I J) = rI (nI (cI k)) (mm L (X + 1) I1 J) ∧ AgM I I1 ∧ ∀ J2, ∃ I2, runM 1000 mid [.ref 72, .int x1] (mm L (X + 1) I1 J2) = some (.inl (some (.int (nI 0))), mm L (X + 1) I2 J2) ∧ I2 72 0 = nI (cI k) ∧ Inv I2 := by
  obtain ⟨k, I1, hk, hk2, e1, g1, H⟩ := A
  have k01 : k = 0 ∨ k = 1 := by omega
  rcases k01 with rfl | rfl
  · exact absurd hk2 (by decide)
  · refine ⟨1, I1, by decide, hk2, ?_, g1, H⟩
    rw [e_L_joiner]
    (first | refine Eq.trans (q_L_joiner_0) ?_ | refine Eq.trans (q_L_joiner_13) ?_ | refine Eq.trans (q_L_joiner_7) ?_)
    rw [e1, bndH_thr, hd_L_joiner_4_1]
    (first | refine Eq.trans (q_L_joiner_0) ?_ | refine Eq.trans (q_L_joiner_13) ?_ | refine Eq.trans (q_L_joiner_7) ?_)
    rfl
theorem w1_leaks (A : A1 999 nX11_leaks mid [.int x1] (.int (nI 0)) I L X J) : ∃ (y : Int32) (I1 : MI32) (J1 : MI64), runM 1000 nL_leaks [.ref 0, .int x1, .ref 632] (mm L X I J) = rI (nI 0) (mm L X I1 J1) ∧ J1 632 0 = y.toInt64 ∧ AgM I I1 ∧ ∀ J2, ∃ I2, runM 1000 mid [.ref 72, .int x1] (mm L X I1 J2) = rI y (mm L X I2 J2) ∧ I2 72 0 = nI 0 ∧ Inv I2 := by
  obtain ⟨v, I1, J1, e1, g1, hv, H⟩ := A
  obtain ⟨y, rfl⟩ := tg_int hv
  refine ⟨y, I1, up2 J1 632 0 y.toInt64, ?_, up2_s, g1, H⟩
  rw [e_L_leaks]
  (first | refine Eq.trans (q_L_leaks_0) ?_ | refine Eq.trans (q_L_leaks_13) ?_ | refine Eq.trans (q_L_leaks_7) ?_)
  rw [e1, bndH_ret]
  (first | refine Eq.trans (q_L_leaks_0) ?_ | refine Eq.trans (q_L_leaks_13) ?_ | refine Eq.trans (q_L_leaks_7) ?_)
  exact gd_t (by decide)
theorem w2_leaks (A : A2 999 nX11_leaks mid [.int x1] cI (.int (nI 0)) I L X J) : ∃ (k : Nat) (I1 : MI32), 1 ≤ cI k ∧ cI k ≤ 2 ∧ runM 1000 nL_leaks [.ref 0, .int x1, .ref 632] (mm L X I J) = rI (nI (cI k)) (mm L (X + 1) I1 J) ∧ AgM I I1 ∧ ∀ J2, ∃ I2, runM 1000 mid [.ref 72, .int x1] (mm L (X + 1) I1 J2) = some (.inl (some (.int (nI 0))), mm L (X + 1) I2 J2) ∧ I2 72 0 = nI (cI k) ∧ Inv I2 := by
  obtain ⟨k, I1, hk, hk2, e1, g1, H⟩ := A
  have k01 : k = 0 ∨ k = 1 := by omega
  rcases k01 with rfl | rfl
  · exact absurd hk2 (by decide)
  · refine ⟨1, I1, by decide, hk2, ?_, g1, H⟩
    rw [e_L_leaks]
    (first | refine Eq.trans (q_L_leaks_0) ?_ | refine Eq.trans (q_L_leaks_13) ?_ | refine Eq.trans (q_L_leaks_7) ?_)
    rw [e1, bndH_thr, hd_L_leaks_4_1]
    (first | refine Eq.trans (q_L_leaks_0) ?_ | refine Eq.trans (q_L_leaks_13) ?_ | refine Eq.trans (q_L_leaks_7) ?_)
    rfl
theorem w1_look (A : A1 999 nX11_look mid [.int x1] (.int (nI 0)) I L X J) : ∃ (y : Int32) (I1 : MI32) (J1 : MI64), runM 1000 nL_look [.ref 0, .int x1, .ref 632] (mm L X I J) = rI (nI 0) (mm L X I1 J1) ∧ J1 632 0 = y.toInt64 ∧ AgM I I1 ∧ ∀ J2, ∃ I2, runM 1000 mid [.ref 72, .int x1] (mm L X I1 J2) = rI y (mm L X I2 J2) ∧ I2 72 0 = nI 0 ∧ Inv I2 := by
  obtain ⟨v, I1, J1, e1, g1, hv, H⟩ := A
  obtain ⟨y, rfl⟩ := tg_int hv
  refine ⟨y, I1, up2 J1 632 0 y.toInt64, ?_, up2_s, g1, H⟩
  rw [e_L_look]
  (first | refine Eq.trans (q_L_look_0) ?_ | refine Eq.trans (q_L_look_13) ?_ | refine Eq.trans (q_L_look_7) ?_)
  rw [e1, bndH_ret]
  (first | refine Eq.trans (q_L_look_0) ?_ | refine Eq.trans (q_L_look_13) ?_ | refine Eq.trans (q_L_look_7) ?_)
  exact gd_t (by decide)
theorem w2_look (A : A2 999 nX11_look mid [.int x1] cI (.int (nI 0)) I L X J) : ∃ (k : Nat) (I1 : MI32), 1 ≤ cI k ∧ cI k ≤ 2 ∧ runM 1000 nL_look [.ref 0, .int x1, .ref 632] (mm L X I J) = rI (nI (cI k)) (mm L (X + 1) I1 J) ∧ AgM I I1 ∧ ∀ J2, ∃ I2, runM 1000 mid [.ref 72, .int x1] (mm L (X + 1) I1 J2) = some (.inl (some (.int (nI 0))), mm L (X + 1) I2 J2) ∧ I2 72 0 = nI (cI k) ∧ Inv I2 := by
  obtain ⟨k, I1, hk, hk2, e1, g1, H⟩ := A
  have k01 : k = 0 ∨ k = 1 := by omega
  rcases k01 with rfl | rfl
  · exact absurd hk2 (by decide)
  · refine ⟨1, I1, by decide, hk2, ?_, g1, H⟩
    rw [e_L_look]
    (first | refine Eq.trans (q_L_look_0) ?_ | refine Eq.trans (q_L_look_13) ?_ | refine Eq.trans (q_L_look_7) ?_)
    rw [e1, bndH_thr, hd_L_look_4_1]
    (first | refine Eq.trans (q_L_look_0) ?_ | refine Eq.trans (q_L_look_13) ?_ | refine Eq.trans (q_L_look_7) ?_)
    rfl
theorem w1_sure (A : A1 999 nX11_sure mid [.int x1, .int x2, .int x3] (.long (lN 0)) I L X J) : ∃ (y : Int64) (I1 : MI32) (J1 : MI64), runM 1000 nL_sure [.ref 0, .int x1, .int x2, .int x3, .ref 632] (mm L X I J) = rI (nI 0) (mm L X I1 J1) ∧ J1 632 0 = y ∧ AgM I I1 ∧ ∀ J2, ∃ I2, runM 1000 mid [.ref 72, .int x1, .int x2, .int x3] (mm L X I1 J2) = rL y (mm L X I2 J2) ∧ I2 72 0 = nI 0 ∧ Inv I2 := by
  obtain ⟨v, I1, J1, e1, g1, hv, H⟩ := A
  obtain ⟨y, rfl⟩ := tg_long hv
  refine ⟨y, I1, up2 J1 632 0 y, ?_, up2_s, g1, H⟩
  rw [e_L_sure]
  (first | refine Eq.trans (q_L_sure_0) ?_ | refine Eq.trans (q_L_sure_16) ?_ | refine Eq.trans (q_L_sure_20) ?_ | refine Eq.trans (q_L_sure_10) ?_)
  rw [e1, bndH_ret]
  (first | refine Eq.trans (q_L_sure_0) ?_ | refine Eq.trans (q_L_sure_16) ?_ | refine Eq.trans (q_L_sure_20) ?_ | refine Eq.trans (q_L_sure_10) ?_)
  exact gd_t (by decide)
theorem w2_sure (A : A2 999 nX11_sure mid [.int x1, .int x2, .int x3] cB (.long (lN 0)) I L X J) : ∃ (k : Nat) (I1 : MI32), 1 ≤ cB k ∧ cB k ≤ 2 ∧ runM 1000 nL_sure [.ref 0, .int x1, .int x2, .int x3, .ref 632] (mm L X I J) = rI (nI (cB k)) (mm L (X + 1) I1 J) ∧ AgM I I1 ∧ ∀ J2, ∃ I2, runM 1000 mid [.ref 72, .int x1, .int x2, .int x3] (mm L (X + 1) I1 J2) = some (.inl (some (.long (lN 0))), mm L (X + 1) I2 J2) ∧ I2 72 0 = nI (cB k) ∧ Inv I2 := by
  obtain ⟨k, I1, hk, hk2, e1, g1, H⟩ := A
  have k01 : k = 0 ∨ k = 1 := by omega
  rcases k01 with rfl | rfl
  · refine ⟨0, I1, by decide, hk2, ?_, g1, H⟩
    rw [e_L_sure]
    (first | refine Eq.trans (q_L_sure_0) ?_ | refine Eq.trans (q_L_sure_16) ?_ | refine Eq.trans (q_L_sure_20) ?_ | refine Eq.trans (q_L_sure_10) ?_)
    rw [e1, bndH_thr, hd_L_sure_7_0]
    (first | refine Eq.trans (q_L_sure_0) ?_ | refine Eq.trans (q_L_sure_16) ?_ | refine Eq.trans (q_L_sure_20) ?_ | refine Eq.trans (q_L_sure_10) ?_)
    rfl
  · refine ⟨1, I1, by decide, hk2, ?_, g1, H⟩
    rw [e_L_sure]
    (first | refine Eq.trans (q_L_sure_0) ?_ | refine Eq.trans (q_L_sure_16) ?_ | refine Eq.trans (q_L_sure_20) ?_ | refine Eq.trans (q_L_sure_10) ?_)
    rw [e1, bndH_thr, hd_L_sure_7_1]
    (first | refine Eq.trans (q_L_sure_0) ?_ | refine Eq.trans (q_L_sure_16) ?_ | refine Eq.trans (q_L_sure_20) ?_ | refine Eq.trans (q_L_sure_10) ?_)
    rfl
theorem w1_street (A : A1 999 nX11_street mid [.int x1, .int x2, .int x3] (.int (nI 0)) I L X J) : ∃ (y : Int32) (I1 : MI32) (J1 : MI64), runM 1000 nL_street [.ref 0, .int x1, .int x2, .int x3, .ref 632] (mm L X I J) = rI (nI 0) (mm L X I1 J1) ∧ J1 632 0 = y.toInt64 ∧ AgM I I1 ∧ ∀ J2, ∃ I2, runM 1000 mid [.ref 72, .int x1, .int x2, .int x3] (mm L X I1 J2) = rI y (mm L X I2 J2) ∧ I2 72 0 = nI 0 ∧ Inv I2 := by
  obtain ⟨v, I1, J1, e1, g1, hv, H⟩ := A
  obtain ⟨y, rfl⟩ := tg_int hv
  refine ⟨y, I1, up2 J1 632 0 y.toInt64, ?_, up2_s, g1, H⟩
  rw [e_L_street]
  (first | refine Eq.trans (q_L_street_0) ?_ | refine Eq.trans (q_L_street_17) ?_ | refine Eq.trans (q_L_street_10) ?_)
  rw [e1, bndH_ret]
  (first | refine Eq.trans (q_L_street_0) ?_ | refine Eq.trans (q_L_street_17) ?_ | refine Eq.trans (q_L_street_10) ?_)
  exact gd_t (by decide)
theorem w2_street (A : A2 999 nX11_street mid [.int x1, .int x2, .int x3] cI (.int (nI 0)) I L X J) : ∃ (k : Nat) (I1 : MI32), 1 ≤ cI k ∧ cI k ≤ 2 ∧ runM 1000 nL_street [.ref 0, .int x1, .int x2, .int x3, .ref 632] (mm L X I J) = rI (nI (cI k)) (mm L (X + 1) I1 J) ∧ AgM I I1 ∧ ∀ J2, ∃ I2, runM 1000 mid [.ref 72, .int x1, .int x2, .int x3] (mm L (X + 1) I1 J2) = some (.inl (some (.int (nI 0))), mm L (X + 1) I2 J2) ∧ I2 72 0 = nI (cI k) ∧ Inv I2 := by
  obtain ⟨k, I1, hk, hk2, e1, g1, H⟩ := A
  have k01 : k = 0 ∨ k = 1 := by omega
  rcases k01 with rfl | rfl
  · exact absurd hk2 (by decide)
  · refine ⟨1, I1, by decide, hk2, ?_, g1, H⟩
    rw [e_L_street]
    (first | refine Eq.trans (q_L_street_0) ?_ | refine Eq.trans (q_L_street_17) ?_ | refine Eq.trans (q_L_street_10) ?_)
    rw [e1, bndH_thr, hd_L_street_7_1]
    (first | refine Eq.trans (q_L_street_0) ?_ | refine Eq.trans (q_L_street_17) ?_ | refine Eq.trans (q_L_street_10) ?_)
    rfl
theorem w1_share (A : A1 999 nX11_share mid [.int x1, .int x2, .int x3] (.int (nI 0)) I L X J) : ∃ (y : Int32) (I1 : MI32) (J1 : MI64), runM 1000 nL_share [.ref 0, .int x1, .int x2, .int x3, .ref 632] (mm L X I J) = rI (nI 0) (mm L X I1 J1) ∧ J1 632 0 = y.toInt64 ∧ AgM I I1 ∧ ∀ J2, ∃ I2, runM 1000 mid [.ref 72, .int x1, .int x2, .int x3] (mm L X I1 J2) = rI y (mm L X I2 J2) ∧ I2 72 0 = nI 0 ∧ Inv I2 := by
  obtain ⟨v, I1, J1, e1, g1, hv, H⟩ := A
  obtain ⟨y, rfl⟩ := tg_int hv
  refine ⟨y, I1, up2 J1 632 0 y.toInt64, ?_, up2_s, g1, H⟩
  rw [e_L_share]
  (first | refine Eq.trans (q_L_share_0) ?_ | refine Eq.trans (q_L_share_17) ?_ | refine Eq.trans (q_L_share_21) ?_ | refine Eq.trans (q_L_share_10) ?_)
  rw [e1, bndH_ret]
  (first | refine Eq.trans (q_L_share_0) ?_ | refine Eq.trans (q_L_share_17) ?_ | refine Eq.trans (q_L_share_21) ?_ | refine Eq.trans (q_L_share_10) ?_)
  exact gd_t (by decide)
theorem w2_share (A : A2 999 nX11_share mid [.int x1, .int x2, .int x3] cB (.int (nI 0)) I L X J) : ∃ (k : Nat) (I1 : MI32), 1 ≤ cB k ∧ cB k ≤ 2 ∧ runM 1000 nL_share [.ref 0, .int x1, .int x2, .int x3, .ref 632] (mm L X I J) = rI (nI (cB k)) (mm L (X + 1) I1 J) ∧ AgM I I1 ∧ ∀ J2, ∃ I2, runM 1000 mid [.ref 72, .int x1, .int x2, .int x3] (mm L (X + 1) I1 J2) = some (.inl (some (.int (nI 0))), mm L (X + 1) I2 J2) ∧ I2 72 0 = nI (cB k) ∧ Inv I2 := by
  obtain ⟨k, I1, hk, hk2, e1, g1, H⟩ := A
  have k01 : k = 0 ∨ k = 1 := by omega
  rcases k01 with rfl | rfl
  · refine ⟨0, I1, by decide, hk2, ?_, g1, H⟩
    rw [e_L_share]
    (first | refine Eq.trans (q_L_share_0) ?_ | refine Eq.trans (q_L_share_17) ?_ | refine Eq.trans (q_L_share_21) ?_ | refine Eq.trans (q_L_share_10) ?_)
    rw [e1, bndH_thr, hd_L_share_7_0]
    (first | refine Eq.trans (q_L_share_0) ?_ | refine Eq.trans (q_L_share_17) ?_ | refine Eq.trans (q_L_share_21) ?_ | refine Eq.trans (q_L_share_10) ?_)
    rfl
  · refine ⟨1, I1, by decide, hk2, ?_, g1, H⟩
    rw [e_L_share]
    (first | refine Eq.trans (q_L_share_0) ?_ | refine Eq.trans (q_L_share_17) ?_ | refine Eq.trans (q_L_share_21) ?_ | refine Eq.trans (q_L_share_10) ?_)
    rw [e1, bndH_thr, hd_L_share_7_1]
    (first | refine Eq.trans (q_L_share_0) ?_ | refine Eq.trans (q_L_share_17) ?_ | refine Eq.trans (q_L_share_21) ?_ | refine Eq.trans (q_L_share_10) ?_)
    rfl
theorem w1_next (A : A1 999 nX11_next mid [.int x1] (.int (nI 0)) I L X J) : ∃ (y : Int32) (I1 : MI32) (J1 : MI64), runM 1000 nL_next [.ref 0, .int x1, .ref 632] (mm L X I J) = rI (nI 0) (mm L X I1 J1) ∧ J1 632 0 = y.toInt64 ∧ AgM I I1 ∧ ∀ J2, ∃ I2, runM 1000 mid [.ref 72, .int x1] (mm L X I1 J2) = rI y (mm L X I2 J2) ∧ I2 72 0 = nI 0 ∧ Inv I2 := by
  obtain ⟨v, I1, J1, e1, g1, hv, H⟩ := A
  obtain ⟨y, rfl⟩ := tg_int hv
  refine ⟨y, I1, up2 J1 632 0 y.toInt64, ?_, up2_s, g1, H⟩
  rw [e_L_next]
  (first | refine Eq.trans (q_L_next_0) ?_ | refine Eq.trans (q_L_next_13) ?_ | refine Eq.trans (q_L_next_7) ?_)
  rw [e1, bndH_ret]
  (first | refine Eq.trans (q_L_next_0) ?_ | refine Eq.trans (q_L_next_13) ?_ | refine Eq.trans (q_L_next_7) ?_)
  exact gd_t (by decide)
theorem w2_next (A : A2 999 nX11_next mid [.int x1] cI (.int (nI 0)) I L X J) : ∃ (k : Nat) (I1 : MI32), 1 ≤ cI k ∧ cI k ≤ 2 ∧ runM 1000 nL_next [.ref 0, .int x1, .ref 632] (mm L X I J) = rI (nI (cI k)) (mm L (X + 1) I1 J) ∧ AgM I I1 ∧ ∀ J2, ∃ I2, runM 1000 mid [.ref 72, .int x1] (mm L (X + 1) I1 J2) = some (.inl (some (.int (nI 0))), mm L (X + 1) I2 J2) ∧ I2 72 0 = nI (cI k) ∧ Inv I2 := by
  obtain ⟨k, I1, hk, hk2, e1, g1, H⟩ := A
  have k01 : k = 0 ∨ k = 1 := by omega
  rcases k01 with rfl | rfl
  · exact absurd hk2 (by decide)
  · refine ⟨1, I1, by decide, hk2, ?_, g1, H⟩
    rw [e_L_next]
    (first | refine Eq.trans (q_L_next_0) ?_ | refine Eq.trans (q_L_next_13) ?_ | refine Eq.trans (q_L_next_7) ?_)
    rw [e1, bndH_thr, hd_L_next_4_1]
    (first | refine Eq.trans (q_L_next_0) ?_ | refine Eq.trans (q_L_next_13) ?_ | refine Eq.trans (q_L_next_7) ?_)
    rfl
theorem w1_worst (A : A1 999 nX11_worst mid [.int x1] (.int (nI 0)) I L X J) : ∃ (y : Int32) (I1 : MI32) (J1 : MI64), runM 1000 nL_worst [.ref 0, .int x1, .ref 632] (mm L X I J) = rI (nI 0) (mm L X I1 J1) ∧ J1 632 0 = y.toInt64 ∧ AgM I I1 ∧ ∀ J2, ∃ I2, runM 1000 mid [.ref 72, .int x1] (mm L X I1 J2) = rI y (mm L X I2 J2) ∧ I2 72 0 = nI 0 ∧ Inv I2 := by
  obtain ⟨v, I1, J1, e1, g1, hv, H⟩ := A
  obtain ⟨y, rfl⟩ := tg_int hv
  refine ⟨y, I1, up2 J1 632 0 y.toInt64, ?_, up2_s, g1, H⟩
  rw [e_L_worst]
  (first | refine Eq.trans (q_L_worst_0) ?_ | refine Eq.trans (q_L_worst_13) ?_ | refine Eq.trans (q_L_worst_7) ?_)
  rw [e1, bndH_ret]
  (first | refine Eq.trans (q_L_worst_0) ?_ | refine Eq.trans (q_L_worst_13) ?_ | refine Eq.trans (q_L_worst_7) ?_)
  exact gd_t (by decide)
theorem w2_worst (A : A2 999 nX11_worst mid [.int x1] cI (.int (nI 0)) I L X J) : ∃ (k : Nat) (I1 : MI32), 1 ≤ cI k ∧ cI k ≤ 2 ∧ runM 1000 nL_worst [.ref 0, .int x1, .ref 632] (mm L X I J) = rI (nI (cI k)) (mm L (X + 1) I1 J) ∧ AgM I I1 ∧ ∀ J2, ∃ I2, runM 1000 mid [.ref 72, .int x1] (mm L (X + 1) I1 J2) = some (.inl (some (.int (nI 0))), mm L (X + 1) I2 J2) ∧ I2 72 0 = nI (cI k) ∧ Inv I2 := by
  obtain ⟨k, I1, hk, hk2, e1, g1, H⟩ := A
  have k01 : k = 0 ∨ k = 1 := by omega
  rcases k01 with rfl | rfl
  · exact absurd hk2 (by decide)
  · refine ⟨1, I1, by decide, hk2, ?_, g1, H⟩
    rw [e_L_worst]
    (first | refine Eq.trans (q_L_worst_0) ?_ | refine Eq.trans (q_L_worst_13) ?_ | refine Eq.trans (q_L_worst_7) ?_)
    rw [e1, bndH_thr, hd_L_worst_4_1]
    (first | refine Eq.trans (q_L_worst_0) ?_ | refine Eq.trans (q_L_worst_13) ?_ | refine Eq.trans (q_L_worst_7) ?_)
    rfl
theorem w1_needed (A : A1 999 nX11_needed mid [.int x1] (.int (nI 0)) I L X J) : ∃ (y : Int32) (I1 : MI32) (J1 : MI64), runM 1000 nL_needed [.ref 0, .int x1, .ref 632] (mm L X I J) = rI (nI 0) (mm L X I1 J1) ∧ J1 632 0 = y.toInt64 ∧ AgM I I1 ∧ ∀ J2, ∃ I2, runM 1000 mid [.ref 72, .int x1] (mm L X I1 J2) = rI y (mm L X I2 J2) ∧ I2 72 0 = nI 0 ∧ Inv I2 := by
  obtain ⟨v, I1, J1, e1, g1, hv, H⟩ := A
  obtain ⟨y, rfl⟩ := tg_int hv
  refine ⟨y, I1, up2 J1 632 0 y.toInt64, ?_, up2_s, g1, H⟩
  rw [e_L_needed]
  (first | refine Eq.trans (q_L_needed_0) ?_ | refine Eq.trans (q_L_needed_13) ?_ | refine Eq.trans (q_L_needed_7) ?_)
  rw [e1, bndH_ret]
  (first | refine Eq.trans (q_L_needed_0) ?_ | refine Eq.trans (q_L_needed_13) ?_ | refine Eq.trans (q_L_needed_7) ?_)
  exact gd_t (by decide)
theorem w2_needed (A : A2 999 nX11_needed mid [.int x1] cN (.int (nI 0)) I L X J) : ∃ (k : Nat) (I1 : MI32), 1 ≤ cN k ∧ cN k ≤ 2 ∧ runM 1000 nL_needed [.ref 0, .int x1, .ref 632] (mm L X I J) = rI (nI (cN k)) (mm L (X + 1) I1 J) ∧ AgM I I1 ∧ ∀ J2, ∃ I2, runM 1000 mid [.ref 72, .int x1] (mm L (X + 1) I1 J2) = some (.inl (some (.int (nI 0))), mm L (X + 1) I2 J2) ∧ I2 72 0 = nI (cN k) ∧ Inv I2 := by
  obtain ⟨k, I1, hk, hk2, e1, g1, H⟩ := A
  have k01 : k = 0 ∨ k = 1 := by omega
  rcases k01 with rfl | rfl
  · refine ⟨0, I1, by decide, hk2, ?_, g1, H⟩
    rw [e_L_needed]
    (first | refine Eq.trans (q_L_needed_0) ?_ | refine Eq.trans (q_L_needed_13) ?_ | refine Eq.trans (q_L_needed_7) ?_)
    rw [e1, bndH_thr, hd_L_needed_4_0]
    (first | refine Eq.trans (q_L_needed_0) ?_ | refine Eq.trans (q_L_needed_13) ?_ | refine Eq.trans (q_L_needed_7) ?_)
    rfl
  · exact absurd hk2 (by decide)
theorem w1_kin (A : A1 999 nX11_kin mid [.int x1] (.int (nI 0)) I L X J) : ∃ (y : Int32) (I1 : MI32) (J1 : MI64), runM 1000 nL_kin [.ref 0, .int x1, .ref 632] (mm L X I J) = rI (nI 0) (mm L X I1 J1) ∧ J1 632 0 = y.toInt64 ∧ AgM I I1 ∧ ∀ J2, ∃ I2, runM 1000 mid [.ref 72, .int x1] (mm L X I1 J2) = rI y (mm L X I2 J2) ∧ I2 72 0 = nI 0 ∧ Inv I2 := by
  obtain ⟨v, I1, J1, e1, g1, hv, H⟩ := A
  obtain ⟨y, rfl⟩ := tg_int hv
  refine ⟨y, I1, up2 J1 632 0 y.toInt64, ?_, up2_s, g1, H⟩
  rw [e_L_kin]
  (first | refine Eq.trans (q_L_kin_0) ?_ | refine Eq.trans (q_L_kin_13) ?_ | refine Eq.trans (q_L_kin_7) ?_)
  rw [e1, bndH_ret]
  (first | refine Eq.trans (q_L_kin_0) ?_ | refine Eq.trans (q_L_kin_13) ?_ | refine Eq.trans (q_L_kin_7) ?_)
  exact gd_t (by decide)
theorem w2_kin (A : A2 999 nX11_kin mid [.int x1] cI (.int (nI 0)) I L X J) : ∃ (k : Nat) (I1 : MI32), 1 ≤ cI k ∧ cI k ≤ 2 ∧ runM 1000 nL_kin [.ref 0, .int x1, .ref 632] (mm L X I J) = rI (nI (cI k)) (mm L (X + 1) I1 J) ∧ AgM I I1 ∧ ∀ J2, ∃ I2, runM 1000 mid [.ref 72, .int x1] (mm L (X + 1) I1 J2) = some (.inl (some (.int (nI 0))), mm L (X + 1) I2 J2) ∧ I2 72 0 = nI (cI k) ∧ Inv I2 := by
  obtain ⟨k, I1, hk, hk2, e1, g1, H⟩ := A
  have k01 : k = 0 ∨ k = 1 := by omega
  rcases k01 with rfl | rfl
  · exact absurd hk2 (by decide)
  · refine ⟨1, I1, by decide, hk2, ?_, g1, H⟩
    rw [e_L_kin]
    (first | refine Eq.trans (q_L_kin_0) ?_ | refine Eq.trans (q_L_kin_13) ?_ | refine Eq.trans (q_L_kin_7) ?_)
    rw [e1, bndH_thr, hd_L_kin_4_1]
    (first | refine Eq.trans (q_L_kin_0) ?_ | refine Eq.trans (q_L_kin_13) ?_ | refine Eq.trans (q_L_kin_7) ?_)
    rfl
theorem w1_year (A : A1 999 nX11_year mid [.int x1, .int x2, .int x3, .int x4] (.int (nI 0)) I L X J) : ∃ (y : Int32) (I1 : MI32) (J1 : MI64), runM 1000 nL_year [.ref 0, .int x1, .int x2, .int x3, .int x4, .ref 632] (mm L X I J) = rI (nI 0) (mm L X I1 J1) ∧ J1 632 0 = y.toInt64 ∧ AgM I I1 ∧ ∀ J2, ∃ I2, runM 1000 mid [.ref 72, .int x1, .int x2, .int x3, .int x4] (mm L X I1 J2) = rI y (mm L X I2 J2) ∧ I2 72 0 = nI 0 ∧ Inv I2 := by
  obtain ⟨v, I1, J1, e1, g1, hv, H⟩ := A
  obtain ⟨y, rfl⟩ := tg_int hv
  refine ⟨y, I1, up2 J1 632 0 y.toInt64, ?_, up2_s, g1, H⟩
  rw [e_L_year]
  (first | refine Eq.trans (q_L_year_0) ?_ | refine Eq.trans (q_L_year_19) ?_ | refine Eq.trans (q_L_year_12) ?_)
  rw [e1, bndH_ret]
  (first | refine Eq.trans (q_L_year_0) ?_ | refine Eq.trans (q_L_year_19) ?_ | refine Eq.trans (q_L_year_12) ?_)
  exact gd_t (by decide)
theorem w2_year (A : A2 999 nX11_year mid [.int x1, .int x2, .int x3, .int x4] cI (.int (nI 0)) I L X J) : ∃ (k : Nat) (I1 : MI32), 1 ≤ cI k ∧ cI k ≤ 2 ∧ runM 1000 nL_year [.ref 0, .int x1, .int x2, .int x3, .int x4, .ref 632] (mm L X I J) = rI (nI (cI k)) (mm L (X + 1) I1 J) ∧ AgM I I1 ∧ ∀ J2, ∃ I2, runM 1000 mid [.ref 72, .int x1, .int x2, .int x3, .int x4] (mm L (X + 1) I1 J2) = some (.inl (some (.int (nI 0))), mm L (X + 1) I2 J2) ∧ I2 72 0 = nI (cI k) ∧ Inv I2 := by
  obtain ⟨k, I1, hk, hk2, e1, g1, H⟩ := A
  have k01 : k = 0 ∨ k = 1 := by omega
  rcases k01 with rfl | rfl
  · exact absurd hk2 (by decide)
  · refine ⟨1, I1, by decide, hk2, ?_, g1, H⟩
    rw [e_L_year]
    (first | refine Eq.trans (q_L_year_0) ?_ | refine Eq.trans (q_L_year_19) ?_ | refine Eq.trans (q_L_year_12) ?_)
    rw [e1, bndH_thr, hd_L_year_9_1]
    (first | refine Eq.trans (q_L_year_0) ?_ | refine Eq.trans (q_L_year_19) ?_ | refine Eq.trans (q_L_year_12) ?_)
    rfl
theorem w1_span (A : A1 999 nX11_span mid [.int x1, .int x2, .int x3, .int x4, .int x5, .int x6] (.int (nI 0)) I L X J) : ∃ (y : Int32) (I1 : MI32) (J1 : MI64), runM 1000 nL_span [.ref 0, .int x1, .int x2, .int x3, .int x4, .int x5, .int x6, .ref 632] (mm L X I J) = rI (nI 0) (mm L X I1 J1) ∧ J1 632 0 = y.toInt64 ∧ AgM I I1 ∧ ∀ J2, ∃ I2, runM 1000 mid [.ref 72, .int x1, .int x2, .int x3, .int x4, .int x5, .int x6] (mm L X I1 J2) = rI y (mm L X I2 J2) ∧ I2 72 0 = nI 0 ∧ Inv I2 := by
  obtain ⟨v, I1, J1, e1, g1, hv, H⟩ := A
  obtain ⟨y, rfl⟩ := tg_int hv
  refine ⟨y, I1, up2 J1 632 0 y.toInt64, ?_, up2_s, g1, H⟩
  rw [e_L_span]
  (first | refine Eq.trans (q_L_span_0) ?_ | refine Eq.trans (q_L_span_23) ?_ | refine Eq.trans (q_L_span_16) ?_)
  rw [e1, bndH_ret]
  (first | refine Eq.trans (q_L_span_0) ?_ | refine Eq.trans (q_L_span_23) ?_ | refine Eq.trans (q_L_span_16) ?_)
  exact gd_t (by decide)
theorem w2_span (A : A2 999 nX11_span mid [.int x1, .int x2, .int x3, .int x4, .int x5, .int x6] cI (.int (nI 0)) I L X J) : ∃ (k : Nat) (I1 : MI32), 1 ≤ cI k ∧ cI k ≤ 2 ∧ runM 1000 nL_span [.ref 0, .int x1, .int x2, .int x3, .int x4, .int x5, .int x6, .ref 632] (mm L X I J) = rI (nI (cI k)) (mm L (X + 1) I1 J) ∧ AgM I I1 ∧ ∀ J2, ∃ I2, runM 1000 mid [.ref 72, .int x1, .int x2, .int x3, .int x4, .int x5, .int x6] (mm L (X + 1) I1 J2) = some (.inl (some (.int (nI 0))), mm L (X + 1) I2 J2) ∧ I2 72 0 = nI (cI k) ∧ Inv I2 := by
  obtain ⟨k, I1, hk, hk2, e1, g1, H⟩ := A
  have k01 : k = 0 ∨ k = 1 := by omega
  rcases k01 with rfl | rfl
  · exact absurd hk2 (by decide)
  · refine ⟨1, I1, by decide, hk2, ?_, g1, H⟩
    rw [e_L_span]
    (first | refine Eq.trans (q_L_span_0) ?_ | refine Eq.trans (q_L_span_23) ?_ | refine Eq.trans (q_L_span_16) ?_)
    rw [e1, bndH_thr, hd_L_span_13_1]
    (first | refine Eq.trans (q_L_span_0) ?_ | refine Eq.trans (q_L_span_23) ?_ | refine Eq.trans (q_L_span_16) ?_)
    rfl
theorem sg_feed (hL : L ≤ 5120) (HI : Inv I) (hi : i + 10 ≤ L) (kk : ∀ X' I' J' u5 u6 u7, X' ≤ X + 1 → Inv I' → Gd L Bx (c_L_law__23 1000 L X' I' J' (nI (i + 10)) u5 u6 u7)) : Gd L Bx (runI (runM 1000) iLaw (208, [some (.ref 1000000), some (.ref 0), some (.ref 72), some (.ref 632), some (.int (nI i)), u5, u6, u7], [], mm L X I J)) := by
  have ea := ix_a hi hL
  have eb := ix_b hi hL
  refine g_eq q_L_law__208 (g_gd (ea 1 (by decide)) (g_gd (ea 2 (by decide)) (g_gd (ea 3 (by decide)) (g_gd (ea 4 (by decide)) (g_gd (ea 5 (by decide)) (?_))))))
  rw [eb 1 (by decide), eb 2 (by decide), eb 3 (by decide), eb 4 (by decide), eb 5 (by decide)]
  obtain ⟨v, I1, J1, e1, g1, hv, H⟩ := op_feed (x1 := I 1000000 (i + 1)) (x2 := I 1000000 (i + 2)) (x3 := I 1000000 (i + 3)) (x4 := I 1000000 (i + 4)) (x5 := I 1000000 (i + 5)) HI L X J
  obtain ⟨y, rfl⟩ := tg_int hv
  refine g_be e1 (g_eq q_L_law__242 (g_gd (ea 1 (by decide)) (g_gd (ea 2 (by decide)) (g_gd (ea 3 (by decide)) (g_gd (ea 4 (by decide)) (g_gd (ea 5 (by decide)) (?_)))))))
  rw [eb 1 (by decide), eb 2 (by decide), eb 3 (by decide), eb 4 (by decide), eb 5 (by decide), g1 1000000 (i + 1) (by decide), g1 1000000 (i + 2) (by decide), g1 1000000 (i + 3) (by decide), g1 1000000 (i + 4) (by decide), g1 1000000 (i + 5) (by decide)]
  obtain ⟨I2, e2, z2, HI2⟩ := H J1
  refine g_be e2 (g_eq q_L_law__276 (g_t rfl (g_eq q_L_law__2423 ?_)))
  rw [nI_add]
  exact kk X I2 J1 _ _ _ (by omega) HI2
theorem sg_house (hL : L ≤ 5120) (HI : Inv I) (hi : i + 10 ≤ L) (kk : ∀ X' I' J' u5 u6 u7, X' ≤ X + 1 → Inv I' → Gd L Bx (c_L_law__23 1000 L X' I' J' (nI (i + 10)) u5 u6 u7)) : Gd L Bx (runI (runM 1000) iLaw (281, [some (.ref 1000000), some (.ref 0), some (.ref 72), some (.ref 632), some (.int (nI i)), u5, u6, u7], [], mm L X I J)) := by
  have ea := ix_a hi hL
  have eb := ix_b hi hL
  refine g_eq q_L_law__281 (g_gd (ea 1 (by decide)) (?_))
  rw [eb 1 (by decide)]
  rcases op_house (x := I 1000000 (i + 1)) HI L X J with A | A
  · obtain ⟨y, I1, J1, e1, j1, g1, H⟩ := w1_house A
    refine g_bne e1 (g_eq q_L_law__292 (g_gd (ea 1 (by decide)) (?_)))
    rw [eb 1 (by decide), g1 1000000 (i + 1) (by decide)]
    obtain ⟨I2, e2, z2, HI2⟩ := H J1
    refine g_be e2 (g_eq q_L_law__304 (g_be th_e ?_))
    rw [z2]
    refine g_eq q_L_law__310 (g_t rfl (g_t rfl (g_gd (by decide) (g_t ?_ (g_eq q_L_law__334 (g_eq q_L_law__2423 ?_))))))
    · rw [show (nI 0).toNatClampNeg = 0 by decide, j1]
      exact (cq _ _).mpr rfl
    · rw [nI_add]
      exact kk X I2 J1 _ _ _ (by omega) HI2
  · obtain ⟨k, I1, k1, k2, e1, g1, H⟩ := w2_house A
    refine g_bne e1 (g_eq q_L_law__292 (g_gd (ea 1 (by decide)) (?_)))
    rw [eb 1 (by decide), g1 1000000 (i + 1) (by decide)]
    obtain ⟨I2, e2, z2, HI2⟩ := H J
    refine g_be e2 (g_eq q_L_law__304 (g_be th_e ?_))
    rw [z2]
    refine g_eq q_L_law__310 (g_t rfl (g_f (nI_ne0 (by omega) (by omega)) (g_eq q_L_law__334 (g_eq q_L_law__2423 ?_))))
    rw [nI_add]
    exact kk (X + 1) I2 J _ _ _ (by omega) HI2
theorem sg_law (hL : L ≤ 5120) (HI : Inv I) (hi : i + 10 ≤ L) (kk : ∀ X' I' J' u5 u6 u7, X' ≤ X + 1 → Inv I' → Gd L Bx (c_L_law__23 1000 L X' I' J' (nI (i + 10)) u5 u6 u7)) : Gd L Bx (runI (runM 1000) iLaw (337, [some (.ref 1000000), some (.ref 0), some (.ref 72), some (.ref 632), some (.int (nI i)), u5, u6, u7], [], mm L X I J)) := by
  have ea := ix_a hi hL
  have eb := ix_b hi hL
  refine g_eq q_L_law__337 (g_gd (ea 1 (by decide)) (?_))
  rw [eb 1 (by decide)]
  rcases op_law (x := I 1000000 (i + 1)) HI L X J with A | A
  · obtain ⟨y, I1, J1, e1, j1, g1, H⟩ := w1_law A
    refine g_bne e1 (g_eq q_L_law__348 (g_gd (ea 1 (by decide)) (?_)))
    rw [eb 1 (by decide), g1 1000000 (i + 1) (by decide)]
    obtain ⟨I2, e2, z2, HI2⟩ := H J1
    refine g_be e2 (g_eq q_L_law__360 (g_be th_e ?_))
    rw [z2]
    refine g_eq q_L_law__366 (g_t rfl (g_t rfl (g_gd (by decide) (g_t ?_ (g_eq q_L_law__390 (g_eq q_L_law__2423 ?_))))))
    · rw [show (nI 0).toNatClampNeg = 0 by decide, j1]
      exact (cq _ _).mpr rfl
    · rw [nI_add]
      exact kk X I2 J1 _ _ _ (by omega) HI2
  · obtain ⟨k, I1, k1, k2, e1, g1, H⟩ := w2_law A
    refine g_bne e1 (g_eq q_L_law__348 (g_gd (ea 1 (by decide)) (?_)))
    rw [eb 1 (by decide), g1 1000000 (i + 1) (by decide)]
    obtain ⟨I2, e2, z2, HI2⟩ := H J
    refine g_be e2 (g_eq q_L_law__360 (g_be th_e ?_))
    rw [z2]
    refine g_eq q_L_law__366 (g_t rfl (g_f (nI_ne0 (by omega) (by omega)) (g_eq q_L_law__390 (g_eq q_L_law__2423 ?_))))
    rw [nI_add]
    exact kk (X + 1) I2 J _ _ _ (by omega) HI2
theorem sg_work (hL : L ≤ 5120) (HI : Inv I) (hi : i + 10 ≤ L) (kk : ∀ X' I' J' u5 u6 u7, X' ≤ X + 1 → Inv I' → Gd L Bx (c_L_law__23 1000 L X' I' J' (nI (i + 10)) u5 u6 u7)) : Gd L Bx (runI (runM 1000) iLaw (393, [some (.ref 1000000), some (.ref 0), some (.ref 72), some (.ref 632), some (.int (nI i)), u5, u6, u7], [], mm L X I J)) := by
  have ea := ix_a hi hL
  have eb := ix_b hi hL
  refine g_eq q_L_law__393 (g_gd (ea 1 (by decide)) (?_))
  rw [eb 1 (by decide)]
  rcases op_work (x := I 1000000 (i + 1)) HI L X J with A | A
  · obtain ⟨y, I1, J1, e1, j1, g1, H⟩ := w1_work A
    refine g_bne e1 (g_eq q_L_law__404 (g_gd (ea 1 (by decide)) (?_)))
    rw [eb 1 (by decide), g1 1000000 (i + 1) (by decide)]
    obtain ⟨I2, e2, z2, HI2⟩ := H J1
    refine g_be e2 (g_eq q_L_law__416 (g_be th_e ?_))
    rw [z2]
    refine g_eq q_L_law__422 (g_t rfl (g_t rfl (g_gd (by decide) (g_t ?_ (g_eq q_L_law__446 (g_eq q_L_law__2423 ?_))))))
    · rw [show (nI 0).toNatClampNeg = 0 by decide, j1]
      exact (cq _ _).mpr rfl
    · rw [nI_add]
      exact kk X I2 J1 _ _ _ (by omega) HI2
  · obtain ⟨k, I1, k1, k2, e1, g1, H⟩ := w2_work A
    refine g_bne e1 (g_eq q_L_law__404 (g_gd (ea 1 (by decide)) (?_)))
    rw [eb 1 (by decide), g1 1000000 (i + 1) (by decide)]
    obtain ⟨I2, e2, z2, HI2⟩ := H J
    refine g_be e2 (g_eq q_L_law__416 (g_be th_e ?_))
    rw [z2]
    refine g_eq q_L_law__422 (g_t rfl (g_f (nI_ne0 (by omega) (by omega)) (g_eq q_L_law__446 (g_eq q_L_law__2423 ?_))))
    rw [nI_add]
    exact kk (X + 1) I2 J _ _ _ (by omega) HI2
theorem sg_book (hL : L ≤ 5120) (HI : Inv I) (hi : i + 10 ≤ L) (kk : ∀ X' I' J' u5 u6 u7, X' ≤ X + 1 → Inv I' → Gd L Bx (c_L_law__23 1000 L X' I' J' (nI (i + 10)) u5 u6 u7)) : Gd L Bx (runI (runM 1000) iLaw (449, [some (.ref 1000000), some (.ref 0), some (.ref 72), some (.ref 632), some (.int (nI i)), u5, u6, u7], [], mm L X I J)) := by
  have ea := ix_a hi hL
  have eb := ix_b hi hL
  refine g_eq q_L_law__449 (g_gd (ea 1 (by decide)) (?_))
  rw [eb 1 (by decide)]
  rcases op_book (x := I 1000000 (i + 1)) HI L X J with A | A
  · obtain ⟨y, I1, J1, e1, j1, g1, H⟩ := w1_book A
    refine g_bne e1 (g_eq q_L_law__460 (g_gd (ea 1 (by decide)) (?_)))
    rw [eb 1 (by decide), g1 1000000 (i + 1) (by decide)]
    obtain ⟨I2, e2, z2, HI2⟩ := H J1
    refine g_be e2 (g_eq q_L_law__472 (g_be th_e ?_))
    rw [z2]
    refine g_eq q_L_law__478 (g_t rfl (g_t rfl (g_gd (by decide) (g_t ?_ (g_eq q_L_law__502 (g_eq q_L_law__2423 ?_))))))
    · rw [show (nI 0).toNatClampNeg = 0 by decide, j1]
      exact (cq _ _).mpr rfl
    · rw [nI_add]
      exact kk X I2 J1 _ _ _ (by omega) HI2
  · obtain ⟨k, I1, k1, k2, e1, g1, H⟩ := w2_book A
    refine g_bne e1 (g_eq q_L_law__460 (g_gd (ea 1 (by decide)) (?_)))
    rw [eb 1 (by decide), g1 1000000 (i + 1) (by decide)]
    obtain ⟨I2, e2, z2, HI2⟩ := H J
    refine g_be e2 (g_eq q_L_law__472 (g_be th_e ?_))
    rw [z2]
    refine g_eq q_L_law__478 (g_t rfl (g_f (nI_ne0 (by omega) (by omega)) (g_eq q_L_law__502 (g_eq q_L_law__2423 ?_))))
    rw [nI_add]
    exact kk (X + 1) I2 J _ _ _ (by omega) HI2
theorem sg_fault (hL : L ≤ 5120) (HI : Inv I) (hi : i + 10 ≤ L) (kk : ∀ X' I' J' u5 u6 u7, X' ≤ X + 1 → Inv I' → Gd L Bx (c_L_law__23 1000 L X' I' J' (nI (i + 10)) u5 u6 u7)) : Gd L Bx (runI (runM 1000) iLaw (505, [some (.ref 1000000), some (.ref 0), some (.ref 72), some (.ref 632), some (.int (nI i)), u5, u6, u7], [], mm L X I J)) := by
  have ea := ix_a hi hL
  have eb := ix_b hi hL
  refine g_eq q_L_law__505 (?_)
  obtain ⟨v, I1, J1, e1, g1, hv, H⟩ := op_fault HI L X J
  obtain ⟨y, rfl⟩ := tg_int hv
  refine g_be e1 (g_eq q_L_law__509 (?_))
  obtain ⟨I2, e2, z2, HI2⟩ := H J1
  refine g_be e2 (g_eq q_L_law__513 (g_t rfl (g_eq q_L_law__2423 ?_)))
  rw [nI_add]
  exact kk X I2 J1 _ _ _ (by omega) HI2
theorem sg_undo (hL : L ≤ 5120) (HI : Inv I) (hi : i + 10 ≤ L) (kk : ∀ X' I' J' u5 u6 u7, X' ≤ X + 1 → Inv I' → Gd L Bx (c_L_law__23 1000 L X' I' J' (nI (i + 10)) u5 u6 u7)) : Gd L Bx (runI (runM 1000) iLaw (518, [some (.ref 1000000), some (.ref 0), some (.ref 72), some (.ref 632), some (.int (nI i)), u5, u6, u7], [], mm L X I J)) := by
  have ea := ix_a hi hL
  have eb := ix_b hi hL
  refine g_eq q_L_law__518 (?_)
  obtain ⟨v, I1, J1, e1, g1, hv, H⟩ := op_undo HI L X J
  obtain ⟨y, rfl⟩ := tg_int hv
  refine g_be e1 (g_eq q_L_law__522 (?_))
  obtain ⟨I2, e2, z2, HI2⟩ := H J1
  refine g_be e2 (g_eq q_L_law__526 (g_t rfl (g_eq q_L_law__2423 ?_)))
  rw [nI_add]
  exact kk X I2 J1 _ _ _ (by omega) HI2
theorem sg_told (hL : L ≤ 5120) (HI : Inv I) (hi : i + 10 ≤ L) (kk : ∀ X' I' J' u5 u6 u7, X' ≤ X + 1 → Inv I' → Gd L Bx (c_L_law__23 1000 L X' I' J' (nI (i + 10)) u5 u6 u7)) : Gd L Bx (runI (runM 1000) iLaw (531, [some (.ref 1000000), some (.ref 0), some (.ref 72), some (.ref 632), some (.int (nI i)), u5, u6, u7], [], mm L X I J)) := by
  have ea := ix_a hi hL
  have eb := ix_b hi hL
  refine g_eq q_L_law__531 (g_gd (ea 1 (by decide)) (?_))
  rw [eb 1 (by decide)]
  rcases op_told (x := I 1000000 (i + 1)) HI L X J with A | A
  · obtain ⟨y, I1, J1, e1, j1, g1, H⟩ := w1_told A
    refine g_bne e1 (g_eq q_L_law__542 (g_gd (ea 1 (by decide)) (?_)))
    rw [eb 1 (by decide), g1 1000000 (i + 1) (by decide)]
    obtain ⟨I2, e2, z2, HI2⟩ := H J1
    refine g_be e2 (g_eq q_L_law__554 (g_be th_e ?_))
    rw [z2]
    refine g_eq q_L_law__560 (g_t rfl (g_t rfl (g_gd (by decide) (g_t ?_ (g_eq q_L_law__584 (g_eq q_L_law__2423 ?_))))))
    · rw [show (nI 0).toNatClampNeg = 0 by decide, j1]
      exact (cq _ _).mpr rfl
    · rw [nI_add]
      exact kk X I2 J1 _ _ _ (by omega) HI2
  · obtain ⟨k, I1, k1, k2, e1, g1, H⟩ := w2_told A
    refine g_bne e1 (g_eq q_L_law__542 (g_gd (ea 1 (by decide)) (?_)))
    rw [eb 1 (by decide), g1 1000000 (i + 1) (by decide)]
    obtain ⟨I2, e2, z2, HI2⟩ := H J
    refine g_be e2 (g_eq q_L_law__554 (g_be th_e ?_))
    rw [z2]
    refine g_eq q_L_law__560 (g_t rfl (g_f (nI_ne0 (by omega) (by omega)) (g_eq q_L_law__584 (g_eq q_L_law__2423 ?_))))
    rw [nI_add]
    exact kk (X + 1) I2 J _ _ _ (by omega) HI2
theorem sg_piece (hL : L ≤ 5120) (HI : Inv I) (hi : i + 10 ≤ L) (kk : ∀ X' I' J' u5 u6 u7, X' ≤ X + 1 → Inv I' → Gd L Bx (c_L_law__23 1000 L X' I' J' (nI (i + 10)) u5 u6 u7)) : Gd L Bx (runI (runM 1000) iLaw (587, [some (.ref 1000000), some (.ref 0), some (.ref 72), some (.ref 632), some (.int (nI i)), u5, u6, u7], [], mm L X I J)) := by
  have ea := ix_a hi hL
  have eb := ix_b hi hL
  refine g_eq q_L_law__587 (g_gd (ea 1 (by decide)) (g_gd (ea 2 (by decide)) (?_)))
  rw [eb 1 (by decide), eb 2 (by decide)]
  rcases op_piece (x1 := I 1000000 (i + 1)) (x2 := I 1000000 (i + 2)) HI L X J with A | A
  · obtain ⟨y, I1, J1, e1, j1, g1, H⟩ := w1_piece A
    refine g_bne e1 (g_eq q_L_law__604 (g_gd (ea 1 (by decide)) (g_gd (ea 2 (by decide)) (?_))))
    rw [eb 1 (by decide), eb 2 (by decide), g1 1000000 (i + 1) (by decide), g1 1000000 (i + 2) (by decide)]
    obtain ⟨I2, e2, z2, HI2⟩ := H J1
    refine g_be e2 (g_eq q_L_law__622 (g_be th_e ?_))
    rw [z2]
    refine g_eq q_L_law__628 (g_t rfl (g_t rfl (g_gd (by decide) (g_t ?_ (g_eq q_L_law__652 (g_eq q_L_law__2423 ?_))))))
    · rw [show (nI 0).toNatClampNeg = 0 by decide, j1]
      exact (cq _ _).mpr rfl
    · rw [nI_add]
      exact kk X I2 J1 _ _ _ (by omega) HI2
  · obtain ⟨k, I1, k1, k2, e1, g1, H⟩ := w2_piece A
    refine g_bne e1 (g_eq q_L_law__604 (g_gd (ea 1 (by decide)) (g_gd (ea 2 (by decide)) (?_))))
    rw [eb 1 (by decide), eb 2 (by decide), g1 1000000 (i + 1) (by decide), g1 1000000 (i + 2) (by decide)]
    obtain ⟨I2, e2, z2, HI2⟩ := H J
    refine g_be e2 (g_eq q_L_law__622 (g_be th_e ?_))
    rw [z2]
    refine g_eq q_L_law__628 (g_t rfl (g_f (nI_ne0 (by omega) (by omega)) (g_eq q_L_law__652 (g_eq q_L_law__2423 ?_))))
    rw [nI_add]
    exact kk (X + 1) I2 J _ _ _ (by omega) HI2
theorem sg_collar (hL : L ≤ 5120) (HI : Inv I) (hi : i + 10 ≤ L) (kk : ∀ X' I' J' u5 u6 u7, X' ≤ X + 1 → Inv I' → Gd L Bx (c_L_law__23 1000 L X' I' J' (nI (i + 10)) u5 u6 u7)) : Gd L Bx (runI (runM 1000) iLaw (655, [some (.ref 1000000), some (.ref 0), some (.ref 72), some (.ref 632), some (.int (nI i)), u5, u6, u7], [], mm L X I J)) := by
  have ea := ix_a hi hL
  have eb := ix_b hi hL
  refine g_eq q_L_law__655 (g_gd (ea 1 (by decide)) (g_gd (ea 2 (by decide)) (?_)))
  rw [eb 1 (by decide), eb 2 (by decide)]
  rcases op_collar (x1 := I 1000000 (i + 1)) (x2 := I 1000000 (i + 2)) HI L X J with A | A
  · obtain ⟨y, I1, J1, e1, j1, g1, H⟩ := w1_collar A
    refine g_bne e1 (g_eq q_L_law__672 (g_gd (ea 1 (by decide)) (g_gd (ea 2 (by decide)) (?_))))
    rw [eb 1 (by decide), eb 2 (by decide), g1 1000000 (i + 1) (by decide), g1 1000000 (i + 2) (by decide)]
    obtain ⟨I2, e2, z2, HI2⟩ := H J1
    refine g_be e2 (g_eq q_L_law__690 (g_be th_e ?_))
    rw [z2]
    refine g_eq q_L_law__696 (g_t rfl (g_t rfl (g_gd (by decide) (g_t ?_ (g_eq q_L_law__720 (g_eq q_L_law__2423 ?_))))))
    · rw [show (nI 0).toNatClampNeg = 0 by decide, j1]
      exact (cq _ _).mpr rfl
    · rw [nI_add]
      exact kk X I2 J1 _ _ _ (by omega) HI2
  · obtain ⟨k, I1, k1, k2, e1, g1, H⟩ := w2_collar A
    refine g_bne e1 (g_eq q_L_law__672 (g_gd (ea 1 (by decide)) (g_gd (ea 2 (by decide)) (?_))))
    rw [eb 1 (by decide), eb 2 (by decide), g1 1000000 (i + 1) (by decide), g1 1000000 (i + 2) (by decide)]
    obtain ⟨I2, e2, z2, HI2⟩ := H J
    refine g_be e2 (g_eq q_L_law__690 (g_be th_e ?_))
    rw [z2]
    refine g_eq q_L_law__696 (g_t rfl (g_f (nI_ne0 (by omega) (by omega)) (g_eq q_L_law__720 (g_eq q_L_law__2423 ?_))))
    rw [nI_add]
    exact kk (X + 1) I2 J _ _ _ (by omega) HI2
theorem sg_fire (hL : L ≤ 5120) (HI : Inv I) (hi : i + 10 ≤ L) (kk : ∀ X' I' J' u5 u6 u7, X' ≤ X + 1 → Inv I' → Gd L Bx (c_L_law__23 1000 L X' I' J' (nI (i + 10)) u5 u6 u7)) : Gd L Bx (runI (runM 1000) iLaw (723, [some (.ref 1000000), some (.ref 0), some (.ref 72), some (.ref 632), some (.int (nI i)), u5, u6, u7], [], mm L X I J)) := by
  have ea := ix_a hi hL
  have eb := ix_b hi hL
  refine g_eq q_L_law__723 (g_gd (ea 1 (by decide)) (g_gd (ea 2 (by decide)) (?_)))
  rw [eb 1 (by decide), eb 2 (by decide)]
  rcases op_fire (x1 := I 1000000 (i + 1)) (x2 := I 1000000 (i + 2)) HI L X J with A | A
  · obtain ⟨y, I1, J1, e1, j1, g1, H⟩ := w1_fire A
    refine g_bne e1 (g_eq q_L_law__740 (g_gd (ea 1 (by decide)) (g_gd (ea 2 (by decide)) (?_))))
    rw [eb 1 (by decide), eb 2 (by decide), g1 1000000 (i + 1) (by decide), g1 1000000 (i + 2) (by decide)]
    obtain ⟨I2, e2, z2, HI2⟩ := H J1
    refine g_be e2 (g_eq q_L_law__758 (g_be th_e ?_))
    rw [z2]
    refine g_eq q_L_law__764 (g_t rfl (g_t rfl (g_gd (by decide) (g_t ?_ (g_eq q_L_law__788 (g_eq q_L_law__2423 ?_))))))
    · rw [show (nI 0).toNatClampNeg = 0 by decide, j1]
      exact (cq _ _).mpr rfl
    · rw [nI_add]
      exact kk X I2 J1 _ _ _ (by omega) HI2
  · obtain ⟨k, I1, k1, k2, e1, g1, H⟩ := w2_fire A
    refine g_bne e1 (g_eq q_L_law__740 (g_gd (ea 1 (by decide)) (g_gd (ea 2 (by decide)) (?_))))
    rw [eb 1 (by decide), eb 2 (by decide), g1 1000000 (i + 1) (by decide), g1 1000000 (i + 2) (by decide)]
    obtain ⟨I2, e2, z2, HI2⟩ := H J
    refine g_be e2 (g_eq q_L_law__758 (g_be th_e ?_))
    rw [z2]
    refine g_eq q_L_law__764 (g_t rfl (g_f (nI_ne0 (by omega) (by omega)) (g_eq q_L_law__788 (g_eq q_L_law__2423 ?_))))
    rw [nI_add]
    exact kk (X + 1) I2 J _ _ _ (by omega) HI2
theorem sg_row (hL : L ≤ 5120) (HI : Inv I) (hi : i + 10 ≤ L) (kk : ∀ X' I' J' u5 u6 u7, X' ≤ X + 1 → Inv I' → Gd L Bx (c_L_law__23 1000 L X' I' J' (nI (i + 10)) u5 u6 u7)) : Gd L Bx (runI (runM 1000) iLaw (791, [some (.ref 1000000), some (.ref 0), some (.ref 72), some (.ref 632), some (.int (nI i)), u5, u6, u7], [], mm L X I J)) := by
  have ea := ix_a hi hL
  have eb := ix_b hi hL
  refine g_eq q_L_law__791 (g_gd (ea 1 (by decide)) (?_))
  rw [eb 1 (by decide)]
  rcases op_row (x := I 1000000 (i + 1)) HI L X J with A | A
  · obtain ⟨y, I1, J1, e1, j1, g1, H⟩ := w1_row A
    refine g_bne e1 (g_eq q_L_law__802 (g_gd (ea 1 (by decide)) (?_)))
    rw [eb 1 (by decide), g1 1000000 (i + 1) (by decide)]
    obtain ⟨I2, e2, z2, HI2⟩ := H J1
    refine g_be e2 (g_eq q_L_law__814 (g_be th_e ?_))
    rw [z2]
    refine g_eq q_L_law__820 (g_t rfl (g_t rfl (g_gd (by decide) (g_t ?_ (g_eq q_L_law__844 (g_eq q_L_law__2423 ?_))))))
    · rw [show (nI 0).toNatClampNeg = 0 by decide, j1]
      exact (cq _ _).mpr rfl
    · rw [nI_add]
      exact kk X I2 J1 _ _ _ (by omega) HI2
  · obtain ⟨k, I1, k1, k2, e1, g1, H⟩ := w2_row A
    refine g_bne e1 (g_eq q_L_law__802 (g_gd (ea 1 (by decide)) (?_)))
    rw [eb 1 (by decide), g1 1000000 (i + 1) (by decide)]
    obtain ⟨I2, e2, z2, HI2⟩ := H J
    refine g_be e2 (g_eq q_L_law__814 (g_be th_e ?_))
    rw [z2]
    refine g_eq q_L_law__820 (g_t rfl (g_f (nI_ne0 (by omega) (by omega)) (g_eq q_L_law__844 (g_eq q_L_law__2423 ?_))))
    rw [nI_add]
    exact kk (X + 1) I2 J _ _ _ (by omega) HI2
theorem sg_behind (hL : L ≤ 5120) (HI : Inv I) (hi : i + 10 ≤ L) (kk : ∀ X' I' J' u5 u6 u7, X' ≤ X + 1 → Inv I' → Gd L Bx (c_L_law__23 1000 L X' I' J' (nI (i + 10)) u5 u6 u7)) : Gd L Bx (runI (runM 1000) iLaw (847, [some (.ref 1000000), some (.ref 0), some (.ref 72), some (.ref 632), some (.int (nI i)), u5, u6, u7], [], mm L X I J)) := by
  have ea := ix_a hi hL
  have eb := ix_b hi hL
  refine g_eq q_L_law__847 (g_gd (ea 1 (by decide)) (?_))
  rw [eb 1 (by decide)]
  rcases op_behind (x := I 1000000 (i + 1)) HI L X J with A | A
  · obtain ⟨y, I1, J1, e1, j1, g1, H⟩ := w1_behind A
    refine g_bne e1 (g_eq q_L_law__858 (g_gd (ea 1 (by decide)) (?_)))
    rw [eb 1 (by decide), g1 1000000 (i + 1) (by decide)]
    obtain ⟨I2, e2, z2, HI2⟩ := H J1
    refine g_be e2 (g_eq q_L_law__870 (g_be th_e ?_))
    rw [z2]
    refine g_eq q_L_law__876 (g_t rfl (g_t rfl (g_gd (by decide) (g_t ?_ (g_eq q_L_law__900 (g_eq q_L_law__2423 ?_))))))
    · rw [show (nI 0).toNatClampNeg = 0 by decide, j1]
      exact (cq _ _).mpr rfl
    · rw [nI_add]
      exact kk X I2 J1 _ _ _ (by omega) HI2
  · obtain ⟨k, I1, k1, k2, e1, g1, H⟩ := w2_behind A
    refine g_bne e1 (g_eq q_L_law__858 (g_gd (ea 1 (by decide)) (?_)))
    rw [eb 1 (by decide), g1 1000000 (i + 1) (by decide)]
    obtain ⟨I2, e2, z2, HI2⟩ := H J
    refine g_be e2 (g_eq q_L_law__870 (g_be th_e ?_))
    rw [z2]
    refine g_eq q_L_law__876 (g_t rfl (g_f (nI_ne0 (by omega) (by omega)) (g_eq q_L_law__900 (g_eq q_L_law__2423 ?_))))
    rw [nI_add]
    exact kk (X + 1) I2 J _ _ _ (by omega) HI2
theorem sg_would (hL : L ≤ 5120) (HI : Inv I) (hi : i + 10 ≤ L) (kk : ∀ X' I' J' u5 u6 u7, X' ≤ X + 1 → Inv I' → Gd L Bx (c_L_law__23 1000 L X' I' J' (nI (i + 10)) u5 u6 u7)) : Gd L Bx (runI (runM 1000) iLaw (903, [some (.ref 1000000), some (.ref 0), some (.ref 72), some (.ref 632), some (.int (nI i)), u5, u6, u7], [], mm L X I J)) := by
  have ea := ix_a hi hL
  have eb := ix_b hi hL
  refine g_eq q_L_law__903 (g_gd (ea 1 (by decide)) (g_gd (ea 2 (by decide)) (g_gd (ea 3 (by decide)) (g_gd (ea 4 (by decide)) (g_gd (ea 5 (by decide)) (g_gd (ea 6 (by decide)) (g_gd (ea 7 (by decide)) (g_gd (ea 8 (by decide)) (g_gd (ea 9 (by decide)) (?_))))))))))
  rw [eb 1 (by decide), eb 2 (by decide), eb 3 (by decide), eb 4 (by decide), eb 5 (by decide), eb 6 (by decide), eb 7 (by decide), eb 8 (by decide), eb 9 (by decide)]
  rcases op_would (x1 := I 1000000 (i + 1)) (x2 := I 1000000 (i + 2)) (x3 := I 1000000 (i + 3)) (x4 := I 1000000 (i + 4)) (x5 := I 1000000 (i + 5)) (x6 := I 1000000 (i + 6)) (x7 := I 1000000 (i + 7)) (x8 := I 1000000 (i + 8)) (x9 := I 1000000 (i + 9)) HI L X J with A | A
  · obtain ⟨y, I1, J1, e1, j1, g1, H⟩ := w1_would A
    refine g_bne e1 (g_eq q_L_law__966 (g_gd (ea 1 (by decide)) (g_gd (ea 2 (by decide)) (g_gd (ea 3 (by decide)) (g_gd (ea 4 (by decide)) (g_gd (ea 5 (by decide)) (g_gd (ea 6 (by decide)) (g_gd (ea 7 (by decide)) (g_gd (ea 8 (by decide)) (g_gd (ea 9 (by decide)) (?_)))))))))))
    rw [eb 1 (by decide), eb 2 (by decide), eb 3 (by decide), eb 4 (by decide), eb 5 (by decide), eb 6 (by decide), eb 7 (by decide), eb 8 (by decide), eb 9 (by decide), g1 1000000 (i + 1) (by decide), g1 1000000 (i + 2) (by decide), g1 1000000 (i + 3) (by decide), g1 1000000 (i + 4) (by decide), g1 1000000 (i + 5) (by decide), g1 1000000 (i + 6) (by decide), g1 1000000 (i + 7) (by decide), g1 1000000 (i + 8) (by decide), g1 1000000 (i + 9) (by decide)]
    obtain ⟨I2, e2, z2, HI2⟩ := H J1
    refine g_be e2 (g_eq q_L_law__1030 (g_be th_e ?_))
    rw [z2]
    refine g_eq q_L_law__1036 (g_t rfl (g_t rfl (g_gd (by decide) (g_t ?_ (g_eq q_L_law__1060 (g_eq q_L_law__2423 ?_))))))
    · rw [show (nI 0).toNatClampNeg = 0 by decide, j1]
      exact (cq _ _).mpr rfl
    · rw [nI_add]
      exact kk X I2 J1 _ _ _ (by omega) HI2
  · obtain ⟨k, I1, k1, k2, e1, g1, H⟩ := w2_would A
    refine g_bne e1 (g_eq q_L_law__966 (g_gd (ea 1 (by decide)) (g_gd (ea 2 (by decide)) (g_gd (ea 3 (by decide)) (g_gd (ea 4 (by decide)) (g_gd (ea 5 (by decide)) (g_gd (ea 6 (by decide)) (g_gd (ea 7 (by decide)) (g_gd (ea 8 (by decide)) (g_gd (ea 9 (by decide)) (?_)))))))))))
    rw [eb 1 (by decide), eb 2 (by decide), eb 3 (by decide), eb 4 (by decide), eb 5 (by decide), eb 6 (by decide), eb 7 (by decide), eb 8 (by decide), eb 9 (by decide), g1 1000000 (i + 1) (by decide), g1 1000000 (i + 2) (by decide), g1 1000000 (i + 3) (by decide), g1 1000000 (i + 4) (by decide), g1 1000000 (i + 5) (by decide), g1 1000000 (i + 6) (by decide), g1 1000000 (i + 7) (by decide), g1 1000000 (i + 8) (by decide), g1 1000000 (i + 9) (by decide)]
    obtain ⟨I2, e2, z2, HI2⟩ := H J
    refine g_be e2 (g_eq q_L_law__1030 (g_be th_e ?_))
    rw [z2]
    refine g_eq q_L_law__1036 (g_t rfl (g_f (nI_ne0 (by omega) (by omega)) (g_eq q_L_law__1060 (g_eq q_L_law__2423 ?_))))
    rw [nI_add]
    exact kk (X + 1) I2 J _ _ _ (by omega) HI2
theorem sg_fits (hL : L ≤ 5120) (HI : Inv I) (hi : i + 10 ≤ L) (kk : ∀ X' I' J' u5 u6 u7, X' ≤ X + 1 → Inv I' → Gd L Bx (c_L_law__23 1000 L X' I' J' (nI (i + 10)) u5 u6 u7)) : Gd L Bx (runI (runM 1000) iLaw (1063, [some (.ref 1000000), some (.ref 0), some (.ref 72), some (.ref 632), some (.int (nI i)), u5, u6, u7], [], mm L X I J)) := by
  have ea := ix_a hi hL
  have eb := ix_b hi hL
  refine g_eq q_L_law__1063 (g_gd (ea 1 (by decide)) (g_gd (ea 2 (by decide)) (?_)))
  rw [eb 1 (by decide), eb 2 (by decide)]
  rcases op_fits (x1 := I 1000000 (i + 1)) (x2 := I 1000000 (i + 2)) HI L X J with A | A
  · obtain ⟨y, I1, J1, e1, j1, g1, H⟩ := w1_fits A
    refine g_bne e1 (g_eq q_L_law__1080 (g_gd (ea 1 (by decide)) (g_gd (ea 2 (by decide)) (?_))))
    rw [eb 1 (by decide), eb 2 (by decide), g1 1000000 (i + 1) (by decide), g1 1000000 (i + 2) (by decide)]
    obtain ⟨I2, e2, z2, HI2⟩ := H J1
    refine g_be e2 (g_eq q_L_law__1098 (g_be th_e ?_))
    rw [z2]
    refine g_eq q_L_law__1104 (g_t rfl (g_t rfl (g_gd (by decide) ?_)))
    rw [show (nI 0).toNatClampNeg = 0 by decide, j1]
    have fin : ∀ z0 z1 : Int64, z0 = z1 → ∀ u5 u6 u7, Gd L Bx (runI (runM 1000) iLaw (1129, [some (.ref 1000000), some (.ref 0), some (.ref 72), some (.ref 632), some (.int (nI i)), u5, u6, u7], [.long z1, .long z0], mm L X I2 J1)) := by
      intro z0 z1 hz u5 u6 u7
      refine g_eq q_L_law__1129 (g_t ((cq _ _).mpr hz) (g_eq q_L_law__1135 (g_eq q_L_law__2423 ?_)))
      rw [nI_add]
      exact kk X I2 J1 _ _ _ (by omega) HI2
    by_cases q : y = nI 0
    · exact g_t q (fin _ _ (if_pos q) _ _ _)
    · exact g_f q (fin _ _ (if_neg q) _ _ _)
  · obtain ⟨k, I1, k1, k2, e1, g1, H⟩ := w2_fits A
    refine g_bne e1 (g_eq q_L_law__1080 (g_gd (ea 1 (by decide)) (g_gd (ea 2 (by decide)) (?_))))
    rw [eb 1 (by decide), eb 2 (by decide), g1 1000000 (i + 1) (by decide), g1 1000000 (i + 2) (by decide)]
    obtain ⟨I2, e2, z2, HI2⟩ := H J
    refine g_be e2 (g_eq q_L_law__1098 (g_be th_e ?_))
    rw [z2]
    refine g_eq q_L_law__1104 (g_t rfl (g_f (nI_ne0 (by omega) (by omega)) (g_eq q_L_law__1135 (g_eq q_L_law__2423 ?_))))
    rw [nI_add]
    exact kk (X + 1) I2 J _ _ _ (by omega) HI2
theorem sg_can (hL : L ≤ 5120) (HI : Inv I) (hi : i + 10 ≤ L) (kk : ∀ X' I' J' u5 u6 u7, X' ≤ X + 1 → Inv I' → Gd L Bx (c_L_law__23 1000 L X' I' J' (nI (i + 10)) u5 u6 u7)) : Gd L Bx (runI (runM 1000) iLaw (1138, [some (.ref 1000000), some (.ref 0), some (.ref 72), some (.ref 632), some (.int (nI i)), u5, u6, u7], [], mm L X I J)) := by
  have ea := ix_a hi hL
  have eb := ix_b hi hL
  refine g_eq q_L_law__1138 (g_gd (ea 1 (by decide)) (?_))
  rw [eb 1 (by decide)]
  rcases op_can (x1 := I 1000000 (i + 1)) HI L X J with A | A
  · obtain ⟨y, I1, J1, e1, j1, g1, H⟩ := w1_can A
    refine g_bne e1 (g_eq q_L_law__1149 (g_gd (ea 1 (by decide)) (?_)))
    rw [eb 1 (by decide), g1 1000000 (i + 1) (by decide)]
    obtain ⟨I2, e2, z2, HI2⟩ := H J1
    refine g_be e2 (g_eq q_L_law__1161 (g_be th_e ?_))
    rw [z2]
    refine g_eq q_L_law__1167 (g_t rfl (g_t rfl (g_gd (by decide) ?_)))
    rw [show (nI 0).toNatClampNeg = 0 by decide, j1]
    have fin : ∀ z0 z1 : Int64, z0 = z1 → ∀ u5 u6 u7, Gd L Bx (runI (runM 1000) iLaw (1192, [some (.ref 1000000), some (.ref 0), some (.ref 72), some (.ref 632), some (.int (nI i)), u5, u6, u7], [.long z1, .long z0], mm L X I2 J1)) := by
      intro z0 z1 hz u5 u6 u7
      refine g_eq q_L_law__1192 (g_t ((cq _ _).mpr hz) (g_eq q_L_law__1198 (g_eq q_L_law__2423 ?_)))
      rw [nI_add]
      exact kk X I2 J1 _ _ _ (by omega) HI2
    by_cases q : y = nI 0
    · exact g_t q (fin _ _ (if_pos q) _ _ _)
    · exact g_f q (fin _ _ (if_neg q) _ _ _)
  · obtain ⟨k, I1, k1, k2, e1, g1, H⟩ := w2_can A
    refine g_bne e1 (g_eq q_L_law__1149 (g_gd (ea 1 (by decide)) (?_)))
    rw [eb 1 (by decide), g1 1000000 (i + 1) (by decide)]
    obtain ⟨I2, e2, z2, HI2⟩ := H J
    refine g_be e2 (g_eq q_L_law__1161 (g_be th_e ?_))
    rw [z2]
    refine g_eq q_L_law__1167 (g_t rfl (g_f (nI_ne0 (by omega) (by omega)) (g_eq q_L_law__1198 (g_eq q_L_law__2423 ?_))))
    rw [nI_add]
    exact kk (X + 1) I2 J _ _ _ (by omega) HI2
theorem sg_ahead (hL : L ≤ 5120) (HI : Inv I) (hi : i + 10 ≤ L) (kk : ∀ X' I' J' u5 u6 u7, X' ≤ X + 1 → Inv I' → Gd L Bx (c_L_law__23 1000 L X' I' J' (nI (i + 10)) u5 u6 u7)) : Gd L Bx (runI (runM 1000) iLaw (1201, [some (.ref 1000000), some (.ref 0), some (.ref 72), some (.ref 632), some (.int (nI i)), u5, u6, u7], [], mm L X I J)) := by
  have ea := ix_a hi hL
  have eb := ix_b hi hL
  refine g_eq q_L_law__1201 (g_gd (ea 1 (by decide)) (?_))
  rw [eb 1 (by decide)]
  rcases op_ahead (x := I 1000000 (i + 1)) HI L X J with A | A
  · obtain ⟨y, I1, J1, e1, j1, g1, H⟩ := w1_ahead A
    refine g_bne e1 (g_eq q_L_law__1212 (g_gd (ea 1 (by decide)) (?_)))
    rw [eb 1 (by decide), g1 1000000 (i + 1) (by decide)]
    obtain ⟨I2, e2, z2, HI2⟩ := H J1
    refine g_be e2 (g_eq q_L_law__1224 (g_be th_e ?_))
    rw [z2]
    refine g_eq q_L_law__1230 (g_t rfl (g_t rfl (g_gd (by decide) (g_t ?_ (g_eq q_L_law__1254 (g_eq q_L_law__2423 ?_))))))
    · rw [show (nI 0).toNatClampNeg = 0 by decide, j1]
      exact (cq _ _).mpr rfl
    · rw [nI_add]
      exact kk X I2 J1 _ _ _ (by omega) HI2
  · obtain ⟨k, I1, k1, k2, e1, g1, H⟩ := w2_ahead A
    refine g_bne e1 (g_eq q_L_law__1212 (g_gd (ea 1 (by decide)) (?_)))
    rw [eb 1 (by decide), g1 1000000 (i + 1) (by decide)]
    obtain ⟨I2, e2, z2, HI2⟩ := H J
    refine g_be e2 (g_eq q_L_law__1224 (g_be th_e ?_))
    rw [z2]
    refine g_eq q_L_law__1230 (g_t rfl (g_f (nI_ne0 (by omega) (by omega)) (g_eq q_L_law__1254 (g_eq q_L_law__2423 ?_))))
    rw [nI_add]
    exact kk (X + 1) I2 J _ _ _ (by omega) HI2
theorem sg_chain (hL : L ≤ 5120) (HI : Inv I) (hi : i + 10 ≤ L) (kk : ∀ X' I' J' u5 u6 u7, X' ≤ X + 1 → Inv I' → Gd L Bx (c_L_law__23 1000 L X' I' J' (nI (i + 10)) u5 u6 u7)) : Gd L Bx (runI (runM 1000) iLaw (1257, [some (.ref 1000000), some (.ref 0), some (.ref 72), some (.ref 632), some (.int (nI i)), u5, u6, u7], [], mm L X I J)) := by
  have ea := ix_a hi hL
  have eb := ix_b hi hL
  refine g_eq q_L_law__1257 (g_gd (ea 1 (by decide)) (?_))
  rw [eb 1 (by decide)]
  rcases op_chain (x := I 1000000 (i + 1)) HI L X J with A | A
  · obtain ⟨y, I1, J1, e1, j1, g1, H⟩ := w1_chain A
    refine g_bne e1 (g_eq q_L_law__1268 (g_gd (ea 1 (by decide)) (?_)))
    rw [eb 1 (by decide), g1 1000000 (i + 1) (by decide)]
    obtain ⟨I2, e2, z2, HI2⟩ := H J1
    refine g_be e2 (g_eq q_L_law__1280 (g_be th_e ?_))
    rw [z2]
    refine g_eq q_L_law__1286 (g_t rfl (g_t rfl (g_gd (by decide) (g_t ?_ (g_eq q_L_law__1310 (g_eq q_L_law__2423 ?_))))))
    · rw [show (nI 0).toNatClampNeg = 0 by decide, j1]
      exact (cq _ _).mpr rfl
    · rw [nI_add]
      exact kk X I2 J1 _ _ _ (by omega) HI2
  · obtain ⟨k, I1, k1, k2, e1, g1, H⟩ := w2_chain A
    refine g_bne e1 (g_eq q_L_law__1268 (g_gd (ea 1 (by decide)) (?_)))
    rw [eb 1 (by decide), g1 1000000 (i + 1) (by decide)]
    obtain ⟨I2, e2, z2, HI2⟩ := H J
    refine g_be e2 (g_eq q_L_law__1280 (g_be th_e ?_))
    rw [z2]
    refine g_eq q_L_law__1286 (g_t rfl (g_f (nI_ne0 (by omega) (by omega)) (g_eq q_L_law__1310 (g_eq q_L_law__2423 ?_))))
    rw [nI_add]
    exact kk (X + 1) I2 J _ _ _ (by omega) HI2
theorem sg_chained (hL : L ≤ 5120) (HI : Inv I) (hi : i + 10 ≤ L) (kk : ∀ X' I' J' u5 u6 u7, X' ≤ X + 1 → Inv I' → Gd L Bx (c_L_law__23 1000 L X' I' J' (nI (i + 10)) u5 u6 u7)) : Gd L Bx (runI (runM 1000) iLaw (1313, [some (.ref 1000000), some (.ref 0), some (.ref 72), some (.ref 632), some (.int (nI i)), u5, u6, u7], [], mm L X I J)) := by
  have ea := ix_a hi hL
  have eb := ix_b hi hL
  refine g_eq q_L_law__1313 (g_gd (ea 1 (by decide)) (?_))
  rw [eb 1 (by decide)]
  rcases op_chained (x := I 1000000 (i + 1)) HI L X J with A | A
  · obtain ⟨y, I1, J1, e1, j1, g1, H⟩ := w1_chained A
    refine g_bne e1 (g_eq q_L_law__1324 (g_gd (ea 1 (by decide)) (?_)))
    rw [eb 1 (by decide), g1 1000000 (i + 1) (by decide)]
    obtain ⟨I2, e2, z2, HI2⟩ := H J1
    refine g_be e2 (g_eq q_L_law__1336 (g_be th_e ?_))
    rw [z2]
    refine g_eq q_L_law__1342 (g_t rfl (g_t rfl (g_gd (by decide) (g_t ?_ (g_eq q_L_law__1366 (g_eq q_L_law__2423 ?_))))))
    · rw [show (nI 0).toNatClampNeg = 0 by decide, j1]
      exact (cq _ _).mpr rfl
    · rw [nI_add]
      exact kk X I2 J1 _ _ _ (by omega) HI2
  · obtain ⟨k, I1, k1, k2, e1, g1, H⟩ := w2_chained A
    refine g_bne e1 (g_eq q_L_law__1324 (g_gd (ea 1 (by decide)) (?_)))
    rw [eb 1 (by decide), g1 1000000 (i + 1) (by decide)]
    obtain ⟨I2, e2, z2, HI2⟩ := H J
    refine g_be e2 (g_eq q_L_law__1336 (g_be th_e ?_))
    rw [z2]
    refine g_eq q_L_law__1342 (g_t rfl (g_f (nI_ne0 (by omega) (by omega)) (g_eq q_L_law__1366 (g_eq q_L_law__2423 ?_))))
    rw [nI_add]
    exact kk (X + 1) I2 J _ _ _ (by omega) HI2
theorem sg_brief (hL : L ≤ 5120) (HI : Inv I) (hi : i + 10 ≤ L) (kk : ∀ X' I' J' u5 u6 u7, X' ≤ X + 1 → Inv I' → Gd L Bx (c_L_law__23 1000 L X' I' J' (nI (i + 10)) u5 u6 u7)) : Gd L Bx (runI (runM 1000) iLaw (1369, [some (.ref 1000000), some (.ref 0), some (.ref 72), some (.ref 632), some (.int (nI i)), u5, u6, u7], [], mm L X I J)) := by
  have ea := ix_a hi hL
  have eb := ix_b hi hL
  refine g_eq q_L_law__1369 (g_gd (ea 1 (by decide)) (?_))
  rw [eb 1 (by decide)]
  rcases op_brief (x1 := I 1000000 (i + 1)) HI L X J with A | A
  · obtain ⟨y, I1, J1, e1, j1, g1, H⟩ := w1_brief A
    refine g_bne e1 (g_eq q_L_law__1380 (g_gd (ea 1 (by decide)) (?_)))
    rw [eb 1 (by decide), g1 1000000 (i + 1) (by decide)]
    obtain ⟨I2, e2, z2, HI2⟩ := H J1
    refine g_be e2 (g_eq q_L_law__1392 (g_be th_e ?_))
    rw [z2]
    refine g_eq q_L_law__1398 (g_t rfl (g_t rfl (g_gd (by decide) (g_t ?_ (g_eq q_L_law__1422 (g_eq q_L_law__2423 ?_))))))
    · rw [show (nI 0).toNatClampNeg = 0 by decide, j1]
      exact (cq _ _).mpr rfl
    · rw [nI_add]
      exact kk X I2 J1 _ _ _ (by omega) HI2
  · obtain ⟨k, I1, k1, k2, e1, g1, H⟩ := w2_brief A
    refine g_bne e1 (g_eq q_L_law__1380 (g_gd (ea 1 (by decide)) (?_)))
    rw [eb 1 (by decide), g1 1000000 (i + 1) (by decide)]
    obtain ⟨I2, e2, z2, HI2⟩ := H J
    refine g_be e2 (g_eq q_L_law__1392 (g_be th_e ?_))
    rw [z2]
    refine g_eq q_L_law__1398 (g_t rfl (g_f (nI_ne0 (by omega) (by omega)) (g_eq q_L_law__1422 (g_eq q_L_law__2423 ?_))))
    rw [nI_add]
    exact kk (X + 1) I2 J _ _ _ (by omega) HI2
theorem sg_briefly (hL : L ≤ 5120) (HI : Inv I) (hi : i + 10 ≤ L) (kk : ∀ X' I' J' u5 u6 u7, X' ≤ X + 1 → Inv I' → Gd L Bx (c_L_law__23 1000 L X' I' J' (nI (i + 10)) u5 u6 u7)) : Gd L Bx (runI (runM 1000) iLaw (1425, [some (.ref 1000000), some (.ref 0), some (.ref 72), some (.ref 632), some (.int (nI i)), u5, u6, u7], [], mm L X I J)) := by
  have ea := ix_a hi hL
  have eb := ix_b hi hL
  refine g_eq q_L_law__1425 (g_gd (ea 1 (by decide)) (g_gd (ea 2 (by decide)) (?_)))
  rw [eb 1 (by decide), eb 2 (by decide)]
  rcases op_briefly (x1 := I 1000000 (i + 1)) (x2 := I 1000000 (i + 2)) HI L X J with A | A
  · obtain ⟨y, I1, J1, e1, j1, g1, H⟩ := w1_briefly A
    refine g_bne e1 (g_eq q_L_law__1442 (g_gd (ea 1 (by decide)) (g_gd (ea 2 (by decide)) (?_))))
    rw [eb 1 (by decide), eb 2 (by decide), g1 1000000 (i + 1) (by decide), g1 1000000 (i + 2) (by decide)]
    obtain ⟨I2, e2, z2, HI2⟩ := H J1
    refine g_be e2 (g_eq q_L_law__1460 (g_be th_e ?_))
    rw [z2]
    refine g_eq q_L_law__1466 (g_t rfl (g_t rfl (g_gd (by decide) (g_t ?_ (g_eq q_L_law__1490 (g_eq q_L_law__2423 ?_))))))
    · rw [show (nI 0).toNatClampNeg = 0 by decide, j1]
      exact (cq _ _).mpr rfl
    · rw [nI_add]
      exact kk X I2 J1 _ _ _ (by omega) HI2
  · obtain ⟨k, I1, k1, k2, e1, g1, H⟩ := w2_briefly A
    refine g_bne e1 (g_eq q_L_law__1442 (g_gd (ea 1 (by decide)) (g_gd (ea 2 (by decide)) (?_))))
    rw [eb 1 (by decide), eb 2 (by decide), g1 1000000 (i + 1) (by decide), g1 1000000 (i + 2) (by decide)]
    obtain ⟨I2, e2, z2, HI2⟩ := H J
    refine g_be e2 (g_eq q_L_law__1460 (g_be th_e ?_))
    rw [z2]
    refine g_eq q_L_law__1466 (g_t rfl (g_f (nI_ne0 (by omega) (by omega)) (g_eq q_L_law__1490 (g_eq q_L_law__2423 ?_))))
    rw [nI_add]
    exact kk (X + 1) I2 J _ _ _ (by omega) HI2
theorem sg_joiner (hL : L ≤ 5120) (HI : Inv I) (hi : i + 10 ≤ L) (kk : ∀ X' I' J' u5 u6 u7, X' ≤ X + 1 → Inv I' → Gd L Bx (c_L_law__23 1000 L X' I' J' (nI (i + 10)) u5 u6 u7)) : Gd L Bx (runI (runM 1000) iLaw (1493, [some (.ref 1000000), some (.ref 0), some (.ref 72), some (.ref 632), some (.int (nI i)), u5, u6, u7], [], mm L X I J)) := by
  have ea := ix_a hi hL
  have eb := ix_b hi hL
  refine g_eq q_L_law__1493 (g_gd (ea 1 (by decide)) (?_))
  rw [eb 1 (by decide)]
  rcases op_joiner (x := I 1000000 (i + 1)) HI L X J with A | A
  · obtain ⟨y, I1, J1, e1, j1, g1, H⟩ := w1_joiner A
    refine g_bne e1 (g_eq q_L_law__1504 (g_gd (ea 1 (by decide)) (?_)))
    rw [eb 1 (by decide), g1 1000000 (i + 1) (by decide)]
    obtain ⟨I2, e2, z2, HI2⟩ := H J1
    refine g_be e2 (g_eq q_L_law__1516 (g_be th_e ?_))
    rw [z2]
    refine g_eq q_L_law__1522 (g_t rfl (g_t rfl (g_gd (by decide) (g_t ?_ (g_eq q_L_law__1546 (g_eq q_L_law__2423 ?_))))))
    · rw [show (nI 0).toNatClampNeg = 0 by decide, j1]
      exact (cq _ _).mpr rfl
    · rw [nI_add]
      exact kk X I2 J1 _ _ _ (by omega) HI2
  · obtain ⟨k, I1, k1, k2, e1, g1, H⟩ := w2_joiner A
    refine g_bne e1 (g_eq q_L_law__1504 (g_gd (ea 1 (by decide)) (?_)))
    rw [eb 1 (by decide), g1 1000000 (i + 1) (by decide)]
    obtain ⟨I2, e2, z2, HI2⟩ := H J
    refine g_be e2 (g_eq q_L_law__1516 (g_be th_e ?_))
    rw [z2]
    refine g_eq q_L_law__1522 (g_t rfl (g_f (nI_ne0 (by omega) (by omega)) (g_eq q_L_law__1546 (g_eq q_L_law__2423 ?_))))
    rw [nI_add]
    exact kk (X + 1) I2 J _ _ _ (by omega) HI2
theorem sg_leaks (hL : L ≤ 5120) (HI : Inv I) (hi : i + 10 ≤ L) (kk : ∀ X' I' J' u5 u6 u7, X' ≤ X + 1 → Inv I' → Gd L Bx (c_L_law__23 1000 L X' I' J' (nI (i + 10)) u5 u6 u7)) : Gd L Bx (runI (runM 1000) iLaw (1549, [some (.ref 1000000), some (.ref 0), some (.ref 72), some (.ref 632), some (.int (nI i)), u5, u6, u7], [], mm L X I J)) := by
  have ea := ix_a hi hL
  have eb := ix_b hi hL
  refine g_eq q_L_law__1549 (g_gd (ea 1 (by decide)) (?_))
  rw [eb 1 (by decide)]
  rcases op_leaks (x := I 1000000 (i + 1)) HI L X J with A | A
  · obtain ⟨y, I1, J1, e1, j1, g1, H⟩ := w1_leaks A
    refine g_bne e1 (g_eq q_L_law__1560 (g_gd (ea 1 (by decide)) (?_)))
    rw [eb 1 (by decide), g1 1000000 (i + 1) (by decide)]
    obtain ⟨I2, e2, z2, HI2⟩ := H J1
    refine g_be e2 (g_eq q_L_law__1572 (g_be th_e ?_))
    rw [z2]
    refine g_eq q_L_law__1578 (g_t rfl (g_t rfl (g_gd (by decide) (g_t ?_ (g_eq q_L_law__1602 (g_eq q_L_law__2423 ?_))))))
    · rw [show (nI 0).toNatClampNeg = 0 by decide, j1]
      exact (cq _ _).mpr rfl
    · rw [nI_add]
      exact kk X I2 J1 _ _ _ (by omega) HI2
  · obtain ⟨k, I1, k1, k2, e1, g1, H⟩ := w2_leaks A
    refine g_bne e1 (g_eq q_L_law__1560 (g_gd (ea 1 (by decide)) (?_)))
    rw [eb 1 (by decide), g1 1000000 (i + 1) (by decide)]
    obtain ⟨I2, e2, z2, HI2⟩ := H J
    refine g_be e2 (g_eq q_L_law__1572 (g_be th_e ?_))
    rw [z2]
    refine g_eq q_L_law__1578 (g_t rfl (g_f (nI_ne0 (by omega) (by omega)) (g_eq q_L_law__1602 (g_eq q_L_law__2423 ?_))))
    rw [nI_add]
    exact kk (X + 1) I2 J _ _ _ (by omega) HI2
theorem sg_look (hL : L ≤ 5120) (HI : Inv I) (hi : i + 10 ≤ L) (kk : ∀ X' I' J' u5 u6 u7, X' ≤ X + 1 → Inv I' → Gd L Bx (c_L_law__23 1000 L X' I' J' (nI (i + 10)) u5 u6 u7)) : Gd L Bx (runI (runM 1000) iLaw (1605, [some (.ref 1000000), some (.ref 0), some (.ref 72), some (.ref 632), some (.int (nI i)), u5, u6, u7], [], mm L X I J)) := by
  have ea := ix_a hi hL
  have eb := ix_b hi hL
  refine g_eq q_L_law__1605 (g_gd (ea 1 (by decide)) (?_))
  rw [eb 1 (by decide)]
  rcases op_look (x := I 1000000 (i + 1)) HI L X J with A | A
  · obtain ⟨y, I1, J1, e1, j1, g1, H⟩ := w1_look A
    refine g_bne e1 (g_eq q_L_law__1616 (g_gd (ea 1 (by decide)) (?_)))
    rw [eb 1 (by decide), g1 1000000 (i + 1) (by decide)]
    obtain ⟨I2, e2, z2, HI2⟩ := H J1
    refine g_be e2 (g_eq q_L_law__1628 (g_be th_e ?_))
    rw [z2]
    refine g_eq q_L_law__1634 (g_t rfl (g_t rfl (g_gd (by decide) (g_t ?_ (g_eq q_L_law__1658 (g_eq q_L_law__2423 ?_))))))
    · rw [show (nI 0).toNatClampNeg = 0 by decide, j1]
      exact (cq _ _).mpr rfl
    · rw [nI_add]
      exact kk X I2 J1 _ _ _ (by omega) HI2
  · obtain ⟨k, I1, k1, k2, e1, g1, H⟩ := w2_look A
    refine g_bne e1 (g_eq q_L_law__1616 (g_gd (ea 1 (by decide)) (?_)))
    rw [eb 1 (by decide), g1 1000000 (i + 1) (by decide)]
    obtain ⟨I2, e2, z2, HI2⟩ := H J
    refine g_be e2 (g_eq q_L_law__1628 (g_be th_e ?_))
    rw [z2]
    refine g_eq q_L_law__1634 (g_t rfl (g_f (nI_ne0 (by omega) (by omega)) (g_eq q_L_law__1658 (g_eq q_L_law__2423 ?_))))
    rw [nI_add]
    exact kk (X + 1) I2 J _ _ _ (by omega) HI2
theorem sg_wed (hL : L ≤ 5120) (HI : Inv I) (hi : i + 10 ≤ L) (kk : ∀ X' I' J' u5 u6 u7, X' ≤ X + 1 → Inv I' → Gd L Bx (c_L_law__23 1000 L X' I' J' (nI (i + 10)) u5 u6 u7)) : Gd L Bx (runI (runM 1000) iLaw (1661, [some (.ref 1000000), some (.ref 0), some (.ref 72), some (.ref 632), some (.int (nI i)), u5, u6, u7], [], mm L X I J)) := by
  have ea := ix_a hi hL
  have eb := ix_b hi hL
  refine g_eq q_L_law__1661 (?_)
  obtain ⟨v, I1, J1, e1, g1, hv, H⟩ := op_wed HI L X J
  obtain ⟨y, rfl⟩ := tg_int hv
  refine g_be e1 (g_eq q_L_law__1665 (?_))
  obtain ⟨I2, e2, z2, HI2⟩ := H J1
  refine g_be e2 (g_eq q_L_law__1669 (g_t rfl (g_eq q_L_law__2423 ?_)))
  rw [nI_add]
  exact kk X I2 J1 _ _ _ (by omega) HI2
theorem sg_sure (hL : L ≤ 5120) (HI : Inv I) (hi : i + 10 ≤ L) (kk : ∀ X' I' J' u5 u6 u7, X' ≤ X + 1 → Inv I' → Gd L Bx (c_L_law__23 1000 L X' I' J' (nI (i + 10)) u5 u6 u7)) : Gd L Bx (runI (runM 1000) iLaw (1674, [some (.ref 1000000), some (.ref 0), some (.ref 72), some (.ref 632), some (.int (nI i)), u5, u6, u7], [], mm L X I J)) := by
  have ea := ix_a hi hL
  have eb := ix_b hi hL
  refine g_eq q_L_law__1674 (g_gd (ea 1 (by decide)) (g_gd (ea 2 (by decide)) (g_gd (ea 3 (by decide)) (?_))))
  rw [eb 1 (by decide), eb 2 (by decide), eb 3 (by decide)]
  rcases op_sure (x1 := I 1000000 (i + 1)) (x2 := I 1000000 (i + 2)) (x3 := I 1000000 (i + 3)) HI L X J with A | A
  · obtain ⟨y, I1, J1, e1, j1, g1, H⟩ := w1_sure A
    refine g_bne e1 (g_eq q_L_law__1697 (g_gd (ea 1 (by decide)) (g_gd (ea 2 (by decide)) (g_gd (ea 3 (by decide)) (?_)))))
    rw [eb 1 (by decide), eb 2 (by decide), eb 3 (by decide), g1 1000000 (i + 1) (by decide), g1 1000000 (i + 2) (by decide), g1 1000000 (i + 3) (by decide)]
    obtain ⟨I2, e2, z2, HI2⟩ := H J1
    refine g_be e2 (g_eq q_L_law__1721 (g_be th_e ?_))
    rw [z2]
    refine g_eq q_L_law__1727 (g_t rfl (g_t rfl (g_gd (by decide) (g_t ?_ (g_eq q_L_law__1750 (g_eq q_L_law__2423 ?_))))))
    · rw [show (nI 0).toNatClampNeg = 0 by decide, j1]
      exact (cq _ _).mpr rfl
    · rw [nI_add]
      exact kk X I2 J1 _ _ _ (by omega) HI2
  · obtain ⟨k, I1, k1, k2, e1, g1, H⟩ := w2_sure A
    refine g_bne e1 (g_eq q_L_law__1697 (g_gd (ea 1 (by decide)) (g_gd (ea 2 (by decide)) (g_gd (ea 3 (by decide)) (?_)))))
    rw [eb 1 (by decide), eb 2 (by decide), eb 3 (by decide), g1 1000000 (i + 1) (by decide), g1 1000000 (i + 2) (by decide), g1 1000000 (i + 3) (by decide)]
    obtain ⟨I2, e2, z2, HI2⟩ := H J
    refine g_be e2 (g_eq q_L_law__1721 (g_be th_e ?_))
    rw [z2]
    refine g_eq q_L_law__1727 (g_t rfl (g_f (nI_ne0 (by omega) (by omega)) (g_eq q_L_law__1750 (g_eq q_L_law__2423 ?_))))
    rw [nI_add]
    exact kk (X + 1) I2 J _ _ _ (by omega) HI2
theorem sg_street (hL : L ≤ 5120) (HI : Inv I) (hi : i + 10 ≤ L) (kk : ∀ X' I' J' u5 u6 u7, X' ≤ X + 1 → Inv I' → Gd L Bx (c_L_law__23 1000 L X' I' J' (nI (i + 10)) u5 u6 u7)) : Gd L Bx (runI (runM 1000) iLaw (1753, [some (.ref 1000000), some (.ref 0), some (.ref 72), some (.ref 632), some (.int (nI i)), u5, u6, u7], [], mm L X I J)) := by
  have ea := ix_a hi hL
  have eb := ix_b hi hL
  refine g_eq q_L_law__1753 (g_gd (ea 1 (by decide)) (g_gd (ea 2 (by decide)) (g_gd (ea 3 (by decide)) (?_))))
  rw [eb 1 (by decide), eb 2 (by decide), eb 3 (by decide)]
  rcases op_street (x1 := I 1000000 (i + 1)) (x2 := I 1000000 (i + 2)) (x3 := I 1000000 (i + 3)) HI L X J with A | A
  · obtain ⟨y, I1, J1, e1, j1, g1, H⟩ := w1_street A
    refine g_bne e1 (g_eq q_L_law__1776 (g_gd (ea 1 (by decide)) (g_gd (ea 2 (by decide)) (g_gd (ea 3 (by decide)) (?_)))))
    rw [eb 1 (by decide), eb 2 (by decide), eb 3 (by decide), g1 1000000 (i + 1) (by decide), g1 1000000 (i + 2) (by decide), g1 1000000 (i + 3) (by decide)]
    obtain ⟨I2, e2, z2, HI2⟩ := H J1
    refine g_be e2 (g_eq q_L_law__1800 (g_be th_e ?_))
    rw [z2]
    refine g_eq q_L_law__1806 (g_t rfl (g_t rfl (g_gd (by decide) (g_t ?_ (g_eq q_L_law__1830 (g_eq q_L_law__2423 ?_))))))
    · rw [show (nI 0).toNatClampNeg = 0 by decide, j1]
      exact (cq _ _).mpr rfl
    · rw [nI_add]
      exact kk X I2 J1 _ _ _ (by omega) HI2
  · obtain ⟨k, I1, k1, k2, e1, g1, H⟩ := w2_street A
    refine g_bne e1 (g_eq q_L_law__1776 (g_gd (ea 1 (by decide)) (g_gd (ea 2 (by decide)) (g_gd (ea 3 (by decide)) (?_)))))
    rw [eb 1 (by decide), eb 2 (by decide), eb 3 (by decide), g1 1000000 (i + 1) (by decide), g1 1000000 (i + 2) (by decide), g1 1000000 (i + 3) (by decide)]
    obtain ⟨I2, e2, z2, HI2⟩ := H J
    refine g_be e2 (g_eq q_L_law__1800 (g_be th_e ?_))
    rw [z2]
    refine g_eq q_L_law__1806 (g_t rfl (g_f (nI_ne0 (by omega) (by omega)) (g_eq q_L_law__1830 (g_eq q_L_law__2423 ?_))))
    rw [nI_add]
    exact kk (X + 1) I2 J _ _ _ (by omega) HI2
theorem sg_share (hL : L ≤ 5120) (HI : Inv I) (hi : i + 10 ≤ L) (kk : ∀ X' I' J' u5 u6 u7, X' ≤ X + 1 → Inv I' → Gd L Bx (c_L_law__23 1000 L X' I' J' (nI (i + 10)) u5 u6 u7)) : Gd L Bx (runI (runM 1000) iLaw (1833, [some (.ref 1000000), some (.ref 0), some (.ref 72), some (.ref 632), some (.int (nI i)), u5, u6, u7], [], mm L X I J)) := by
  have ea := ix_a hi hL
  have eb := ix_b hi hL
  refine g_eq q_L_law__1833 (g_gd (ea 1 (by decide)) (g_gd (ea 2 (by decide)) (g_gd (ea 3 (by decide)) (?_))))
  rw [eb 1 (by decide), eb 2 (by decide), eb 3 (by decide)]
  rcases op_share (x1 := I 1000000 (i + 1)) (x2 := I 1000000 (i + 2)) (x3 := I 1000000 (i + 3)) HI L X J with A | A
  · obtain ⟨y, I1, J1, e1, j1, g1, H⟩ := w1_share A
    refine g_bne e1 (g_eq q_L_law__1856 (g_gd (ea 1 (by decide)) (g_gd (ea 2 (by decide)) (g_gd (ea 3 (by decide)) (?_)))))
    rw [eb 1 (by decide), eb 2 (by decide), eb 3 (by decide), g1 1000000 (i + 1) (by decide), g1 1000000 (i + 2) (by decide), g1 1000000 (i + 3) (by decide)]
    obtain ⟨I2, e2, z2, HI2⟩ := H J1
    refine g_be e2 (g_eq q_L_law__1880 (g_be th_e ?_))
    rw [z2]
    refine g_eq q_L_law__1886 (g_t rfl (g_t rfl (g_gd (by decide) (g_t ?_ (g_eq q_L_law__1910 (g_eq q_L_law__2423 ?_))))))
    · rw [show (nI 0).toNatClampNeg = 0 by decide, j1]
      exact (cq _ _).mpr rfl
    · rw [nI_add]
      exact kk X I2 J1 _ _ _ (by omega) HI2
  · obtain ⟨k, I1, k1, k2, e1, g1, H⟩ := w2_share A
    refine g_bne e1 (g_eq q_L_law__1856 (g_gd (ea 1 (by decide)) (g_gd (ea 2 (by decide)) (g_gd (ea 3 (by decide)) (?_)))))
    rw [eb 1 (by decide), eb 2 (by decide), eb 3 (by decide), g1 1000000 (i + 1) (by decide), g1 1000000 (i + 2) (by decide), g1 1000000 (i + 3) (by decide)]
    obtain ⟨I2, e2, z2, HI2⟩ := H J
    refine g_be e2 (g_eq q_L_law__1880 (g_be th_e ?_))
    rw [z2]
    refine g_eq q_L_law__1886 (g_t rfl (g_f (nI_ne0 (by omega) (by omega)) (g_eq q_L_law__1910 (g_eq q_L_law__2423 ?_))))
    rw [nI_add]
    exact kk (X + 1) I2 J _ _ _ (by omega) HI2
theorem sg_next (hL : L ≤ 5120) (HI : Inv I) (hi : i + 10 ≤ L) (kk : ∀ X' I' J' u5 u6 u7, X' ≤ X + 1 → Inv I' → Gd L Bx (c_L_law__23 1000 L X' I' J' (nI (i + 10)) u5 u6 u7)) : Gd L Bx (runI (runM 1000) iLaw (1913, [some (.ref 1000000), some (.ref 0), some (.ref 72), some (.ref 632), some (.int (nI i)), u5, u6, u7], [], mm L X I J)) := by
  have ea := ix_a hi hL
  have eb := ix_b hi hL
  refine g_eq q_L_law__1913 (g_gd (ea 1 (by decide)) (?_))
  rw [eb 1 (by decide)]
  rcases op_next (x := I 1000000 (i + 1)) HI L X J with A | A
  · obtain ⟨y, I1, J1, e1, j1, g1, H⟩ := w1_next A
    refine g_bne e1 (g_eq q_L_law__1924 (g_gd (ea 1 (by decide)) (?_)))
    rw [eb 1 (by decide), g1 1000000 (i + 1) (by decide)]
    obtain ⟨I2, e2, z2, HI2⟩ := H J1
    refine g_be e2 (g_eq q_L_law__1936 (g_be th_e ?_))
    rw [z2]
    refine g_eq q_L_law__1942 (g_t rfl (g_t rfl (g_gd (by decide) (g_t ?_ (g_eq q_L_law__1966 (g_eq q_L_law__2423 ?_))))))
    · rw [show (nI 0).toNatClampNeg = 0 by decide, j1]
      exact (cq _ _).mpr rfl
    · rw [nI_add]
      exact kk X I2 J1 _ _ _ (by omega) HI2
  · obtain ⟨k, I1, k1, k2, e1, g1, H⟩ := w2_next A
    refine g_bne e1 (g_eq q_L_law__1924 (g_gd (ea 1 (by decide)) (?_)))
    rw [eb 1 (by decide), g1 1000000 (i + 1) (by decide)]
    obtain ⟨I2, e2, z2, HI2⟩ := H J
    refine g_be e2 (g_eq q_L_law__1936 (g_be th_e ?_))
    rw [z2]
    refine g_eq q_L_law__1942 (g_t rfl (g_f (nI_ne0 (by omega) (by omega)) (g_eq q_L_law__1966 (g_eq q_L_law__2423 ?_))))
    rw [nI_add]
    exact kk (X + 1) I2 J _ _ _ (by omega) HI2
theorem sg_worst (hL : L ≤ 5120) (HI : Inv I) (hi : i + 10 ≤ L) (kk : ∀ X' I' J' u5 u6 u7, X' ≤ X + 1 → Inv I' → Gd L Bx (c_L_law__23 1000 L X' I' J' (nI (i + 10)) u5 u6 u7)) : Gd L Bx (runI (runM 1000) iLaw (1969, [some (.ref 1000000), some (.ref 0), some (.ref 72), some (.ref 632), some (.int (nI i)), u5, u6, u7], [], mm L X I J)) := by
  have ea := ix_a hi hL
  have eb := ix_b hi hL
  refine g_eq q_L_law__1969 (g_gd (ea 1 (by decide)) (?_))
  rw [eb 1 (by decide)]
  rcases op_worst (x := I 1000000 (i + 1)) HI L X J with A | A
  · obtain ⟨y, I1, J1, e1, j1, g1, H⟩ := w1_worst A
    refine g_bne e1 (g_eq q_L_law__1980 (g_gd (ea 1 (by decide)) (?_)))
    rw [eb 1 (by decide), g1 1000000 (i + 1) (by decide)]
    obtain ⟨I2, e2, z2, HI2⟩ := H J1
    refine g_be e2 (g_eq q_L_law__1992 (g_be th_e ?_))
    rw [z2]
    refine g_eq q_L_law__1998 (g_t rfl (g_t rfl (g_gd (by decide) (g_t ?_ (g_eq q_L_law__2022 (g_eq q_L_law__2423 ?_))))))
    · rw [show (nI 0).toNatClampNeg = 0 by decide, j1]
      exact (cq _ _).mpr rfl
    · rw [nI_add]
      exact kk X I2 J1 _ _ _ (by omega) HI2
  · obtain ⟨k, I1, k1, k2, e1, g1, H⟩ := w2_worst A
    refine g_bne e1 (g_eq q_L_law__1980 (g_gd (ea 1 (by decide)) (?_)))
    rw [eb 1 (by decide), g1 1000000 (i + 1) (by decide)]
    obtain ⟨I2, e2, z2, HI2⟩ := H J
    refine g_be e2 (g_eq q_L_law__1992 (g_be th_e ?_))
    rw [z2]
    refine g_eq q_L_law__1998 (g_t rfl (g_f (nI_ne0 (by omega) (by omega)) (g_eq q_L_law__2022 (g_eq q_L_law__2423 ?_))))
    rw [nI_add]
    exact kk (X + 1) I2 J _ _ _ (by omega) HI2
theorem sg_needed (hL : L ≤ 5120) (HI : Inv I) (hi : i + 10 ≤ L) (kk : ∀ X' I' J' u5 u6 u7, X' ≤ X + 1 → Inv I' → Gd L Bx (c_L_law__23 1000 L X' I' J' (nI (i + 10)) u5 u6 u7)) : Gd L Bx (runI (runM 1000) iLaw (2025, [some (.ref 1000000), some (.ref 0), some (.ref 72), some (.ref 632), some (.int (nI i)), u5, u6, u7], [], mm L X I J)) := by
  have ea := ix_a hi hL
  have eb := ix_b hi hL
  refine g_eq q_L_law__2025 (g_gd (ea 1 (by decide)) (?_))
  rw [eb 1 (by decide)]
  rcases op_needed (x1 := I 1000000 (i + 1)) HI L X J with A | A
  · obtain ⟨y, I1, J1, e1, j1, g1, H⟩ := w1_needed A
    refine g_bne e1 (g_eq q_L_law__2036 (g_gd (ea 1 (by decide)) (?_)))
    rw [eb 1 (by decide), g1 1000000 (i + 1) (by decide)]
    obtain ⟨I2, e2, z2, HI2⟩ := H J1
    refine g_be e2 (g_eq q_L_law__2048 (g_be th_e ?_))
    rw [z2]
    refine g_eq q_L_law__2054 (g_t rfl (g_t rfl (g_gd (by decide) (g_t ?_ (g_eq q_L_law__2078 (g_eq q_L_law__2423 ?_))))))
    · rw [show (nI 0).toNatClampNeg = 0 by decide, j1]
      exact (cq _ _).mpr rfl
    · rw [nI_add]
      exact kk X I2 J1 _ _ _ (by omega) HI2
  · obtain ⟨k, I1, k1, k2, e1, g1, H⟩ := w2_needed A
    refine g_bne e1 (g_eq q_L_law__2036 (g_gd (ea 1 (by decide)) (?_)))
    rw [eb 1 (by decide), g1 1000000 (i + 1) (by decide)]
    obtain ⟨I2, e2, z2, HI2⟩ := H J
    refine g_be e2 (g_eq q_L_law__2048 (g_be th_e ?_))
    rw [z2]
    refine g_eq q_L_law__2054 (g_t rfl (g_f (nI_ne0 (by omega) (by omega)) (g_eq q_L_law__2078 (g_eq q_L_law__2423 ?_))))
    rw [nI_add]
    exact kk (X + 1) I2 J _ _ _ (by omega) HI2
theorem sg_kin (hL : L ≤ 5120) (HI : Inv I) (hi : i + 10 ≤ L) (kk : ∀ X' I' J' u5 u6 u7, X' ≤ X + 1 → Inv I' → Gd L Bx (c_L_law__23 1000 L X' I' J' (nI (i + 10)) u5 u6 u7)) : Gd L Bx (runI (runM 1000) iLaw (2081, [some (.ref 1000000), some (.ref 0), some (.ref 72), some (.ref 632), some (.int (nI i)), u5, u6, u7], [], mm L X I J)) := by
  have ea := ix_a hi hL
  have eb := ix_b hi hL
  refine g_eq q_L_law__2081 (g_gd (ea 1 (by decide)) (?_))
  rw [eb 1 (by decide)]
  rcases op_kin (x := I 1000000 (i + 1)) HI L X J with A | A
  · obtain ⟨y, I1, J1, e1, j1, g1, H⟩ := w1_kin A
    refine g_bne e1 (g_eq q_L_law__2092 (g_gd (ea 1 (by decide)) (?_)))
    rw [eb 1 (by decide), g1 1000000 (i + 1) (by decide)]
    obtain ⟨I2, e2, z2, HI2⟩ := H J1
    refine g_be e2 (g_eq q_L_law__2104 (g_be th_e ?_))
    rw [z2]
    refine g_eq q_L_law__2110 (g_t rfl (g_t rfl (g_gd (by decide) (g_t ?_ (g_eq q_L_law__2134 (g_eq q_L_law__2423 ?_))))))
    · rw [show (nI 0).toNatClampNeg = 0 by decide, j1]
      exact (cq _ _).mpr rfl
    · rw [nI_add]
      exact kk X I2 J1 _ _ _ (by omega) HI2
  · obtain ⟨k, I1, k1, k2, e1, g1, H⟩ := w2_kin A
    refine g_bne e1 (g_eq q_L_law__2092 (g_gd (ea 1 (by decide)) (?_)))
    rw [eb 1 (by decide), g1 1000000 (i + 1) (by decide)]
    obtain ⟨I2, e2, z2, HI2⟩ := H J
    refine g_be e2 (g_eq q_L_law__2104 (g_be th_e ?_))
    rw [z2]
    refine g_eq q_L_law__2110 (g_t rfl (g_f (nI_ne0 (by omega) (by omega)) (g_eq q_L_law__2134 (g_eq q_L_law__2423 ?_))))
    rw [nI_add]
    exact kk (X + 1) I2 J _ _ _ (by omega) HI2
theorem sg_year (hL : L ≤ 5120) (HI : Inv I) (hi : i + 10 ≤ L) (kk : ∀ X' I' J' u5 u6 u7, X' ≤ X + 1 → Inv I' → Gd L Bx (c_L_law__23 1000 L X' I' J' (nI (i + 10)) u5 u6 u7)) : Gd L Bx (runI (runM 1000) iLaw (2137, [some (.ref 1000000), some (.ref 0), some (.ref 72), some (.ref 632), some (.int (nI i)), u5, u6, u7], [], mm L X I J)) := by
  have ea := ix_a hi hL
  have eb := ix_b hi hL
  refine g_eq q_L_law__2137 (g_gd (ea 1 (by decide)) (g_gd (ea 2 (by decide)) (g_gd (ea 3 (by decide)) (g_gd (ea 4 (by decide)) (?_)))))
  rw [eb 1 (by decide), eb 2 (by decide), eb 3 (by decide), eb 4 (by decide)]
  rcases op_year (x1 := I 1000000 (i + 1)) (x2 := I 1000000 (i + 2)) (x3 := I 1000000 (i + 3)) (x4 := I 1000000 (i + 4)) HI L X J with A | A
  · obtain ⟨y, I1, J1, e1, j1, g1, H⟩ := w1_year A
    refine g_bne e1 (g_eq q_L_law__2166 (g_gd (ea 1 (by decide)) (g_gd (ea 2 (by decide)) (g_gd (ea 3 (by decide)) (g_gd (ea 4 (by decide)) (?_))))))
    rw [eb 1 (by decide), eb 2 (by decide), eb 3 (by decide), eb 4 (by decide), g1 1000000 (i + 1) (by decide), g1 1000000 (i + 2) (by decide), g1 1000000 (i + 3) (by decide), g1 1000000 (i + 4) (by decide)]
    obtain ⟨I2, e2, z2, HI2⟩ := H J1
    refine g_be e2 (g_eq q_L_law__2196 (g_be th_e ?_))
    rw [z2]
    refine g_eq q_L_law__2202 (g_t rfl (g_t rfl (g_gd (by decide) (g_t ?_ (g_eq q_L_law__2226 (g_eq q_L_law__2423 ?_))))))
    · rw [show (nI 0).toNatClampNeg = 0 by decide, j1]
      exact (cq _ _).mpr rfl
    · rw [nI_add]
      exact kk X I2 J1 _ _ _ (by omega) HI2
  · obtain ⟨k, I1, k1, k2, e1, g1, H⟩ := w2_year A
    refine g_bne e1 (g_eq q_L_law__2166 (g_gd (ea 1 (by decide)) (g_gd (ea 2 (by decide)) (g_gd (ea 3 (by decide)) (g_gd (ea 4 (by decide)) (?_))))))
    rw [eb 1 (by decide), eb 2 (by decide), eb 3 (by decide), eb 4 (by decide), g1 1000000 (i + 1) (by decide), g1 1000000 (i + 2) (by decide), g1 1000000 (i + 3) (by decide), g1 1000000 (i + 4) (by decide)]
    obtain ⟨I2, e2, z2, HI2⟩ := H J
    refine g_be e2 (g_eq q_L_law__2196 (g_be th_e ?_))
    rw [z2]
    refine g_eq q_L_law__2202 (g_t rfl (g_f (nI_ne0 (by omega) (by omega)) (g_eq q_L_law__2226 (g_eq q_L_law__2423 ?_))))
    rw [nI_add]
    exact kk (X + 1) I2 J _ _ _ (by omega) HI2
theorem sg_span (hL : L ≤ 5120) (HI : Inv I) (hi : i + 10 ≤ L) (kk : ∀ X' I' J' u5 u6 u7, X' ≤ X + 1 → Inv I' → Gd L Bx (c_L_law__23 1000 L X' I' J' (nI (i + 10)) u5 u6 u7)) : Gd L Bx (runI (runM 1000) iLaw (2229, [some (.ref 1000000), some (.ref 0), some (.ref 72), some (.ref 632), some (.int (nI i)), u5, u6, u7], [], mm L X I J)) := by
  have ea := ix_a hi hL
  have eb := ix_b hi hL
  refine g_eq q_L_law__2229 (g_gd (ea 1 (by decide)) (g_gd (ea 2 (by decide)) (g_gd (ea 3 (by decide)) (g_gd (ea 4 (by decide)) (g_gd (ea 5 (by decide)) (g_gd (ea 6 (by decide)) (?_)))))))
  rw [eb 1 (by decide), eb 2 (by decide), eb 3 (by decide), eb 4 (by decide), eb 5 (by decide), eb 6 (by decide)]
  rcases op_span (x1 := I 1000000 (i + 1)) (x2 := I 1000000 (i + 2)) (x3 := I 1000000 (i + 3)) (x4 := I 1000000 (i + 4)) (x5 := I 1000000 (i + 5)) (x6 := I 1000000 (i + 6)) HI L X J with A | A
  · obtain ⟨y, I1, J1, e1, j1, g1, H⟩ := w1_span A
    refine g_bne e1 (g_eq q_L_law__2271 (g_gd (ea 1 (by decide)) (g_gd (ea 2 (by decide)) (g_gd (ea 3 (by decide)) (g_gd (ea 4 (by decide)) (g_gd (ea 5 (by decide)) (g_gd (ea 6 (by decide)) (?_))))))))
    rw [eb 1 (by decide), eb 2 (by decide), eb 3 (by decide), eb 4 (by decide), eb 5 (by decide), eb 6 (by decide), g1 1000000 (i + 1) (by decide), g1 1000000 (i + 2) (by decide), g1 1000000 (i + 3) (by decide), g1 1000000 (i + 4) (by decide), g1 1000000 (i + 5) (by decide), g1 1000000 (i + 6) (by decide)]
    obtain ⟨I2, e2, z2, HI2⟩ := H J1
    refine g_be e2 (g_eq q_L_law__2314 (g_be th_e ?_))
    rw [z2]
    refine g_eq q_L_law__2320 (g_t rfl (g_t rfl (g_gd (by decide) (g_t ?_ (g_eq q_L_law__2344 (g_eq q_L_law__2423 ?_))))))
    · rw [show (nI 0).toNatClampNeg = 0 by decide, j1]
      exact (cq _ _).mpr rfl
    · rw [nI_add]
      exact kk X I2 J1 _ _ _ (by omega) HI2
  · obtain ⟨k, I1, k1, k2, e1, g1, H⟩ := w2_span A
    refine g_bne e1 (g_eq q_L_law__2271 (g_gd (ea 1 (by decide)) (g_gd (ea 2 (by decide)) (g_gd (ea 3 (by decide)) (g_gd (ea 4 (by decide)) (g_gd (ea 5 (by decide)) (g_gd (ea 6 (by decide)) (?_))))))))
    rw [eb 1 (by decide), eb 2 (by decide), eb 3 (by decide), eb 4 (by decide), eb 5 (by decide), eb 6 (by decide), g1 1000000 (i + 1) (by decide), g1 1000000 (i + 2) (by decide), g1 1000000 (i + 3) (by decide), g1 1000000 (i + 4) (by decide), g1 1000000 (i + 5) (by decide), g1 1000000 (i + 6) (by decide)]
    obtain ⟨I2, e2, z2, HI2⟩ := H J
    refine g_be e2 (g_eq q_L_law__2314 (g_be th_e ?_))
    rw [z2]
    refine g_eq q_L_law__2320 (g_t rfl (g_f (nI_ne0 (by omega) (by omega)) (g_eq q_L_law__2344 (g_eq q_L_law__2423 ?_))))
    rw [nI_add]
    exact kk (X + 1) I2 J _ _ _ (by omega) HI2
theorem sg_image (hL : L ≤ 5120) (HI : Inv I) (hi : i + 10 ≤ L) (kk : ∀ X' I' J' u5 u6 u7, X' ≤ X + 1 → Inv I' → Gd L Bx (c_L_law__23 1000 L X' I' J' (nI (i + 10)) u5 u6 u7)) : Gd L Bx (runI (runM 1000) iLaw (2347, [some (.ref 1000000), some (.ref 0), some (.ref 72), some (.ref 632), some (.int (nI i)), u5, u6, u7], [], mm L X I J)) := by
  have ea := ix_a hi hL
  have eb := ix_b hi hL
  refine g_eq q_L_law__2347 (?_)
  obtain ⟨v, I1, J1, e1, g1, hv, H⟩ := op_image HI L X J
  obtain ⟨y, rfl⟩ := tg_int hv
  refine g_be e1 (g_eq q_L_law__2351 (?_))
  obtain ⟨I2, e2, z2, HI2⟩ := H J1
  refine g_be e2 (g_eq q_L_law__2355 (g_t rfl (g_eq q_L_law__2423 ?_)))
  rw [nI_add]
  exact kk X I2 J1 _ _ _ (by omega) HI2
theorem sg_restore (hL : L ≤ 5120) (HI : Inv I) (hi : i + 10 ≤ L) (kk : ∀ X' I' J' u5 u6 u7, X' ≤ X + 1 → Inv I' → Gd L Bx (c_L_law__23 1000 L X' I' J' (nI (i + 10)) u5 u6 u7)) : Gd L Bx (runI (runM 1000) iLaw (2360, [some (.ref 1000000), some (.ref 0), some (.ref 72), some (.ref 632), some (.int (nI i)), u5, u6, u7], [], mm L X I J)) := by
  have ea := ix_a hi hL
  have eb := ix_b hi hL
  refine g_eq q_L_law__2360 (?_)
  obtain ⟨v, I1, J1, e1, g1, hv, H⟩ := op_restore HI L X J
  obtain ⟨y, rfl⟩ := tg_int hv
  refine g_be e1 (g_eq q_L_law__2364 (?_))
  obtain ⟨I2, e2, z2, HI2⟩ := H J1
  refine g_be e2 (g_eq q_L_law__2368 (g_t rfl (g_eq q_L_law__2423 ?_)))
  rw [nI_add]
  exact kk X I2 J1 _ _ _ (by omega) HI2
theorem sg_status (hL : L ≤ 5120) (HI : Inv I) (hi : i + 10 ≤ L) (kk : ∀ X' I' J' u5 u6 u7, X' ≤ X + 1 → Inv I' → Gd L Bx (c_L_law__23 1000 L X' I' J' (nI (i + 10)) u5 u6 u7)) : Gd L Bx (runI (runM 1000) iLaw (2373, [some (.ref 1000000), some (.ref 0), some (.ref 72), some (.ref 632), some (.int (nI i)), u5, u6, u7], [], mm L X I J)) := by
  have ea := ix_a hi hL
  have eb := ix_b hi hL
  refine g_eq q_L_law__2373 (g_gd (ea 1 (by decide)) (?_))
  rw [eb 1 (by decide)]
  obtain ⟨v, I1, J1, e1, g1, hv, H⟩ := op_status (x := I 1000000 (i + 1)) HI L X J
  obtain ⟨y, rfl⟩ := tg_int hv
  refine g_be e1 (g_eq q_L_law__2383 (g_gd (ea 1 (by decide)) (?_)))
  rw [eb 1 (by decide), g1 1000000 (i + 1) (by decide)]
  obtain ⟨I2, e2, z2, HI2⟩ := H J1
  refine g_be e2 (g_eq q_L_law__2393 (g_t rfl (g_eq q_L_law__2423 ?_)))
  rw [nI_add]
  exact kk X I2 J1 _ _ _ (by omega) HI2
theorem sg_count (hL : L ≤ 5120) (HI : Inv I) (hi : i + 10 ≤ L) (kk : ∀ X' I' J' u5 u6 u7, X' ≤ X + 1 → Inv I' → Gd L Bx (c_L_law__23 1000 L X' I' J' (nI (i + 10)) u5 u6 u7)) : Gd L Bx (runI (runM 1000) iLaw (2398, [some (.ref 1000000), some (.ref 0), some (.ref 72), some (.ref 632), some (.int (nI i)), u5, u6, u7], [], mm L X I J)) := by
  have ea := ix_a hi hL
  have eb := ix_b hi hL
  refine g_eq q_L_law__2398 (g_gd (ea 1 (by decide)) (?_))
  rw [eb 1 (by decide)]
  obtain ⟨v, I1, J1, e1, g1, hv, H⟩ := op_count (x := I 1000000 (i + 1)) HI L X J
  obtain ⟨y, rfl⟩ := tg_int hv
  refine g_be e1 (g_eq q_L_law__2408 (g_gd (ea 1 (by decide)) (?_)))
  rw [eb 1 (by decide), g1 1000000 (i + 1) (by decide)]
  obtain ⟨I2, e2, z2, HI2⟩ := H J1
  refine g_be e2 (g_eq q_L_law__2418 (g_t rfl (g_eq q_L_law__2423 ?_)))
  rw [nI_add]
  exact kk X I2 J1 _ _ _ (by omega) HI2
/-- any call -/
theorem sg_any (hL : L ≤ 5120) (HI : Inv I) (hi : i + 10 ≤ L) {s : Int32} (kk : ∀ X' I' J' u5 u6 u7, X' ≤ X + 1 → Inv I' → Gd L Bx (c_L_law__23 1000 L X' I' J' (nI (i + 10)) u5 u6 u7)) : Gd L Bx (runI (runM 1000) iLaw (40, [some (.ref 1000000), some (.ref 0), some (.ref 72), some (.ref 632), some (.int (nI i)), u5, u6, u7], [.int s], mm L X I J)) := by
  refine g_eq q_L_law__40 ?_
  by_cases q0 : s = nI 0
  · exact g_t q0 (sg_feed hL HI hi kk)
  refine g_f q0 ?_
  by_cases q1 : s = nI 1
  · exact g_t q1 (sg_house hL HI hi kk)
  refine g_f q1 ?_
  by_cases q2 : s = nI 2
  · exact g_t q2 (sg_law hL HI hi kk)
  refine g_f q2 ?_
  by_cases q3 : s = nI 3
  · exact g_t q3 (sg_work hL HI hi kk)
  refine g_f q3 ?_
  by_cases q4 : s = nI 4
  · exact g_t q4 (sg_book hL HI hi kk)
  refine g_f q4 ?_
  by_cases q5 : s = nI 5
  · exact g_t q5 (sg_fault hL HI hi kk)
  refine g_f q5 ?_
  by_cases q6 : s = nI 6
  · exact g_t q6 (sg_undo hL HI hi kk)
  refine g_f q6 ?_
  by_cases q7 : s = nI 7
  · exact g_t q7 (sg_told hL HI hi kk)
  refine g_f q7 ?_
  by_cases q8 : s = nI 8
  · exact g_t q8 (sg_piece hL HI hi kk)
  refine g_f q8 ?_
  by_cases q9 : s = nI 9
  · exact g_t q9 (sg_collar hL HI hi kk)
  refine g_f q9 ?_
  by_cases q10 : s = nI 10
  · exact g_t q10 (sg_fire hL HI hi kk)
  refine g_f q10 ?_
  by_cases q11 : s = nI 11
  · exact g_t q11 (sg_row hL HI hi kk)
  refine g_f q11 ?_
  by_cases q12 : s = nI 12
  · exact g_t q12 (sg_behind hL HI hi kk)
  refine g_f q12 ?_
  by_cases q13 : s = nI 13
  · exact g_t q13 (sg_would hL HI hi kk)
  refine g_f q13 ?_
  by_cases q14 : s = nI 14
  · exact g_t q14 (sg_fits hL HI hi kk)
  refine g_f q14 ?_
  by_cases q15 : s = nI 15
  · exact g_t q15 (sg_can hL HI hi kk)
  refine g_f q15 ?_
  by_cases q16 : s = nI 16
  · exact g_t q16 (sg_ahead hL HI hi kk)
  refine g_f q16 ?_
  by_cases q17 : s = nI 17
  · exact g_t q17 (sg_chain hL HI hi kk)
  refine g_f q17 ?_
  by_cases q18 : s = nI 18
  · exact g_t q18 (sg_chained hL HI hi kk)
  refine g_f q18 ?_
  by_cases q19 : s = nI 19
  · exact g_t q19 (sg_brief hL HI hi kk)
  refine g_f q19 ?_
  by_cases q20 : s = nI 20
  · exact g_t q20 (sg_briefly hL HI hi kk)
  refine g_f q20 ?_
  by_cases q21 : s = nI 21
  · exact g_t q21 (sg_joiner hL HI hi kk)
  refine g_f q21 ?_
  by_cases q22 : s = nI 22
  · exact g_t q22 (sg_leaks hL HI hi kk)
  refine g_f q22 ?_
  by_cases q23 : s = nI 23
  · exact g_t q23 (sg_look hL HI hi kk)
  refine g_f q23 ?_
  by_cases q24 : s = nI 24
  · exact g_t q24 (sg_wed hL HI hi kk)
  refine g_f q24 ?_
  by_cases q25 : s = nI 25
  · exact g_t q25 (sg_sure hL HI hi kk)
  refine g_f q25 ?_
  by_cases q26 : s = nI 26
  · exact g_t q26 (sg_street hL HI hi kk)
  refine g_f q26 ?_
  by_cases q27 : s = nI 27
  · exact g_t q27 (sg_share hL HI hi kk)
  refine g_f q27 ?_
  by_cases q28 : s = nI 28
  · exact g_t q28 (sg_next hL HI hi kk)
  refine g_f q28 ?_
  by_cases q29 : s = nI 29
  · exact g_t q29 (sg_worst hL HI hi kk)
  refine g_f q29 ?_
  by_cases q30 : s = nI 30
  · exact g_t q30 (sg_needed hL HI hi kk)
  refine g_f q30 ?_
  by_cases q31 : s = nI 31
  · exact g_t q31 (sg_kin hL HI hi kk)
  refine g_f q31 ?_
  by_cases q32 : s = nI 32
  · exact g_t q32 (sg_year hL HI hi kk)
  refine g_f q32 ?_
  by_cases q33 : s = nI 33
  · exact g_t q33 (sg_span hL HI hi kk)
  refine g_f q33 ?_
  by_cases q34 : s = nI 34
  · exact g_t q34 (sg_image hL HI hi kk)
  refine g_f q34 ?_
  by_cases q35 : s = nI 35
  · exact g_t q35 (sg_restore hL HI hi kk)
  refine g_f q35 ?_
  by_cases q36 : s = nI 36
  · exact g_t q36 (sg_status hL HI hi kk)
  refine g_f q36 ?_
  by_cases q37 : s = nI 37
  · exact g_t q37 (sg_count hL HI hi kk)
  refine g_f q37 ?_
  refine g_eq q_L_law__2423 ?_
  rw [nI_add]
  exact kk X I J _ _ _ (by omega) HI
theorem lp_law (hL : L ≤ 5120) : ∀ r i X I J u5 u6 u7, L + 10 - i ≤ r → Inv I → 10 * X ≤ i → i ≤ L + 10 → Gd L 513 (c_L_law__23 1000 L X I J (nI i) u5 u6 u7)
  | 0, i, X, I, J, u5, u6, u7, hr, HI, hX, hi => by
    refine g_eq q_L_law__23 (g_t ?_ ⟨X, I, J, rfl, by omega⟩)
    have e : i = L + 10 := by omega
    subst e
    rw [Int32.lt_iff_toInt_lt]
    have e1 : (nI L - nI 10).toInt ≤ 5120 := by
      have h1 : nI L - nI 10 = Int32.ofInt ((L : Int) - 10) := by
        rw [Int32.ofInt_sub]
        rfl
      rw [h1, Int32.toInt_ofInt_of_le (by omega) (by omega)]
      omega
    rw [nI_toInt (by omega)]
    have h1 : nI L - nI 10 = Int32.ofInt ((L : Int) - 10) := by
      rw [Int32.ofInt_sub]
      rfl
    rw [h1, Int32.toInt_ofInt_of_le (by omega) (by omega)]
    omega
  | r + 1, i, X, I, J, u5, u6, u7, hr, HI, hX, hi => by
    have ih := lp_law hL r
    have h1 : (nI L - nI 10).toInt = (L : Int) - 10 := by
      have h1 : nI L - nI 10 = Int32.ofInt ((L : Int) - 10) := by
        rw [Int32.ofInt_sub]
        rfl
      rw [h1, Int32.toInt_ofInt_of_le (by omega) (by omega)]
    have h2 : nI L - nI 10 < nI i ↔ (L : Int) - 10 < i := by
      rw [Int32.lt_iff_toInt_lt, h1, nI_toInt (by omega)]
    by_cases q : L < i + 10
    · exact g_eq q_L_law__23 (g_t (h2.mpr (by omega)) ⟨X, I, J, rfl, by omega⟩)
    · refine g_eq q_L_law__23 (g_f (fun q2 => q (by have := h2.mp q2; omega)) (g_gd (inb_n (by omega) (by omega)) ?_))
      exact sg_any hL HI (by omega) (fun X' I' J' u5 u6 u7 hX' HI' => ih (i + 10) X' I' J' u5 u6 u7 (by omega) HI' (by omega) (by omega))
end SG
