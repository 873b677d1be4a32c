/-! UNDO, IMAGE, RESTORE: the whole asking, by both -/
section UN
variable {d L X : Nat} {I : MI32} {J : MI64} {n wk im : Nat} {N : Nt} {B : Bn} {K : Im}
theorem sp_forgetShort : runM (d + 1) nX5_forgetShort [.ref 56] (mm L X I J) = rV (mm L X (up2 I 56 11 (-1)) J) := by
  rw [e_X5_forgetShort]
  (first | refine Eq.trans (q_X5_forgetShort_0) ?_)
  rfl
theorem c_undo0 (h : I 48 3 = nI 0) : runM (d + 1) nX11_undo [.ref 0] (mm L X I J) = rI (-1) (mm L X I J) := by
  rw [e_X11_undo]
  (first | refine Eq.trans (q_X11_undo_0) ?_ | refine Eq.trans (q_X11_undo_23) ?_ | refine Eq.trans (q_X11_undo_38) ?_)
  rw [h, if_neg (by decide)]
theorem c_undo (P : PC I (wk + 1) B) : Rt L X (runM (d + 3) nX11_undo [.ref 0] (mm L X I J)) (some (.int (nI wk))) (fun I' J' => (Fr ((48, 4) :: (37, 8) :: (56, 12) :: sNC 43) I I' ∧ PC I' wk B ∧ NC I' 43 (B wk).1 (B wk).2 ∧ I' 37 7 = nI 0 ∧ I' 56 11 = -1) ∧ J' = J) := by
  have hw := P.2.1
  rw [e_X11_undo]
  (first | refine rt_eq (q_X11_undo_0) ?_ | refine rt_eq (q_X11_undo_23) ?_ | refine rt_eq (q_X11_undo_38) ?_)
  rw [P.1]
  refine rt_t (by (try simp (disch := omega) only [nI_leI, nI_ltI, nI_eq, nI_add, pk_mul, n_0add, Nat.zero_add, nI_clamp]) <;> omega) (rt_bnd (sp_pop P) ?_)
  rintro I1 J1 ⟨⟨f1, f2, f3⟩, rfl⟩
  (first | refine rt_eq (q_X11_undo_0) ?_ | refine rt_eq (q_X11_undo_23) ?_ | refine rt_eq (q_X11_undo_38) ?_)
  refine rt_be sp_forgetShort ?_
  (first | refine rt_eq (q_X11_undo_0) ?_ | refine rt_eq (q_X11_undo_23) ?_ | refine rt_eq (q_X11_undo_38) ?_)
  have g : Fr [(37, 8), (56, 12)] I1 (up2 (up2 I1 37 7 (nI 0)) 56 11 (-1)) := fr_up (fr_up fr_rfl rfl) rfl
  have e3 : (up2 (up2 I1 37 7 (nI 0)) 56 11 (-1)) 48 3 = nI wk := (g 48 3 rfl).trans f2.1
  rw [e3]
  refine rt_ret ⟨⟨fr_tr (fr_mono f1 (by decide)) (fr_mono g (by decide)), ⟨e3, by omega, fun i hi => ?_⟩, NC_fr f3 (ag_of g (by decide)), ?_, up2_s⟩, rfl⟩
  · rw [show (up2 (up2 I1 37 7 (nI 0)) 56 11 (-1)) 49 = I1 49 from funext (fun k => g 49 k rfl)]
    exact f2.2.2 i hi
  · rw [up2_n (by decide), up2_s]
theorem c_image0 (h : I 48 4 = nI 3) : runM (d + 2) nX11_image [.ref 0] (mm L X I J) = rI (-1) (mm L X I J) := by
  rw [e_X11_image]
  (first | refine Eq.trans (q_X11_image_0) ?_ | refine Eq.trans (q_X11_image_7) ?_ | refine Eq.trans (q_X11_image_23) ?_)
  refine Eq.trans (bnd_e (show _ = rI (nI 0) (mm L X I J) by rw [e_X4_canKeep]; (first | refine Eq.trans (q_X4_canKeep_0) ?_); rw [h]; exact if_pos (by decide))) ?_
  (first | refine Eq.trans (q_X11_image_0) ?_ | refine Eq.trans (q_X11_image_7) ?_ | refine Eq.trans (q_X11_image_23) ?_)
  exact if_pos rfl
theorem c_image (P : PC I wk B) (Q : KC I im K) (hi : im < 3) (hn : n ≤ 6) (C : NC I 43 n N) : Rt L X (runM (d + 3) nX11_image [.ref 0] (mm L X I J)) (some (.int (nI (im + 1)))) (fun I' J' => (Fr [(50, 0), (51, 0), (48, 5)] I I' ∧ KC I' (im + 1) (imA K im (wk, (n, N), B))) ∧ J' = J) := by
  rw [e_X11_image]
  (first | refine rt_eq (q_X11_image_0) ?_ | refine rt_eq (q_X11_image_7) ?_ | refine rt_eq (q_X11_image_23) ?_)
  refine rt_be (show _ = rI (nI 1) (mm L X I J) by rw [e_X4_canKeep]; (first | refine Eq.trans (q_X4_canKeep_0) ?_); rw [Q.1]; exact if_neg (by ((try simp (disch := omega) only [nI_leI, nI_ltI, nI_eq, nI_add, pk_mul, n_0add, Nat.zero_add, nI_clamp]) <;> omega))) ?_
  (first | refine rt_eq (q_X11_image_0) ?_ | refine rt_eq (q_X11_image_7) ?_ | refine rt_eq (q_X11_image_23) ?_)
  refine rt_f (by decide) (rt_bnd (sp_keep P Q hi hn C) ?_)
  rintro I1 J1 ⟨⟨f1, f2⟩, rfl⟩
  (first | refine rt_eq (q_X11_image_0) ?_ | refine rt_eq (q_X11_image_7) ?_ | refine rt_eq (q_X11_image_23) ?_)
  rw [f2.1]
  exact rt_ret ⟨⟨f1, f2⟩, rfl⟩
theorem c_restore0 (h : I 48 4 = nI 0) : runM (d + 1) nX11_restore [.ref 0] (mm L X I J) = rI (-1) (mm L X I J) := by
  rw [e_X11_restore]
  (first | refine Eq.trans (q_X11_restore_0) ?_ | refine Eq.trans (q_X11_restore_23) ?_ | refine Eq.trans (q_X11_restore_38) ?_)
  rw [h, if_neg (by decide)]
theorem c_restore (Q : KC I (im + 1) K) : Rt L X (runM (d + 3) nX11_restore [.ref 0] (mm L X I J)) (some (.int (nI im))) (fun I' J' => (Fr ((49, 0) :: (48, 4) :: (48, 5) :: (37, 8) :: (56, 12) :: sNC 43) I I' ∧ KC I' im K ∧ PC I' (K im).1 (K im).2.2 ∧ NC I' 43 (K im).2.1.1 (K im).2.1.2 ∧ I' 37 7 = nI 0 ∧ I' 56 11 = -1) ∧ J' = J) := by
  have hi := Q.2.1
  rw [e_X11_restore]
  (first | refine rt_eq (q_X11_restore_0) ?_ | refine rt_eq (q_X11_restore_23) ?_ | refine rt_eq (q_X11_restore_38) ?_)
  rw [Q.1]
  refine rt_t (by (try simp (disch := omega) only [nI_leI, nI_ltI, nI_eq, nI_add, pk_mul, n_0add, Nat.zero_add, nI_clamp]) <;> omega) (rt_bnd (sp_bringBack Q) ?_)
  rintro I1 J1 ⟨⟨f1, f2, f3, f4⟩, rfl⟩
  (first | refine rt_eq (q_X11_restore_0) ?_ | refine rt_eq (q_X11_restore_23) ?_ | refine rt_eq (q_X11_restore_38) ?_)
  refine rt_be sp_forgetShort ?_
  (first | refine rt_eq (q_X11_restore_0) ?_ | refine rt_eq (q_X11_restore_23) ?_ | refine rt_eq (q_X11_restore_38) ?_)
  have g : Fr [(37, 8), (56, 12)] I1 (up2 (up2 I1 37 7 (nI 0)) 56 11 (-1)) := fr_up (fr_up fr_rfl rfl) rfl
  have e4 : (up2 (up2 I1 37 7 (nI 0)) 56 11 (-1)) 48 4 = nI im := (g 48 4 rfl).trans f2.1
  have e49 : (up2 (up2 I1 37 7 (nI 0)) 56 11 (-1)) 49 = I1 49 := funext (fun k => g 49 k rfl)
  have e50 : (up2 (up2 I1 37 7 (nI 0)) 56 11 (-1)) 50 = I1 50 := funext (fun k => g 50 k rfl)
  have e51 : (up2 (up2 I1 37 7 (nI 0)) 56 11 (-1)) 51 = I1 51 := funext (fun k => g 51 k rfl)
  rw [e4]
  refine rt_ret ⟨⟨fr_tr (fr_mono f1 (by decide)) (fr_mono g (by decide)), ⟨e4, by omega, ?_⟩, ⟨(g 48 3 rfl).trans f3.1, f3.2.1, ?_⟩, NC_fr f4 (ag_of g (by decide)), ?_, up2_s⟩, rfl⟩
  · rw [e50, e51]
    exact f2.2.2
  · rw [e49]
    exact f3.2.2
  · rw [up2_n (by decide), up2_s]
/-! the model -/
theorem m_undo0 (h : I 72 35 = nI 0) : runM (d + 1) nX12_undo [.ref 72] (mm L X I J) = rI (-1) (mm L X (up2 I 72 0 (nI 0)) J) := by
  rw [e_X12_undo]
  (first | refine Eq.trans (q_X12_undo_0) ?_ | refine Eq.trans (q_X12_undo_40) ?_)
  rw [up2_k (by decide), h, if_pos rfl]
theorem m_undo (h : I 72 35 = nI (wk + 1)) (hw : wk < 16) : Rt L X (runM (d + 2) nX12_undo [.ref 72] (mm L X I J)) (some (.int (nI wk))) (fun I' J' => (Fr [(72, 1), (72, 36), (72, 37), (533, 0)] I I' ∧ I' 72 0 = nI 0 ∧ I' 72 35 = nI wk ∧ I' 72 36 = nI 0 ∧ ∀ k, k < 31 → I' 533 k = I (537 + wk) k) ∧ J' = J) := by
  rw [e_X12_undo]
  (first | refine rt_eq (q_X12_undo_0) ?_ | refine rt_eq (q_X12_undo_40) ?_)
  rw [up2_k (show ¬ 35 = 0 by decide), h, n_sub1, up2_s]
  refine rt_f (by (try simp (disch := omega) only [nI_leI, nI_ltI, nI_eq, nI_add, pk_mul, n_0add, Nat.zero_add, nI_clamp]) <;> omega) (rt_gd (inb_n hw (by decide)) ?_)
  rw [nI_clamp (by omega)]
  refine rt_bndN (sp_copies (ka_bef hw) ka_533 (by omega) (by decide) (by decide) (by decide) (by decide)) ?_
  rintro I1 J1 ⟨⟨f1, f2⟩, rfl⟩
  (first | refine rt_eq (q_X12_undo_0) ?_ | refine rt_eq (q_X12_undo_40) ?_)
  rw [up2_k (by decide), f1 72 35 rfl, up2_s]
  refine rt_ret ⟨⟨fr_up (fr_tr (fr_up (fr_up fr_rfl rfl) rfl) (fr_mono f1 (by decide))) rfl, ?_, ?_, up2_s, fun k hk => ?_⟩, rfl⟩
  · rw [up2_k (by decide), f1 72 0 rfl, up2_k (by decide), up2_s]
  · rw [up2_k (by decide), f1 72 35 rfl, up2_s]
  · rw [up2_n (by decide), f2]
    unfold cpN
    rw [if_pos hk, up2_n (by omega), up2_n (by omega)]
theorem ka_kept {j : Nat} (hj : j < 3) : ka (554 + j) 1 528 := by
  have q : ∀ s, s < 3 → (Nat.blt (554 + s) 1000000 && (K0[554 + s]? == some (1, 528))) = true := by decide +kernel
  exact ka_of (q j hj)
theorem m_image0 (h : I 72 37 = nI 3) : runM (d + 1) nX12_image [.ref 72] (mm L X I J) = rI (-1) (mm L X (up2 I 72 0 (nI 0)) J) := by
  rw [e_X12_image]
  (first | refine Eq.trans (q_X12_image_0) ?_ | refine Eq.trans (q_X12_image_29) ?_)
  rw [up2_k (by decide), h, if_pos rfl]
theorem m_image (h : I 72 37 = nI im) (hi : im < 3) : Rt L X (runM (d + 3) nX12_image [.ref 72] (mm L X I J)) (some (.int (nI (im + 1)))) (fun I' J' => (Fr [(554 + im, 0), (72, 1), (72, 38), (72, 39)] I I' ∧ I' 72 0 = nI 0 ∧ I' 72 37 = nI (im + 1) ∧ ∀ p, p < 528 → I' (554 + im) p = vvI I p) ∧ J' = J) := by
  rw [e_X12_image]
  (first | refine rt_eq (q_X12_image_0) ?_ | refine rt_eq (q_X12_image_29) ?_)
  rw [up2_k (show ¬ 37 = 0 by decide), h]
  refine rt_f (by (try simp (disch := omega) only [nI_leI, nI_ltI, nI_eq, nI_add, pk_mul, n_0add, Nat.zero_add, nI_clamp]) <;> omega) (rt_gd (inb_n hi (by decide)) ?_)
  rw [nI_clamp (by omega)]
  refine rt_bnd (sp_putsAll0 (ka_kept hi) (by omega)) ?_
  rintro I1 J1 ⟨⟨f1, f2, f3⟩, rfl⟩
  have e37 : I1 72 37 = nI im := by
    rw [f1 72 37 (by simp [inF]; omega), up2_k (by decide), h]
  (first | refine rt_eq (q_X12_image_0) ?_ | refine rt_eq (q_X12_image_29) ?_)
  rw [e37, nI_add, up2_s]
  refine rt_ret ⟨⟨?_, ?_, up2_s, fun p hp => ?_⟩, rfl⟩
  · refine fr_up (fr_tr (fr_up fr_rfl (by simp [inF])) (fr_mono f1 (by simp [sbF]))) (by simp [inF])
  · rw [up2_k (by decide), f1 72 0 (by simp [inF]; omega), up2_s]
  · rw [up2_n (by omega), f3 p hp]
    unfold vvI
    rw [up2_k (show ¬ 35 = 0 by decide), up2_n (by decide), up2_n (by omega)]
theorem m_restore0 (h : I 72 37 = nI 0) : runM (d + 1) nX12_restore [.ref 72] (mm L X I J) = rI (-1) (mm L X (up2 I 72 0 (nI 0)) J) := by
  rw [e_X12_restore]
  (first | refine Eq.trans (q_X12_restore_0) ?_ | refine Eq.trans (q_X12_restore_38) ?_)
  rw [up2_k (by decide), h, if_pos rfl]
theorem m_restore (h : I 72 37 = nI (im + 1)) (hi : im < 3) : Rt L X (runM (d + 3) nX12_restore [.ref 72] (mm L X I J)) (some (.int (nI im))) (fun I' J' => (Fr (fPB ++ [(72, 1), (72, 38), (72, 37)]) I I' ∧ I' 72 0 = nI 0 ∧ I' 72 37 = nI im ∧ I' 72 36 = nI 0 ∧ I' 72 35 = I (554 + im) 0 ∧ (∀ k, k < 31 → I' 533 k = I (554 + im) (1 + k)) ∧ ∀ w k, w < 16 → k < 31 → I' (537 + w) k = I (554 + im) (32 + 31 * w + k)) ∧ J' = J) := by
  rw [e_X12_restore]
  (first | refine rt_eq (q_X12_restore_0) ?_ | refine rt_eq (q_X12_restore_38) ?_)
  rw [up2_k (show ¬ 37 = 0 by decide), h, n_sub1, up2_s]
  refine rt_f (by (try simp (disch := omega) only [nI_leI, nI_ltI, nI_eq, nI_add, pk_mul, n_0add, Nat.zero_add, nI_clamp]) <;> omega) (rt_gd (inb_n hi (by decide)) ?_)
  rw [nI_clamp (by omega)]
  refine rt_bnd (sp_putsAll1 (ka_kept hi) (by omega)) ?_
  rintro I1 J1 ⟨⟨f1, f2, f3, f4, f5⟩, rfl⟩
  have src : ∀ k, (up2 (up2 I 72 0 (nI 0)) 72 37 (nI im)) (554 + im) k = I (554 + im) k := fun k => by rw [up2_n (by omega), up2_n (by omega)]
  have e37 : I1 72 37 = nI im := by
    rw [ag_of (s := [(72, 38)]) f1 (by decide +kernel) 72 37 rfl, up2_s]
  have e0 : I1 72 0 = nI 0 := by
    rw [ag_of (s := [(72, 1)]) f1 (by decide +kernel) 72 0 rfl, up2_k (by decide), up2_s]
  (first | refine rt_eq (q_X12_restore_0) ?_ | refine rt_eq (q_X12_restore_38) ?_)
  rw [up2_k (by decide), e37]
  refine rt_ret ⟨⟨?_, ?_, ?_, up2_s, ?_, fun k hk => ?_, fun w k hw hk => ?_⟩, rfl⟩
  · exact fr_up (fr_tr (fr_up (fr_up fr_rfl (by decide +kernel)) (by decide +kernel)) (fr_mono f1 (by decide +kernel))) (by decide +kernel)
  · rw [up2_k (by decide), e0]
  · rw [up2_k (by decide), e37]
  · rw [up2_k (by decide), f3 (by decide), src]
  · rw [up2_n (by decide), f4 k hk (by omega), src]
  · rw [up2_n (by omega), f5 w k hw hk (by omega), src]
end UN
