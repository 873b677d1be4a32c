/-! THE NIGHT'S WORK IS DONE, BY BOTH -/
section WK
variable {d L X : Nat} {I : MI32} {J : MI64} {n nL : Nat} {N : Nt} {h : Hs} {m : Nat} {cd : Cd} {T : Nat → Nat → Nat}
/-- begun, done, refused, laid, the night -/
abbrev Ws : Type := Nat × Nat × Nat × Nat × Nt
def w1 (h : Hs) (m nL : Nat) (cd : Cd) (k p v : Nat) (S : Ws) : Ws := (S.1 + 1, S.2.1 + (if stD h m k p v S.2.2.2.1 S.2.2.2.2 = true then 1 else 0), S.2.2.1 + (if stD h m k p v S.2.2.2.1 S.2.2.2.2 = true then 0 else 1), st2n h m k p v S.2.2.2.1 S.2.2.2.2, st2N h m nL cd k p v S.2.2.2.1 S.2.2.2.2)
def itr (f : Ws → Ws) : Nat → Ws → Ws
  | 0, S => S
  | k + 1, S => itr f k (f S)
def gos (h : Hs) (m nL : Nat) (cd : Cd) (T : Nat → Nat → Nat) : Nat → Nat → Nat → Ws → Ws
  | 0, _, _, S => S
  | f + 1, s, t, S => if t ≤ s then S else if 200 ≤ S.1 then S else if T s 0 = 8 then gos h m nL cd T f (T s 3) t (itr (gos h m nL cd T f (s + 1) (T s 3)) (T s 1) (S.1 + 1, S.2)) else gos h m nL cd T f (T s 3) t (w1 h m nL cd (T s 0) (T s 1) (T s 2) S)
def wlW (h : Hs) (S : Ws) : Prop := NR (h 0 0) S.2.2.2.1 S.2.2.2.2 ∧ NX (h 0 0) (h 0 2) S.2.2.2.2 ∧ S.1 ≤ 200 ∧ S.2.1 ≤ S.1 ∧ S.2.2.1 ≤ S.1
/-- the rows from s to t are the entries from a to b -/
def RW (np : Nat) (T : Nat → Nat → Nat) (A B C : Nat → Int32) : Nat → Nat → Nat → Nat → Nat → Nat → Prop
  | 0, _, s, t, a, b => s = t ∧ a = b
  | f + 1, dp, s, t, a, b => (s = t ∧ a = b) ∨ (s < t ∧ a < 75 ∧ A a = nI (T s 0) ∧ ((¬ T s 0 = 8 ∧ stOK np (T s 0) (T s 1) (T s 2) ∧ ((T s 0 = 2 ∨ T s 0 = 7) ∨ B a = nI (T s 1)) ∧ (T s 0 = 3 → C a = nI (T s 2)) ∧ T s 3 = s + 1 ∧ RW np T A B C f dp (s + 1) t (a + 1) b) ∨ (T s 0 = 8 ∧ dp < 6 ∧ T s 1 ≤ 30 ∧ B a = nI (T s 1) ∧ ∃ c, C a = nI c ∧ c < 75 ∧ A c = nI 9 ∧ C c = nI a ∧ s < T s 3 ∧ T s 3 ≤ t ∧ RW np T A B C f (dp + 1) (s + 1) (T s 3) (a + 1) c ∧ RW np T A B C f dp (T s 3) t (c + 1) b)))
theorem RW_le {np : Nat} {A B C : Nat → Int32} : ∀ f dp s t a b, RW np T A B C f dp s t a b → s ≤ t ∧ a ≤ b
  | 0, dp, s, t, a, b, Q => by
    obtain ⟨rfl, rfl⟩ := Q
    omega
  | f + 1, dp, s, t, a, b, Q => by
    rcases Q with ⟨rfl, rfl⟩ | ⟨q1, q2, q3, ⟨q4, q5, q6, q7, q8, q9⟩ | ⟨q4, q5, q6, q7, c, c1, c2, c3, c4, c5, c6, c7, c8⟩⟩
    · omega
    · have := RW_le f _ _ _ _ _ q9
      omega
    · have := RW_le f _ _ _ _ _ c7
      have := RW_le f _ _ _ _ _ c8
      omega
theorem gos_full {S : Ws} (hS : 200 ≤ S.1) : ∀ f s t, gos h m nL cd T f s t S = S
  | 0, s, t => rfl
  | f + 1, s, t => by
    unfold gos
    by_cases e : t ≤ s
    · rw [if_pos e]
    · rw [if_neg e, if_pos hS]
theorem itr_full {f : Ws → Ws} {S : Ws} (e : f S = S) : ∀ k, itr f k S = S
  | 0 => rfl
  | k + 1 => by
    unfold itr
    rw [e]
    exact itr_full e k
theorem wl_1 {k p v : Nat} {S : Ws} (ok : HOK h) (w : wlW h S) (hb : ¬ 200 ≤ S.1) (o : stOK (h 0 0) k p v) : wlW h (w1 h m nL cd k p v S) := by
  obtain ⟨w1', w2, w3, w4, w5⟩ := w
  have q := st_well (m := m) (nL := nL) (cd := cd) ok w1' w2 o
  refine ⟨q.1, q.2, ?_, ?_, ?_⟩
  · show S.1 + 1 ≤ 200
    omega
  · show S.2.1 + (if stD h m k p v S.2.2.2.1 S.2.2.2.2 = true then 1 else 0) ≤ S.1 + 1
    by_cases e : stD h m k p v S.2.2.2.1 S.2.2.2.2 = true
    · rw [if_pos e]
      omega
    · rw [if_neg e]
      omega
  · show S.2.2.1 + (if stD h m k p v S.2.2.2.1 S.2.2.2.2 = true then 0 else 1) ≤ S.1 + 1
    by_cases e : stD h m k p v S.2.2.2.1 S.2.2.2.2 = true
    · rw [if_pos e]
      omega
    · rw [if_neg e]
      omega
theorem wl_b {S : Ws} (w : wlW h S) (hb : ¬ 200 ≤ S.1) : wlW h (S.1 + 1, S.2) := by
  obtain ⟨w1', w2, w3, w4, w5⟩ := w
  refine ⟨w1', w2, ?_, ?_, ?_⟩
  · show S.1 + 1 ≤ 200
    omega
  · show S.2.1 ≤ S.1 + 1
    omega
  · show S.2.2.1 ≤ S.1 + 1
    omega
/-- what doing work may change in the class -/
def fG : Fls := fS 43 ++ [(37, 7), (37, 8), (42, 0)]
theorem fG1 : sbF (fS 43) fG = true := by decide
theorem SC_g {I' : MI32} (S : SC I h m nL cd) (g : Fr fG I I') : SC I' h m nL cd := SC_fr S g (by decide) (by decide) (by decide)
theorem sp_behindAgain {a c k dp : Nat} (ha : a < 75) (hk : k ≤ 30) (hd : dp < 6) (e1 : I 39 a = nI k) (e2 : I 40 a = nI c) (e3 : I 37 6 = nI dp) : runM (d + 2) nX9_behindAgain [.ref 37, .int (nI a)] (mm L X I J) = if k = 0 then rI (nI (c + 1)) (mm L X I J) else rI (nI (a + 1)) (mm L X (up2 (up2 I 42 dp (nI k)) 37 6 (nI (dp + 1))) J) := by
  rw [e_X9_behindAgain]
  (first | refine Eq.trans (q_X9_behindAgain_0) ?_ | refine Eq.trans (q_X9_behindAgain_8) ?_ | refine Eq.trans (q_X9_behindAgain_38) ?_ | refine Eq.trans (q_X9_behindAgain_19) ?_ | refine Eq.trans (q_X9_behindAgain_41) ?_)
  rw [sp_pick ka_39 (by decide), pk_n ha (by decide), e1]
  refine Eq.trans (bndN_e rfl) ?_
  (first | refine Eq.trans (q_X9_behindAgain_0) ?_ | refine Eq.trans (q_X9_behindAgain_8) ?_ | refine Eq.trans (q_X9_behindAgain_38) ?_ | refine Eq.trans (q_X9_behindAgain_19) ?_ | refine Eq.trans (q_X9_behindAgain_41) ?_)
  by_cases e : k = 0
  · subst e
    rw [if_pos rfl, if_pos rfl, sp_pick ka_40 (by decide), pk_n ha (by decide), e2]
    refine Eq.trans (bndN_e rfl) ?_
    (first | refine Eq.trans (q_X9_behindAgain_0) ?_ | refine Eq.trans (q_X9_behindAgain_8) ?_ | refine Eq.trans (q_X9_behindAgain_38) ?_ | refine Eq.trans (q_X9_behindAgain_19) ?_ | refine Eq.trans (q_X9_behindAgain_41) ?_)
    rw [nI_add]
  · rw [if_neg e, if_neg (by rw [n_eq0 (by omega)]; exact e), sp_pick ka_39 (by decide), pk_n ha (by decide), e1, e3]
    refine Eq.trans (bndN_e rfl) ?_
    (first | refine Eq.trans (q_X9_behindAgain_0) ?_ | refine Eq.trans (q_X9_behindAgain_8) ?_ | refine Eq.trans (q_X9_behindAgain_38) ?_ | refine Eq.trans (q_X9_behindAgain_19) ?_ | refine Eq.trans (q_X9_behindAgain_41) ?_)
    rw [sp_put ka_42 (by decide), pt_n hd (by decide)]
    refine Eq.trans (bndN_e rfl) ?_
    (first | refine Eq.trans (q_X9_behindAgain_0) ?_ | refine Eq.trans (q_X9_behindAgain_8) ?_ | refine Eq.trans (q_X9_behindAgain_38) ?_ | refine Eq.trans (q_X9_behindAgain_19) ?_ | refine Eq.trans (q_X9_behindAgain_41) ?_)
    rw [up2_n (by decide), e3, nI_add, nI_add]
theorem sp_behindClose {a c k dp : Nat} (hc : c < 75) (hk : k < 30) (hd : dp < 6) (e1 : I 42 dp = nI (k + 1)) (e2 : I 40 c = nI a) (e3 : I 37 6 = nI (dp + 1)) : runM (d + 2) nX9_behindClose [.ref 37, .int (nI c)] (mm L X I J) = if k = 0 then rI (nI (c + 1)) (mm L X (up2 I 37 6 (nI dp)) J) else rI (nI (a + 1)) (mm L X (up2 I 42 dp (nI k)) J) := by
  rw [e_X9_behindClose]
  (first | refine Eq.trans (q_X9_behindClose_0) ?_ | refine Eq.trans (q_X9_behindClose_13) ?_ | refine Eq.trans (q_X9_behindClose_34) ?_ | refine Eq.trans (q_X9_behindClose_42) ?_)
  rw [e3, n_sub1, sp_pick ka_42 (by decide), pk_n hd (by decide), e1]
  refine Eq.trans (bndN_e rfl) ?_
  (first | refine Eq.trans (q_X9_behindClose_0) ?_ | refine Eq.trans (q_X9_behindClose_13) ?_ | refine Eq.trans (q_X9_behindClose_34) ?_ | refine Eq.trans (q_X9_behindClose_42) ?_)
  rw [n_sub1, e3, n_sub1]
  by_cases e : k = 0
  · subst e
    rw [if_pos rfl, if_pos (by decide), nI_add]
  · rw [if_neg e, if_neg (by ((try simp (disch := omega) only [nI_leI, nI_ltI, nI_eq, nI_add, pk_mul, n_0add, Nat.zero_add, nI_clamp]) <;> omega)), sp_put ka_42 (by decide), pt_n hd (by decide)]
    refine Eq.trans (bndN_e rfl) ?_
    (first | refine Eq.trans (q_X9_behindClose_0) ?_ | refine Eq.trans (q_X9_behindClose_13) ?_ | refine Eq.trans (q_X9_behindClose_34) ?_ | refine Eq.trans (q_X9_behindClose_42) ?_)
    rw [sp_pick ka_40 (by decide), pk_n hc (by decide), up2_n (by decide), e2]
    refine Eq.trans (bndN_e rfl) ?_
    (first | refine Eq.trans (q_X9_behindClose_0) ?_ | refine Eq.trans (q_X9_behindClose_13) ?_ | refine Eq.trans (q_X9_behindClose_34) ?_ | refine Eq.trans (q_X9_behindClose_42) ?_)
    rw [nI_add]
theorem rt_be' {x : Option (RS × AM)} {f : Option Value → AM → Option (RS × AM)} {v : Int32} {I' : MI32} {J' : MI64} {r : Option Value} {Q : MI32 → MI64 → Prop} (g : x = rI v (mm L X I' J')) (k : Rt L X (f (some (.int v)) (mm L X I' J')) r Q) : Rt L X (bnd x f) r Q := rt_be g k
noncomputable def cH (d L X : Nat) (I : MI32) (J : MI64) (S : Ws) (a p : Nat) (u8 : Option Value) : Option (RS × AM) := c_X9_doneOn_22 (d + 6) L X I J 43 3 (nI S.2.1) (nI S.1) (nI a) (nI p) u8
theorem lp_done {size : Nat} {r : Option Value} {Qf : MI32 → MI64 → Prop} (ok : HOK h) (W : wfC cd nL 0 0) (SS : SC I h m nL cd) (hz : I 37 3 = nI size) (hz2 : size ≤ 75) : ∀ f dp s t a b, RW (h 0 0) T (I 38) (I 39) (I 40) f dp s t a b → ∀ (S : Ws) I' p pd u8, b ≤ size → Fr fG I I' → NC I' 43 S.2.2.2.1 S.2.2.2.2 → wlW h S → I' 37 7 = nI S.2.2.1 → I' 37 6 = nI dp → dp ≤ 6 → p + pd ≤ 31 * S.1 → (∀ I'' p' a' u8', Fr fG I I'' → NC I'' 43 (gos h m nL cd T f s t S).2.2.2.1 (gos h m nL cd T f s t S).2.2.2.2 → wlW h (gos h m nL cd T f s t S) → I'' 37 7 = nI (gos h m nL cd T f s t S).2.2.1 → (¬ 200 ≤ (gos h m nL cd T f s t S).1 → a' = b ∧ p' + pd ≤ 31 * (gos h m nL cd T f s t S).1 ∧ I'' 37 6 = nI dp ∧ ∀ k, k < dp → I'' 42 k = I' 42 k) → Rt L X (cH d L X I'' J (gos h m nL cd T f s t S) a' p' u8') r Qf) → Rt L X (cH d L X I' J S a p u8) r Qf
  | 0, dp, s, t, a, b, R => by
    intro S I' p pd u8 hb hf C w e7 e6 hd hp H
    obtain ⟨rfl, rfl⟩ := R
    exact H I' p a u8 hf C w e7 (fun _ => ⟨rfl, hp, e6, fun _ _ => rfl⟩)
  | f + 1, dp, s, t, a, b, R => by
    intro S I' p pd u8 hb hf C w e7 e6 hd hp H
    have ih := lp_done (size := size) (r := r) (Qf := Qf) ok W SS hz hz2 f
    have hab := RW_le _ _ _ _ _ _ R
    have eH : gos h m nL cd T (f + 1) s t S = if t ≤ s then S else if 200 ≤ S.1 then S else if T s 0 = 8 then gos h m nL cd T f (T s 3) t (itr (gos h m nL cd T f (s + 1) (T s 3)) (T s 1) (S.1 + 1, S.2)) else gos h m nL cd T f (T s 3) t (w1 h m nL cd (T s 0) (T s 1) (T s 2) S) := rfl
    rcases R with ⟨rfl, rfl⟩ | ⟨q1, q2, q3, R⟩
    · rw [eH, if_pos (Nat.le_refl s)] at H
      exact H I' p a u8 hf C w e7 (fun _ => ⟨rfl, hp, e6, fun _ _ => rfl⟩)
    · rw [if_neg (by omega)] at eH
      by_cases h2 : 200 ≤ S.1
      · rw [eH, if_pos h2] at H
        exact H I' p a u8 hf C w e7 (fun q => absurd h2 q)
      · rw [if_neg h2] at eH
        have S1 := SC_g SS hf
        have hlt : a < size := by
          rcases R with ⟨q4, q5, q6, q7, q8, q9⟩ | ⟨q4, q5, q6, q7, c, c1, c2, c3, c4, c5, c6, c7, c8⟩
          · have := RW_le _ _ _ _ _ _ q9
            omega
          · have := RW_le _ _ _ _ _ _ c7
            have := RW_le _ _ _ _ _ _ c8
            omega
        unfold cH
        (first | refine rt_eq (q_X9_doneOn_0 (by first | assumption | rfl | exact .inl rfl | exact .inr rfl) (by first | assumption | rfl | exact .inl rfl | exact .inr rfl)) ?_ | refine rt_eq (q_X9_doneOn_22 (by first | assumption | rfl | exact .inl rfl | exact .inr rfl) (by first | assumption | rfl | exact .inl rfl | exact .inr rfl)) ?_ | refine rt_eq (q_X9_doneOn_56 (by first | assumption | rfl | exact .inl rfl | exact .inr rfl) (by first | assumption | rfl | exact .inl rfl | exact .inr rfl)) ?_ | refine rt_eq (q_X9_doneOn_106 (by first | assumption | rfl | exact .inl rfl | exact .inr rfl) (by first | assumption | rfl | exact .inl rfl | exact .inr rfl)) ?_ | refine rt_eq (q_X9_doneOn_92 (by first | assumption | rfl | exact .inl rfl | exact .inr rfl) (by first | assumption | rfl | exact .inl rfl | exact .inr rfl)) ?_ | refine rt_eq (q_X9_doneOn_71 (by first | assumption | rfl | exact .inl rfl | exact .inr rfl) (by first | assumption | rfl | exact .inl rfl | exact .inr rfl)) ?_ | refine rt_eq (q_X9_doneOn_125 (by first | assumption | rfl | exact .inl rfl | exact .inr rfl) (by first | assumption | rfl | exact .inl rfl | exact .inr rfl)) ?_ | refine rt_eq (q_X9_doneOn_128 (by first | assumption | rfl | exact .inl rfl | exact .inr rfl) (by first | assumption | rfl | exact .inl rfl | exact .inr rfl)) ?_)
        refine rt_f (by (try simp (disch := omega) only [nI_leI, nI_ltI, nI_eq, nI_add, pk_mul, n_0add, Nat.zero_add, nI_clamp]) <;> omega) ?_
        rw [hf 37 3 rfl, hz]
        refine rt_f (by (try simp (disch := omega) only [nI_leI, nI_ltI, nI_eq, nI_add, pk_mul, n_0add, Nat.zero_add, nI_clamp]) <;> omega) (rt_f (by (try simp (disch := omega) only [nI_leI, nI_ltI, nI_eq, nI_add, pk_mul, n_0add, Nat.zero_add, nI_clamp]) <;> omega) ?_)
        refine rt_bne (sp_pick ka_38 (by decide)) ?_
        rw [pk_n q2 (by decide), hf 38 a rfl, q3]
        (first | refine rt_eq (q_X9_doneOn_0 (by first | assumption | rfl | exact .inl rfl | exact .inr rfl) (by first | assumption | rfl | exact .inl rfl | exact .inr rfl)) ?_ | refine rt_eq (q_X9_doneOn_22 (by first | assumption | rfl | exact .inl rfl | exact .inr rfl) (by first | assumption | rfl | exact .inl rfl | exact .inr rfl)) ?_ | refine rt_eq (q_X9_doneOn_56 (by first | assumption | rfl | exact .inl rfl | exact .inr rfl) (by first | assumption | rfl | exact .inl rfl | exact .inr rfl)) ?_ | refine rt_eq (q_X9_doneOn_106 (by first | assumption | rfl | exact .inl rfl | exact .inr rfl) (by first | assumption | rfl | exact .inl rfl | exact .inr rfl)) ?_ | refine rt_eq (q_X9_doneOn_92 (by first | assumption | rfl | exact .inl rfl | exact .inr rfl) (by first | assumption | rfl | exact .inl rfl | exact .inr rfl)) ?_ | refine rt_eq (q_X9_doneOn_71 (by first | assumption | rfl | exact .inl rfl | exact .inr rfl) (by first | assumption | rfl | exact .inl rfl | exact .inr rfl)) ?_ | refine rt_eq (q_X9_doneOn_125 (by first | assumption | rfl | exact .inl rfl | exact .inr rfl) (by first | assumption | rfl | exact .inl rfl | exact .inr rfl)) ?_ | refine rt_eq (q_X9_doneOn_128 (by first | assumption | rfl | exact .inl rfl | exact .inr rfl) (by first | assumption | rfl | exact .inl rfl | exact .inr rfl)) ?_)
        rcases R with ⟨q4, q5, q6, q7, q8, q9⟩ | ⟨q4, q5, q6, q7, c, c1, c2, c3, c4, c5, c6, c7, c8⟩
        · have hk := q5.1
          refine rt_f (by (try simp (disch := omega) only [nI_leI, nI_ltI, nI_eq, nI_add, pk_mul, n_0add, Nat.zero_add, nI_clamp]) <;> omega) (rt_f (by (try simp (disch := omega) only [nI_leI, nI_ltI, nI_eq, nI_add, pk_mul, n_0add, Nat.zero_add, nI_clamp]) <;> omega) ?_)
          rw [if_neg q4, q8] at eH
          refine rt_bnd (sp_isDone (.inl rfl) C S1.1 ok w.1 w.2.1 S1.2.1 W S1.2.2 q5 q2 ((hf 38 a rfl).trans q3) (q6.imp id (fun e => (hf 39 a rfl).trans e)) (fun e => (hf 40 a rfl).trans (q7 e))) ?_
          rintro I2 J2 ⟨⟨g1, g2⟩, rfl⟩
          have w' := wl_1 (m := m) (nL := nL) (cd := cd) ok w h2 q5
          have f2 : Fr fG I I2 := fr_tr2 hf g1 fG1
          rw [eH] at H
          (first | refine rt_eq (q_X9_doneOn_0 (by first | assumption | rfl | exact .inl rfl | exact .inr rfl) (by first | assumption | rfl | exact .inl rfl | exact .inr rfl)) ?_ | refine rt_eq (q_X9_doneOn_22 (by first | assumption | rfl | exact .inl rfl | exact .inr rfl) (by first | assumption | rfl | exact .inl rfl | exact .inr rfl)) ?_ | refine rt_eq (q_X9_doneOn_56 (by first | assumption | rfl | exact .inl rfl | exact .inr rfl) (by first | assumption | rfl | exact .inl rfl | exact .inr rfl)) ?_ | refine rt_eq (q_X9_doneOn_106 (by first | assumption | rfl | exact .inl rfl | exact .inr rfl) (by first | assumption | rfl | exact .inl rfl | exact .inr rfl)) ?_ | refine rt_eq (q_X9_doneOn_92 (by first | assumption | rfl | exact .inl rfl | exact .inr rfl) (by first | assumption | rfl | exact .inl rfl | exact .inr rfl)) ?_ | refine rt_eq (q_X9_doneOn_71 (by first | assumption | rfl | exact .inl rfl | exact .inr rfl) (by first | assumption | rfl | exact .inl rfl | exact .inr rfl)) ?_ | refine rt_eq (q_X9_doneOn_125 (by first | assumption | rfl | exact .inl rfl | exact .inr rfl) (by first | assumption | rfl | exact .inl rfl | exact .inr rfl)) ?_ | refine rt_eq (q_X9_doneOn_128 (by first | assumption | rfl | exact .inl rfl | exact .inr rfl) (by first | assumption | rfl | exact .inl rfl | exact .inr rfl)) ?_)
          by_cases e : stD h m (T s 0) (T s 1) (T s 2) S.2.2.2.1 S.2.2.2.2 = true
          · have ew : w1 h m nL cd (T s 0) (T s 1) (T s 2) S = (S.1 + 1, S.2.1 + 1, S.2.2.1, st2n h m (T s 0) (T s 1) (T s 2) S.2.2.2.1 S.2.2.2.2, st2N h m nL cd (T s 0) (T s 1) (T s 2) S.2.2.2.1 S.2.2.2.2) := by
              unfold w1
              rw [if_pos e, if_pos e]
              rfl
            rw [e]
            refine rt_f (show ¬ bI true = nI 0 by decide) ?_
            (first | refine rt_eq (q_X9_doneOn_0 (by first | assumption | rfl | exact .inl rfl | exact .inr rfl) (by first | assumption | rfl | exact .inl rfl | exact .inr rfl)) ?_ | refine rt_eq (q_X9_doneOn_22 (by first | assumption | rfl | exact .inl rfl | exact .inr rfl) (by first | assumption | rfl | exact .inl rfl | exact .inr rfl)) ?_ | refine rt_eq (q_X9_doneOn_56 (by first | assumption | rfl | exact .inl rfl | exact .inr rfl) (by first | assumption | rfl | exact .inl rfl | exact .inr rfl)) ?_ | refine rt_eq (q_X9_doneOn_106 (by first | assumption | rfl | exact .inl rfl | exact .inr rfl) (by first | assumption | rfl | exact .inl rfl | exact .inr rfl)) ?_ | refine rt_eq (q_X9_doneOn_92 (by first | assumption | rfl | exact .inl rfl | exact .inr rfl) (by first | assumption | rfl | exact .inl rfl | exact .inr rfl)) ?_ | refine rt_eq (q_X9_doneOn_71 (by first | assumption | rfl | exact .inl rfl | exact .inr rfl) (by first | assumption | rfl | exact .inl rfl | exact .inr rfl)) ?_ | refine rt_eq (q_X9_doneOn_125 (by first | assumption | rfl | exact .inl rfl | exact .inr rfl) (by first | assumption | rfl | exact .inl rfl | exact .inr rfl)) ?_ | refine rt_eq (q_X9_doneOn_128 (by first | assumption | rfl | exact .inl rfl | exact .inr rfl) (by first | assumption | rfl | exact .inl rfl | exact .inr rfl)) ?_)
            (first | refine rt_eq (q_X9_doneOn_0 (by first | assumption | rfl | exact .inl rfl | exact .inr rfl) (by first | assumption | rfl | exact .inl rfl | exact .inr rfl)) ?_ | refine rt_eq (q_X9_doneOn_22 (by first | assumption | rfl | exact .inl rfl | exact .inr rfl) (by first | assumption | rfl | exact .inl rfl | exact .inr rfl)) ?_ | refine rt_eq (q_X9_doneOn_56 (by first | assumption | rfl | exact .inl rfl | exact .inr rfl) (by first | assumption | rfl | exact .inl rfl | exact .inr rfl)) ?_ | refine rt_eq (q_X9_doneOn_106 (by first | assumption | rfl | exact .inl rfl | exact .inr rfl) (by first | assumption | rfl | exact .inl rfl | exact .inr rfl)) ?_ | refine rt_eq (q_X9_doneOn_92 (by first | assumption | rfl | exact .inl rfl | exact .inr rfl) (by first | assumption | rfl | exact .inl rfl | exact .inr rfl)) ?_ | refine rt_eq (q_X9_doneOn_71 (by first | assumption | rfl | exact .inl rfl | exact .inr rfl) (by first | assumption | rfl | exact .inl rfl | exact .inr rfl)) ?_ | refine rt_eq (q_X9_doneOn_125 (by first | assumption | rfl | exact .inl rfl | exact .inr rfl) (by first | assumption | rfl | exact .inl rfl | exact .inr rfl)) ?_ | refine rt_eq (q_X9_doneOn_128 (by first | assumption | rfl | exact .inl rfl | exact .inr rfl) (by first | assumption | rfl | exact .inl rfl | exact .inr rfl)) ?_)
            rw [nI_add, nI_add, nI_add, nI_add]
            rw [ew] at H w'
            exact ih dp (s + 1) t (a + 1) b q9 (S.1 + 1, S.2.1 + 1, S.2.2.1, st2n h m (T s 0) (T s 1) (T s 2) S.2.2.2.1 S.2.2.2.2, st2N h m nL cd (T s 0) (T s 1) (T s 2) S.2.2.2.1 S.2.2.2.2) I2 (p + 1) pd _ hb f2 g2 w' ((g1 37 7 rfl).trans e7) ((g1 37 6 rfl).trans e6) hd (by show p + 1 + pd ≤ 31 * (S.1 + 1); omega) (fun I'' p' a' u8' b1 b2 b3 b4 b5 => H I'' p' a' u8' b1 b2 b3 b4 (fun q => ⟨(b5 q).1, (b5 q).2.1, (b5 q).2.2.1, fun k hk => ((b5 q).2.2.2 k hk).trans (g1 42 k rfl)⟩))
          · have ew : w1 h m nL cd (T s 0) (T s 1) (T s 2) S = (S.1 + 1, S.2.1, S.2.2.1 + 1, st2n h m (T s 0) (T s 1) (T s 2) S.2.2.2.1 S.2.2.2.2, st2N h m nL cd (T s 0) (T s 1) (T s 2) S.2.2.2.1 S.2.2.2.2) := by
              unfold w1
              rw [if_neg e, if_neg e]
              rfl
            rw [Bool.eq_false_iff.mpr e]
            refine rt_t bI_f ?_
            (first | refine rt_eq (q_X9_doneOn_0 (by first | assumption | rfl | exact .inl rfl | exact .inr rfl) (by first | assumption | rfl | exact .inl rfl | exact .inr rfl)) ?_ | refine rt_eq (q_X9_doneOn_22 (by first | assumption | rfl | exact .inl rfl | exact .inr rfl) (by first | assumption | rfl | exact .inl rfl | exact .inr rfl)) ?_ | refine rt_eq (q_X9_doneOn_56 (by first | assumption | rfl | exact .inl rfl | exact .inr rfl) (by first | assumption | rfl | exact .inl rfl | exact .inr rfl)) ?_ | refine rt_eq (q_X9_doneOn_106 (by first | assumption | rfl | exact .inl rfl | exact .inr rfl) (by first | assumption | rfl | exact .inl rfl | exact .inr rfl)) ?_ | refine rt_eq (q_X9_doneOn_92 (by first | assumption | rfl | exact .inl rfl | exact .inr rfl) (by first | assumption | rfl | exact .inl rfl | exact .inr rfl)) ?_ | refine rt_eq (q_X9_doneOn_71 (by first | assumption | rfl | exact .inl rfl | exact .inr rfl) (by first | assumption | rfl | exact .inl rfl | exact .inr rfl)) ?_ | refine rt_eq (q_X9_doneOn_125 (by first | assumption | rfl | exact .inl rfl | exact .inr rfl) (by first | assumption | rfl | exact .inl rfl | exact .inr rfl)) ?_ | refine rt_eq (q_X9_doneOn_128 (by first | assumption | rfl | exact .inl rfl | exact .inr rfl) (by first | assumption | rfl | exact .inl rfl | exact .inr rfl)) ?_)
            (first | refine rt_eq (q_X9_doneOn_0 (by first | assumption | rfl | exact .inl rfl | exact .inr rfl) (by first | assumption | rfl | exact .inl rfl | exact .inr rfl)) ?_ | refine rt_eq (q_X9_doneOn_22 (by first | assumption | rfl | exact .inl rfl | exact .inr rfl) (by first | assumption | rfl | exact .inl rfl | exact .inr rfl)) ?_ | refine rt_eq (q_X9_doneOn_56 (by first | assumption | rfl | exact .inl rfl | exact .inr rfl) (by first | assumption | rfl | exact .inl rfl | exact .inr rfl)) ?_ | refine rt_eq (q_X9_doneOn_106 (by first | assumption | rfl | exact .inl rfl | exact .inr rfl) (by first | assumption | rfl | exact .inl rfl | exact .inr rfl)) ?_ | refine rt_eq (q_X9_doneOn_92 (by first | assumption | rfl | exact .inl rfl | exact .inr rfl) (by first | assumption | rfl | exact .inl rfl | exact .inr rfl)) ?_ | refine rt_eq (q_X9_doneOn_71 (by first | assumption | rfl | exact .inl rfl | exact .inr rfl) (by first | assumption | rfl | exact .inl rfl | exact .inr rfl)) ?_ | refine rt_eq (q_X9_doneOn_125 (by first | assumption | rfl | exact .inl rfl | exact .inr rfl) (by first | assumption | rfl | exact .inl rfl | exact .inr rfl)) ?_ | refine rt_eq (q_X9_doneOn_128 (by first | assumption | rfl | exact .inl rfl | exact .inr rfl) (by first | assumption | rfl | exact .inl rfl | exact .inr rfl)) ?_)
            rw [(g1 37 7 rfl).trans e7, nI_add, nI_add, nI_add, nI_add]
            rw [ew] at H w'
            exact ih dp (s + 1) t (a + 1) b q9 (S.1 + 1, S.2.1, S.2.2.1 + 1, st2n h m (T s 0) (T s 1) (T s 2) S.2.2.2.1 S.2.2.2.2, st2N h m nL cd (T s 0) (T s 1) (T s 2) S.2.2.2.1 S.2.2.2.2) _ (p + 1) pd _ hb (fr_up f2 rfl) (NC_fr g2 (ag_of (l := [(37, 8)]) (fr_up fr_rfl rfl) (by decide))) w' up2_s (by rw [up2_k (by decide), g1 37 6 rfl, e6]) hd (by show p + 1 + pd ≤ 31 * (S.1 + 1); omega) (fun I'' p' a' u8' b1 b2 b3 b4 b5 => H I'' p' a' u8' b1 b2 b3 b4 (fun q => ⟨(b5 q).1, (b5 q).2.1, (b5 q).2.2.1, fun k hk => ((b5 q).2.2.2 k hk).trans (by rw [up2_n (by decide), g1 42 k rfl])⟩))
        · have l7 := RW_le _ _ _ _ _ _ c7
          have l8 := RW_le _ _ _ _ _ _ c8
          rw [if_pos q4] at eH
          rw [eH] at H
          have tail : ∀ (S' : Ws) I2 p2 a2 u2, itr (gos h m nL cd T f (s + 1) (T s 3)) (T s 1) (S.1 + 1, S.2) = S' → Fr fG I I2 → NC I2 43 S'.2.2.2.1 S'.2.2.2.2 → wlW h S' → I2 37 7 = nI S'.2.2.1 → (¬ 200 ≤ S'.1 → a2 = c + 1 ∧ p2 + pd ≤ 31 * S'.1 ∧ I2 37 6 = nI dp ∧ ∀ k, k < dp → I2 42 k = I' 42 k) → Rt L X (cH d L X I2 J S' a2 p2 u2) r Qf := by
            intro S' I2 p2 a2 u2 y1 y2 y3 y4 y5 y6
            rw [y1] at H
            by_cases hS : 200 ≤ S'.1
            · rw [gos_full hS] at H
              exact H I2 p2 a2 u2 y2 y3 y4 y5 (fun q => absurd hS q)
            · obtain ⟨rfl, z2, z3, z4⟩ := y6 hS
              exact ih dp (T s 3) t (c + 1) b c8 S' I2 p2 pd u2 hb y2 y3 y4 y5 z3 hd z2 (fun I'' p' a' u8' b1 b2 b3 b4 b5 => H I'' p' a' u8' b1 b2 b3 b4 (fun q => ⟨(b5 q).1, (b5 q).2.1, (b5 q).2.2.1, fun k hk => ((b5 q).2.2.2 k hk).trans (z4 k hk)⟩))
          have inner : ∀ j, j < 30 → ∀ (S' : Ws) I2 p2 u2, itr (gos h m nL cd T f (s + 1) (T s 3)) (T s 1) (S.1 + 1, S.2) = itr (gos h m nL cd T f (s + 1) (T s 3)) (j + 1) S' → Fr fG I I2 → NC I2 43 S'.2.2.2.1 S'.2.2.2.2 → wlW h S' → I2 37 7 = nI S'.2.2.1 → I2 37 6 = nI (dp + 1) → I2 42 dp = nI (j + 1) → (∀ k, k < dp → I2 42 k = I' 42 k) → p2 + (pd + (j + 1)) ≤ 31 * S'.1 → Rt L X (cH d L X I2 J S' (a + 1) p2 u2) r Qf := by
            intro j
            induction j with
            | zero =>
              intro hj S' I2 p2 u2 y1 y2 y3 y4 y5 y6 y7 y8 y9
              refine ih (dp + 1) (s + 1) (T s 3) (a + 1) c c7 S' I2 p2 (pd + (0 + 1)) u2 (by omega) y2 y3 y4 y5 y6 (by omega) y9 ?_
              intro I3 p3 a3 u3 b1 b2 b3 b4 b5
              by_cases hG : 200 ≤ (gos h m nL cd T f (s + 1) (T s 3) S').1
              · exact tail _ I3 p3 a3 u3 y1 b1 b2 b3 b4 (fun q => absurd hG q)
              · obtain ⟨rfl, z2, z3, z4⟩ := b5 hG
                unfold cH
                (first | refine rt_eq (q_X9_doneOn_0 (by first | assumption | rfl | exact .inl rfl | exact .inr rfl) (by first | assumption | rfl | exact .inl rfl | exact .inr rfl)) ?_ | refine rt_eq (q_X9_doneOn_22 (by first | assumption | rfl | exact .inl rfl | exact .inr rfl) (by first | assumption | rfl | exact .inl rfl | exact .inr rfl)) ?_ | refine rt_eq (q_X9_doneOn_56 (by first | assumption | rfl | exact .inl rfl | exact .inr rfl) (by first | assumption | rfl | exact .inl rfl | exact .inr rfl)) ?_ | refine rt_eq (q_X9_doneOn_106 (by first | assumption | rfl | exact .inl rfl | exact .inr rfl) (by first | assumption | rfl | exact .inl rfl | exact .inr rfl)) ?_ | refine rt_eq (q_X9_doneOn_92 (by first | assumption | rfl | exact .inl rfl | exact .inr rfl) (by first | assumption | rfl | exact .inl rfl | exact .inr rfl)) ?_ | refine rt_eq (q_X9_doneOn_71 (by first | assumption | rfl | exact .inl rfl | exact .inr rfl) (by first | assumption | rfl | exact .inl rfl | exact .inr rfl)) ?_ | refine rt_eq (q_X9_doneOn_125 (by first | assumption | rfl | exact .inl rfl | exact .inr rfl) (by first | assumption | rfl | exact .inl rfl | exact .inr rfl)) ?_ | refine rt_eq (q_X9_doneOn_128 (by first | assumption | rfl | exact .inl rfl | exact .inr rfl) (by first | assumption | rfl | exact .inl rfl | exact .inr rfl)) ?_)
                refine rt_f (by (try simp (disch := omega) only [nI_leI, nI_ltI, nI_eq, nI_add, pk_mul, n_0add, Nat.zero_add, nI_clamp]) <;> omega) ?_
                rw [b1 37 3 rfl, hz]
                refine rt_f (by (try simp (disch := omega) only [nI_leI, nI_ltI, nI_eq, nI_add, pk_mul, n_0add, Nat.zero_add, nI_clamp]) <;> omega) (rt_f (by (try simp (disch := omega) only [nI_leI, nI_ltI, nI_eq, nI_add, pk_mul, n_0add, Nat.zero_add, nI_clamp]) <;> omega) ?_)
                refine rt_bne (sp_pick ka_38 (by decide)) ?_
                rw [pk_n c2 (by decide), b1 38 _ rfl, c3]
                (first | refine rt_eq (q_X9_doneOn_0 (by first | assumption | rfl | exact .inl rfl | exact .inr rfl) (by first | assumption | rfl | exact .inl rfl | exact .inr rfl)) ?_ | refine rt_eq (q_X9_doneOn_22 (by first | assumption | rfl | exact .inl rfl | exact .inr rfl) (by first | assumption | rfl | exact .inl rfl | exact .inr rfl)) ?_ | refine rt_eq (q_X9_doneOn_56 (by first | assumption | rfl | exact .inl rfl | exact .inr rfl) (by first | assumption | rfl | exact .inl rfl | exact .inr rfl)) ?_ | refine rt_eq (q_X9_doneOn_106 (by first | assumption | rfl | exact .inl rfl | exact .inr rfl) (by first | assumption | rfl | exact .inl rfl | exact .inr rfl)) ?_ | refine rt_eq (q_X9_doneOn_92 (by first | assumption | rfl | exact .inl rfl | exact .inr rfl) (by first | assumption | rfl | exact .inl rfl | exact .inr rfl)) ?_ | refine rt_eq (q_X9_doneOn_71 (by first | assumption | rfl | exact .inl rfl | exact .inr rfl) (by first | assumption | rfl | exact .inl rfl | exact .inr rfl)) ?_ | refine rt_eq (q_X9_doneOn_125 (by first | assumption | rfl | exact .inl rfl | exact .inr rfl) (by first | assumption | rfl | exact .inl rfl | exact .inr rfl)) ?_ | refine rt_eq (q_X9_doneOn_128 (by first | assumption | rfl | exact .inl rfl | exact .inr rfl) (by first | assumption | rfl | exact .inl rfl | exact .inr rfl)) ?_)
                refine rt_t rfl ?_
                have e42 : I3 42 dp = nI (0 + 1) := (z4 dp (by omega)).trans y7
                refine rt_be ((sp_behindClose c2 (by omega) q5 e42 ((b1 40 _ rfl).trans c4) z3).trans (if_pos rfl)) ?_
                (first | refine rt_eq (q_X9_doneOn_0 (by first | assumption | rfl | exact .inl rfl | exact .inr rfl) (by first | assumption | rfl | exact .inl rfl | exact .inr rfl)) ?_ | refine rt_eq (q_X9_doneOn_22 (by first | assumption | rfl | exact .inl rfl | exact .inr rfl) (by first | assumption | rfl | exact .inl rfl | exact .inr rfl)) ?_ | refine rt_eq (q_X9_doneOn_56 (by first | assumption | rfl | exact .inl rfl | exact .inr rfl) (by first | assumption | rfl | exact .inl rfl | exact .inr rfl)) ?_ | refine rt_eq (q_X9_doneOn_106 (by first | assumption | rfl | exact .inl rfl | exact .inr rfl) (by first | assumption | rfl | exact .inl rfl | exact .inr rfl)) ?_ | refine rt_eq (q_X9_doneOn_92 (by first | assumption | rfl | exact .inl rfl | exact .inr rfl) (by first | assumption | rfl | exact .inl rfl | exact .inr rfl)) ?_ | refine rt_eq (q_X9_doneOn_71 (by first | assumption | rfl | exact .inl rfl | exact .inr rfl) (by first | assumption | rfl | exact .inl rfl | exact .inr rfl)) ?_ | refine rt_eq (q_X9_doneOn_125 (by first | assumption | rfl | exact .inl rfl | exact .inr rfl) (by first | assumption | rfl | exact .inl rfl | exact .inr rfl)) ?_ | refine rt_eq (q_X9_doneOn_128 (by first | assumption | rfl | exact .inl rfl | exact .inr rfl) (by first | assumption | rfl | exact .inl rfl | exact .inr rfl)) ?_)
                (first | refine rt_eq (q_X9_doneOn_0 (by first | assumption | rfl | exact .inl rfl | exact .inr rfl) (by first | assumption | rfl | exact .inl rfl | exact .inr rfl)) ?_ | refine rt_eq (q_X9_doneOn_22 (by first | assumption | rfl | exact .inl rfl | exact .inr rfl) (by first | assumption | rfl | exact .inl rfl | exact .inr rfl)) ?_ | refine rt_eq (q_X9_doneOn_56 (by first | assumption | rfl | exact .inl rfl | exact .inr rfl) (by first | assumption | rfl | exact .inl rfl | exact .inr rfl)) ?_ | refine rt_eq (q_X9_doneOn_106 (by first | assumption | rfl | exact .inl rfl | exact .inr rfl) (by first | assumption | rfl | exact .inl rfl | exact .inr rfl)) ?_ | refine rt_eq (q_X9_doneOn_92 (by first | assumption | rfl | exact .inl rfl | exact .inr rfl) (by first | assumption | rfl | exact .inl rfl | exact .inr rfl)) ?_ | refine rt_eq (q_X9_doneOn_71 (by first | assumption | rfl | exact .inl rfl | exact .inr rfl) (by first | assumption | rfl | exact .inl rfl | exact .inr rfl)) ?_ | refine rt_eq (q_X9_doneOn_125 (by first | assumption | rfl | exact .inl rfl | exact .inr rfl) (by first | assumption | rfl | exact .inl rfl | exact .inr rfl)) ?_ | refine rt_eq (q_X9_doneOn_128 (by first | assumption | rfl | exact .inl rfl | exact .inr rfl) (by first | assumption | rfl | exact .inl rfl | exact .inr rfl)) ?_)
                rw [nI_add]
                refine tail _ _ (p3 + 1) _ _ y1 (fr_up b1 rfl) (NC_fr b2 (ag_of (l := [(37, 7)]) (fr_up fr_rfl rfl) (by decide))) b3 (by rw [up2_k (by decide), b4]) (fun _ => ⟨rfl, by omega, up2_s, fun k hk => ?_⟩)
                rw [up2_n (by decide), z4 k (by omega), y8 k hk]
            | succ j ihj =>
              intro hj S' I2 p2 u2 y1 y2 y3 y4 y5 y6 y7 y8 y9
              refine ih (dp + 1) (s + 1) (T s 3) (a + 1) c c7 S' I2 p2 (pd + (j + 1 + 1)) u2 (by omega) y2 y3 y4 y5 y6 (by omega) y9 ?_
              intro I3 p3 a3 u3 b1 b2 b3 b4 b5
              by_cases hG : 200 ≤ (gos h m nL cd T f (s + 1) (T s 3) S').1
              · refine tail _ I3 p3 a3 u3 ?_ b1 b2 b3 b4 (fun q => absurd hG q)
                rw [y1]
                exact itr_full (gos_full hG _ _ _) (j + 1)
              · obtain ⟨rfl, z2, z3, z4⟩ := b5 hG
                unfold cH
                (first | refine rt_eq (q_X9_doneOn_0 (by first | assumption | rfl | exact .inl rfl | exact .inr rfl) (by first | assumption | rfl | exact .inl rfl | exact .inr rfl)) ?_ | refine rt_eq (q_X9_doneOn_22 (by first | assumption | rfl | exact .inl rfl | exact .inr rfl) (by first | assumption | rfl | exact .inl rfl | exact .inr rfl)) ?_ | refine rt_eq (q_X9_doneOn_56 (by first | assumption | rfl | exact .inl rfl | exact .inr rfl) (by first | assumption | rfl | exact .inl rfl | exact .inr rfl)) ?_ | refine rt_eq (q_X9_doneOn_106 (by first | assumption | rfl | exact .inl rfl | exact .inr rfl) (by first | assumption | rfl | exact .inl rfl | exact .inr rfl)) ?_ | refine rt_eq (q_X9_doneOn_92 (by first | assumption | rfl | exact .inl rfl | exact .inr rfl) (by first | assumption | rfl | exact .inl rfl | exact .inr rfl)) ?_ | refine rt_eq (q_X9_doneOn_71 (by first | assumption | rfl | exact .inl rfl | exact .inr rfl) (by first | assumption | rfl | exact .inl rfl | exact .inr rfl)) ?_ | refine rt_eq (q_X9_doneOn_125 (by first | assumption | rfl | exact .inl rfl | exact .inr rfl) (by first | assumption | rfl | exact .inl rfl | exact .inr rfl)) ?_ | refine rt_eq (q_X9_doneOn_128 (by first | assumption | rfl | exact .inl rfl | exact .inr rfl) (by first | assumption | rfl | exact .inl rfl | exact .inr rfl)) ?_)
                refine rt_f (by (try simp (disch := omega) only [nI_leI, nI_ltI, nI_eq, nI_add, pk_mul, n_0add, Nat.zero_add, nI_clamp]) <;> omega) ?_
                rw [b1 37 3 rfl, hz]
                refine rt_f (by (try simp (disch := omega) only [nI_leI, nI_ltI, nI_eq, nI_add, pk_mul, n_0add, Nat.zero_add, nI_clamp]) <;> omega) (rt_f (by (try simp (disch := omega) only [nI_leI, nI_ltI, nI_eq, nI_add, pk_mul, n_0add, Nat.zero_add, nI_clamp]) <;> omega) ?_)
                refine rt_bne (sp_pick ka_38 (by decide)) ?_
                rw [pk_n c2 (by decide), b1 38 _ rfl, c3]
                (first | refine rt_eq (q_X9_doneOn_0 (by first | assumption | rfl | exact .inl rfl | exact .inr rfl) (by first | assumption | rfl | exact .inl rfl | exact .inr rfl)) ?_ | refine rt_eq (q_X9_doneOn_22 (by first | assumption | rfl | exact .inl rfl | exact .inr rfl) (by first | assumption | rfl | exact .inl rfl | exact .inr rfl)) ?_ | refine rt_eq (q_X9_doneOn_56 (by first | assumption | rfl | exact .inl rfl | exact .inr rfl) (by first | assumption | rfl | exact .inl rfl | exact .inr rfl)) ?_ | refine rt_eq (q_X9_doneOn_106 (by first | assumption | rfl | exact .inl rfl | exact .inr rfl) (by first | assumption | rfl | exact .inl rfl | exact .inr rfl)) ?_ | refine rt_eq (q_X9_doneOn_92 (by first | assumption | rfl | exact .inl rfl | exact .inr rfl) (by first | assumption | rfl | exact .inl rfl | exact .inr rfl)) ?_ | refine rt_eq (q_X9_doneOn_71 (by first | assumption | rfl | exact .inl rfl | exact .inr rfl) (by first | assumption | rfl | exact .inl rfl | exact .inr rfl)) ?_ | refine rt_eq (q_X9_doneOn_125 (by first | assumption | rfl | exact .inl rfl | exact .inr rfl) (by first | assumption | rfl | exact .inl rfl | exact .inr rfl)) ?_ | refine rt_eq (q_X9_doneOn_128 (by first | assumption | rfl | exact .inl rfl | exact .inr rfl) (by first | assumption | rfl | exact .inl rfl | exact .inr rfl)) ?_)
                refine rt_t rfl ?_
                have e42 : I3 42 dp = nI (j + 1 + 1) := (z4 dp (by omega)).trans y7
                refine rt_be ((sp_behindClose c2 (by omega) q5 e42 ((b1 40 _ rfl).trans c4) z3).trans (if_neg (by omega))) ?_
                (first | refine rt_eq (q_X9_doneOn_0 (by first | assumption | rfl | exact .inl rfl | exact .inr rfl) (by first | assumption | rfl | exact .inl rfl | exact .inr rfl)) ?_ | refine rt_eq (q_X9_doneOn_22 (by first | assumption | rfl | exact .inl rfl | exact .inr rfl) (by first | assumption | rfl | exact .inl rfl | exact .inr rfl)) ?_ | refine rt_eq (q_X9_doneOn_56 (by first | assumption | rfl | exact .inl rfl | exact .inr rfl) (by first | assumption | rfl | exact .inl rfl | exact .inr rfl)) ?_ | refine rt_eq (q_X9_doneOn_106 (by first | assumption | rfl | exact .inl rfl | exact .inr rfl) (by first | assumption | rfl | exact .inl rfl | exact .inr rfl)) ?_ | refine rt_eq (q_X9_doneOn_92 (by first | assumption | rfl | exact .inl rfl | exact .inr rfl) (by first | assumption | rfl | exact .inl rfl | exact .inr rfl)) ?_ | refine rt_eq (q_X9_doneOn_71 (by first | assumption | rfl | exact .inl rfl | exact .inr rfl) (by first | assumption | rfl | exact .inl rfl | exact .inr rfl)) ?_ | refine rt_eq (q_X9_doneOn_125 (by first | assumption | rfl | exact .inl rfl | exact .inr rfl) (by first | assumption | rfl | exact .inl rfl | exact .inr rfl)) ?_ | refine rt_eq (q_X9_doneOn_128 (by first | assumption | rfl | exact .inl rfl | exact .inr rfl) (by first | assumption | rfl | exact .inl rfl | exact .inr rfl)) ?_)
                (first | refine rt_eq (q_X9_doneOn_0 (by first | assumption | rfl | exact .inl rfl | exact .inr rfl) (by first | assumption | rfl | exact .inl rfl | exact .inr rfl)) ?_ | refine rt_eq (q_X9_doneOn_22 (by first | assumption | rfl | exact .inl rfl | exact .inr rfl) (by first | assumption | rfl | exact .inl rfl | exact .inr rfl)) ?_ | refine rt_eq (q_X9_doneOn_56 (by first | assumption | rfl | exact .inl rfl | exact .inr rfl) (by first | assumption | rfl | exact .inl rfl | exact .inr rfl)) ?_ | refine rt_eq (q_X9_doneOn_106 (by first | assumption | rfl | exact .inl rfl | exact .inr rfl) (by first | assumption | rfl | exact .inl rfl | exact .inr rfl)) ?_ | refine rt_eq (q_X9_doneOn_92 (by first | assumption | rfl | exact .inl rfl | exact .inr rfl) (by first | assumption | rfl | exact .inl rfl | exact .inr rfl)) ?_ | refine rt_eq (q_X9_doneOn_71 (by first | assumption | rfl | exact .inl rfl | exact .inr rfl) (by first | assumption | rfl | exact .inl rfl | exact .inr rfl)) ?_ | refine rt_eq (q_X9_doneOn_125 (by first | assumption | rfl | exact .inl rfl | exact .inr rfl) (by first | assumption | rfl | exact .inl rfl | exact .inr rfl)) ?_ | refine rt_eq (q_X9_doneOn_128 (by first | assumption | rfl | exact .inl rfl | exact .inr rfl) (by first | assumption | rfl | exact .inl rfl | exact .inr rfl)) ?_)
                rw [nI_add]
                refine ihj (by omega) _ _ (p3 + 1) _ y1 (fr_up b1 rfl) (NC_fr b2 (ag_of (l := [(42, 0)]) (fr_up fr_rfl rfl) (by decide))) b3 (by rw [up2_n (by decide), b4]) (by rw [up2_n (by decide), z3]) up2_s (fun k hk => ?_) (by omega)
                rw [up2_k (by omega), z4 k (by omega), y8 k hk]
          rw [q4]
          refine rt_f (by decide) (rt_t rfl ?_)
          have wb := wl_b w h2
          have ea := sp_behindAgain (d := d + 4) (L := L) (X := X) (J := J) q2 q6 q5 ((hf 39 a rfl).trans q7) ((hf 40 a rfl).trans c1) e6
          by_cases k0 : T s 1 = 0
          · rw [if_pos k0] at ea
            refine rt_be ea ?_
            (first | refine rt_eq (q_X9_doneOn_0 (by first | assumption | rfl | exact .inl rfl | exact .inr rfl) (by first | assumption | rfl | exact .inl rfl | exact .inr rfl)) ?_ | refine rt_eq (q_X9_doneOn_22 (by first | assumption | rfl | exact .inl rfl | exact .inr rfl) (by first | assumption | rfl | exact .inl rfl | exact .inr rfl)) ?_ | refine rt_eq (q_X9_doneOn_56 (by first | assumption | rfl | exact .inl rfl | exact .inr rfl) (by first | assumption | rfl | exact .inl rfl | exact .inr rfl)) ?_ | refine rt_eq (q_X9_doneOn_106 (by first | assumption | rfl | exact .inl rfl | exact .inr rfl) (by first | assumption | rfl | exact .inl rfl | exact .inr rfl)) ?_ | refine rt_eq (q_X9_doneOn_92 (by first | assumption | rfl | exact .inl rfl | exact .inr rfl) (by first | assumption | rfl | exact .inl rfl | exact .inr rfl)) ?_ | refine rt_eq (q_X9_doneOn_71 (by first | assumption | rfl | exact .inl rfl | exact .inr rfl) (by first | assumption | rfl | exact .inl rfl | exact .inr rfl)) ?_ | refine rt_eq (q_X9_doneOn_125 (by first | assumption | rfl | exact .inl rfl | exact .inr rfl) (by first | assumption | rfl | exact .inl rfl | exact .inr rfl)) ?_ | refine rt_eq (q_X9_doneOn_128 (by first | assumption | rfl | exact .inl rfl | exact .inr rfl) (by first | assumption | rfl | exact .inl rfl | exact .inr rfl)) ?_)
            (first | refine rt_eq (q_X9_doneOn_0 (by first | assumption | rfl | exact .inl rfl | exact .inr rfl) (by first | assumption | rfl | exact .inl rfl | exact .inr rfl)) ?_ | refine rt_eq (q_X9_doneOn_22 (by first | assumption | rfl | exact .inl rfl | exact .inr rfl) (by first | assumption | rfl | exact .inl rfl | exact .inr rfl)) ?_ | refine rt_eq (q_X9_doneOn_56 (by first | assumption | rfl | exact .inl rfl | exact .inr rfl) (by first | assumption | rfl | exact .inl rfl | exact .inr rfl)) ?_ | refine rt_eq (q_X9_doneOn_106 (by first | assumption | rfl | exact .inl rfl | exact .inr rfl) (by first | assumption | rfl | exact .inl rfl | exact .inr rfl)) ?_ | refine rt_eq (q_X9_doneOn_92 (by first | assumption | rfl | exact .inl rfl | exact .inr rfl) (by first | assumption | rfl | exact .inl rfl | exact .inr rfl)) ?_ | refine rt_eq (q_X9_doneOn_71 (by first | assumption | rfl | exact .inl rfl | exact .inr rfl) (by first | assumption | rfl | exact .inl rfl | exact .inr rfl)) ?_ | refine rt_eq (q_X9_doneOn_125 (by first | assumption | rfl | exact .inl rfl | exact .inr rfl) (by first | assumption | rfl | exact .inl rfl | exact .inr rfl)) ?_ | refine rt_eq (q_X9_doneOn_128 (by first | assumption | rfl | exact .inl rfl | exact .inr rfl) (by first | assumption | rfl | exact .inl rfl | exact .inr rfl)) ?_)
            rw [nI_add, nI_add]
            exact tail (S.1 + 1, S.2) I' (p + 1) (c + 1) _ (by rw [k0]; rfl) hf C wb e7 (fun _ => ⟨rfl, by show p + 1 + pd ≤ 31 * (S.1 + 1); omega, e6, fun _ _ => rfl⟩)
          · rw [if_neg k0] at ea
            refine rt_be ea ?_
            (first | refine rt_eq (q_X9_doneOn_0 (by first | assumption | rfl | exact .inl rfl | exact .inr rfl) (by first | assumption | rfl | exact .inl rfl | exact .inr rfl)) ?_ | refine rt_eq (q_X9_doneOn_22 (by first | assumption | rfl | exact .inl rfl | exact .inr rfl) (by first | assumption | rfl | exact .inl rfl | exact .inr rfl)) ?_ | refine rt_eq (q_X9_doneOn_56 (by first | assumption | rfl | exact .inl rfl | exact .inr rfl) (by first | assumption | rfl | exact .inl rfl | exact .inr rfl)) ?_ | refine rt_eq (q_X9_doneOn_106 (by first | assumption | rfl | exact .inl rfl | exact .inr rfl) (by first | assumption | rfl | exact .inl rfl | exact .inr rfl)) ?_ | refine rt_eq (q_X9_doneOn_92 (by first | assumption | rfl | exact .inl rfl | exact .inr rfl) (by first | assumption | rfl | exact .inl rfl | exact .inr rfl)) ?_ | refine rt_eq (q_X9_doneOn_71 (by first | assumption | rfl | exact .inl rfl | exact .inr rfl) (by first | assumption | rfl | exact .inl rfl | exact .inr rfl)) ?_ | refine rt_eq (q_X9_doneOn_125 (by first | assumption | rfl | exact .inl rfl | exact .inr rfl) (by first | assumption | rfl | exact .inl rfl | exact .inr rfl)) ?_ | refine rt_eq (q_X9_doneOn_128 (by first | assumption | rfl | exact .inl rfl | exact .inr rfl) (by first | assumption | rfl | exact .inl rfl | exact .inr rfl)) ?_)
            (first | refine rt_eq (q_X9_doneOn_0 (by first | assumption | rfl | exact .inl rfl | exact .inr rfl) (by first | assumption | rfl | exact .inl rfl | exact .inr rfl)) ?_ | refine rt_eq (q_X9_doneOn_22 (by first | assumption | rfl | exact .inl rfl | exact .inr rfl) (by first | assumption | rfl | exact .inl rfl | exact .inr rfl)) ?_ | refine rt_eq (q_X9_doneOn_56 (by first | assumption | rfl | exact .inl rfl | exact .inr rfl) (by first | assumption | rfl | exact .inl rfl | exact .inr rfl)) ?_ | refine rt_eq (q_X9_doneOn_106 (by first | assumption | rfl | exact .inl rfl | exact .inr rfl) (by first | assumption | rfl | exact .inl rfl | exact .inr rfl)) ?_ | refine rt_eq (q_X9_doneOn_92 (by first | assumption | rfl | exact .inl rfl | exact .inr rfl) (by first | assumption | rfl | exact .inl rfl | exact .inr rfl)) ?_ | refine rt_eq (q_X9_doneOn_71 (by first | assumption | rfl | exact .inl rfl | exact .inr rfl) (by first | assumption | rfl | exact .inl rfl | exact .inr rfl)) ?_ | refine rt_eq (q_X9_doneOn_125 (by first | assumption | rfl | exact .inl rfl | exact .inr rfl) (by first | assumption | rfl | exact .inl rfl | exact .inr rfl)) ?_ | refine rt_eq (q_X9_doneOn_128 (by first | assumption | rfl | exact .inl rfl | exact .inr rfl) (by first | assumption | rfl | exact .inl rfl | exact .inr rfl)) ?_)
            rw [nI_add, nI_add]
            obtain ⟨j, ej⟩ : ∃ j, T s 1 = j + 1 := ⟨T s 1 - 1, by omega⟩
            refine inner j (by omega) (S.1 + 1, S.2) _ (p + 1) _ (by rw [ej]) (fr_up (fr_up hf rfl) rfl) (NC_fr C (ag_of (l := [(42, 0), (37, 7)]) (fr_up (fr_up fr_rfl rfl) rfl) (by decide))) wb ?_ up2_s ?_ (fun k hk => ?_) (by show p + 1 + (pd + (j + 1)) ≤ 31 * (S.1 + 1); omega)
            · rw [up2_k (by decide), up2_n (by decide)]
              exact e7
            · rw [up2_n (by decide), up2_s, ej]
            · rw [up2_n (by decide), up2_k (by omega)]
theorem sp_doneOn {size steps f : Nat} (ok : HOK h) (W : wfC cd nL 0 0) (SS : SC I h m nL cd) (C : NC I 43 n N) (R : NR (h 0 0) n N) (Z : NX (h 0 0) (h 0 2) N) (hz : I 37 3 = nI size) (hz2 : size ≤ 75) (Q : RW (h 0 0) T (I 38) (I 39) (I 40) f 0 0 steps 0 size) : Rt L X (runM (d + 7) nX9_doneOn [.ref 37, .ref 43, .ref 3, .ref 52] (mm L X I J)) (some (.int (nI (gos h m nL cd T f 0 steps (0, 0, 0, n, N)).2.1))) (fun I' J' => (Fr fG I I' ∧ NC I' 43 (gos h m nL cd T f 0 steps (0, 0, 0, n, N)).2.2.2.1 (gos h m nL cd T f 0 steps (0, 0, 0, n, N)).2.2.2.2 ∧ I' 37 7 = nI (gos h m nL cd T f 0 steps (0, 0, 0, n, N)).2.2.1) ∧ J' = J) := by
  rw [e_X9_doneOn]
  (first | refine rt_eq (q_X9_doneOn_0 (by first | assumption | rfl | exact .inl rfl | exact .inr rfl) (by first | assumption | rfl | exact .inl rfl | exact .inr rfl)) ?_ | refine rt_eq (q_X9_doneOn_22 (by first | assumption | rfl | exact .inl rfl | exact .inr rfl) (by first | assumption | rfl | exact .inl rfl | exact .inr rfl)) ?_ | refine rt_eq (q_X9_doneOn_56 (by first | assumption | rfl | exact .inl rfl | exact .inr rfl) (by first | assumption | rfl | exact .inl rfl | exact .inr rfl)) ?_ | refine rt_eq (q_X9_doneOn_106 (by first | assumption | rfl | exact .inl rfl | exact .inr rfl) (by first | assumption | rfl | exact .inl rfl | exact .inr rfl)) ?_ | refine rt_eq (q_X9_doneOn_92 (by first | assumption | rfl | exact .inl rfl | exact .inr rfl) (by first | assumption | rfl | exact .inl rfl | exact .inr rfl)) ?_ | refine rt_eq (q_X9_doneOn_71 (by first | assumption | rfl | exact .inl rfl | exact .inr rfl) (by first | assumption | rfl | exact .inl rfl | exact .inr rfl)) ?_ | refine rt_eq (q_X9_doneOn_125 (by first | assumption | rfl | exact .inl rfl | exact .inr rfl) (by first | assumption | rfl | exact .inl rfl | exact .inr rfl)) ?_ | refine rt_eq (q_X9_doneOn_128 (by first | assumption | rfl | exact .inl rfl | exact .inr rfl) (by first | assumption | rfl | exact .inl rfl | exact .inr rfl)) ?_)
  refine lp_done (I := I) (size := size) (T := T) ok W SS hz hz2 f 0 0 steps 0 size Q (0, 0, 0, n, N) _ 0 0 none (Nat.le_refl _) (fr_up (fr_up fr_rfl rfl) rfl) (NC_fr C (ag_of (l := [(37, 7), (37, 8)]) (fr_up (fr_up fr_rfl rfl) rfl) (by decide))) ⟨R, Z, Nat.zero_le _, Nat.le_refl _, Nat.le_refl _⟩ ?_ up2_s (by decide) (Nat.zero_le _) ?_
  · rw [up2_k (by decide), up2_s]
  · intro I2 p' a' u b1 b2 b3 b4 b5
    have fin : Rt L X (some (.inl (some (.int (nI (gos h m nL cd T f 0 steps (0, 0, 0, n, N)).2.1))), mm L X I2 J)) (some (.int (nI (gos h m nL cd T f 0 steps (0, 0, 0, n, N)).2.1))) (fun I' J' => (Fr fG I I' ∧ NC I' 43 (gos h m nL cd T f 0 steps (0, 0, 0, n, N)).2.2.2.1 (gos h m nL cd T f 0 steps (0, 0, 0, n, N)).2.2.2.2 ∧ I' 37 7 = nI (gos h m nL cd T f 0 steps (0, 0, 0, n, N)).2.2.1) ∧ J' = J) := rt_ret ⟨⟨b1, b2, b4⟩, rfl⟩
    unfold cH
    (first | refine rt_eq (q_X9_doneOn_0 (by first | assumption | rfl | exact .inl rfl | exact .inr rfl) (by first | assumption | rfl | exact .inl rfl | exact .inr rfl)) ?_ | refine rt_eq (q_X9_doneOn_22 (by first | assumption | rfl | exact .inl rfl | exact .inr rfl) (by first | assumption | rfl | exact .inl rfl | exact .inr rfl)) ?_ | refine rt_eq (q_X9_doneOn_56 (by first | assumption | rfl | exact .inl rfl | exact .inr rfl) (by first | assumption | rfl | exact .inl rfl | exact .inr rfl)) ?_ | refine rt_eq (q_X9_doneOn_106 (by first | assumption | rfl | exact .inl rfl | exact .inr rfl) (by first | assumption | rfl | exact .inl rfl | exact .inr rfl)) ?_ | refine rt_eq (q_X9_doneOn_92 (by first | assumption | rfl | exact .inl rfl | exact .inr rfl) (by first | assumption | rfl | exact .inl rfl | exact .inr rfl)) ?_ | refine rt_eq (q_X9_doneOn_71 (by first | assumption | rfl | exact .inl rfl | exact .inr rfl) (by first | assumption | rfl | exact .inl rfl | exact .inr rfl)) ?_ | refine rt_eq (q_X9_doneOn_125 (by first | assumption | rfl | exact .inl rfl | exact .inr rfl) (by first | assumption | rfl | exact .inl rfl | exact .inr rfl)) ?_ | refine rt_eq (q_X9_doneOn_128 (by first | assumption | rfl | exact .inl rfl | exact .inr rfl) (by first | assumption | rfl | exact .inl rfl | exact .inr rfl)) ?_)
    refine rt_if (fun _ => fin) (fun _ => rt_if (fun _ => fin) (fun q => rt_if (fun _ => fin) (fun q2 => absurd ?_ q)))
    have hb := b3.2.2.1
    have hG : ¬ 200 ≤ (gos h m nL cd T f 0 steps (0, 0, 0, n, N)).1 := fun q3 => q2 (by ((try simp (disch := omega) only [nI_leI, nI_ltI, nI_eq, nI_add, pk_mul, n_0add, Nat.zero_add, nI_clamp]) <;> omega))
    obtain ⟨rfl, _⟩ := b5 hG
    rw [b1 37 3 rfl, hz]
    exact Int32.le_refl _
/-! the model -/
theorem ka_row : ∀ s, s < 80 → ka (453 + s) 1 4 := by
  have q : ∀ s, s < 80 → (Nat.blt (453 + s) 1000000 && (K0[453 + s]? == some (1, 4))) = true := by decide +kernel
  exact fun s hs => ka_of (q s hs)
/-- what doing work may change in the model -/
def fGM : Fls := fH 533 ++ [(72, 42), (72, 43), (72, 37)]
theorem fGM1 : sbF (fH 533) fGM = true := by decide
theorem SM_g {I' : MI32} (S : SM I h m nL cd) (ok : HOK h) (g : Fr fGM I I') : SM I' h m nL cd := SM_fr S ok g (by decide +kernel) (by decide +kernel)
/-- the rows of the model -/
def TM (I : MI32) (T : Nat → Nat → Nat) (t : Nat) : Prop := ∀ s, s < t → I (453 + s) 0 = nI (T s 0) ∧ ((T s 0 = 2 ∨ T s 0 = 7) ∨ I (453 + s) 1 = nI (T s 1)) ∧ (T s 0 = 3 → I (453 + s) 2 = nI (T s 2)) ∧ I (453 + s) 3 = nI (T s 3)
theorem gm_row {I' : MI32} {s k : Nat} (hs : s < 80) (g : Fr fGM I I') : I' (453 + s) k = I (453 + s) k := ag_of (s := cells 453 80) g (by decide +kernel) _ k (in_cells hs)
/-- the state of the model while work is done -/
def WM (h : Hs) (I I' : MI32) (S : Ws) : Prop := Fr fGM I I' ∧ I' 533 = S.2.2.2.2 ∧ wlW h S ∧ I' 72 41 = nI S.1 ∧ I' 72 42 = nI S.2.1 ∧ I' 72 36 = nI S.2.2.1
theorem lp_goes {t0 : Nat} (ok : HOK h) (W : wfC cd nL 0 0) (SS : SM I h m nL cd) (ht : t0 ≤ 80) (M : TM I T t0) {A B C : Nat → Int32} : ∀ f k dp s t a b, dp + k = 6 → t ≤ t0 → RW (h 0 0) T A B C f dp s t a b → ∀ (S : Ws) I' u1 u4, WM h I I' S → Rt L X (c_X12_goes_2 (d + k + 10) L X I' J u1 (nI t) (nI s) u4) none (fun I'' J' => WM h I I'' (gos h m nL cd T f s t S) ∧ J' = J)
  | 0, k, dp, s, t, a, b, hk, hT, R => by
    intro S I' u1 u4 w
    obtain ⟨rfl, rfl⟩ := R
    (first | refine rt_eq (q_X12_goes_0) ?_ | refine rt_eq (q_X12_goes_2) ?_ | refine rt_eq (q_X12_goes_104) ?_ | refine rt_eq (q_X12_goes_43) ?_ | refine rt_eq (q_X12_goes_121) ?_ | refine rt_eq (q_X12_goes_87) ?_ | refine rt_eq (q_X12_goes_81) ?_ | refine rt_eq (q_X12_goes_140) ?_ | refine rt_eq (q_X12_goes_144) ?_)
    exact rt_t (Int32.le_refl _) (rt_ret ⟨w, rfl⟩)
  | f + 1, k, dp, s, t, a, b, hk, hT, R => by
    intro S I' u1 u4 w
    have ih := lp_goes (t0 := t0) ok W SS ht M (A := A) (B := B) (C := C) f
    have hab := RW_le _ _ _ _ _ _ R
    have eH : gos h m nL cd T (f + 1) s t S = if t ≤ s then S else if 200 ≤ S.1 then S else if T s 0 = 8 then gos h m nL cd T f (T s 3) t (itr (gos h m nL cd T f (s + 1) (T s 3)) (T s 1) (S.1 + 1, S.2)) else gos h m nL cd T f (T s 3) t (w1 h m nL cd (T s 0) (T s 1) (T s 2) S) := rfl
    rcases R with ⟨rfl, rfl⟩ | ⟨q1, q2, q3, R⟩
    · rw [eH, if_pos (Nat.le_refl s)]
      (first | refine rt_eq (q_X12_goes_0) ?_ | refine rt_eq (q_X12_goes_2) ?_ | refine rt_eq (q_X12_goes_104) ?_ | refine rt_eq (q_X12_goes_43) ?_ | refine rt_eq (q_X12_goes_121) ?_ | refine rt_eq (q_X12_goes_87) ?_ | refine rt_eq (q_X12_goes_81) ?_ | refine rt_eq (q_X12_goes_140) ?_ | refine rt_eq (q_X12_goes_144) ?_)
      exact rt_t (Int32.le_refl _) (rt_ret ⟨w, rfl⟩)
    · rw [if_neg (by omega)] at eH
      obtain ⟨w1', w2, w3, w4, w5, w6⟩ := w
      have hb200 := w3.2.2.1
      (first | refine rt_eq (q_X12_goes_0) ?_ | refine rt_eq (q_X12_goes_2) ?_ | refine rt_eq (q_X12_goes_104) ?_ | refine rt_eq (q_X12_goes_43) ?_ | refine rt_eq (q_X12_goes_121) ?_ | refine rt_eq (q_X12_goes_87) ?_ | refine rt_eq (q_X12_goes_81) ?_ | refine rt_eq (q_X12_goes_140) ?_ | refine rt_eq (q_X12_goes_144) ?_)
      refine rt_f (by (try simp (disch := omega) only [nI_leI, nI_ltI, nI_eq, nI_add, pk_mul, n_0add, Nat.zero_add, nI_clamp]) <;> omega) ?_
      rw [w4]
      by_cases h2 : 200 ≤ S.1
      · rw [eH, if_pos h2]
        exact rt_t (by (try simp (disch := omega) only [nI_leI, nI_ltI, nI_eq, nI_add, pk_mul, n_0add, Nat.zero_add, nI_clamp]) <;> omega) (rt_ret ⟨⟨w1', w2, w3, w4, w5, w6⟩, rfl⟩)
      · rw [if_neg h2] at eH
        obtain ⟨m1, m2, m3, m4⟩ := M s (by omega)
        have hs : s < 80 := by omega
        have gr : ∀ {I2 : MI32}, Fr fGM I I2 → ∀ j, I2 (453 + s) j = I (453 + s) j := fun g j => gm_row hs g
        refine rt_f (by (try simp (disch := omega) only [nI_leI, nI_ltI, nI_eq, nI_add, pk_mul, n_0add, Nat.zero_add, nI_clamp]) <;> omega) (rt_gd (inb_n hs (by decide)) ?_)
        rw [nI_clamp (by omega), up2_n (by omega), gr w1', m1, nI_add]
        have g1 : Fr fGM I (up2 I' 72 41 (nI (S.1 + 1))) := fr_up w1' rfl
        have tl : ∀ (S' : Ws) I2 u4', WM h I I2 S' → Rt L X (runI (runM (d + k + 10)) iX12_goes (144, [some (.ref 72), u1, some (.int (nI t)), some (.int (nI s)), u4'], [], mm L X I2 J)) none (fun I'' J' => WM h I I'' (gos h m nL cd T f (T s 3) t S') ∧ J' = J) := by
          intro S' I2 u4' y
          have R' : ∃ a2 b2, RW (h 0 0) T A B C f dp (T s 3) t a2 b2 := by
            rcases R with ⟨q4, q5, q6, q7, q8, q9⟩ | ⟨q4, q5, q6, q7, c, c1, c2, c3, c4, c5, c6, c7, c8⟩
            · exact ⟨_, _, q8 ▸ q9⟩
            · exact ⟨_, _, c8⟩
          obtain ⟨a2, b2, R2⟩ := R'
          (first | refine rt_eq (q_X12_goes_0) ?_ | refine rt_eq (q_X12_goes_2) ?_ | refine rt_eq (q_X12_goes_104) ?_ | refine rt_eq (q_X12_goes_43) ?_ | refine rt_eq (q_X12_goes_121) ?_ | refine rt_eq (q_X12_goes_87) ?_ | refine rt_eq (q_X12_goes_81) ?_ | refine rt_eq (q_X12_goes_140) ?_ | refine rt_eq (q_X12_goes_144) ?_)
          refine rt_gd (inb_n hs (by decide)) ?_
          rw [nI_clamp (by omega), gr y.1, m4]
          exact ih k dp (T s 3) t a2 b2 hk hT R2 S' I2 _ _ y
        rcases R with ⟨q4, q5, q6, q7, q8, q9⟩ | ⟨q4, q5, q6, q7, c, c1, c2, c3, c4, c5, c6, c7, c8⟩
        · rw [if_neg q4] at eH
          have hk7 := q5.1
          have w' := wl_1 (m := m) (nL := nL) (cd := cd) ok w3 h2 q5
          refine rt_f (by (try simp (disch := omega) only [nI_leI, nI_ltI, nI_eq, nI_add, pk_mul, n_0add, Nat.zero_add, nI_clamp]) <;> omega) ?_
          have S1 := SM_g SS ok g1
          have e5 : (up2 I' 72 41 (nI (S.1 + 1))) 533 = S.2.2.2.2 := by rw [up2_n (by decide), w2]
          refine rt_bnd (sp_does (n := S.2.2.2.1) (r2 := 453 + s) (.inl rfl) S1.1 ok (by rw [e5]; exact w3.1) (by rw [e5]; exact w3.2.1) S1.2 W q5 (ka_row s hs) (by rw [gr g1, m1]) (by rw [gr g1]; exact m2) (by rw [gr g1]; exact m3)) ?_
          rintro I2 J2 ⟨⟨f1, f2⟩, rfl⟩
          rw [e5]
          rw [e5] at f2
          have g2 : Fr fGM I I2 := fr_tr2 g1 f1 fGM1
          have z41 : I2 72 41 = nI (S.1 + 1) := by rw [f1 72 41 rfl, up2_s]
          have z42 : I2 72 42 = nI S.2.1 := by rw [f1 72 42 rfl, up2_k (by decide), w5]
          have z36 : I2 72 36 = nI S.2.2.1 := by rw [f1 72 36 rfl, up2_k (by decide), w6]
          rw [eH]
          (first | refine rt_eq (q_X12_goes_0) ?_ | refine rt_eq (q_X12_goes_2) ?_ | refine rt_eq (q_X12_goes_104) ?_ | refine rt_eq (q_X12_goes_43) ?_ | refine rt_eq (q_X12_goes_121) ?_ | refine rt_eq (q_X12_goes_87) ?_ | refine rt_eq (q_X12_goes_81) ?_ | refine rt_eq (q_X12_goes_140) ?_ | refine rt_eq (q_X12_goes_144) ?_)
          by_cases e : stD h m (T s 0) (T s 1) (T s 2) S.2.2.2.1 S.2.2.2.2 = true
          · have ew : w1 h m nL cd (T s 0) (T s 1) (T s 2) S = (S.1 + 1, S.2.1 + 1, S.2.2.1, st2n h m (T s 0) (T s 1) (T s 2) S.2.2.2.1 S.2.2.2.2, st2N h m nL cd (T s 0) (T s 1) (T s 2) S.2.2.2.1 S.2.2.2.2) := by
              unfold w1
              rw [if_pos e, if_pos e]
              rfl
            rw [e]
            refine rt_f (show ¬ bI true = nI 0 by decide) ?_
            (first | refine rt_eq (q_X12_goes_0) ?_ | refine rt_eq (q_X12_goes_2) ?_ | refine rt_eq (q_X12_goes_104) ?_ | refine rt_eq (q_X12_goes_43) ?_ | refine rt_eq (q_X12_goes_121) ?_ | refine rt_eq (q_X12_goes_87) ?_ | refine rt_eq (q_X12_goes_81) ?_ | refine rt_eq (q_X12_goes_140) ?_ | refine rt_eq (q_X12_goes_144) ?_)
            refine rt_f (show ¬ bI true = nI 0 by decide) ?_
            (first | refine rt_eq (q_X12_goes_0) ?_ | refine rt_eq (q_X12_goes_2) ?_ | refine rt_eq (q_X12_goes_104) ?_ | refine rt_eq (q_X12_goes_43) ?_ | refine rt_eq (q_X12_goes_121) ?_ | refine rt_eq (q_X12_goes_87) ?_ | refine rt_eq (q_X12_goes_81) ?_ | refine rt_eq (q_X12_goes_140) ?_ | refine rt_eq (q_X12_goes_144) ?_)
            rw [z42, up2_k (by decide), z36, nI_add, nI_add]
            refine tl _ _ _ ⟨fr_up (fr_up g2 rfl) rfl, ?_, w', ?_, ?_, ?_⟩
            · rw [up2_n (by decide), up2_n (by decide), f2]
              rfl
            · rw [up2_k (by decide), up2_k (by decide), z41]
              rfl
            · rw [up2_k (by decide), up2_s, ew]
            · rw [up2_s, ew]
              rfl
          · have ew : w1 h m nL cd (T s 0) (T s 1) (T s 2) S = (S.1 + 1, S.2.1, S.2.2.1 + 1, st2n h m (T s 0) (T s 1) (T s 2) S.2.2.2.1 S.2.2.2.2, st2N h m nL cd (T s 0) (T s 1) (T s 2) S.2.2.2.1 S.2.2.2.2) := by
              unfold w1
              rw [if_neg e, if_neg e]
              rfl
            rw [Bool.eq_false_iff.mpr e]
            refine rt_t bI_f ?_
            (first | refine rt_eq (q_X12_goes_0) ?_ | refine rt_eq (q_X12_goes_2) ?_ | refine rt_eq (q_X12_goes_104) ?_ | refine rt_eq (q_X12_goes_43) ?_ | refine rt_eq (q_X12_goes_121) ?_ | refine rt_eq (q_X12_goes_87) ?_ | refine rt_eq (q_X12_goes_81) ?_ | refine rt_eq (q_X12_goes_140) ?_ | refine rt_eq (q_X12_goes_144) ?_)
            refine rt_t bI_f ?_
            (first | refine rt_eq (q_X12_goes_0) ?_ | refine rt_eq (q_X12_goes_2) ?_ | refine rt_eq (q_X12_goes_104) ?_ | refine rt_eq (q_X12_goes_43) ?_ | refine rt_eq (q_X12_goes_121) ?_ | refine rt_eq (q_X12_goes_87) ?_ | refine rt_eq (q_X12_goes_81) ?_ | refine rt_eq (q_X12_goes_140) ?_ | refine rt_eq (q_X12_goes_144) ?_)
            rw [z42, up2_k (by decide), z36, nI_add, nI_add]
            refine tl _ _ _ ⟨fr_up (fr_up g2 rfl) rfl, ?_, w', ?_, ?_, ?_⟩
            · rw [up2_n (by decide), up2_n (by decide), f2]
              rfl
            · rw [up2_k (by decide), up2_k (by decide), z41]
              rfl
            · rw [up2_k (by decide), up2_s, ew]
              rfl
            · rw [up2_s, ew]
        · rw [if_pos q4] at eH
          rw [eH, q4]
          refine rt_t rfl ?_
          obtain ⟨k', rfl⟩ : ∃ k', k = k' + 1 := ⟨k - 1, by omega⟩
          have m2' : I (453 + s) 1 = nI (T s 1) := m2.resolve_left (by omega)
          have inner : ∀ r j (S' : Ws) I2, j + r = T s 1 → itr (gos h m nL cd T f (s + 1) (T s 3)) (T s 1) (S.1 + 1, S.2) = itr (gos h m nL cd T f (s + 1) (T s 3)) r S' → WM h I I2 S' → Rt L X (c_X12_goes_43 (d + (k' + 1) + 10) L X I2 J u1 (nI t) (nI s) (nI j)) none (fun I'' J' => WM h I I'' (gos h m nL cd T f (T s 3) t (itr (gos h m nL cd T f (s + 1) (T s 3)) (T s 1) (S.1 + 1, S.2))) ∧ J' = J) := by
            intro r
            induction r with
            | zero =>
              intro j S' I2 hj y1 y2
              rw [y1]
              (first | refine rt_eq (q_X12_goes_0) ?_ | refine rt_eq (q_X12_goes_2) ?_ | refine rt_eq (q_X12_goes_104) ?_ | refine rt_eq (q_X12_goes_43) ?_ | refine rt_eq (q_X12_goes_121) ?_ | refine rt_eq (q_X12_goes_87) ?_ | refine rt_eq (q_X12_goes_81) ?_ | refine rt_eq (q_X12_goes_140) ?_ | refine rt_eq (q_X12_goes_144) ?_)
              refine rt_gd (inb_n hs (by decide)) ?_
              rw [nI_clamp (by omega), gr y2.1, m2']
              refine rt_t (by (try simp (disch := omega) only [nI_leI, nI_ltI, nI_eq, nI_add, pk_mul, n_0add, Nat.zero_add, nI_clamp]) <;> omega) ?_
              (first | refine rt_eq (q_X12_goes_0) ?_ | refine rt_eq (q_X12_goes_2) ?_ | refine rt_eq (q_X12_goes_104) ?_ | refine rt_eq (q_X12_goes_43) ?_ | refine rt_eq (q_X12_goes_121) ?_ | refine rt_eq (q_X12_goes_87) ?_ | refine rt_eq (q_X12_goes_81) ?_ | refine rt_eq (q_X12_goes_140) ?_ | refine rt_eq (q_X12_goes_144) ?_)
              exact tl S' I2 _ y2
            | succ r ihr =>
              intro j S' I2 hj y1 y2
              have hS2 := y2.2.2.1.2.2.1
              (first | refine rt_eq (q_X12_goes_0) ?_ | refine rt_eq (q_X12_goes_2) ?_ | refine rt_eq (q_X12_goes_104) ?_ | refine rt_eq (q_X12_goes_43) ?_ | refine rt_eq (q_X12_goes_121) ?_ | refine rt_eq (q_X12_goes_87) ?_ | refine rt_eq (q_X12_goes_81) ?_ | refine rt_eq (q_X12_goes_140) ?_ | refine rt_eq (q_X12_goes_144) ?_)
              refine rt_gd (inb_n hs (by decide)) ?_
              rw [nI_clamp (by omega), gr y2.1, m2']
              refine rt_f (by (try simp (disch := omega) only [nI_leI, nI_ltI, nI_eq, nI_add, pk_mul, n_0add, Nat.zero_add, nI_clamp]) <;> omega) ?_
              rw [y2.2.2.2.1]
              by_cases hS : 200 ≤ S'.1
              · refine rt_t (by (try simp (disch := omega) only [nI_leI, nI_ltI, nI_eq, nI_add, pk_mul, n_0add, Nat.zero_add, nI_clamp]) <;> omega) ?_
                rw [y1, itr_full (gos_full hS _ _ _)]
                (first | refine rt_eq (q_X12_goes_0) ?_ | refine rt_eq (q_X12_goes_2) ?_ | refine rt_eq (q_X12_goes_104) ?_ | refine rt_eq (q_X12_goes_43) ?_ | refine rt_eq (q_X12_goes_121) ?_ | refine rt_eq (q_X12_goes_87) ?_ | refine rt_eq (q_X12_goes_81) ?_ | refine rt_eq (q_X12_goes_140) ?_ | refine rt_eq (q_X12_goes_144) ?_)
                exact tl S' I2 _ y2
              · refine rt_f (by (try simp (disch := omega) only [nI_leI, nI_ltI, nI_eq, nI_add, pk_mul, n_0add, Nat.zero_add, nI_clamp]) <;> omega) ?_
                rw [gr y2.1, m4, nI_add]
                have call : Rt L X (runM (d + k' + 10 + 1) nX12_goes [.ref 72, .int (nI (s + 1)), .int (nI (T s 3))] (mm L X I2 J)) none (fun I'' J' => WM h I I'' (gos h m nL cd T f (s + 1) (T s 3) S') ∧ J' = J) := by
                  rw [e_X12_goes]
                  (first | refine rt_eq (q_X12_goes_0) ?_ | refine rt_eq (q_X12_goes_2) ?_ | refine rt_eq (q_X12_goes_104) ?_ | refine rt_eq (q_X12_goes_43) ?_ | refine rt_eq (q_X12_goes_121) ?_ | refine rt_eq (q_X12_goes_87) ?_ | refine rt_eq (q_X12_goes_81) ?_ | refine rt_eq (q_X12_goes_140) ?_ | refine rt_eq (q_X12_goes_144) ?_)
                  exact ih k' (dp + 1) (s + 1) (T s 3) (a + 1) c (by omega) (by omega) c7 S' I2 _ _ y2
                refine rt_bnd call ?_
                rintro I3 J3 ⟨z, rfl⟩
                (first | refine rt_eq (q_X12_goes_0) ?_ | refine rt_eq (q_X12_goes_2) ?_ | refine rt_eq (q_X12_goes_104) ?_ | refine rt_eq (q_X12_goes_43) ?_ | refine rt_eq (q_X12_goes_121) ?_ | refine rt_eq (q_X12_goes_87) ?_ | refine rt_eq (q_X12_goes_81) ?_ | refine rt_eq (q_X12_goes_140) ?_ | refine rt_eq (q_X12_goes_144) ?_)
                rw [nI_add]
                exact ihr (j + 1) _ I3 (by omega) y1 z
          refine inner (T s 1) 0 (S.1 + 1, S.2) _ (by omega) rfl ⟨g1, ?_, wl_b w3 h2, up2_s, ?_, ?_⟩
          · rw [up2_n (by decide), w2]
          · rw [up2_k (by decide), w5]
          · rw [up2_k (by decide), w6]
end WK
