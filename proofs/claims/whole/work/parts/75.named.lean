/-! NAMES ARE READ, BY THE CLASS -/
section NM
variable {d L X : Nat} {I : MI32} {J : MI64} {W : Nat → Nat} {z a : Nat}
def wdH : List (List Nat) := [[112, 105, 101, 99, 101], [99, 111, 108, 108, 97, 114], [102, 105, 114, 101], [104, 111, 112, 101]]
def wdL : List (List Nat) := [[102, 108, 111, 119], [108, 111, 115, 115], [108, 101, 110, 103, 116, 104], [98, 101, 110, 100, 115], [98, 117, 114, 115, 116], [112, 108, 97, 99, 101], [116, 117, 114, 110, 101, 100], [104, 111, 112, 101], [112, 105, 101, 99, 101], [108, 101, 97, 115, 116], [109, 111, 115, 116]]
def wdW : List (List Nat) := [[116, 117, 114, 110], [108, 97, 121], [108, 105, 102, 116], [98, 101, 110, 100], [98, 117, 114, 115, 116], [112, 97, 116, 99, 104], [104, 111, 112, 101], [104, 111, 117, 114], [97, 103, 97, 105, 110]]
def wdS (a : Nat) : List (List Nat) := if a = 1000002 then wdH else if a = 1000004 then wdL else wdW
def flt : List (List Nat) → List Nat
  | [] => []
  | w :: ws => w ++ 32 :: flt ws
/-- the words stand where the class has them -/
def SO (I : MI32) : Prop := ∀ a, os a → ∀ k, k < lsS a → I (a + 1) k = nI ((flt (wdS a)).getD k 0)
theorem fl_len {s : Nat} (h : os s) : (flt (wdS s)).length = lsS s := by
  rcases h with rfl | rfl | rfl <;> rfl
theorem wd_ok {s : Nat} (h : os s) : ∀ w, w ∈ wdS s → ∀ c, c ∈ w → 97 ≤ c ∧ c ≤ 122 := by
  rcases h with rfl | rfl | rfl <;> decide +kernel
def mt (W : Nat → Nat) (e : Nat) : List Nat → Nat → Bool
  | [], _ => true
  | c :: w, p => (decide (p < e) && decide (W p = c)) && mt W e w (p + 1)
/-- which word stands from t to e: -1 none -/
def plA (W : Nat → Nat) (t e : Nat) : List (List Nat) → Nat → Int32
  | [], _ => -1
  | w :: ws, i => if mt W e w t = true ∧ t + w.length = e then nI i else plA W t e ws (i + 1)
theorem gd_len {l r : List Nat} {c : Nat} : (l ++ c :: r).getD l.length 0 = c := by
  rw [List.getD_eq_getElem?_getD, List.getElem?_append_right (Nat.le_refl _), Nat.sub_self]
  rfl
theorem lp_word {s i e : Nat} {rr : Option Value} {Q : MI32 → MI64 → Prop} (h : os s) (O : SO I) (B : BC I W) (h5 : I 1 5 = nI e) (he : e ≤ 600) : ∀ (w pre rest : List Nat) (p : Nat) (al : Bool), flt (wdS s) = pre ++ (w ++ 32 :: rest) → (∀ c, c ∈ w → 97 ≤ c ∧ c ≤ 122) → p + w.length < 10000 → Rt L X (c_X7_placeAmong_13 (d + 4) L X I J s (nI i) (nI (p + w.length)) (bI (al && mt W e w p)) (nI (pre.length + w.length))) rr Q → Rt L X (c_X7_placeAmong_13 (d + 4) L X I J s (nI i) (nI p) (bI al) (nI pre.length)) rr Q
  | [], pre, rest, p, al, es, hw, hp, k => by
    have e1 : (al && mt W e [] p) = al := Bool.and_true al
    rw [e1] at k
    exact k
  | c :: w, pre, rest, p, al, es, hw, hp, k => by
    rw [List.length_cons] at hp
    have ih := lp_word (s := s) (i := i) (e := e) (rr := rr) (Q := Q) h O B h5 he w (pre ++ [c]) rest (p + 1)
    have hl : lsS s < 100 := by
      rcases h with rfl | rfl | rfl <;> decide
    have hlen : pre.length + (w.length + 1 + (rest.length + 1)) = lsS s := by
      rw [← fl_len h, es]
      simp
      omega
    have hc := hw c (List.mem_cons_self)
    have eI : I (s + 1) pre.length = nI c := by
      rw [O s h pre.length (by omega), es, List.cons_append, gd_len]
    have es2 : flt (wdS s) = (pre ++ [c]) ++ (w ++ 32 :: rest) := by
      rw [es]
      simp
    have el : (pre ++ [c]).length = pre.length + 1 := by simp
    have ch := sp_charAt (d := d) (L := L) (X := X) (J := J) h (k := pre.length) (c := c) (by omega) (by omega) eI
    have tail : ∀ b : Bool, b = (al && (decide (p < e) && decide (W p = c))) → Rt L X (runI (runM (d + 4)) iX7_placeAmong (65, [some (.ref 1), some (.ref s), some (.int (nI i)), some (.int (nI p)), some (.int (bI al)), some (.int (nI pre.length))], [.int (bI b)], mm L X I J)) rr Q := by
      intro b hb
      (first | refine rt_eq (q_X7_placeAmong_0 (by first | assumption | rfl | exact .inl rfl | exact .inr rfl)) ?_ | refine rt_eq (q_X7_placeAmong_13 (by first | assumption | rfl | exact .inl rfl | exact .inr rfl)) ?_ | refine rt_eq (q_X7_placeAmong_19 (by first | assumption | rfl | exact .inl rfl | exact .inr rfl)) ?_ | refine rt_eq (q_X7_placeAmong_28 (by first | assumption | rfl | exact .inl rfl | exact .inr rfl)) ?_ | refine rt_eq (q_X7_placeAmong_88 (by first | assumption | rfl | exact .inl rfl | exact .inr rfl)) ?_ | refine rt_eq (q_X7_placeAmong_64 (by first | assumption | rfl | exact .inl rfl | exact .inr rfl)) ?_ | refine rt_eq (q_X7_placeAmong_51 (by first | assumption | rfl | exact .inl rfl | exact .inr rfl)) ?_ | refine rt_eq (q_X7_placeAmong_99 (by first | assumption | rfl | exact .inl rfl | exact .inr rfl)) ?_ | refine rt_eq (q_X7_placeAmong_65 (by first | assumption | rfl | exact .inl rfl | exact .inr rfl)) ?_ | refine rt_eq (q_X7_placeAmong_57 (by first | assumption | rfl | exact .inl rfl | exact .inr rfl)) ?_)
      (first | refine rt_eq (q_X7_placeAmong_0 (by first | assumption | rfl | exact .inl rfl | exact .inr rfl)) ?_ | refine rt_eq (q_X7_placeAmong_13 (by first | assumption | rfl | exact .inl rfl | exact .inr rfl)) ?_ | refine rt_eq (q_X7_placeAmong_19 (by first | assumption | rfl | exact .inl rfl | exact .inr rfl)) ?_ | refine rt_eq (q_X7_placeAmong_28 (by first | assumption | rfl | exact .inl rfl | exact .inr rfl)) ?_ | refine rt_eq (q_X7_placeAmong_88 (by first | assumption | rfl | exact .inl rfl | exact .inr rfl)) ?_ | refine rt_eq (q_X7_placeAmong_64 (by first | assumption | rfl | exact .inl rfl | exact .inr rfl)) ?_ | refine rt_eq (q_X7_placeAmong_51 (by first | assumption | rfl | exact .inl rfl | exact .inr rfl)) ?_ | refine rt_eq (q_X7_placeAmong_99 (by first | assumption | rfl | exact .inl rfl | exact .inr rfl)) ?_ | refine rt_eq (q_X7_placeAmong_65 (by first | assumption | rfl | exact .inl rfl | exact .inr rfl)) ?_ | refine rt_eq (q_X7_placeAmong_57 (by first | assumption | rfl | exact .inl rfl | exact .inr rfl)) ?_)
      rw [nI_add, nI_add, ← el]
      refine ih b es2 (fun x hx => hw x (List.mem_cons_of_mem _ hx)) (by omega) ?_
      have e3 : (b && mt W e w (p + 1)) = (al && mt W e (c :: w) p) := by
        rw [hb, Bool.and_assoc]
        rfl
      rw [e3, el, show p + 1 + w.length = p + (c :: w).length by simp; omega, show pre.length + 1 + w.length = pre.length + (c :: w).length by simp; omega]
      exact k
    (first | refine rt_eq (q_X7_placeAmong_0 (by first | assumption | rfl | exact .inl rfl | exact .inr rfl)) ?_ | refine rt_eq (q_X7_placeAmong_13 (by first | assumption | rfl | exact .inl rfl | exact .inr rfl)) ?_ | refine rt_eq (q_X7_placeAmong_19 (by first | assumption | rfl | exact .inl rfl | exact .inr rfl)) ?_ | refine rt_eq (q_X7_placeAmong_28 (by first | assumption | rfl | exact .inl rfl | exact .inr rfl)) ?_ | refine rt_eq (q_X7_placeAmong_88 (by first | assumption | rfl | exact .inl rfl | exact .inr rfl)) ?_ | refine rt_eq (q_X7_placeAmong_64 (by first | assumption | rfl | exact .inl rfl | exact .inr rfl)) ?_ | refine rt_eq (q_X7_placeAmong_51 (by first | assumption | rfl | exact .inl rfl | exact .inr rfl)) ?_ | refine rt_eq (q_X7_placeAmong_99 (by first | assumption | rfl | exact .inl rfl | exact .inr rfl)) ?_ | refine rt_eq (q_X7_placeAmong_65 (by first | assumption | rfl | exact .inl rfl | exact .inr rfl)) ?_ | refine rt_eq (q_X7_placeAmong_57 (by first | assumption | rfl | exact .inl rfl | exact .inr rfl)) ?_)
    refine rt_bne (sp_length h) ?_
    (first | refine rt_eq (q_X7_placeAmong_0 (by first | assumption | rfl | exact .inl rfl | exact .inr rfl)) ?_ | refine rt_eq (q_X7_placeAmong_13 (by first | assumption | rfl | exact .inl rfl | exact .inr rfl)) ?_ | refine rt_eq (q_X7_placeAmong_19 (by first | assumption | rfl | exact .inl rfl | exact .inr rfl)) ?_ | refine rt_eq (q_X7_placeAmong_28 (by first | assumption | rfl | exact .inl rfl | exact .inr rfl)) ?_ | refine rt_eq (q_X7_placeAmong_88 (by first | assumption | rfl | exact .inl rfl | exact .inr rfl)) ?_ | refine rt_eq (q_X7_placeAmong_64 (by first | assumption | rfl | exact .inl rfl | exact .inr rfl)) ?_ | refine rt_eq (q_X7_placeAmong_51 (by first | assumption | rfl | exact .inl rfl | exact .inr rfl)) ?_ | refine rt_eq (q_X7_placeAmong_99 (by first | assumption | rfl | exact .inl rfl | exact .inr rfl)) ?_ | refine rt_eq (q_X7_placeAmong_65 (by first | assumption | rfl | exact .inl rfl | exact .inr rfl)) ?_ | refine rt_eq (q_X7_placeAmong_57 (by first | assumption | rfl | exact .inl rfl | exact .inr rfl)) ?_)
    refine rt_f (by (try simp (disch := omega) only [nI_leI, nI_ltI, nI_eq, nI_add, pk_mul, n_0add, Nat.zero_add, nI_clamp]) <;> omega) (rt_bne ch ?_)
    (first | refine rt_eq (q_X7_placeAmong_0 (by first | assumption | rfl | exact .inl rfl | exact .inr rfl)) ?_ | refine rt_eq (q_X7_placeAmong_13 (by first | assumption | rfl | exact .inl rfl | exact .inr rfl)) ?_ | refine rt_eq (q_X7_placeAmong_19 (by first | assumption | rfl | exact .inl rfl | exact .inr rfl)) ?_ | refine rt_eq (q_X7_placeAmong_28 (by first | assumption | rfl | exact .inl rfl | exact .inr rfl)) ?_ | refine rt_eq (q_X7_placeAmong_88 (by first | assumption | rfl | exact .inl rfl | exact .inr rfl)) ?_ | refine rt_eq (q_X7_placeAmong_64 (by first | assumption | rfl | exact .inl rfl | exact .inr rfl)) ?_ | refine rt_eq (q_X7_placeAmong_51 (by first | assumption | rfl | exact .inl rfl | exact .inr rfl)) ?_ | refine rt_eq (q_X7_placeAmong_99 (by first | assumption | rfl | exact .inl rfl | exact .inr rfl)) ?_ | refine rt_eq (q_X7_placeAmong_65 (by first | assumption | rfl | exact .inl rfl | exact .inr rfl)) ?_ | refine rt_eq (q_X7_placeAmong_57 (by first | assumption | rfl | exact .inl rfl | exact .inr rfl)) ?_)
    refine rt_f (by (try simp (disch := omega) only [nI_leI, nI_ltI, nI_eq, nI_add, pk_mul, n_0add, Nat.zero_add, nI_clamp]) <;> omega) ?_
    cases al with
    | false =>
      refine rt_t bI_f ?_
      (first | refine rt_eq (q_X7_placeAmong_0 (by first | assumption | rfl | exact .inl rfl | exact .inr rfl)) ?_ | refine rt_eq (q_X7_placeAmong_13 (by first | assumption | rfl | exact .inl rfl | exact .inr rfl)) ?_ | refine rt_eq (q_X7_placeAmong_19 (by first | assumption | rfl | exact .inl rfl | exact .inr rfl)) ?_ | refine rt_eq (q_X7_placeAmong_28 (by first | assumption | rfl | exact .inl rfl | exact .inr rfl)) ?_ | refine rt_eq (q_X7_placeAmong_88 (by first | assumption | rfl | exact .inl rfl | exact .inr rfl)) ?_ | refine rt_eq (q_X7_placeAmong_64 (by first | assumption | rfl | exact .inl rfl | exact .inr rfl)) ?_ | refine rt_eq (q_X7_placeAmong_51 (by first | assumption | rfl | exact .inl rfl | exact .inr rfl)) ?_ | refine rt_eq (q_X7_placeAmong_99 (by first | assumption | rfl | exact .inl rfl | exact .inr rfl)) ?_ | refine rt_eq (q_X7_placeAmong_65 (by first | assumption | rfl | exact .inl rfl | exact .inr rfl)) ?_ | refine rt_eq (q_X7_placeAmong_57 (by first | assumption | rfl | exact .inl rfl | exact .inr rfl)) ?_)
      exact tail false (by simp)
    | true =>
      refine rt_f (show ¬ bI true = nI 0 by decide) ?_
      rw [h5]
      by_cases q : p < e
      · refine rt_f (by (try simp (disch := omega) only [nI_leI, nI_ltI, nI_eq, nI_add, pk_mul, n_0add, Nat.zero_add, nI_clamp]) <;> omega) (rt_be (sp_byteC B (by omega)) ?_)
        (first | refine rt_eq (q_X7_placeAmong_0 (by first | assumption | rfl | exact .inl rfl | exact .inr rfl)) ?_ | refine rt_eq (q_X7_placeAmong_13 (by first | assumption | rfl | exact .inl rfl | exact .inr rfl)) ?_ | refine rt_eq (q_X7_placeAmong_19 (by first | assumption | rfl | exact .inl rfl | exact .inr rfl)) ?_ | refine rt_eq (q_X7_placeAmong_28 (by first | assumption | rfl | exact .inl rfl | exact .inr rfl)) ?_ | refine rt_eq (q_X7_placeAmong_88 (by first | assumption | rfl | exact .inl rfl | exact .inr rfl)) ?_ | refine rt_eq (q_X7_placeAmong_64 (by first | assumption | rfl | exact .inl rfl | exact .inr rfl)) ?_ | refine rt_eq (q_X7_placeAmong_51 (by first | assumption | rfl | exact .inl rfl | exact .inr rfl)) ?_ | refine rt_eq (q_X7_placeAmong_99 (by first | assumption | rfl | exact .inl rfl | exact .inr rfl)) ?_ | refine rt_eq (q_X7_placeAmong_65 (by first | assumption | rfl | exact .inl rfl | exact .inr rfl)) ?_ | refine rt_eq (q_X7_placeAmong_57 (by first | assumption | rfl | exact .inl rfl | exact .inr rfl)) ?_)
        refine rt_bne ch ?_
        (first | refine rt_eq (q_X7_placeAmong_0 (by first | assumption | rfl | exact .inl rfl | exact .inr rfl)) ?_ | refine rt_eq (q_X7_placeAmong_13 (by first | assumption | rfl | exact .inl rfl | exact .inr rfl)) ?_ | refine rt_eq (q_X7_placeAmong_19 (by first | assumption | rfl | exact .inl rfl | exact .inr rfl)) ?_ | refine rt_eq (q_X7_placeAmong_28 (by first | assumption | rfl | exact .inl rfl | exact .inr rfl)) ?_ | refine rt_eq (q_X7_placeAmong_88 (by first | assumption | rfl | exact .inl rfl | exact .inr rfl)) ?_ | refine rt_eq (q_X7_placeAmong_64 (by first | assumption | rfl | exact .inl rfl | exact .inr rfl)) ?_ | refine rt_eq (q_X7_placeAmong_51 (by first | assumption | rfl | exact .inl rfl | exact .inr rfl)) ?_ | refine rt_eq (q_X7_placeAmong_99 (by first | assumption | rfl | exact .inl rfl | exact .inr rfl)) ?_ | refine rt_eq (q_X7_placeAmong_65 (by first | assumption | rfl | exact .inl rfl | exact .inr rfl)) ?_ | refine rt_eq (q_X7_placeAmong_57 (by first | assumption | rfl | exact .inl rfl | exact .inr rfl)) ?_)
        have hb := (B p (by omega)).2
        by_cases q2 : W p = c
        · refine rt_t (by rw [q2]) ?_
          exact tail true (by simp [q, q2])
        · refine rt_f (by (try simp (disch := omega) only [nI_leI, nI_ltI, nI_eq, nI_add, pk_mul, n_0add, Nat.zero_add, nI_clamp]) <;> omega) ?_
          (first | refine rt_eq (q_X7_placeAmong_0 (by first | assumption | rfl | exact .inl rfl | exact .inr rfl)) ?_ | refine rt_eq (q_X7_placeAmong_13 (by first | assumption | rfl | exact .inl rfl | exact .inr rfl)) ?_ | refine rt_eq (q_X7_placeAmong_19 (by first | assumption | rfl | exact .inl rfl | exact .inr rfl)) ?_ | refine rt_eq (q_X7_placeAmong_28 (by first | assumption | rfl | exact .inl rfl | exact .inr rfl)) ?_ | refine rt_eq (q_X7_placeAmong_88 (by first | assumption | rfl | exact .inl rfl | exact .inr rfl)) ?_ | refine rt_eq (q_X7_placeAmong_64 (by first | assumption | rfl | exact .inl rfl | exact .inr rfl)) ?_ | refine rt_eq (q_X7_placeAmong_51 (by first | assumption | rfl | exact .inl rfl | exact .inr rfl)) ?_ | refine rt_eq (q_X7_placeAmong_99 (by first | assumption | rfl | exact .inl rfl | exact .inr rfl)) ?_ | refine rt_eq (q_X7_placeAmong_65 (by first | assumption | rfl | exact .inl rfl | exact .inr rfl)) ?_ | refine rt_eq (q_X7_placeAmong_57 (by first | assumption | rfl | exact .inl rfl | exact .inr rfl)) ?_)
          exact tail false (by simp [q2])
      · refine rt_t (by (try simp (disch := omega) only [nI_leI, nI_ltI, nI_eq, nI_add, pk_mul, n_0add, Nat.zero_add, nI_clamp]) <;> omega) ?_
        (first | refine rt_eq (q_X7_placeAmong_0 (by first | assumption | rfl | exact .inl rfl | exact .inr rfl)) ?_ | refine rt_eq (q_X7_placeAmong_13 (by first | assumption | rfl | exact .inl rfl | exact .inr rfl)) ?_ | refine rt_eq (q_X7_placeAmong_19 (by first | assumption | rfl | exact .inl rfl | exact .inr rfl)) ?_ | refine rt_eq (q_X7_placeAmong_28 (by first | assumption | rfl | exact .inl rfl | exact .inr rfl)) ?_ | refine rt_eq (q_X7_placeAmong_88 (by first | assumption | rfl | exact .inl rfl | exact .inr rfl)) ?_ | refine rt_eq (q_X7_placeAmong_64 (by first | assumption | rfl | exact .inl rfl | exact .inr rfl)) ?_ | refine rt_eq (q_X7_placeAmong_51 (by first | assumption | rfl | exact .inl rfl | exact .inr rfl)) ?_ | refine rt_eq (q_X7_placeAmong_99 (by first | assumption | rfl | exact .inl rfl | exact .inr rfl)) ?_ | refine rt_eq (q_X7_placeAmong_65 (by first | assumption | rfl | exact .inl rfl | exact .inr rfl)) ?_ | refine rt_eq (q_X7_placeAmong_57 (by first | assumption | rfl | exact .inl rfl | exact .inr rfl)) ?_)
        exact tail false (by simp [q])
theorem lp_words {s t e : Nat} (h : os s) (O : SO I) (B : BC I W) (h5 : I 1 5 = nI e) (h7 : I 1 7 = nI t) (he : e ≤ 600) (ht : t ≤ 600) : ∀ (ws : List (List Nat)) (pre : List Nat) (i : Nat), flt (wdS s) = pre ++ flt ws → (∀ w, w ∈ ws → w ∈ wdS s) → Rt L X (c_X7_placeAmong_13 (d + 4) L X I J s (nI i) (nI t) (nI 1) (nI pre.length)) (some (.int (plA W t e ws i))) (fun I' J' => I' = I ∧ J' = J)
  | [], pre, i, es, hw => by
    have hlen : pre.length = lsS s := by
      rw [← fl_len h, es]
      simp [flt]
    have hl : lsS s < 100 := by
      rcases h with rfl | rfl | rfl <;> decide
    (first | refine rt_eq (q_X7_placeAmong_0 (by first | assumption | rfl | exact .inl rfl | exact .inr rfl)) ?_ | refine rt_eq (q_X7_placeAmong_13 (by first | assumption | rfl | exact .inl rfl | exact .inr rfl)) ?_ | refine rt_eq (q_X7_placeAmong_19 (by first | assumption | rfl | exact .inl rfl | exact .inr rfl)) ?_ | refine rt_eq (q_X7_placeAmong_28 (by first | assumption | rfl | exact .inl rfl | exact .inr rfl)) ?_ | refine rt_eq (q_X7_placeAmong_88 (by first | assumption | rfl | exact .inl rfl | exact .inr rfl)) ?_ | refine rt_eq (q_X7_placeAmong_64 (by first | assumption | rfl | exact .inl rfl | exact .inr rfl)) ?_ | refine rt_eq (q_X7_placeAmong_51 (by first | assumption | rfl | exact .inl rfl | exact .inr rfl)) ?_ | refine rt_eq (q_X7_placeAmong_99 (by first | assumption | rfl | exact .inl rfl | exact .inr rfl)) ?_ | refine rt_eq (q_X7_placeAmong_65 (by first | assumption | rfl | exact .inl rfl | exact .inr rfl)) ?_ | refine rt_eq (q_X7_placeAmong_57 (by first | assumption | rfl | exact .inl rfl | exact .inr rfl)) ?_)
    refine rt_bne (sp_length h) ?_
    (first | refine rt_eq (q_X7_placeAmong_0 (by first | assumption | rfl | exact .inl rfl | exact .inr rfl)) ?_ | refine rt_eq (q_X7_placeAmong_13 (by first | assumption | rfl | exact .inl rfl | exact .inr rfl)) ?_ | refine rt_eq (q_X7_placeAmong_19 (by first | assumption | rfl | exact .inl rfl | exact .inr rfl)) ?_ | refine rt_eq (q_X7_placeAmong_28 (by first | assumption | rfl | exact .inl rfl | exact .inr rfl)) ?_ | refine rt_eq (q_X7_placeAmong_88 (by first | assumption | rfl | exact .inl rfl | exact .inr rfl)) ?_ | refine rt_eq (q_X7_placeAmong_64 (by first | assumption | rfl | exact .inl rfl | exact .inr rfl)) ?_ | refine rt_eq (q_X7_placeAmong_51 (by first | assumption | rfl | exact .inl rfl | exact .inr rfl)) ?_ | refine rt_eq (q_X7_placeAmong_99 (by first | assumption | rfl | exact .inl rfl | exact .inr rfl)) ?_ | refine rt_eq (q_X7_placeAmong_65 (by first | assumption | rfl | exact .inl rfl | exact .inr rfl)) ?_ | refine rt_eq (q_X7_placeAmong_57 (by first | assumption | rfl | exact .inl rfl | exact .inr rfl)) ?_)
    exact rt_t (by (try simp (disch := omega) only [nI_leI, nI_ltI, nI_eq, nI_add, pk_mul, n_0add, Nat.zero_add, nI_clamp]) <;> omega) (rt_ret ⟨rfl, rfl⟩)
  | w :: ws, pre, i, es, hw => by
    have ih := lp_words (s := s) (t := t) (e := e) h O B h5 h7 he ht ws (pre ++ w ++ [32]) (i + 1)
    have hl : lsS s < 100 := by
      rcases h with rfl | rfl | rfl <;> decide
    have es1 : flt (wdS s) = pre ++ (w ++ 32 :: flt ws) := es
    have es2 : flt (wdS s) = (pre ++ w) ++ 32 :: flt ws := by
      rw [es1]
      simp
    have es3 : flt (wdS s) = (pre ++ w ++ [32]) ++ flt ws := by
      rw [es1]
      simp
    have hlen : pre.length + w.length + 1 + (flt ws).length = lsS s := by
      rw [← fl_len h, es3]
      simp
      omega
    have el : (pre ++ w).length = pre.length + w.length := by simp
    have el2 : (pre ++ w ++ [32]).length = pre.length + w.length + 1 := by simp; omega
    refine lp_word (al := true) h O B h5 he w pre (flt ws) t es1 (fun c hc => wd_ok h w (hw w List.mem_cons_self) c hc) (by omega) ?_
    rw [Bool.true_and]
    have eI : I (s + 1) (pre.length + w.length) = nI 32 := by
      rw [O s h _ (by omega), es2, ← el, gd_len]
    (first | refine rt_eq (q_X7_placeAmong_0 (by first | assumption | rfl | exact .inl rfl | exact .inr rfl)) ?_ | refine rt_eq (q_X7_placeAmong_13 (by first | assumption | rfl | exact .inl rfl | exact .inr rfl)) ?_ | refine rt_eq (q_X7_placeAmong_19 (by first | assumption | rfl | exact .inl rfl | exact .inr rfl)) ?_ | refine rt_eq (q_X7_placeAmong_28 (by first | assumption | rfl | exact .inl rfl | exact .inr rfl)) ?_ | refine rt_eq (q_X7_placeAmong_88 (by first | assumption | rfl | exact .inl rfl | exact .inr rfl)) ?_ | refine rt_eq (q_X7_placeAmong_64 (by first | assumption | rfl | exact .inl rfl | exact .inr rfl)) ?_ | refine rt_eq (q_X7_placeAmong_51 (by first | assumption | rfl | exact .inl rfl | exact .inr rfl)) ?_ | refine rt_eq (q_X7_placeAmong_99 (by first | assumption | rfl | exact .inl rfl | exact .inr rfl)) ?_ | refine rt_eq (q_X7_placeAmong_65 (by first | assumption | rfl | exact .inl rfl | exact .inr rfl)) ?_ | refine rt_eq (q_X7_placeAmong_57 (by first | assumption | rfl | exact .inl rfl | exact .inr rfl)) ?_)
    refine rt_bne (sp_length h) ?_
    (first | refine rt_eq (q_X7_placeAmong_0 (by first | assumption | rfl | exact .inl rfl | exact .inr rfl)) ?_ | refine rt_eq (q_X7_placeAmong_13 (by first | assumption | rfl | exact .inl rfl | exact .inr rfl)) ?_ | refine rt_eq (q_X7_placeAmong_19 (by first | assumption | rfl | exact .inl rfl | exact .inr rfl)) ?_ | refine rt_eq (q_X7_placeAmong_28 (by first | assumption | rfl | exact .inl rfl | exact .inr rfl)) ?_ | refine rt_eq (q_X7_placeAmong_88 (by first | assumption | rfl | exact .inl rfl | exact .inr rfl)) ?_ | refine rt_eq (q_X7_placeAmong_64 (by first | assumption | rfl | exact .inl rfl | exact .inr rfl)) ?_ | refine rt_eq (q_X7_placeAmong_51 (by first | assumption | rfl | exact .inl rfl | exact .inr rfl)) ?_ | refine rt_eq (q_X7_placeAmong_99 (by first | assumption | rfl | exact .inl rfl | exact .inr rfl)) ?_ | refine rt_eq (q_X7_placeAmong_65 (by first | assumption | rfl | exact .inl rfl | exact .inr rfl)) ?_ | refine rt_eq (q_X7_placeAmong_57 (by first | assumption | rfl | exact .inl rfl | exact .inr rfl)) ?_)
    refine rt_f (by (try simp (disch := omega) only [nI_leI, nI_ltI, nI_eq, nI_add, pk_mul, n_0add, Nat.zero_add, nI_clamp]) <;> omega) (rt_bne (sp_charAt h (k := pre.length + w.length) (c := 32) (by omega) (by decide) eI) ?_)
    (first | refine rt_eq (q_X7_placeAmong_0 (by first | assumption | rfl | exact .inl rfl | exact .inr rfl)) ?_ | refine rt_eq (q_X7_placeAmong_13 (by first | assumption | rfl | exact .inl rfl | exact .inr rfl)) ?_ | refine rt_eq (q_X7_placeAmong_19 (by first | assumption | rfl | exact .inl rfl | exact .inr rfl)) ?_ | refine rt_eq (q_X7_placeAmong_28 (by first | assumption | rfl | exact .inl rfl | exact .inr rfl)) ?_ | refine rt_eq (q_X7_placeAmong_88 (by first | assumption | rfl | exact .inl rfl | exact .inr rfl)) ?_ | refine rt_eq (q_X7_placeAmong_64 (by first | assumption | rfl | exact .inl rfl | exact .inr rfl)) ?_ | refine rt_eq (q_X7_placeAmong_51 (by first | assumption | rfl | exact .inl rfl | exact .inr rfl)) ?_ | refine rt_eq (q_X7_placeAmong_99 (by first | assumption | rfl | exact .inl rfl | exact .inr rfl)) ?_ | refine rt_eq (q_X7_placeAmong_65 (by first | assumption | rfl | exact .inl rfl | exact .inr rfl)) ?_ | refine rt_eq (q_X7_placeAmong_57 (by first | assumption | rfl | exact .inl rfl | exact .inr rfl)) ?_)
    refine rt_t rfl ?_
    have go : ¬ (mt W e w t = true ∧ t + w.length = e) → Rt L X (runI (runM (d + 4)) iX7_placeAmong (88, [some (.ref 1), some (.ref s), some (.int (nI i)), some (.int (nI (t + w.length))), some (.int (bI (mt W e w t))), some (.int (nI (pre.length + w.length)))], [], mm L X I J)) (some (.int (plA W t e (w :: ws) i))) (fun I' J' => I' = I ∧ J' = J) := by
      intro q
      have ep : plA W t e (w :: ws) i = plA W t e ws (i + 1) := if_neg q
      rw [ep]
      (first | refine rt_eq (q_X7_placeAmong_0 (by first | assumption | rfl | exact .inl rfl | exact .inr rfl)) ?_ | refine rt_eq (q_X7_placeAmong_13 (by first | assumption | rfl | exact .inl rfl | exact .inr rfl)) ?_ | refine rt_eq (q_X7_placeAmong_19 (by first | assumption | rfl | exact .inl rfl | exact .inr rfl)) ?_ | refine rt_eq (q_X7_placeAmong_28 (by first | assumption | rfl | exact .inl rfl | exact .inr rfl)) ?_ | refine rt_eq (q_X7_placeAmong_88 (by first | assumption | rfl | exact .inl rfl | exact .inr rfl)) ?_ | refine rt_eq (q_X7_placeAmong_64 (by first | assumption | rfl | exact .inl rfl | exact .inr rfl)) ?_ | refine rt_eq (q_X7_placeAmong_51 (by first | assumption | rfl | exact .inl rfl | exact .inr rfl)) ?_ | refine rt_eq (q_X7_placeAmong_99 (by first | assumption | rfl | exact .inl rfl | exact .inr rfl)) ?_ | refine rt_eq (q_X7_placeAmong_65 (by first | assumption | rfl | exact .inl rfl | exact .inr rfl)) ?_ | refine rt_eq (q_X7_placeAmong_57 (by first | assumption | rfl | exact .inl rfl | exact .inr rfl)) ?_)
      (first | refine rt_eq (q_X7_placeAmong_0 (by first | assumption | rfl | exact .inl rfl | exact .inr rfl)) ?_ | refine rt_eq (q_X7_placeAmong_13 (by first | assumption | rfl | exact .inl rfl | exact .inr rfl)) ?_ | refine rt_eq (q_X7_placeAmong_19 (by first | assumption | rfl | exact .inl rfl | exact .inr rfl)) ?_ | refine rt_eq (q_X7_placeAmong_28 (by first | assumption | rfl | exact .inl rfl | exact .inr rfl)) ?_ | refine rt_eq (q_X7_placeAmong_88 (by first | assumption | rfl | exact .inl rfl | exact .inr rfl)) ?_ | refine rt_eq (q_X7_placeAmong_64 (by first | assumption | rfl | exact .inl rfl | exact .inr rfl)) ?_ | refine rt_eq (q_X7_placeAmong_51 (by first | assumption | rfl | exact .inl rfl | exact .inr rfl)) ?_ | refine rt_eq (q_X7_placeAmong_99 (by first | assumption | rfl | exact .inl rfl | exact .inr rfl)) ?_ | refine rt_eq (q_X7_placeAmong_65 (by first | assumption | rfl | exact .inl rfl | exact .inr rfl)) ?_ | refine rt_eq (q_X7_placeAmong_57 (by first | assumption | rfl | exact .inl rfl | exact .inr rfl)) ?_)
      rw [h7, nI_add, nI_add, ← el2]
      exact ih es3 (fun x hx => hw x (List.mem_cons_of_mem _ hx))
    cases em : mt W e w t with
    | false =>
      refine rt_t bI_f ?_
      rw [em] at go
      exact go (fun q => absurd q.1 (by decide))
    | true =>
      rw [em] at go
      refine rt_f (show ¬ bI true = nI 0 by decide) ?_
      rw [h5]
      by_cases q : t + w.length = e
      · refine rt_t (by rw [q]) ?_
        have ep : plA W t e (w :: ws) i = nI i := if_pos ⟨em, q⟩
        rw [ep]
        exact rt_ret ⟨rfl, rfl⟩
      · refine rt_f (by (try simp (disch := omega) only [nI_leI, nI_ltI, nI_eq, nI_add, pk_mul, n_0add, Nat.zero_add, nI_clamp]) <;> omega) ?_
        exact go (fun q2 => q q2.2)
end NM
