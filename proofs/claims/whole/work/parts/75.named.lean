/-! NAMES ARE READ, BY THE CLASS -/
section NM
variable {d L X : Nat} {I : MI32} {J : MI64} {W : Nat → Nat} {z a : Nat}
def wdH : List (List Nat) := [[112, 105, 101, 99, 101], [99, 111, 108, 108, 97, 114], [102, 105, 114, 101], [104, 111, 112, 101]]
def wdL : List (List Nat) := [[102, 108, 111, 119], [108, 111, 115, 115], [108, 101, 110, 103, 116, 104], [98, 101, 110, 100, 115], [98, 117, 114, 115, 116], [112, 108, 97, 99, 101], [116, 117, 114, 110, 101, 100], [104, 111, 112, 101], [112, 105, 101, 99, 101], [108, 101, 97, 115, 116], [109, 111, 115, 116]]
def wdW : List (List Nat) := [[116, 117, 114, 110], [108, 97, 121], [108, 105, 102, 116], [98, 101, 110, 100], [98, 117, 114, 115, 116], [112, 97, 116, 99, 104], [104, 111, 112, 101], [104, 111, 117, 114], [97, 103, 97, 105, 110]]
def wdS (a : Nat) : List (List Nat) := if a = 1000002 then wdH else if a = 1000004 then wdL else wdW
def flt : List (List Nat) → List Nat
  | [] => []
  | w :: ws => w ++ 32 :: flt ws
/-- the words stand where the class has them -/
def SO (I : MI32) : Prop := ∀ a, os a → ∀ k, k < lsS a → I (a + 1) k = nI ((flt (wdS a)).getD k 0)
theorem fl_len {s : Nat} (h : os s) : (flt (wdS s)).length = lsS s := by
  rcases h with rfl | rfl | rfl <;> rfl
theorem wd_ok {s : Nat} (h : os s) : ∀ w, w ∈ wdS s → ∀ c, c ∈ w → 97 ≤ c ∧ c ≤ 122 := by
  rcases h with rfl | rfl | rfl <;> decide +kernel
def mt (W : Nat → Nat) (e : Nat) : List Nat → Nat → Bool
  | [], _ => true
  | c :: w, p => (decide (p < e) && decide (W p = c)) && mt W e w (p + 1)
/-- which word stands from t to e: -1 none -/
def plA (W : Nat → Nat) (t e : Nat) : List (List Nat) → Nat → Int32
  | [], _ => -1
  | w :: ws, i => if mt W e w t = true ∧ t + w.length = e then nI i else plA W t e ws (i + 1)
theorem gd_len {l r : List Nat} {c : Nat} : (l ++ c :: r).getD l.length 0 = c := by
  rw [List.getD_eq_getElem?_getD, List.getElem?_append_right (Nat.le_refl _), Nat.sub_self]
  rfl
theorem lp_word {s i e : Nat} {rr : Option Value} {Q : MI32 → MI64 → Prop} (h : os s) (O : SO I) (B : BC I W) (h5 : I 1 5 = nI e) (he : e ≤ 600) : ∀ (w pre rest : List Nat) (p : Nat) (al : Bool), flt (wdS s) = pre ++ (w ++ 32 :: rest) → (∀ c, c ∈ w → 97 ≤ c ∧ c ≤ 122) → p + w.length < 10000 → Rt L X (c_X7_placeAmong_13 (d + 4) L X I J s (nI i) (nI (p + w.length)) (bI (al && mt W e w p)) (nI (pre.length + w.length))) rr Q → Rt L X (c_X7_placeAmong_13 (d + 4) L X I J s (nI i) (nI p) (bI al) (nI pre.length)) rr Q
  | [], pre, rest, p, al, es, hw, hp, k => by
    have e1 : (al && mt W e [] p) = al := Bool.and_true al
    rw [e1] at k
    exact k
  | c :: w, pre, rest, p, al, es, hw, hp, k => by
    rw [List.length_cons] at hp
    have ih := lp_word (s := s) (i := i) (e := e) (rr := rr) (Q := Q) h O B h5 he w (pre ++ [c]) rest (p + 1)
    have hl : lsS s < 100 := by
      rcases h with rfl | rfl | rfl <;> decide
    have hlen : pre.length + (w.length + 1 + (rest.length + 1)) = lsS s := by
      rw [← fl_len h, es]
      simp
      omega
    have hc := hw c (List.mem_cons_self)
    have eI : I (s + 1) pre.length = nI c := by
      rw [O s h pre.length (by omega), es, List.cons_append, gd_len]
    have es2 : flt (wdS s) = (pre ++ [c]) ++ (w ++ 32 :: rest) := by
      rw [es]
      simp
    have el : (pre ++ [c]).length = pre.length + 1 := by simp
    have ch := sp_charAt (d := d) (L := L) (X := X) (J := J) h (k := pre.length) (c := c) (by omega) (by omega) eI
    have tail : ∀ b : Bool, b = (al && (decide (p < e) && decide (W p = c))) → Rt L X (runI (runM (d + 4)) iX7_placeAmong (65, [some (.ref 1), some (.ref s), some (.int (nI i)), some (.int (nI p)), some (.int (bI al)), some (.int (nI pre.length))], [.int (bI b)], mm L X I J)) rr Q := by
      intro b hb
      (first | refine rt_eq (q_X7_placeAmong_0 (by first | assumption | rfl | exact .inl rfl | exact .inr rfl)) ?_ | refine rt_eq (q_X7_placeAmong_13 (by first | assumption | rfl | exact .inl rfl | exact .inr rfl)) ?_ | refine rt_eq (q_X7_placeAmong_19 (by first | assumption | rfl | exact .inl rfl | exact .inr rfl)) ?_ | refine rt_eq (q_X7_placeAmong_28 (by first | assumption | rfl | exact .inl rfl | exact .inr rfl)) ?_ | refine rt_eq (q_X7_placeAmong_88 (by first | assumption | rfl | exact .inl rfl | exact .inr rfl)) ?_ | refine rt_eq (q_X7_placeAmong_64 (by first | assumption | rfl | exact .inl rfl | exact .inr rfl)) ?_ | refine rt_eq (q_X7_placeAmong_51 (by first | assumption | rfl | exact .inl rfl | exact .inr rfl)) ?_ | refine rt_eq (q_X7_placeAmong_99 (by first | assumption | rfl | exact .inl rfl | exact .inr rfl)) ?_ | refine rt_eq (q_X7_placeAmong_65 (by first | assumption | rfl | exact .inl rfl | exact .inr rfl)) ?_ | refine rt_eq (q_X7_placeAmong_57 (by first | assumption | rfl | exact .inl rfl | exact .inr rfl)) ?_)
      (first | refine rt_eq (q_X7_placeAmong_0 (by first | assumption | rfl | exact .inl rfl | exact .inr rfl)) ?_ | refine rt_eq (q_X7_placeAmong_13 (by first | assumption | rfl | exact .inl rfl | exact .inr rfl)) ?_ | refine rt_eq (q_X7_placeAmong_19 (by first | assumption | rfl | exact .inl rfl | exact .inr rfl)) ?_ | refine rt_eq (q_X7_placeAmong_28 (by first | assumption | rfl | exact .inl rfl | exact .inr rfl)) ?_ | refine rt_eq (q_X7_placeAmong_88 (by first | assumption | rfl | exact .inl rfl | exact .inr rfl)) ?_ | refine rt_eq (q_X7_placeAmong_64 (by first | assumption | rfl | exact .inl rfl | exact .inr rfl)) ?_ | refine rt_eq (q_X7_placeAmong_51 (by first | assumption | rfl | exact .inl rfl | exact .inr rfl)) ?_ | refine rt_eq (q_X7_placeAmong_99 (by first | assumption | rfl | exact .inl rfl | exact .inr rfl)) ?_ | refine rt_eq (q_X7_placeAmong_65 (by first | assumption | rfl | exact .inl rfl | exact .inr rfl)) ?_ | refine rt_eq (q_X7_placeAmong_57 (by first | assumption | rfl | exact .inl rfl | exact .inr rfl)) ?_)
      rw [nI_add, nI_add, ← el]
      refine ih b es2 (fun x hx => hw x (List.mem_cons_of_mem _ hx)) (by omega) ?_
      have e3 : (b && mt W e w (p + 1)) = (al && mt W e (c :: w) p) := by
        rw [hb, Bool.and_assoc]
        rfl
      rw [e3, el, show p + 1 + w.length = p + (c :: w).length by simp; omega, show pre.length + 1 + w.length = pre.length + (c :: w).length by simp; omega]
      exact k
    (first | refine rt_eq (q_X7_placeAmong_0 (by first | assumption | rfl | exact .inl rfl | exact .inr rfl)) ?_ | refine rt_eq (q_X7_placeAmong_13 (by first | assumption | rfl | exact .inl rfl | exact .inr rfl)) ?_ | refine rt_eq (q_X7_placeAmong_19 (by first | assumption | rfl | exact .inl rfl | exact .inr rfl)) ?_ | refine rt_eq (q_X7_placeAmong_28 (by first | assumption | rfl | exact .inl rfl | exact .inr rfl)) ?_ | refine rt_eq (q_X7_placeAmong_88 (by first | assumption | rfl | exact .inl rfl | exact .inr rfl)) ?_ | refine rt_eq (q_X7_placeAmong_64 (by first | assumption | rfl | exact .inl rfl | exact .inr rfl)) ?_ | refine rt_eq (q_X7_placeAmong_51 (by first | assumption | rfl | exact .inl rfl | exact .inr rfl)) ?_ | refine rt_eq (q_X7_placeAmong_99 (by first | assumption | rfl | exact .inl rfl | exact .inr rfl)) ?_ | refine rt_eq (q_X7_placeAmong_65 (by first | assumption | rfl | exact .inl rfl | exact .inr rfl)) ?_ | refine rt_eq (q_X7_placeAmong_57 (by first | assumption | rfl | exact .inl rfl | exact .inr rfl)) ?_)
    refine rt_bne (sp_length h) ?_
    (first | refine rt_eq (q_X7_placeAmong_0 (by first | assumption | rfl | exact .inl rfl | exact .inr rfl)) ?_ | refine rt_eq (q_X7_placeAmong_13 (by first | assumption | rfl | exact .inl rfl | exact .inr rfl)) ?_ | refine rt_eq (q_X7_placeAmong_19 (by first | assumption | rfl | exact .inl rfl | exact .inr rfl)) ?_ | refine rt_eq (q_X7_placeAmong_28 (by first | assumption | rfl | exact .inl rfl | exact .inr rfl)) ?_ | refine rt_eq (q_X7_placeAmong_88 (by first | assumption | rfl | exact .inl rfl | exact .inr rfl)) ?_ | refine rt_eq (q_X7_placeAmong_64 (by first | assumption | rfl | exact .inl rfl | exact .inr rfl)) ?_ | refine rt_eq (q_X7_placeAmong_51 (by first | assumption | rfl | exact .inl rfl | exact .inr rfl)) ?_ | refine rt_eq (q_X7_placeAmong_99 (by first | assumption | rfl | exact .inl rfl | exact .inr rfl)) ?_ | refine rt_eq (q_X7_placeAmong_65 (by first | assumption | rfl | exact .inl rfl | exact .inr rfl)) ?_ | refine rt_eq (q_X7_placeAmong_57 (by first | assumption | rfl | exact .inl rfl | exact .inr rfl)) ?_)
    refine rt_f (by (try simp (disch := omega) only [nI_leI, nI_ltI, nI_eq, nI_add, pk_mul, n_0add, Nat.zero_add, nI_clamp]) <;> omega) (rt_bne ch ?_)
    (first | refine rt_eq (q_X7_placeAmong_0 (by first | assumption | rfl | exact .inl rfl | exact .inr rfl)) ?_ | refine rt_eq (q_X7_placeAmong_13 (by first | assumption | rfl | exact .inl rfl | exact .inr rfl)) ?_ | refine rt_eq (q_X7_placeAmong_19 (by first | assumption | rfl | exact .inl rfl | exact .inr rfl)) ?_ | refine rt_eq (q_X7_placeAmong_28 (by first | assumption | rfl | exact .inl rfl | exact .inr rfl)) ?_ | refine rt_eq (q_X7_placeAmong_88 (by first | assumption | rfl | exact .inl rfl | exact .inr rfl)) ?_ | refine rt_eq (q_X7_placeAmong_64 (by first | assumption | rfl | exact .inl rfl | exact .inr rfl)) ?_ | refine rt_eq (q_X7_placeAmong_51 (by first | assumption | rfl | exact .inl rfl | exact .inr rfl)) ?_ | refine rt_eq (q_X7_placeAmong_99 (by first | assumption | rfl | exact .inl rfl | exact .inr rfl)) ?_ | refine rt_eq (q_X7_placeAmong_65 (by first | assumption | rfl | exact .inl rfl | exact .inr rfl)) ?_ | refine rt_eq (q_X7_placeAmong_57 (by first | assumption | rfl | exact .inl rfl | exact .inr rfl)) ?_)
    refine rt_f (by (try simp (disch := omega) only [nI_leI, nI_ltI, nI_eq, nI_add, pk_mul, n_0add, Nat.zero_add, nI_clamp]) <;> omega) ?_
    cases al with
    | false =>
      refine rt_t bI_f ?_
      (first | refine rt_eq (q_X7_placeAmong_0 (by first | assumption | rfl | exact .inl rfl | exact .inr rfl)) ?_ | refine rt_eq (q_X7_placeAmong_13 (by first | assumption | rfl | exact .inl rfl | exact .inr rfl)) ?_ | refine rt_eq (q_X7_placeAmong_19 (by first | assumption | rfl | exact .inl rfl | exact .inr rfl)) ?_ | refine rt_eq (q_X7_placeAmong_28 (by first | assumption | rfl | exact .inl rfl | exact .inr rfl)) ?_ | refine rt_eq (q_X7_placeAmong_88 (by first | assumption | rfl | exact .inl rfl | exact .inr rfl)) ?_ | refine rt_eq (q_X7_placeAmong_64 (by first | assumption | rfl | exact .inl rfl | exact .inr rfl)) ?_ | refine rt_eq (q_X7_placeAmong_51 (by first | assumption | rfl | exact .inl rfl | exact .inr rfl)) ?_ | refine rt_eq (q_X7_placeAmong_99 (by first | assumption | rfl | exact .inl rfl | exact .inr rfl)) ?_ | refine rt_eq (q_X7_placeAmong_65 (by first | assumption | rfl | exact .inl rfl | exact .inr rfl)) ?_ | refine rt_eq (q_X7_placeAmong_57 (by first | assumption | rfl | exact .inl rfl | exact .inr rfl)) ?_)
      exact tail false (by simp)
    | true =>
      refine rt_f (show ¬ bI true = nI 0 by decide) ?_
      rw [h5]
      by_cases q : p < e
      · refine rt_f (by (try simp (disch := omega) only [nI_leI, nI_ltI, nI_eq, nI_add, pk_mul, n_0add, Nat.zero_add, nI_clamp]) <;> omega) (rt_be (sp_byteC B (by omega)) ?_)
        (first | refine rt_eq (q_X7_placeAmong_0 (by first | assumption | rfl | exact .inl rfl | exact .inr rfl)) ?_ | refine rt_eq (q_X7_placeAmong_13 (by first | assumption | rfl | exact .inl rfl | exact .inr rfl)) ?_ | refine rt_eq (q_X7_placeAmong_19 (by first | assumption | rfl | exact .inl rfl | exact .inr rfl)) ?_ | refine rt_eq (q_X7_placeAmong_28 (by first | assumption | rfl | exact .inl rfl | exact .inr rfl)) ?_ | refine rt_eq (q_X7_placeAmong_88 (by first | assumption | rfl | exact .inl rfl | exact .inr rfl)) ?_ | refine rt_eq (q_X7_placeAmong_64 (by first | assumption | rfl | exact .inl rfl | exact .inr rfl)) ?_ | refine rt_eq (q_X7_placeAmong_51 (by first | assumption | rfl | exact .inl rfl | exact .inr rfl)) ?_ | refine rt_eq (q_X7_placeAmong_99 (by first | assumption | rfl | exact .inl rfl | exact .inr rfl)) ?_ | refine rt_eq (q_X7_placeAmong_65 (by first | assumption | rfl | exact .inl rfl | exact .inr rfl)) ?_ | refine rt_eq (q_X7_placeAmong_57 (by first | assumption | rfl | exact .inl rfl | exact .inr rfl)) ?_)
        refine rt_bne ch ?_
        (first | refine rt_eq (q_X7_placeAmong_0 (by first | assumption | rfl | exact .inl rfl | exact .inr rfl)) ?_ | refine rt_eq (q_X7_placeAmong_13 (by first | assumption | rfl | exact .inl rfl | exact .inr rfl)) ?_ | refine rt_eq (q_X7_placeAmong_19 (by first | assumption | rfl | exact .inl rfl | exact .inr rfl)) ?_ | refine rt_eq (q_X7_placeAmong_28 (by first | assumption | rfl | exact .inl rfl | exact .inr rfl)) ?_ | refine rt_eq (q_X7_placeAmong_88 (by first | assumption | rfl | exact .inl rfl | exact .inr rfl)) ?_ | refine rt_eq (q_X7_placeAmong_64 (by first | assumption | rfl | exact .inl rfl | exact .inr rfl)) ?_ | refine rt_eq (q_X7_placeAmong_51 (by first | assumption | rfl | exact .inl rfl | exact .inr rfl)) ?_ | refine rt_eq (q_X7_placeAmong_99 (by first | assumption | rfl | exact .inl rfl | exact .inr rfl)) ?_ | refine rt_eq (q_X7_placeAmong_65 (by first | assumption | rfl | exact .inl rfl | exact .inr rfl)) ?_ | refine rt_eq (q_X7_placeAmong_57 (by first | assumption | rfl | exact .inl rfl | exact .inr rfl)) ?_)
        have hb := (B p (by omega)).2
        by_cases q2 : W p = c
        · refine rt_t (by rw [q2]) ?_
          exact tail true (by simp [q, q2])
        · refine rt_f (by (try simp (disch := omega) only [nI_leI, nI_ltI, nI_eq, nI_add, pk_mul, n_0add, Nat.zero_add, nI_clamp]) <;> omega) ?_
          (first | refine rt_eq (q_X7_placeAmong_0 (by first | assumption | rfl | exact .inl rfl | exact .inr rfl)) ?_ | refine rt_eq (q_X7_placeAmong_13 (by first | assumption | rfl | exact .inl rfl | exact .inr rfl)) ?_ | refine rt_eq (q_X7_placeAmong_19 (by first | assumption | rfl | exact .inl rfl | exact .inr rfl)) ?_ | refine rt_eq (q_X7_placeAmong_28 (by first | assumption | rfl | exact .inl rfl | exact .inr rfl)) ?_ | refine rt_eq (q_X7_placeAmong_88 (by first | assumption | rfl | exact .inl rfl | exact .inr rfl)) ?_ | refine rt_eq (q_X7_placeAmong_64 (by first | assumption | rfl | exact .inl rfl | exact .inr rfl)) ?_ | refine rt_eq (q_X7_placeAmong_51 (by first | assumption | rfl | exact .inl rfl | exact .inr rfl)) ?_ | refine rt_eq (q_X7_placeAmong_99 (by first | assumption | rfl | exact .inl rfl | exact .inr rfl)) ?_ | refine rt_eq (q_X7_placeAmong_65 (by first | assumption | rfl | exact .inl rfl | exact .inr rfl)) ?_ | refine rt_eq (q_X7_placeAmong_57 (by first | assumption | rfl | exact .inl rfl | exact .inr rfl)) ?_)
          exact tail false (by simp [q2])
      · refine rt_t (by (try simp (disch := omega) only [nI_leI, nI_ltI, nI_eq, nI_add, pk_mul, n_0add, Nat.zero_add, nI_clamp]) <;> omega) ?_
        (first | refine rt_eq (q_X7_placeAmong_0 (by first | assumption | rfl | exact .inl rfl | exact .inr rfl)) ?_ | refine rt_eq (q_X7_placeAmong_13 (by first | assumption | rfl | exact .inl rfl | exact .inr rfl)) ?_ | refine rt_eq (q_X7_placeAmong_19 (by first | assumption | rfl | exact .inl rfl | exact .inr rfl)) ?_ | refine rt_eq (q_X7_placeAmong_28 (by first | assumption | rfl | exact .inl rfl | exact .inr rfl)) ?_ | refine rt_eq (q_X7_placeAmong_88 (by first | assumption | rfl | exact .inl rfl | exact .inr rfl)) ?_ | refine rt_eq (q_X7_placeAmong_64 (by first | assumption | rfl | exact .inl rfl | exact .inr rfl)) ?_ | refine rt_eq (q_X7_placeAmong_51 (by first | assumption | rfl | exact .inl rfl | exact .inr rfl)) ?_ | refine rt_eq (q_X7_placeAmong_99 (by first | assumption | rfl | exact .inl rfl | exact .inr rfl)) ?_ | refine rt_eq (q_X7_placeAmong_65 (by first | assumption | rfl | exact .inl rfl | exact .inr rfl)) ?_ | refine rt_eq (q_X7_placeAmong_57 (by first | assumption | rfl | exact .inl rfl | exact .inr rfl)) ?_)
        exact tail false (by simp [q])
theorem lp_words {s t e : Nat} (h : os s) (O : SO I) (B : BC I W) (h5 : I 1 5 = nI e) (h7 : I 1 7 = nI t) (he : e ≤ 600) (ht : t ≤ 600) : ∀ (ws : List (List Nat)) (pre : List Nat) (i : Nat), flt (wdS s) = pre ++ flt ws → (∀ w, w ∈ ws → w ∈ wdS s) → Rt L X (c_X7_placeAmong_13 (d + 4) L X I J s (nI i) (nI t) (nI 1) (nI pre.length)) (some (.int (plA W t e ws i))) (fun I' J' => I' = I ∧ J' = J)
  | [], pre, i, es, hw => by
    have hlen : pre.length = lsS s := by
      rw [← fl_len h, es]
      simp [flt]
    have hl : lsS s < 100 := by
      rcases h with rfl | rfl | rfl <;> decide
    (first | refine rt_eq (q_X7_placeAmong_0 (by first | assumption | rfl | exact .inl rfl | exact .inr rfl)) ?_ | refine rt_eq (q_X7_placeAmong_13 (by first | assumption | rfl | exact .inl rfl | exact .inr rfl)) ?_ | refine rt_eq (q_X7_placeAmong_19 (by first | assumption | rfl | exact .inl rfl | exact .inr rfl)) ?_ | refine rt_eq (q_X7_placeAmong_28 (by first | assumption | rfl | exact .inl rfl | exact .inr rfl)) ?_ | refine rt_eq (q_X7_placeAmong_88 (by first | assumption | rfl | exact .inl rfl | exact .inr rfl)) ?_ | refine rt_eq (q_X7_placeAmong_64 (by first | assumption | rfl | exact .inl rfl | exact .inr rfl)) ?_ | refine rt_eq (q_X7_placeAmong_51 (by first | assumption | rfl | exact .inl rfl | exact .inr rfl)) ?_ | refine rt_eq (q_X7_placeAmong_99 (by first | assumption | rfl | exact .inl rfl | exact .inr rfl)) ?_ | refine rt_eq (q_X7_placeAmong_65 (by first | assumption | rfl | exact .inl rfl | exact .inr rfl)) ?_ | refine rt_eq (q_X7_placeAmong_57 (by first | assumption | rfl | exact .inl rfl | exact .inr rfl)) ?_)
    refine rt_bne (sp_length h) ?_
    (first | refine rt_eq (q_X7_placeAmong_0 (by first | assumption | rfl | exact .inl rfl | exact .inr rfl)) ?_ | refine rt_eq (q_X7_placeAmong_13 (by first | assumption | rfl | exact .inl rfl | exact .inr rfl)) ?_ | refine rt_eq (q_X7_placeAmong_19 (by first | assumption | rfl | exact .inl rfl | exact .inr rfl)) ?_ | refine rt_eq (q_X7_placeAmong_28 (by first | assumption | rfl | exact .inl rfl | exact .inr rfl)) ?_ | refine rt_eq (q_X7_placeAmong_88 (by first | assumption | rfl | exact .inl rfl | exact .inr rfl)) ?_ | refine rt_eq (q_X7_placeAmong_64 (by first | assumption | rfl | exact .inl rfl | exact .inr rfl)) ?_ | refine rt_eq (q_X7_placeAmong_51 (by first | assumption | rfl | exact .inl rfl | exact .inr rfl)) ?_ | refine rt_eq (q_X7_placeAmong_99 (by first | assumption | rfl | exact .inl rfl | exact .inr rfl)) ?_ | refine rt_eq (q_X7_placeAmong_65 (by first | assumption | rfl | exact .inl rfl | exact .inr rfl)) ?_ | refine rt_eq (q_X7_placeAmong_57 (by first | assumption | rfl | exact .inl rfl | exact .inr rfl)) ?_)
    exact rt_t (by (try simp (disch := omega) only [nI_leI, nI_ltI, nI_eq, nI_add, pk_mul, n_0add, Nat.zero_add, nI_clamp]) <;> omega) (rt_ret ⟨rfl, rfl⟩)
  | w :: ws, pre, i, es, hw => by
    have ih := lp_words (s := s) (t := t) (e := e) h O B h5 h7 he ht ws (pre ++ w ++ [32]) (i + 1)
    have hl : lsS s < 100 := by
      rcases h with rfl | rfl | rfl <;> decide
    have es1 : flt (wdS s) = pre ++ (w ++ 32 :: flt ws) := es
    have es2 : flt (wdS s) = (pre ++ w) ++ 32 :: flt ws := by
      rw [es1]
      simp
    have es3 : flt (wdS s) = (pre ++ w ++ [32]) ++ flt ws := by
      rw [es1]
      simp
    have hlen : pre.length + w.length + 1 + (flt ws).length = lsS s := by
      rw [← fl_len h, es3]
      simp
      omega
    have el : (pre ++ w).length = pre.length + w.length := by simp
    have el2 : (pre ++ w ++ [32]).length = pre.length + w.length + 1 := by simp; omega
    refine lp_word (al := true) h O B h5 he w pre (flt ws) t es1 (fun c hc => wd_ok h w (hw w List.mem_cons_self) c hc) (by omega) ?_
    rw [Bool.true_and]
    have eI : I (s + 1) (pre.length + w.length) = nI 32 := by
      rw [O s h _ (by omega), es2, ← el, gd_len]
    (first | refine rt_eq (q_X7_placeAmong_0 (by first | assumption | rfl | exact .inl rfl | exact .inr rfl)) ?_ | refine rt_eq (q_X7_placeAmong_13 (by first | assumption | rfl | exact .inl rfl | exact .inr rfl)) ?_ | refine rt_eq (q_X7_placeAmong_19 (by first | assumption | rfl | exact .inl rfl | exact .inr rfl)) ?_ | refine rt_eq (q_X7_placeAmong_28 (by first | assumption | rfl | exact .inl rfl | exact .inr rfl)) ?_ | refine rt_eq (q_X7_placeAmong_88 (by first | assumption | rfl | exact .inl rfl | exact .inr rfl)) ?_ | refine rt_eq (q_X7_placeAmong_64 (by first | assumption | rfl | exact .inl rfl | exact .inr rfl)) ?_ | refine rt_eq (q_X7_placeAmong_51 (by first | assumption | rfl | exact .inl rfl | exact .inr rfl)) ?_ | refine rt_eq (q_X7_placeAmong_99 (by first | assumption | rfl | exact .inl rfl | exact .inr rfl)) ?_ | refine rt_eq (q_X7_placeAmong_65 (by first | assumption | rfl | exact .inl rfl | exact .inr rfl)) ?_ | refine rt_eq (q_X7_placeAmong_57 (by first | assumption | rfl | exact .inl rfl | exact .inr rfl)) ?_)
    refine rt_bne (sp_length h) ?_
    (first | refine rt_eq (q_X7_placeAmong_0 (by first | assumption | rfl | exact .inl rfl | exact .inr rfl)) ?_ | refine rt_eq (q_X7_placeAmong_13 (by first | assumption | rfl | exact .inl rfl | exact .inr rfl)) ?_ | refine rt_eq (q_X7_placeAmong_19 (by first | assumption | rfl | exact .inl rfl | exact .inr rfl)) ?_ | refine rt_eq (q_X7_placeAmong_28 (by first | assumption | rfl | exact .inl rfl | exact .inr rfl)) ?_ | refine rt_eq (q_X7_placeAmong_88 (by first | assumption | rfl | exact .inl rfl | exact .inr rfl)) ?_ | refine rt_eq (q_X7_placeAmong_64 (by first | assumption | rfl | exact .inl rfl | exact .inr rfl)) ?_ | refine rt_eq (q_X7_placeAmong_51 (by first | assumption | rfl | exact .inl rfl | exact .inr rfl)) ?_ | refine rt_eq (q_X7_placeAmong_99 (by first | assumption | rfl | exact .inl rfl | exact .inr rfl)) ?_ | refine rt_eq (q_X7_placeAmong_65 (by first | assumption | rfl | exact .inl rfl | exact .inr rfl)) ?_ | refine rt_eq (q_X7_placeAmong_57 (by first | assumption | rfl | exact .inl rfl | exact .inr rfl)) ?_)
    refine rt_f (by (try simp (disch := omega) only [nI_leI, nI_ltI, nI_eq, nI_add, pk_mul, n_0add, Nat.zero_add, nI_clamp]) <;> omega) (rt_bne (sp_charAt h (k := pre.length + w.length) (c := 32) (by omega) (by decide) eI) ?_)
    (first | refine rt_eq (q_X7_placeAmong_0 (by first | assumption | rfl | exact .inl rfl | exact .inr rfl)) ?_ | refine rt_eq (q_X7_placeAmong_13 (by first | assumption | rfl | exact .inl rfl | exact .inr rfl)) ?_ | refine rt_eq (q_X7_placeAmong_19 (by first | assumption | rfl | exact .inl rfl | exact .inr rfl)) ?_ | refine rt_eq (q_X7_placeAmong_28 (by first | assumption | rfl | exact .inl rfl | exact .inr rfl)) ?_ | refine rt_eq (q_X7_placeAmong_88 (by first | assumption | rfl | exact .inl rfl | exact .inr rfl)) ?_ | refine rt_eq (q_X7_placeAmong_64 (by first | assumption | rfl | exact .inl rfl | exact .inr rfl)) ?_ | refine rt_eq (q_X7_placeAmong_51 (by first | assumption | rfl | exact .inl rfl | exact .inr rfl)) ?_ | refine rt_eq (q_X7_placeAmong_99 (by first | assumption | rfl | exact .inl rfl | exact .inr rfl)) ?_ | refine rt_eq (q_X7_placeAmong_65 (by first | assumption | rfl | exact .inl rfl | exact .inr rfl)) ?_ | refine rt_eq (q_X7_placeAmong_57 (by first | assumption | rfl | exact .inl rfl | exact .inr rfl)) ?_)
    refine rt_t rfl ?_
    have go : ¬ (mt W e w t = true ∧ t + w.length = e) → Rt L X (runI (runM (d + 4)) iX7_placeAmong (88, [some (.ref 1), some (.ref s), some (.int (nI i)), some (.int (nI (t + w.length))), some (.int (bI (mt W e w t))), some (.int (nI (pre.length + w.length)))], [], mm L X I J)) (some (.int (plA W t e (w :: ws) i))) (fun I' J' => I' = I ∧ J' = J) := by
      intro q
      have ep : plA W t e (w :: ws) i = plA W t e ws (i + 1) := if_neg q
      rw [ep]
      (first | refine rt_eq (q_X7_placeAmong_0 (by first | assumption | rfl | exact .inl rfl | exact .inr rfl)) ?_ | refine rt_eq (q_X7_placeAmong_13 (by first | assumption | rfl | exact .inl rfl | exact .inr rfl)) ?_ | refine rt_eq (q_X7_placeAmong_19 (by first | assumption | rfl | exact .inl rfl | exact .inr rfl)) ?_ | refine rt_eq (q_X7_placeAmong_28 (by first | assumption | rfl | exact .inl rfl | exact .inr rfl)) ?_ | refine rt_eq (q_X7_placeAmong_88 (by first | assumption | rfl | exact .inl rfl | exact .inr rfl)) ?_ | refine rt_eq (q_X7_placeAmong_64 (by first | assumption | rfl | exact .inl rfl | exact .inr rfl)) ?_ | refine rt_eq (q_X7_placeAmong_51 (by first | assumption | rfl | exact .inl rfl | exact .inr rfl)) ?_ | refine rt_eq (q_X7_placeAmong_99 (by first | assumption | rfl | exact .inl rfl | exact .inr rfl)) ?_ | refine rt_eq (q_X7_placeAmong_65 (by first | assumption | rfl | exact .inl rfl | exact .inr rfl)) ?_ | refine rt_eq (q_X7_placeAmong_57 (by first | assumption | rfl | exact .inl rfl | exact .inr rfl)) ?_)
      (first | refine rt_eq (q_X7_placeAmong_0 (by first | assumption | rfl | exact .inl rfl | exact .inr rfl)) ?_ | refine rt_eq (q_X7_placeAmong_13 (by first | assumption | rfl | exact .inl rfl | exact .inr rfl)) ?_ | refine rt_eq (q_X7_placeAmong_19 (by first | assumption | rfl | exact .inl rfl | exact .inr rfl)) ?_ | refine rt_eq (q_X7_placeAmong_28 (by first | assumption | rfl | exact .inl rfl | exact .inr rfl)) ?_ | refine rt_eq (q_X7_placeAmong_88 (by first | assumption | rfl | exact .inl rfl | exact .inr rfl)) ?_ | refine rt_eq (q_X7_placeAmong_64 (by first | assumption | rfl | exact .inl rfl | exact .inr rfl)) ?_ | refine rt_eq (q_X7_placeAmong_51 (by first | assumption | rfl | exact .inl rfl | exact .inr rfl)) ?_ | refine rt_eq (q_X7_placeAmong_99 (by first | assumption | rfl | exact .inl rfl | exact .inr rfl)) ?_ | refine rt_eq (q_X7_placeAmong_65 (by first | assumption | rfl | exact .inl rfl | exact .inr rfl)) ?_ | refine rt_eq (q_X7_placeAmong_57 (by first | assumption | rfl | exact .inl rfl | exact .inr rfl)) ?_)
      rw [h7, nI_add, nI_add, ← el2]
      exact ih es3 (fun x hx => hw x (List.mem_cons_of_mem _ hx))
    cases em : mt W e w t with
    | false =>
      refine rt_t bI_f ?_
      rw [em] at go
      exact go (fun q => absurd q.1 (by decide))
    | true =>
      rw [em] at go
      refine rt_f (show ¬ bI true = nI 0 by decide) ?_
      rw [h5]
      by_cases q : t + w.length = e
      · refine rt_t (by rw [q]) ?_
        have ep : plA W t e (w :: ws) i = nI i := if_pos ⟨em, q⟩
        rw [ep]
        exact rt_ret ⟨rfl, rfl⟩
      · refine rt_f (by (try simp (disch := omega) only [nI_leI, nI_ltI, nI_eq, nI_add, pk_mul, n_0add, Nat.zero_add, nI_clamp]) <;> omega) ?_
        exact go (fun q2 => q q2.2)
theorem pg_X7_named : PG[nX7_named]? = some pe_X7_named := rfl
theorem pg_X7_placeAmong : PG[nX7_placeAmong]? = some pe_X7_placeAmong := rfl
theorem e_X7_placeAmong {s : Nat} {m : AM} : runM (d + 1) nX7_placeAmong [.ref 1, .ref s] m = runI (runM d) iX7_placeAmong (0, [some (.ref 1), some (.ref s), none, none, none, none], [], m) := runM_of pg_X7_placeAmong (Nat.le_of_ble_eq_true rfl) rfl
theorem e_X7_named {s : Nat} {m : AM} : runM (d + 1) nX7_named [.ref 1, .ref s] m = runI (runM d) iX7_named (0, [some (.ref 1), some (.ref s), none], [], m) := runM_of pg_X7_named (Nat.le_of_ble_eq_true rfl) rfl
theorem sp_placeAmong {s t e : Nat} (h : os s) (O : SO I) (B : BC I W) (h5 : I 1 5 = nI e) (h7 : I 1 7 = nI t) (he : e ≤ 600) (ht : t ≤ 600) : Rt L X (runM (d + 5) nX7_placeAmong [.ref 1, .ref s] (mm L X I J)) (some (.int (plA W t e (wdS s) 0))) (fun I' J' => I' = I ∧ J' = J) := by
  rw [e_X7_placeAmong]
  (first | refine rt_eq (q_X7_placeAmong_0 (by first | assumption | rfl | exact .inl rfl | exact .inr rfl)) ?_ | refine rt_eq (q_X7_placeAmong_13 (by first | assumption | rfl | exact .inl rfl | exact .inr rfl)) ?_ | refine rt_eq (q_X7_placeAmong_19 (by first | assumption | rfl | exact .inl rfl | exact .inr rfl)) ?_ | refine rt_eq (q_X7_placeAmong_28 (by first | assumption | rfl | exact .inl rfl | exact .inr rfl)) ?_ | refine rt_eq (q_X7_placeAmong_88 (by first | assumption | rfl | exact .inl rfl | exact .inr rfl)) ?_ | refine rt_eq (q_X7_placeAmong_64 (by first | assumption | rfl | exact .inl rfl | exact .inr rfl)) ?_ | refine rt_eq (q_X7_placeAmong_51 (by first | assumption | rfl | exact .inl rfl | exact .inr rfl)) ?_ | refine rt_eq (q_X7_placeAmong_99 (by first | assumption | rfl | exact .inl rfl | exact .inr rfl)) ?_ | refine rt_eq (q_X7_placeAmong_65 (by first | assumption | rfl | exact .inl rfl | exact .inr rfl)) ?_ | refine rt_eq (q_X7_placeAmong_57 (by first | assumption | rfl | exact .inl rfl | exact .inr rfl)) ?_)
  rw [h7]
  exact lp_words h O B h5 h7 he ht (wdS s) [] 0 rfl (fun _ q => q)
theorem plA_or {t e : Nat} : ∀ ws i, plA W t e ws i = -1 ∨ ∃ j, plA W t e ws i = nI (i + j) ∧ j < ws.length
  | [], i => .inl rfl
  | w :: ws, i => by
    unfold plA
    by_cases q : mt W e w t = true ∧ t + w.length = e
    · rw [if_pos q]
      exact .inr ⟨0, rfl, by simp⟩
    · rw [if_neg q]
      rcases plA_or ws (i + 1) with q1 | ⟨j, q1, q2⟩
      · exact .inl q1
      · exact .inr ⟨j + 1, by rw [q1, show i + 1 + j = i + (j + 1) by omega], by simp; omega⟩
/-- where the word that stands here ends -/
def wE (W : Nat → Nat) (z a : Nat) : Nat := adv (isS W) (z - sk W z a) (sk W z a)
theorem wE_le (h : a ≤ z) : sk W z a ≤ wE W z a ∧ wE W z a ≤ z := by
  have h1 := sk_le (W := W) h
  have := adv_le (P := isS W) (z - sk W z a) (sk W z a)
  unfold wE
  omega
theorem lp_named {s : Nat} {u2 rr : Option Value} {Q : MI32 → MI64 → Prop} (h : os s) (B : BC I W) (hz : I 1 6 = nI z) (hz2 : z ≤ 600) : ∀ r e I', z - e = r → e ≤ z → Fr [(1, 6)] I I' → I' 1 5 = nI e → (∀ I'', Fr [(1, 6)] I I'' → I'' 1 5 = nI (adv (isS W) r e) → Rt L X (runI (runM (d + 1)) iX7_named (47, [some (.ref 1), some (.ref s), u2], [], mm L X I'' J)) rr Q) → Rt L X (c_X7_named_5 (d + 1) L X I' J s u2) rr Q
  | 0, e, I', hr, he, hf, h5, k => by
    (first | refine rt_eq (q_X7_named_0 (by first | assumption | rfl | exact .inl rfl | exact .inr rfl)) ?_ | refine rt_eq (q_X7_named_4 (by first | assumption | rfl | exact .inl rfl | exact .inr rfl)) ?_ | refine rt_eq (q_X7_named_5 (by first | assumption | rfl | exact .inl rfl | exact .inr rfl)) ?_ | refine rt_eq (q_X7_named_47 (by first | assumption | rfl | exact .inl rfl | exact .inr rfl)) ?_ | refine rt_eq (q_X7_named_24 (by first | assumption | rfl | exact .inl rfl | exact .inr rfl)) ?_ | refine rt_eq (q_X7_named_52 (by first | assumption | rfl | exact .inl rfl | exact .inr rfl)) ?_ | refine rt_eq (q_X7_named_31 (by first | assumption | rfl | exact .inl rfl | exact .inr rfl)) ?_ | refine rt_eq (q_X7_named_62) ?_)
    rw [h5, hf 1 6 rfl, hz]
    exact rt_t (by (try simp (disch := omega) only [nI_leI, nI_ltI, nI_eq, nI_add, pk_mul, n_0add, Nat.zero_add, nI_clamp]) <;> omega) (k I' hf h5)
  | r + 1, e, I', hr, he, hf, h5, k => by
    have ih := lp_named (s := s) (u2 := u2) (rr := rr) (Q := Q) h B hz hz2 r (e + 1)
    have B' := BC_fr B hf (by decide)
    have hb := (B e (by omega)).2
    (first | refine rt_eq (q_X7_named_0 (by first | assumption | rfl | exact .inl rfl | exact .inr rfl)) ?_ | refine rt_eq (q_X7_named_4 (by first | assumption | rfl | exact .inl rfl | exact .inr rfl)) ?_ | refine rt_eq (q_X7_named_5 (by first | assumption | rfl | exact .inl rfl | exact .inr rfl)) ?_ | refine rt_eq (q_X7_named_47 (by first | assumption | rfl | exact .inl rfl | exact .inr rfl)) ?_ | refine rt_eq (q_X7_named_24 (by first | assumption | rfl | exact .inl rfl | exact .inr rfl)) ?_ | refine rt_eq (q_X7_named_52 (by first | assumption | rfl | exact .inl rfl | exact .inr rfl)) ?_ | refine rt_eq (q_X7_named_31 (by first | assumption | rfl | exact .inl rfl | exact .inr rfl)) ?_ | refine rt_eq (q_X7_named_62) ?_)
    rw [h5, hf 1 6 rfl, hz]
    refine rt_f (by (try simp (disch := omega) only [nI_leI, nI_ltI, nI_eq, nI_add, pk_mul, n_0add, Nat.zero_add, nI_clamp]) <;> omega) (rt_be (sp_byteC B' (by omega)) ?_)
    (first | refine rt_eq (q_X7_named_0 (by first | assumption | rfl | exact .inl rfl | exact .inr rfl)) ?_ | refine rt_eq (q_X7_named_4 (by first | assumption | rfl | exact .inl rfl | exact .inr rfl)) ?_ | refine rt_eq (q_X7_named_5 (by first | assumption | rfl | exact .inl rfl | exact .inr rfl)) ?_ | refine rt_eq (q_X7_named_47 (by first | assumption | rfl | exact .inl rfl | exact .inr rfl)) ?_ | refine rt_eq (q_X7_named_24 (by first | assumption | rfl | exact .inl rfl | exact .inr rfl)) ?_ | refine rt_eq (q_X7_named_52 (by first | assumption | rfl | exact .inl rfl | exact .inr rfl)) ?_ | refine rt_eq (q_X7_named_31 (by first | assumption | rfl | exact .inl rfl | exact .inr rfl)) ?_ | refine rt_eq (q_X7_named_62) ?_)
    refine rt_bne sp_within ?_
    rw [sml_W hb]
    (first | refine rt_eq (q_X7_named_0 (by first | assumption | rfl | exact .inl rfl | exact .inr rfl)) ?_ | refine rt_eq (q_X7_named_4 (by first | assumption | rfl | exact .inl rfl | exact .inr rfl)) ?_ | refine rt_eq (q_X7_named_5 (by first | assumption | rfl | exact .inl rfl | exact .inr rfl)) ?_ | refine rt_eq (q_X7_named_47 (by first | assumption | rfl | exact .inl rfl | exact .inr rfl)) ?_ | refine rt_eq (q_X7_named_24 (by first | assumption | rfl | exact .inl rfl | exact .inr rfl)) ?_ | refine rt_eq (q_X7_named_52 (by first | assumption | rfl | exact .inl rfl | exact .inr rfl)) ?_ | refine rt_eq (q_X7_named_31 (by first | assumption | rfl | exact .inl rfl | exact .inr rfl)) ?_ | refine rt_eq (q_X7_named_62) ?_)
    by_cases q : isS W e = true
    · rw [q]
      refine rt_f (show ¬ bI true = nI 0 by decide) ?_
      have en : adv (isS W) (r + 1) e = adv (isS W) r (e + 1) := if_pos q
      rw [en] at k
      exact ih _ (by omega) (by omega) (fr_up hf rfl) (by rw [up2_s, h5, nI_add]) k
    · rw [Bool.eq_false_iff.mpr q]
      refine rt_t bI_f ?_
      have en : adv (isS W) (r + 1) e = e := if_neg q
      rw [en] at k
      exact k I' hf h5
theorem SO_fr {I' : MI32} {l : Fls} (O : SO I) (g : Fr l I I') (h : dj l [(1000003, 0), (1000005, 0), (1000007, 0)] = true) : SO I' := fun a ha k hk => by
  have q := ag_of (s := [(1000003, 0), (1000005, 0), (1000007, 0)]) g h
  rcases ha with rfl | rfl | rfl
  · exact (q 1000003 k rfl).trans (O _ (.inl rfl) k hk)
  · exact (q 1000005 k rfl).trans (O _ (.inr (.inl rfl)) k hk)
  · exact (q 1000007 k rfl).trans (O _ (.inr (.inr rfl)) k hk)
theorem sp_named {s : Nat} (h : os s) (O : SO I) (B : BC I W) (hz : I 1 6 = nI z) (hz2 : z ≤ 600) (ha : a ≤ z) (h5 : I 1 5 = nI a) : Rt L X (runM (d + 6) nX7_named [.ref 1, .ref s] (mm L X I J)) (some (.int (plA W (sk W z a) (wE W z a) (wdS s) 0))) (fun I' J' => (Fr fTC I I' ∧ (¬ plA W (sk W z a) (wE W z a) (wdS s) 0 = -1 → I' 1 5 = nI (wE W z a) ∧ I' 1 2 = I 1 2 ∧ I' 1 3 = I 1 3 ∧ I' 1 7 = nI (sk W z a)) ∧ (plA W (sk W z a) (wE W z a) (wdS s) 0 = -1 → I' 1 2 = nI 1 ∧ I' 1 3 = nI (sk W z a))) ∧ J' = J) := by
  have hs := sk_le (W := W) ha
  have hw := wE_le (W := W) ha
  rw [e_X7_named]
  (first | refine rt_eq (q_X7_named_0 (by first | assumption | rfl | exact .inl rfl | exact .inr rfl)) ?_ | refine rt_eq (q_X7_named_4 (by first | assumption | rfl | exact .inl rfl | exact .inr rfl)) ?_ | refine rt_eq (q_X7_named_5 (by first | assumption | rfl | exact .inl rfl | exact .inr rfl)) ?_ | refine rt_eq (q_X7_named_47 (by first | assumption | rfl | exact .inl rfl | exact .inr rfl)) ?_ | refine rt_eq (q_X7_named_24 (by first | assumption | rfl | exact .inl rfl | exact .inr rfl)) ?_ | refine rt_eq (q_X7_named_52 (by first | assumption | rfl | exact .inl rfl | exact .inr rfl)) ?_ | refine rt_eq (q_X7_named_31 (by first | assumption | rfl | exact .inl rfl | exact .inr rfl)) ?_ | refine rt_eq (q_X7_named_62) ?_)
  refine rt_bnd (sp_peek B hz hz2 ha h5) ?_
  rintro I1 J1 ⟨⟨f1, f2, f3⟩, rfl⟩
  have f1' : Fr fTC I I1 := fr_mono f1 (by decide)
  (first | refine rt_eq (q_X7_named_0 (by first | assumption | rfl | exact .inl rfl | exact .inr rfl)) ?_ | refine rt_eq (q_X7_named_4 (by first | assumption | rfl | exact .inl rfl | exact .inr rfl)) ?_ | refine rt_eq (q_X7_named_5 (by first | assumption | rfl | exact .inl rfl | exact .inr rfl)) ?_ | refine rt_eq (q_X7_named_47 (by first | assumption | rfl | exact .inl rfl | exact .inr rfl)) ?_ | refine rt_eq (q_X7_named_24 (by first | assumption | rfl | exact .inl rfl | exact .inr rfl)) ?_ | refine rt_eq (q_X7_named_52 (by first | assumption | rfl | exact .inl rfl | exact .inr rfl)) ?_ | refine rt_eq (q_X7_named_31 (by first | assumption | rfl | exact .inl rfl | exact .inr rfl)) ?_ | refine rt_eq (q_X7_named_62) ?_)
  refine lp_named (I := I1) h (BC_fr B f1 (by decide)) ((f1 1 6 rfl).trans hz) hz2 (z - sk W z a) (sk W z a) I1 rfl hs.2 fr_rfl f2 ?_
  intro I2 g1 g2
  have g1' : Fr fTC I I2 := fr_tr f1' (fr_mono g1 (by decide))
  have g7 : I2 1 7 = nI (sk W z a) := (g1 1 7 rfl).trans f3
  (first | refine rt_eq (q_X7_named_0 (by first | assumption | rfl | exact .inl rfl | exact .inr rfl)) ?_ | refine rt_eq (q_X7_named_4 (by first | assumption | rfl | exact .inl rfl | exact .inr rfl)) ?_ | refine rt_eq (q_X7_named_5 (by first | assumption | rfl | exact .inl rfl | exact .inr rfl)) ?_ | refine rt_eq (q_X7_named_47 (by first | assumption | rfl | exact .inl rfl | exact .inr rfl)) ?_ | refine rt_eq (q_X7_named_24 (by first | assumption | rfl | exact .inl rfl | exact .inr rfl)) ?_ | refine rt_eq (q_X7_named_52 (by first | assumption | rfl | exact .inl rfl | exact .inr rfl)) ?_ | refine rt_eq (q_X7_named_31 (by first | assumption | rfl | exact .inl rfl | exact .inr rfl)) ?_ | refine rt_eq (q_X7_named_62) ?_)
  refine rt_bnd (sp_placeAmong (t := sk W z a) (e := wE W z a) h (SO_fr O g1' (by decide)) (BC_fr B g1' (by decide)) g2 g7 (by omega) (by omega)) ?_
  rintro I3 J3 ⟨rfl, rfl⟩
  have hv : okv (some (.ref s)) = true := rfl
  (first | refine rt_eq (q_X7_named_0 (by first | assumption | rfl | exact .inl rfl | exact .inr rfl)) ?_ | refine rt_eq (q_X7_named_4 (by first | assumption | rfl | exact .inl rfl | exact .inr rfl)) ?_ | refine rt_eq (q_X7_named_5 (by first | assumption | rfl | exact .inl rfl | exact .inr rfl)) ?_ | refine rt_eq (q_X7_named_47 (by first | assumption | rfl | exact .inl rfl | exact .inr rfl)) ?_ | refine rt_eq (q_X7_named_24 (by first | assumption | rfl | exact .inl rfl | exact .inr rfl)) ?_ | refine rt_eq (q_X7_named_52 (by first | assumption | rfl | exact .inl rfl | exact .inr rfl)) ?_ | refine rt_eq (q_X7_named_31 (by first | assumption | rfl | exact .inl rfl | exact .inr rfl)) ?_ | refine rt_eq (q_X7_named_62) ?_)
  rcases plA_or (W := W) (t := sk W z a) (e := wE W z a) (wdS s) 0 with q | ⟨j, q, q2⟩
  · rw [q]
    refine rt_f (by decide) ?_
    refine rt_be sp_blame ?_
    (first | refine rt_eq (q_X7_named_0 (by first | assumption | rfl | exact .inl rfl | exact .inr rfl)) ?_ | refine rt_eq (q_X7_named_4 (by first | assumption | rfl | exact .inl rfl | exact .inr rfl)) ?_ | refine rt_eq (q_X7_named_5 (by first | assumption | rfl | exact .inl rfl | exact .inr rfl)) ?_ | refine rt_eq (q_X7_named_47 (by first | assumption | rfl | exact .inl rfl | exact .inr rfl)) ?_ | refine rt_eq (q_X7_named_24 (by first | assumption | rfl | exact .inl rfl | exact .inr rfl)) ?_ | refine rt_eq (q_X7_named_52 (by first | assumption | rfl | exact .inl rfl | exact .inr rfl)) ?_ | refine rt_eq (q_X7_named_31 (by first | assumption | rfl | exact .inl rfl | exact .inr rfl)) ?_ | refine rt_eq (q_X7_named_62) ?_)
    refine rt_ret ⟨⟨fr_up (fr_up g1' rfl) rfl, fun q => absurd rfl q, fun _ => ⟨?_, ?_⟩⟩, rfl⟩
    · rw [up2_k (by decide), up2_s]
    · rw [up2_s, g7]
  · have hj : j < 100 := by
      have : (wdS s).length < 100 := by
        rcases h with rfl | rfl | rfl <;> decide
      omega
    have hne : ¬ plA W (sk W z a) (wE W z a) (wdS s) 0 = -1 := by
      rw [q]
      exact nI_m1 _ (by omega)
    have h0 : nI 0 ≤ plA W (sk W z a) (wE W z a) (wdS s) 0 := by
      rw [q]
      ((try simp (disch := omega) only [nI_leI, nI_ltI, nI_eq, nI_add, pk_mul, n_0add, Nat.zero_add, nI_clamp]) <;> omega)
    refine rt_t h0 ?_
    refine rt_ret ⟨⟨g1', fun _ => ⟨g2, ?_, ?_, g7⟩, fun q => absurd q hne⟩, rfl⟩
    · rw [g1 1 2 rfl, f1 1 2 rfl]
    · rw [g1 1 3 rfl, f1 1 3 rfl]
theorem sp_signC {c : Nat} (B : BC I W) (hz : I 1 6 = nI z) (hz2 : z ≤ 600) (ha : a ≤ z) (h5 : I 1 5 = nI a) (hc : c < 256) : Rt L X (runM (d + 3) nX7_sign [.ref 1, .int (nI c)] (mm L X I J)) (some (.int (bI (decide (sk W z a < z ∧ W (sk W z a) = c))))) (fun I' J' => (Fr fTC I I' ∧ ((sk W z a < z ∧ W (sk W z a) = c) → I' 1 5 = nI (sk W z a + 1) ∧ I' 1 2 = I 1 2 ∧ I' 1 3 = I 1 3) ∧ (¬ (sk W z a < z ∧ W (sk W z a) = c) → I' 1 2 = nI 1 ∧ I' 1 3 = nI (sk W z a))) ∧ J' = J) := by
  have hs := sk_le (W := W) ha
  rw [e_X7_sign]
  (first | refine rt_eq (q_X7_sign_0) ?_ | refine rt_eq (q_X7_sign_4) ?_ | refine rt_eq (q_X7_sign_13) ?_)
  refine rt_bnd (sp_peek B hz hz2 ha h5) ?_
  rintro I1 J1 ⟨⟨f1, f2, f3⟩, rfl⟩
  have f1' : Fr fTC I I1 := fr_mono f1 (by decide)
  (first | refine rt_eq (q_X7_sign_0) ?_ | refine rt_eq (q_X7_sign_4) ?_ | refine rt_eq (q_X7_sign_13) ?_)
  by_cases e : sk W z a < z ∧ W (sk W z a) = c
  · rw [decide_eq_true e]
    refine rt_t ?_ (rt_ret ⟨⟨fr_up f1' rfl, fun _ => ⟨?_, ?_, ?_⟩, fun q => absurd e q⟩, rfl⟩)
    · rw [show byT W z (sk W z a) = nI (W (sk W z a)) from if_pos e.1, e.2]
    · rw [up2_s, f2, nI_add]
    · rw [up2_k (by decide), f1 1 2 rfl]
    · rw [up2_k (by decide), f1 1 3 rfl]
  · rw [decide_eq_false e]
    refine rt_f ?_ (rt_be sp_blame ?_)
    · intro q
      by_cases e1 : sk W z a < z
      · rw [show byT W z (sk W z a) = nI (W (sk W z a)) from if_pos e1, nI_eq (by have := (B (sk W z a) (by omega)).2; omega) (by omega)] at q
        exact e ⟨e1, q⟩
      · rw [show byT W z (sk W z a) = -1 from if_neg e1] at q
        exact nI_m1 c (by omega) q.symm
    · (first | refine rt_eq (q_X7_sign_0) ?_ | refine rt_eq (q_X7_sign_4) ?_ | refine rt_eq (q_X7_sign_13) ?_)
      refine rt_gd (by decide) (rt_ret ⟨⟨fr_up (fr_up f1' rfl) rfl, fun q => absurd q e, fun _ => ⟨?_, ?_⟩⟩, rfl⟩)
      · rw [up2_k (by decide), up2_s]
      · rw [up2_s, f3]
theorem sp_endedC (B : BC I W) (hz : I 1 6 = nI z) (hz2 : z ≤ 600) (ha : a ≤ z) (h5 : I 1 5 = nI a) : Rt L X (runM (d + 3) nX7_ended [.ref 1] (mm L X I J)) (some (.int (bI (decide (sk W z a = z))))) (fun I' J' => (Fr fTC I I' ∧ (sk W z a = z → I' 1 2 = I 1 2 ∧ I' 1 3 = I 1 3) ∧ (¬ sk W z a = z → I' 1 2 = nI 1 ∧ I' 1 3 = nI (sk W z a))) ∧ J' = J) := by
  have hs := sk_le (W := W) ha
  rw [e_X7_ended]
  (first | refine rt_eq (q_X7_ended_0) ?_ | refine rt_eq (q_X7_ended_4) ?_ | refine rt_eq (q_X7_ended_13) ?_)
  refine rt_bnd (sp_peek B hz hz2 ha h5) ?_
  rintro I1 J1 ⟨⟨f1, f2, f3⟩, rfl⟩
  have f1' : Fr fTC I I1 := fr_mono f1 (by decide)
  (first | refine rt_eq (q_X7_ended_0) ?_ | refine rt_eq (q_X7_ended_4) ?_ | refine rt_eq (q_X7_ended_13) ?_)
  by_cases e : sk W z a = z
  · rw [decide_eq_true e, show byT W z (sk W z a) = -1 from if_neg (by omega)]
    exact rt_t rfl (rt_ret ⟨⟨f1', fun _ => ⟨f1 1 2 rfl, f1 1 3 rfl⟩, fun q => absurd e q⟩, rfl⟩)
  · have hb := (B (sk W z a) (by omega)).2
    rw [decide_eq_false e, show byT W z (sk W z a) = nI (W (sk W z a)) from if_pos (by omega)]
    refine rt_f (nI_m1 _ (by omega)) (rt_be sp_blame ?_)
    (first | refine rt_eq (q_X7_ended_0) ?_ | refine rt_eq (q_X7_ended_4) ?_ | refine rt_eq (q_X7_ended_13) ?_)
    refine rt_t rfl (rt_ret ⟨⟨fr_up (fr_up f1' rfl) rfl, fun q => absurd q e, fun _ => ⟨?_, ?_⟩⟩, rfl⟩)
    · rw [up2_k (by decide), up2_s]
    · rw [up2_s, f3]
theorem sp_tooMany : runM (d + 2) nX7_tooMany [.ref 1] (mm L X I J) = rI (nI 0) (mm L X (up2 (up2 I 1 2 (nI 3)) 1 3 (I 1 7)) J) := by
  rw [e_X7_tooMany]
  (first | refine Eq.trans (q_X7_tooMany_0) ?_ | refine Eq.trans (q_X7_tooMany_5) ?_)
  refine Eq.trans (bnd_e sp_blame) ?_
  (first | refine Eq.trans (q_X7_tooMany_0) ?_ | refine Eq.trans (q_X7_tooMany_5) ?_)
  exact gd_t (by decide)
theorem sp_noneSuch : runM (d + 2) nX7_noneSuch [.ref 1] (mm L X I J) = rI (nI 0) (mm L X (up2 (up2 I 1 2 (nI 2)) 1 3 (I 1 7)) J) := by
  rw [e_X7_noneSuch]
  (first | refine Eq.trans (q_X7_noneSuch_0) ?_ | refine Eq.trans (q_X7_noneSuch_5) ?_)
  refine Eq.trans (bnd_e sp_blame) ?_
  (first | refine Eq.trans (q_X7_noneSuch_0) ?_ | refine Eq.trans (q_X7_noneSuch_5) ?_)
  exact gd_t (by decide)
theorem sp_beginT {x : Int32} : runM (d + 1) nX7_begin [.ref 1, .int x] (mm L X I J) = rV (mm L X (up2 (up2 (up2 (up2 (up2 I 1 5 (nI 0)) 1 6 x) 1 1 (nI 0)) 1 2 (nI 0)) 1 3 (-1)) J) := by
  rw [e_X7_begin]
  (first | refine Eq.trans (q_X7_begin_0) ?_ | refine Eq.trans (q_X7_begin_20) ?_)
  (first | refine Eq.trans (q_X7_begin_0) ?_ | refine Eq.trans (q_X7_begin_20) ?_)
  rfl
end NM
