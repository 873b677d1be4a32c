/-! ONE INSTRUCTION, kind by kind: fields and arrays -/
theorem gw_fl {a : String} {i : Nat} {b n d : String} : goodWord (.fieldLink a i b n d) = true := rfl
theorem gw_ml {a : String} {i : Nat} {y : MethodName} : goodWord (.methodLink a i y) = true := rfl
theorem gw_im {y : MethodName} : goodWord (.instanceMethod y) = true := rfl
theorem gw_se {a : String} {y z : MethodName} : goodWord (.selects a y z) = true := rfl
theorem gw_in {a : String} : goodWord (.initialized a) = true := rfl
theorem gw_st {y : MethodName} : goodWord (.static y) = true := rfl
theorem gw_co {y : MethodName} {b : ByteArray} {n : Nat} {r : Option FieldType} : goodWord (.code y b n r) = true := rfl
theorem gw_cw {y : MethodName} {b : ByteArray} {n : Nat} {r : Option FieldType} {h : List (Nat × Nat × Nat × Nat)} : goodWord (.codeWith y b n r h) = true := rfl
theorem gw_cl {a : String} {i : Nat} {b : String} : goodWord (.classLink a i b) = true := rfl
theorem gw_is {a : String} {i : Nat} : goodWord (.instantiable a i) = true := rfl
theorem gw_ct {a : String} {i : Nat} {v : Int32} : goodWord (.constant a i v) = true := rfl
theorem gw_ac {t : FieldType} : goodWord (.arrayClass t) = true := rfl
theorem gw_la {a b n d : String} : goodWord (.lays a b n d) = true := rfl
theorem gw_lf {a b n d : String} : goodWord (.laysFinal a b n d) = true := rfl
theorem gw_nt {y : MethodName} : goodWord (.native y) = true := rfl

def gw : List Cond := lw_tbl.filter goodWord
theorem gw_of {w : Cond} (h : w ∈ lw_tbl) (g : goodWord w = true) : w ∈ gw := List.mem_filter.mpr ⟨h, g⟩
theorem cl_of {ci : Nat} {q : vw_C} (h : vwCl[ci]? = some q) : ci < 13 ∧ q = clT ci := by
  have h1 : ci < 13 := (List.getElem?_eq_some_iff.mp h).1
  have h2 := (cl_ok ci h1).1
  rw [h] at h2
  exact ⟨h1, Option.some.inj h2⟩
theorem lay_gw {ci : Nat} (h : ci < 13) : ∀ w ∈ u_ws (clT ci).1 (clT ci).2.1 (clT ci).2.2, w ∈ gw := by
  intro w hw
  obtain ⟨k, hk, rfl⟩ := List.mem_map.mp hw
  refine gw_of ((cl_ok ci h).2.2.1 k (List.mem_range.mp hk)) ?_
  unfold u_lay
  split <;> rfl
section S3
variable {base : Nat} {ρ : Nat → Nat} {vF : Value} {D : va_G} {cs : Nat → ClassId} {p : Program} {l : Launch} {e : Env} {R : Room} {s : State} {mth : MethodId} {args : Array Value} {below : List Frame} {meth : Method} {c : Code} {Q : State → Prop} {mi : MI} {nL : Nat} {m0 : AM} {pc n : Nat} {L : List (Option Value)} {st : List Value} {m : AM} {ls : Array Slot} {H : Heap} {locs : List Loc} {f : CF}
theorem FX.hts (X : FX base ρ vF D cs p s mth args meth c mi nL m0) : ∀ w ∈ gw, w.before args s = true := fun w hw => X.2.2.2.2.1 w (List.mem_filter.mp hw).1 (List.mem_filter.mp hw).2
theorem FX.w (X : FX base ρ vF D cs p s mth args meth c mi nL m0) {w : Cond} (h : w ∈ lw_tbl) (g : goodWord w = true) : w.before args s = true := X.2.2.2.2.1 w h g
theorem FX.own (X : FX base ρ vF D cs p s mth args meth c mi nL m0) : s.vm.findClass (rn mi.1) = some mth.cls := X.2.2.2.1
theorem FX.K (X : FX base ρ vF D cs p s mth args meth c mi nL m0) : va_K D vwCl (tysA cs) s := X.2.2.2.2.2.1
theorem FX.ext (X : FX base ρ vF D cs p s mth args meth c mi nL m0) : Ext base ρ vF m0 s s.heap := X.2.2.2.2.2.2.1
theorem FX.bs (X : FX base ρ vF D cs p s mth args meth c mi nL m0) : base ≤ s.heap.size := X.2.2.2.2.2.2.2.1
theorem FX.rh (X : FX base ρ vF D cs p s mth args meth c mi nL m0) {a : Nat} (h : a < XB) : ρ a = base + a := X.2.2.2.2.2.2.2.2.1 a h
theorem FX.ini (X : FX base ρ vF D cs p s mth args meth c mi nL m0) (h : mi.2.2.1 = 6) : meth.name = "<init>" := X.2.2.2.2.2.2.2.2.2.2.1 h
/-- how many cells there are, as long as no exception was made -/
theorem Rf.size (X : FX base ρ vF D cs p s mth args meth c mi nL m0) {ls : Array Slot} {H : Heap} {locs : List Loc} (r : Rf base ρ vF D cs s nL m0 (pc, L, st, m) ls H locs) {T : State} (hT : T.heap = H) (Y : Stand p l e R s mth args below meth c T locs (cnt m - cnt m0) n) (hx : mX m = 0) : H.size = base + (mK m).length := by
  obtain ⟨r1, r2, r3, r4⟩ := r
  have hmo : mX m0 ≤ mX m ∧ (mK m0).length ≤ (mK m).length := r4.2.2.2
  have h0 : mX m0 = 0 := by omega
  have hs := X.2.2.2.2.2.2.2.2.2.2.2 h0
  have hu : T.heap.size ≤ s.heap.size + (cnt m - cnt m0) := Y.same.2.2.1
  rw [hT] at hu
  unfold cnt at hu
  have hl : base + (mK m).length ≤ H.size := by
    rcases Nat.eq_zero_or_pos (mK m).length with q | q
    · have := r3.1
      omega
    · obtain ⟨k, hk⟩ : ∃ k, (mK m)[(mK m).length - 1]? = some k := ⟨_, List.getElem?_eq_getElem (by omega)⟩
      have h1 : base + ((mK m).length - 1) < H.size := (r2 _ _ (wsA_get (m := m) hk)).lt
      omega
  omega
theorem W_sz (X : FX base ρ vF D cs p s mth args meth c mi nL m0) {ls : Array Slot} {H : Heap} {locs : List Loc} (r : Rf base ρ vF D cs s nL m0 (pc, L, st, m) ls H locs) {g : JFrame} (h : (mX m = 0 → H.size = base + (mK m).length) → W p l e R s mth args below meth c H locs (cnt m - cnt m0) n Q g) : W p l e R s mth args below meth c H locs (cnt m - cnt m0) n Q g :=
  fun T hT Y => h (fun hx => Rf.size X r hT Y hx) T hT Y
theorem ext6 {j : Nat} : ∀ i, i < 8 → extK[i]? = some (6, j) → i = 2 + 2 * j ∧ j < 3 := by
  intro i hi he
  match i, hi, he with
  | 0, _, he => cases he
  | 1, _, he => cases he
  | 2, _, he => cases he; exact ⟨rfl, by decide⟩
  | 3, _, he => cases he
  | 4, _, he => cases he; exact ⟨rfl, by decide⟩
  | 5, _, he => cases he
  | 6, _, he => cases he; exact ⟨rfl, by decide⟩
  | 7, _, he => cases he
theorem kd6 {a j : Nat} (h : kd m a = some (6, j)) (ha : ¬ a < XB) : a = XB + 2 + 2 * j ∧ j < 3 := by
  unfold kd at h
  rw [if_neg ha] at h
  split at h
  · cases h
  · have h1 : a - XB < 8 := (List.getElem?_eq_some_iff.mp h).1
    have := ext6 _ h1 h
    omega
/-- the arrays outside: ints that are only read -/
theorem kd5 {a n : Nat} (h : kd m a = some (5, n)) (ha : XB ≤ a) : (a = XB ∧ n = mL m) ∨ (a = XB + 1 ∧ n = 11) := by
  unfold kd at h
  rw [if_neg (Nat.not_lt.mpr ha)] at h
  split at h
  · rename_i q
    cases h
    exact Or.inl ⟨q, rfl⟩
  · rename_i q
    have h1 : a - XB < 8 := (List.getElem?_eq_some_iff.mp h).1
    have : ∀ i, i < 8 → i ≠ 0 → extK[i]? = some (5, n) → i = 1 ∧ n = 11 := by
      intro i hi h0 he
      match i, hi, he with
      | 0, _, he => exact absurd rfl h0
      | 1, _, he => cases he; exact ⟨rfl, rfl⟩
      | 2, _, he => cases he
      | 3, _, he => cases he
      | 4, _, he => cases he
      | 5, _, he => cases he
      | 6, _, he => cases he
      | 7, _, he => cases he
    have := this _ h1 (by omega) h
    exact Or.inr ⟨by omega, this.2⟩
theorem kd7 {a n : Nat} (h : kd m a = some (7, n)) (ha : XB ≤ a) : ∃ j, a = XB + 3 + 2 * j ∧ j < 3 ∧ n = lenS.getD j 0 := by
  unfold kd at h
  rw [if_neg (Nat.not_lt.mpr ha)] at h
  split at h
  · cases h
  · have h1 : a - XB < 8 := (List.getElem?_eq_some_iff.mp h).1
    have : ∀ i, i < 8 → extK[i]? = some (7, n) → ∃ j, i = 3 + 2 * j ∧ j < 3 ∧ n = lenS.getD j 0 := by
      intro i hi he
      match i, hi, he with
      | 0, _, he => cases he
      | 1, _, he => cases he
      | 2, _, he => cases he
      | 3, _, he => cases he; exact ⟨0, rfl, by decide, rfl⟩
      | 4, _, he => cases he
      | 5, _, he => cases he; exact ⟨1, rfl, by decide, rfl⟩
      | 6, _, he => cases he
      | 7, _, he => cases he; exact ⟨2, rfl, by decide, rfl⟩
    obtain ⟨j, h2, h3, h4⟩ := this _ h1 h
    exact ⟨j, by omega, h3, h4⟩
/-- getfield -/
theorem s_getfield {idx : Nat} (X : FX base ρ vF D cs p s mth args meth c mi nL m0) (hd : decode mi.2.1 pc = .ok (.getfield idx, 3)) (h : xget mi.1 pc L st m idx = some (.inl f)) (g : Go base ρ vF D cs p l e R s mth args below meth c Q nL m0 f) : Go base ρ vF D cs p l e R s mth args below meth c Q nL m0 (pc, L, st, m) := by
  intro ls H locs r
  unfold xget at h
  split at h
  · rename_i a rr
    split at h
    · rename_i ci k z hcp
      obtain ⟨q, hq, hk, hl⟩ := cp_val hcp
      obtain ⟨hci, rfl⟩ := cl_of hq
      split at h
      · rename_i hh
        have hka := kd_in hh.1 hh.2
        have hN := (fk_ok ci hci).1
        have hws : (wsA base ρ cs m)[a]? = some (base + a, .inr (ci, flds ρ m a ci)) := wsA_get hka
        have hpush : ∀ v : Value, (flds ρ m a ci)[k]? = some (cv ρ vF v) → Go base ρ vF D cs p l e R s mth args below meth c Q nL m0 (pc + 3, L, v :: rr, m) → W p l e R s mth args below meth c H locs (cnt m - cnt m0) (slo m - slo m0) Q (F0 mth pc ls ((Value.ref a :: rr).map (cv ρ vF))) := by
          intro v hv g2
          show W p l e R s mth args below meth c H locs (cnt m - cnt m0) (slo m - slo m0) Q (F0 mth pc ls (Value.ref (ρ a) :: rr.map (cv ρ vF)))
          rw [X.rh hh.2]
          exact va_get (D := D) (C := (clT ci).1) (T := (clT ci).2.1) (N := (clT ci).2.2) X.1 X.2.1 X.hts (lay_gw hci) X.own X.K r.2.1 a hws hq k hk (X.w hl gw_fl) (fun _ z => z) hv hd (g2 ls H locs r)
        split at h
        · rename_i h2
          split at h
          · rename_i q2 hq2
            have := nx_inj h
            subst this
            refine hpush (.ref q2) ?_ g
            rw [flds_get (by omega)]
            unfold fval
            rw [if_pos h2, hq2]
            rfl
          · cases h
        · rename_i h2
          split at h
          · rename_i h3
            have := nx_inj h
            subst this
            refine hpush (.int (mI m a k)) ?_ g
            rw [flds_get (by omega)]
            unfold fval
            rw [if_neg h2, if_neg (by omega)]
            rfl
          · cases h
      · cases h
    · rename_i z x1 x2 hcp
      have hl := cp_val hcp
      split at h
      · rename_i j hj
        split at h
        · cases h
        · rename_i ha
          obtain ⟨rfl, hj3⟩ := kd6 hj ha
          obtain ⟨o1, o2, o3, o4⟩ := X.ext.2.2.2.2.2.2.1.1 j hj3
          split at h
          · rename_i hz
            subst hz
            have := nx_inj h
            subst this
            exact vk_getf (v := .int 0) X.1 X.2.1 o2 r.2.2.1 X.own (X.w hl gw_fl) (fun _ z => z) hd (g ls H locs r)
          · rename_i hz
            have := nx_inj h
            subst this
            have hl2 : Cond.fieldLink (rn mi.1) idx RJ0 "value" "[B" ∈ lw_tbl := by
              have := hl
              simp only [Val, if_neg hz] at this
              exact this
            have g2 := g ls H locs r
            rw [show (XB + 2 + 2 * j + 1) = XB + 3 + 2 * j by omega] at g2
            exact vk_getf (v := .ref (ρ (XB + 3 + 2 * j))) X.1 X.2.1 o3 r.2.2.1 X.own (X.w hl2 gw_fl) (fun _ z => z) hd g2
      · cases h
    · cases h
  · cases h
/-- the world behind a write at a place below XB -/
theorem mono_sI {a k : Nat} {x : Int32} (ha : a < XB) : MonoA m (sI m a k x) := ⟨⟨rfl, fun b hb => up2_ne (by omega)⟩, Nat.le_refl _, Nat.le_refl _, Nat.le_refl _, Nat.le_refl _⟩
theorem mono_sJ {a k : Nat} {x : Int64} : MonoA m (sJ m a k x) := ⟨⟨rfl, fun _ _ => rfl⟩, Nat.le_refl _, Nat.le_refl _, Nat.le_refl _, Nat.le_refl _⟩
theorem mono_sR {a k : Nat} {x : Option Nat} : MonoA m (sR m a k x) := ⟨⟨rfl, fun _ _ => rfl⟩, Nat.le_refl _, Nat.le_refl _, Nat.le_refl _, Nat.le_refl _⟩
theorem mono_sIc {a : Nat} {g : Nat → Int32} (ha : a < XB) : MonoA m (sIc m a g) := ⟨⟨rfl, fun b hb => up1_ne (by omega)⟩, Nat.le_refl _, Nat.le_refl _, Nat.le_refl _, Nat.le_refl _⟩
theorem prs_I : parseFieldDescriptor "I" = some .int := by decide +kernel
theorem prs_Z : parseFieldDescriptor "Z" = some .boolean := by decide +kernel
/-- putfield -/
theorem s_putfield {idx : Nat} (X : FX base ρ vF D cs p s mth args meth c mi nL m0) (hd : decode mi.2.1 pc = .ok (.putfield idx, 3)) (h : xput mi.1 mi.2.2.1 pc L st m idx = some (.inl f)) (g : Go base ρ vF D cs p l e R s mth args below meth c Q nL m0 f) : Go base ρ vF D cs p l e R s mth args below meth c Q nL m0 (pc, L, st, m) := by
  intro ls H locs r
  unfold xput at h
  split at h
  · rename_i x a rr
    split at h
    · rename_i ci k z hcp
      obtain ⟨q, hq, hk, hl⟩ := cp_val hcp
      obtain ⟨hci, rfl⟩ := cl_of hq
      split at h
      · rename_i hh
        have := nx_inj h
        subst this
        have hka := kd_in hh.1 hh.2.1
        have hN := (fk_ok ci hci).1
        obtain ⟨-, -, hwd, ⟨ty0, hty⟩, hnm⟩ := cl_ok ci hci
        obtain ⟨e1, e2, e3, e4⟩ := (fk_ok ci hci).2 k (by omega)
        have hws : (wsA base ρ cs m)[a]? = some (base + a, .inr (ci, flds ρ m a ci)) := wsA_get hka
        have hfk : fk ci k = 0 ∨ fk ci k = 3 := hh.2.2.imp id And.left
        obtain ⟨ty, hpt, hnar, hfit⟩ : ∃ ty : FieldType, parseFieldDescriptor ((clT ci).2.1 k).2.2.1 = some ty ∧ narrow ty (.int x) = .int x ∧ fits ty (.int x) = true := by
          rcases hh.2.2 with q | ⟨q, q2⟩
          · exact ⟨.int, by rw [e2 q]; exact prs_I, rfl, rfl⟩
          · refine ⟨.boolean, by rw [e3 q]; exact prs_Z, ?_, ?_⟩ <;> rcases q2 with rfl | rfl <;> rfl
        show W p l e R s mth args below meth c H locs (cnt m - cnt m0) (slo m - slo m0) Q (F0 mth pc ls (Value.int x :: Value.ref (ρ a) :: rr.map (cv ρ vF)))
        rw [X.rh hh.2.1]
        refine va_put (D := D) (C := (clT ci).1) (T := (clT ci).2.1) (N := (clT ci).2.2) X.1 X.2.1 X.hts (lay_gw hci) ty0 hty hnm X.own X.K r.2.1 wsA_D r.2.2.1 a hws hq k hk (X.w hl gw_fl) (fun _ z => z) (by rw [e1]; exact decide_eq_false (by omega)) hpt hnar hfit (by rw [flds_len]; omega) hd (fun H1 locs1 hP1 hD1 hS1 => ?_)
        exact g ls H1 locs1 ⟨r.1, by rw [ws_fI hka hfk]; exact hP1, hS1, r.2.2.2.tr (mono_sI hh.2.1)⟩
      · cases h
    · cases h
  · rename_i q0 a rr
    split at h
    · rename_i ci k z hcp
      obtain ⟨q, hq, hk, hl⟩ := cp_val hcp
      obtain ⟨hci, rfl⟩ := cl_of hq
      split at h
      · rename_i hh
        have := nx_inj h
        subst this
        have hka := kd_in hh.1 hh.2.1
        have hN := (fk_ok ci hci).1
        obtain ⟨-, hrn, hwd, ⟨ty0, hty⟩, hnm⟩ := cl_ok ci hci
        obtain ⟨e1, e2, e3, e4⟩ := (fk_ok ci hci).2 k (by omega)
        have hws : (wsA base ρ cs m)[a]? = some (base + a, .inr (ci, flds ρ m a ci)) := wsA_get hka
        obtain ⟨ty, hpt, hnf⟩ := fk_rf hci (by omega) hh.2.2.1
        show W p l e R s mth args below meth c H locs (cnt m - cnt m0) (slo m - slo m0) Q (F0 mth pc ls (Value.ref (ρ q0) :: Value.ref (ρ a) :: rr.map (cv ρ vF)))
        rw [X.rh hh.2.1]
        refine va_putF (D := D) (C := (clT ci).1) (T := (clT ci).2.1) (N := (clT ci).2.2) X.1 X.2.1 X.hts (lay_gw hci) ty0 hty hnm X.own X.K r.2.1 wsA_D r.2.2.1 a hws hq k hk (X.w hl gw_fl) (fun _ z => z) (by rw [e1]; exact decide_eq_true hh.2.2.1) (X.ini hh.2.2.2.2.2) (by rw [e4, hrn, hh.2.2.2.2.1]) hpt (hnf _).1 (hnf _).2 (by rw [flds_len]; omega) hd (fun H1 locs1 hP1 hD1 hS1 => ?_)
        exact g ls H1 locs1 ⟨r.1, by rw [ws_fR hka hh.2.2.1]; exact hP1, hS1, r.2.2.2.tr mono_sR⟩
      · cases h
    · cases h
  · cases h
/-- iaload, baload, laload, aaload -/
theorem s_iaload (X : FX base ρ vF D cs p s mth args meth c mi nL m0) (hd : decode mi.2.1 pc = .ok (.iaload, 1)) (h : xald pc L st m 1 = some (.inl f)) (g : Go base ρ vF D cs p l e R s mth args below meth c Q nL m0 f) : Go base ρ vF D cs p l e R s mth args below meth c Q nL m0 (pc, L, st, m) := by
  intro ls H locs r
  unfold xald at h
  split at h
  · rename_i i a rr
    split at h
    · rename_i t n1 hk
      split at h
      · rename_i hi
        split at h
        · rename_i q
          have := nx_inj h
          subst this
          rcases q.1 with ⟨rfl, ha⟩ | ⟨rfl, ha⟩
          · have hws : (wsA base ρ cs m)[a]? = some (base + a, .inl (cs 1, n1, .inl (mI m a))) := wsA_get (kd_in hk ha)
            show W p l e R s mth args below meth c H locs (cnt m - cnt m0) (slo m - slo m0) Q (F0 mth pc ls (Value.int i :: Value.ref (ρ a) :: rr.map (cv ρ vF)))
            rw [X.rh ha]
            exact va_iald X.1 X.2.1 X.K r.2.1 a 0 hws rfl (inb_in hi) hd (g ls H locs r)
          · have hE := X.ext.xe r.2.2.2.1
            rcases kd5 hk ha with ⟨rfl, rfl⟩ | ⟨rfl, rfl⟩
            · exact va_sld X.1 X.2.1 hE.1 (Nat.lt_of_lt_of_le hE.2.1 X.bs) (Nat.not_le.mpr hE.2.1) r.2.2.1 (inb_in hi) hd (g ls H locs r)
            · exact va_ti X.1 X.2.1 hE.2.2.2.1 r.2.2.1 (inb_in hi) rfl hd (g ls H locs r)
        · split at h
          · rename_i q
            omega
          · split at h
            · rename_i q
              omega
            · split at h
              · rename_i q
                omega
              · cases h
      · cases h
    · cases h
  · cases h
theorem s_baload (X : FX base ρ vF D cs p s mth args meth c mi nL m0) (hd : decode mi.2.1 pc = .ok (.baload, 1)) (h : xald pc L st m 2 = some (.inl f)) (g : Go base ρ vF D cs p l e R s mth args below meth c Q nL m0 f) : Go base ρ vF D cs p l e R s mth args below meth c Q nL m0 (pc, L, st, m) := by
  intro ls H locs r
  unfold xald at h
  split at h
  · rename_i i a rr
    split at h
    · rename_i t n1 hk
      split at h
      · rename_i hi
        split at h
        · rename_i q
          omega
        · split at h
          · rename_i q
            have := nx_inj h
            subst this
            rcases q.1 with ⟨rfl, ha⟩ | ⟨rfl, ha⟩
            · have hws : (wsA base ρ cs m)[a]? = some (base + a, .inl (cs 2, n1, .inl (mI m a))) := wsA_get (kd_in hk ha)
              show W p l e R s mth args below meth c H locs (cnt m - cnt m0) (slo m - slo m0) Q (F0 mth pc ls (Value.int i :: Value.ref (ρ a) :: rr.map (cv ρ vF)))
              rw [X.rh ha]
              exact va_bald X.1 X.2.1 X.K r.2.1 a 1 hws rfl (inb_in hi) hd (g ls H locs r)
            · have hE := X.ext.xe r.2.2.2.1
              obtain ⟨j, rfl, hj, rfl⟩ := kd7 hk ha
              refine va_tb (v := .int (mI m (XB + 3 + 2 * j) i.toNatClampNeg)) X.1 X.2.1 (hE.2.2.2.2.2.2.1.1 j hj).2.2.2 r.2.2.1 (inb_in hi) ?_ hd (g ls H locs r)
              rw [hE.2.2.2.2.2.2.2.1 j hj]
          · split at h
            · rename_i q
              omega
            · split at h
              · rename_i q
                omega
              · cases h
      · cases h
    · cases h
  · cases h
theorem s_laload (X : FX base ρ vF D cs p s mth args meth c mi nL m0) (hd : decode mi.2.1 pc = .ok (.laload, 1)) (h : xald pc L st m 3 = some (.inl f)) (g : Go base ρ vF D cs p l e R s mth args below meth c Q nL m0 f) : Go base ρ vF D cs p l e R s mth args below meth c Q nL m0 (pc, L, st, m) := by
  intro ls H locs r
  unfold xald at h
  split at h
  · rename_i i a rr
    split at h
    · rename_i t n1 hk
      split at h
      · rename_i hi
        split at h
        · rename_i q
          omega
        · split at h
          · rename_i q
            omega
          · split at h
            · rename_i q
              have := nx_inj h
              subst this
              obtain ⟨rfl, ha, -⟩ := q
              have hws : (wsA base ρ cs m)[a]? = some (base + a, .inl (cs 3, n1, .inr (.inl (mJ m a)))) := wsA_get (kd_in hk ha)
              show W p l e R s mth args below meth c H locs (cnt m - cnt m0) (slo m - slo m0) Q (F0 mth pc ls (Value.int i :: Value.ref (ρ a) :: rr.map (cv ρ vF)))
              rw [X.rh ha]
              exact va_lald X.1 X.2.1 X.K r.2.1 a 2 hws rfl (inb_in hi) hd (g ls H locs r)
            · split at h
              · rename_i q
                omega
              · cases h
      · cases h
    · cases h
  · cases h
theorem s_aaload (X : FX base ρ vF D cs p s mth args meth c mi nL m0) (hd : decode mi.2.1 pc = .ok (.aaload, 1)) (h : xald pc L st m 4 = some (.inl f)) (g : Go base ρ vF D cs p l e R s mth args below meth c Q nL m0 f) : Go base ρ vF D cs p l e R s mth args below meth c Q nL m0 (pc, L, st, m) := by
  intro ls H locs r
  unfold xald at h
  split at h
  · rename_i i a rr
    split at h
    · rename_i t n1 hk
      split at h
      · rename_i hi
        split at h
        · rename_i q
          omega
        · split at h
          · rename_i q
            omega
          · split at h
            · rename_i q
              omega
            · split at h
              · rename_i q
                obtain ⟨rfl, ha, -⟩ := q
                split at h
                · rename_i q2 hq2
                  have := nx_inj h
                  subst this
                  have hws : (wsA base ρ cs m)[a]? = some (base + a, .inl (cs 4, n1, .inr (.inr (.inr (.inr (fun j => (mR m a j).map ρ)))))) := wsA_get (kd_in hk ha)
                  show W p l e R s mth args below meth c H locs (cnt m - cnt m0) (slo m - slo m0) Q (F0 mth pc ls (Value.int i :: Value.ref (ρ a) :: rr.map (cv ρ vF)))
                  rw [X.rh ha]
                  have hin := inb_in hi
                  have hlt : i.toNatClampNeg < n1 := Nat.not_le.mp fun q => hin (Or.inr q)
                  refine W.aald (v := .ref (ρ q2)) (ty := .array .int) X.1 X.2.1 (r.2.1 a _ hws) ((X.K.2 3 (cs 4, .array .int) rfl).1 n1 (fun j => va_rf ((mR m a j).map ρ))) rfl (fun q => by cases q) (by show ¬ (i < 0 ∨ (arrV _ _ _).slots.size ≤ _); rw [arrV_size]; exact hin) ?_ rfl rfl hd (g ls H locs r)
                  show (arrV _ _ _).slots[_]? = _
                  rw [arrV_read _ _ hlt]
                  show some (va_rf ((mR m a i.toNatClampNeg).map ρ)) = _
                  rw [hq2]
                  rfl
                · cases h
              · cases h
      · cases h
    · cases h
  · cases h
theorem s_iastore (X : FX base ρ vF D cs p s mth args meth c mi nL m0) (hd : decode mi.2.1 pc = .ok (.iastore, 1)) (h : xast pc L st m 1 = some (.inl f)) (g : Go base ρ vF D cs p l e R s mth args below meth c Q nL m0 f) : Go base ρ vF D cs p l e R s mth args below meth c Q nL m0 (pc, L, st, m) := by
  intro ls H locs r
  unfold xast at h
  split at h
  · rename_i x i a rr
    split at h
    · rename_i t n1 hk
      split at h
      · rename_i hi
        split at h
        · rename_i q
          have := nx_inj h
          subst this
          obtain ⟨rfl, -⟩ := q
          have hws : (wsA base ρ cs m)[a]? = some (base + a, .inl (cs 1, n1, .inl (mI m a))) := wsA_get (kd_in hk hi.2)
          show W p l e R s mth args below meth c H locs (cnt m - cnt m0) (slo m - slo m0) Q (F0 mth pc ls (Value.int x :: Value.int i :: Value.ref (ρ a) :: rr.map (cv ρ vF)))
          rw [X.rh hi.2]
          refine va_iast X.1 X.2.1 X.K r.2.1 wsA_D r.2.2.1 a 0 hws rfl (inb_in hi.1) hd (fun H1 locs1 hP1 hD1 hS1 => ?_)
          exact g ls H1 locs1 ⟨r.1, by rw [ws_sI (kd_in hk hi.2)]; exact hP1, hS1, r.2.2.2.tr (mono_sI hi.2)⟩
        · split at h
          · rename_i q
            omega
          · cases h
      · cases h
    · cases h
  · rename_i x i a rr
    split at h
    · rename_i t n1 hk
      split at h
      · rename_i q
        omega
      · cases h
    · cases h
  · cases h
theorem s_bastore (X : FX base ρ vF D cs p s mth args meth c mi nL m0) (hd : decode mi.2.1 pc = .ok (.bastore, 1)) (h : xast pc L st m 2 = some (.inl f)) (g : Go base ρ vF D cs p l e R s mth args below meth c Q nL m0 f) : Go base ρ vF D cs p l e R s mth args below meth c Q nL m0 (pc, L, st, m) := by
  intro ls H locs r
  unfold xast at h
  split at h
  · rename_i x i a rr
    split at h
    · rename_i t n1 hk
      split at h
      · rename_i hi
        split at h
        · rename_i q
          omega
        · split at h
          · rename_i q
            have := nx_inj h
            subst this
            obtain ⟨rfl, -⟩ := q
            have hws : (wsA base ρ cs m)[a]? = some (base + a, .inl (cs 2, n1, .inl (mI m a))) := wsA_get (kd_in hk hi.2)
            show W p l e R s mth args below meth c H locs (cnt m - cnt m0) (slo m - slo m0) Q (F0 mth pc ls (Value.int x :: Value.int i :: Value.ref (ρ a) :: rr.map (cv ρ vF)))
            rw [X.rh hi.2]
            refine va_bast X.1 X.2.1 X.K r.2.1 wsA_D r.2.2.1 a 1 hws rfl (inb_in hi.1) hd (fun H1 locs1 hP1 hD1 hS1 => ?_)
            exact g ls H1 locs1 ⟨r.1, by rw [ws_sIb (kd_in hk hi.2)]; exact hP1, hS1, r.2.2.2.tr (mono_sI hi.2)⟩
          · cases h
      · cases h
    · cases h
  · rename_i x i a rr
    split at h
    · rename_i t n1 hk
      split at h
      · rename_i q
        omega
      · cases h
    · cases h
  · cases h
theorem s_lastore (X : FX base ρ vF D cs p s mth args meth c mi nL m0) (hd : decode mi.2.1 pc = .ok (.lastore, 1)) (h : xast pc L st m 3 = some (.inl f)) (g : Go base ρ vF D cs p l e R s mth args below meth c Q nL m0 f) : Go base ρ vF D cs p l e R s mth args below meth c Q nL m0 (pc, L, st, m) := by
  intro ls H locs r
  unfold xast at h
  split at h
  · rename_i x i a rr
    split at h
    · rename_i t n1 hk
      split at h
      · split at h
        · rename_i q
          omega
        · split at h
          · rename_i q
            omega
          · cases h
      · cases h
    · cases h
  · rename_i x i a rr
    split at h
    · rename_i t n1 hk
      split at h
      · rename_i hi
        have := nx_inj h
        subst this
        obtain ⟨hi1, ha, rfl, -⟩ := hi
        have hws : (wsA base ρ cs m)[a]? = some (base + a, .inl (cs 3, n1, .inr (.inl (mJ m a)))) := wsA_get (kd_in hk ha)
        show W p l e R s mth args below meth c H locs (cnt m - cnt m0) (slo m - slo m0) Q (F0 mth pc ls (Value.long x :: Value.int i :: Value.ref (ρ a) :: rr.map (cv ρ vF)))
        rw [X.rh ha]
        refine va_last X.1 X.2.1 X.K r.2.1 wsA_D r.2.2.1 a 2 hws rfl (inb_in hi1) hd (fun H1 locs1 hP1 hD1 hS1 => ?_)
        exact g ls H1 locs1 ⟨r.1, by rw [ws_sJ (kd_in hk ha)]; exact hP1, hS1, r.2.2.2.tr mono_sJ⟩
      · cases h
    · cases h
  · cases h
end S3
