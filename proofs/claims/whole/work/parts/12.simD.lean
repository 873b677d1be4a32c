/-! ONE INSTRUCTION, kind by kind: new cells -/
section MK
variable {base : Nat} {ρ : Nat → Nat} {cs : Nat → ClassId} {m : AM}
theorem enc_mk1 {k k' : Nat × Nat} {a : Nat} (ha : a < (mK m).length) : enc ρ cs (mk1 m k) a k' = enc ρ cs m a k' := enc_ext (m := m) (m' := mk1 m k) (up1_ne (by omega)) (up1_ne (by omega)) (up1_ne (by omega)) k'
theorem ws_mk1 {k : Nat × Nat} : wsA base ρ cs (mk1 m k) = wsA base ρ cs m ++ [(base + (mK m).length, enc ρ cs (mk1 m k) (mK m).length k)] := by
  apply List.ext_getElem?
  intro i
  have hlen : (wsA base ρ cs m).length = (mK m).length := List.length_mapIdx
  rcases Nat.lt_trichotomy i (mK m).length with h | h | h
  · rw [List.getElem?_append_left (by omega)]
    unfold wsA
    rw [List.getElem?_mapIdx, List.getElem?_mapIdx]
    show Option.map _ ((mK m ++ [k])[i]?) = _
    rw [List.getElem?_append_left h, List.getElem?_eq_getElem h]
    simp only [Option.map_some]
    rw [enc_mk1 h]
  · subst h
    rw [List.getElem?_append_right (by omega), hlen, Nat.sub_self]
    refine wsA_get ?_
    show (mK m ++ [k])[(mK m).length]? = some k
    rw [List.getElem?_append_right (Nat.le_refl _), Nat.sub_self]
    rfl
  · have e1 : (wsA base ρ cs (mk1 m k)).length = (mK m).length + 1 := by
      unfold wsA
      rw [List.length_mapIdx]
      show (mK m ++ [k]).length = _
      rw [List.length_append]
      rfl
    rw [List.getElem?_eq_none (by omega), List.getElem?_eq_none (by rw [List.length_append, hlen]; show _ + 1 ≤ i; omega)]
theorem cnt_mk1 {k : Nat × Nat} : cnt (mk1 m k) = cnt m + 1 := by
  show (mK m ++ [k]).length + mX m = _
  rw [List.length_append]
  unfold cnt
  simp
  omega
theorem slo_mk1 {k : Nat × Nat} : slo (mk1 m k) = slo m + szK k := by
  show ((mK m ++ [k]).map szK).sum + 6 * mX m = _
  rw [List.map_append, List.sum_append]
  unfold slo
  simp
  omega
theorem mono_mk1 {k : Nat × Nat} (h : (mK m).length < 900000) : MonoA m (mk1 m k) := by
  refine ⟨⟨rfl, fun a ha => up1_ne (by unfold XB at ha; omega)⟩, by rw [cnt_mk1]; omega, by rw [slo_mk1]; omega, Nat.le_refl _, ?_⟩
  show (mK m).length ≤ (mK m ++ [k]).length
  rw [List.length_append]
  omega
theorem enc_mk2 {n k : Nat} {k' : Nat × Nat} {a : Nat} (ha : a < (mK m).length) : enc ρ cs (mk2 m n k) a k' = enc ρ cs m a k' := enc_ext (m := m) (m' := mk2 m n k) (up1_ne (by omega)) (if_neg (by omega)) rfl k'
theorem cnt_mk2 {n k : Nat} : cnt (mk2 m n k) = cnt m + (1 + n) := by
  show (mK m ++ (4, n) :: List.replicate n (1, k)).length + mX m = _
  rw [List.length_append, List.length_cons, List.length_replicate]
  unfold cnt
  omega
theorem slo_mk2 {n k : Nat} : slo (mk2 m n k) = slo m + (n + n * k) := by
  show ((mK m ++ (4, n) :: List.replicate n (1, k)).map szK).sum + 6 * mX m = _
  rw [List.map_append, List.sum_append, List.map_cons, List.sum_cons, List.map_replicate, List.sum_replicate_nat]
  unfold slo
  show _ + (n + n * k) + _ = _
  omega
theorem mono_mk2 {n k : Nat} (h : (mK m).length + n < 900000) : MonoA m (mk2 m n k) := by
  refine ⟨⟨rfl, fun a ha => if_neg (by unfold XB at ha; omega)⟩, by rw [cnt_mk2]; omega, by rw [slo_mk2]; omega, Nat.le_refl _, ?_⟩
  show (mK m).length ≤ (mK m ++ (4, n) :: List.replicate n (1, k)).length
  rw [List.length_append]
  omega
end MK
section S5
variable {base : Nat} {ρ : Nat → Nat} {vF : Value} {D : va_G} {cs : Nat → ClassId} {p : Program} {l : Launch} {e : Env} {R : Room} {s : State} {mth : MethodId} {args : Array Value} {below : List Frame} {meth : Method} {c : Code} {Q : State → Prop} {mi : MI} {nL : Nat} {m0 : AM} {pc n : Nat} {L : List (Option Value)} {st : List Value} {m : AM} {ls : Array Slot} {H : Heap} {locs : List Loc} {f : CF}
theorem s_newarray {ty : ArrayType} (X : FX base ρ vF D cs p s mth args meth c mi nL m0) (hd : decode mi.2.1 pc = .ok (.newarray ty, 2)) (h : xna pc L st m ty = some (.inl f)) (hN : cnt f.2.2.2 ≤ cnt m0 + R.cells) (hS : slo f.2.2.2 ≤ slo m0 + R.slots) (g : Go base ρ vF D cs p l e R s mth args below meth c Q nL m0 f) : Go base ρ vF D cs p l e R s mth args below meth c Q nL m0 (pc, L, st, m) := by
  intro ls H locs r
  unfold xna at h
  split at h
  · rename_i i rr
    split at h
    · rename_i q
      obtain ⟨q1, q2, q3, q4⟩ := q
      have hmo1 : cnt m0 ≤ cnt m := r.2.2.2.2.1
      have hmo2 : slo m0 ≤ slo m := r.2.2.2.2.2.1
      have key : ∀ (t : Nat) (fty : FieldType) (a0 : vp_A), newarray.typeOf ty = fty → Cond.arrayClass fty ∈ lw_tbl → (tysA cs)[t - 1]? = some (cs t, fty) → va_RA s (cs t) fty = (s.vm.findClass ("[" ++ fty.toString) = some (cs t)) → i.toNatClampNeg * componentBytes fty ≤ 536870912 → t ≠ 0 → enc ρ cs (mk1 m (t, i.toNatClampNeg)) (mK m).length (t, i.toNatClampNeg) = .inl (cs t, a0) → vp_cell (cs t) a0 = arrV (cs t) i.toNatClampNeg (fun _ => defaultValue fty) → f = (pc + 2, L, .ref (mK m).length :: rr, mk1 m (t, i.toNatClampNeg)) → W p l e R s mth args below meth c H locs (cnt m - cnt m0) (slo m - slo m0) Q (F0 mth pc ls ((Value.int i :: rr).map (cv ρ vF))) := by
        intro t fty a0 hty hac htt hra hbyt ht0 henc hcell hf
        subst hf
        subst hty
        have hN' : cnt m + 1 ≤ cnt m0 + R.cells := by rw [← cnt_mk1 (k := (t, i.toNatClampNeg))]; exact hN
        have hS' : slo m + i.toNatClampNeg ≤ slo m0 + R.slots := by
          have : slo (mk1 m (t, i.toNatClampNeg)) = slo m + i.toNatClampNeg := by rw [slo_mk1]; unfold szK; rw [if_neg ht0]
          rw [← this]
          exact hS
        refine W_sz X r (fun hsz => ?_)
        have hsz := hsz q3
        refine va_newaK X.1 X.2.1 (X.w hac gw_ac) (g := F0 mth pc ls ((Value.int i :: rr).map (cv ρ vF))) rfl hd rfl q1 rfl hbyt (by show cnt m - cnt m0 + 1 ≤ _; omega) (by show slo m - slo m0 + _ ≤ _; omega) rfl (fun H1 cA e1 z1 o1 hAr hfc => ?_)
        have hra2 : s.vm.findClass ("[" ++ (newarray.typeOf ty).toString) = some (cs t) := by
          rw [← hra]
          exact (X.K.2 (t - 1) _ htt).2
        have hcA : cA = cs t := Option.some.inj (hfc.symm.trans hra2)
        subst hcA
        have rel : Rf base ρ vF D cs s nL m0 (pc + 2, L, .ref (mK m).length :: rr, mk1 m (t, i.toNatClampNeg)) ls H1 locs := by
          refine ⟨r.1, ?_, ⟨Nat.le_trans r.2.2.1.1 (by omega), fun x h1 h2 => (o1 x (Nat.lt_of_lt_of_le h1 r.2.2.1.1)).trans (r.2.2.1.2.1 x h1 h2), r.2.2.1.2.2⟩, r.2.2.2.tr (mono_mk1 q4)⟩
          show va_P D vwCl (wsA base ρ cs (mk1 m (t, i.toNatClampNeg))) H1
          rw [ws_mk1]
          refine va_P.app (r.2.1.kept (fun k x hx => o1 x.1 ((r.2.1 k x hx).lt))) (fun k x hx => ?_)
          have hz : k < 1 := (List.getElem?_eq_some_iff.mp hx).1
          rw [show k = 0 by omega] at hx
          cases hx
          rw [henc]
          show H1[base + (mK m).length]? = some (vp_cell (cs t) a0)
          rw [← hsz, hcell]
          exact e1
        have g2 : W p l e R s mth args below meth c H1 locs (cnt (mk1 m (t, i.toNatClampNeg)) - cnt m0) (slo (mk1 m (t, i.toNatClampNeg)) - slo m0) Q (F0 mth (pc + 2) ls (Value.ref (ρ (mK m).length) :: rr.map (cv ρ vF))) := g ls H1 locs rel
        have ec : cnt (mk1 m (t, i.toNatClampNeg)) - cnt m0 = cnt m - cnt m0 + 1 := by rw [cnt_mk1]; omega
        have es : slo (mk1 m (t, i.toNatClampNeg)) - slo m0 = slo m - slo m0 + i.toNatClampNeg := by
          rw [slo_mk1]
          unfold szK
          rw [if_neg ht0]
          omega
        rw [ec, es, X.rh (by unfold XB; omega), ← hsz] at g2
        exact g2
      split at h
      · exact key 1 .int (i.toNatClampNeg, .inl (fun _ => 0)) rfl tw_arr_int rfl rfl (by show _ * 4 ≤ _; omega) (by decide) (by show Sum.inl (cs 1, _, Sum.inl (up1 (mI m) (mK m).length (fun _ => 0) (mK m).length)) = _; rw [up1_self]) rfl (nx_inj h)
      · exact key 2 .byte (i.toNatClampNeg, .inl (fun _ => 0)) rfl tw_arr_byte rfl rfl (by show _ * 1 ≤ _; omega) (by decide) (by show Sum.inl (cs 2, _, Sum.inl (up1 (mI m) (mK m).length (fun _ => 0) (mK m).length)) = _; rw [up1_self]) rfl (nx_inj h)
      · exact key 3 .long (i.toNatClampNeg, .inr (.inl (fun _ => 0))) rfl tw_arr_long rfl rfl (by show _ * 8 ≤ _; omega) (by decide) (by show Sum.inl (cs 3, _, Sum.inr (Sum.inl (up1 (mJ m) (mK m).length (fun _ => 0) (mK m).length))) = _; rw [up1_self]) rfl (nx_inj h)
      · cases h
    · cases h
  · cases h
theorem fk_three : ∀ ci, ci < 13 → ∀ k, k < nF ci → fk ci k = 0 ∨ fk ci k = 2 ∨ fk ci k = 3 := by decide +kernel
/-- what a new object's field holds -/
theorem fdef {ci k : Nat} (hci : ci < 13) (hk : k < nF ci) {ty : FieldType} (h : parseFieldDescriptor ((clT ci).2.1 k).2.2.1 = some ty) : defaultValue ty = fval ρ (mk1 m (0, ci)) (mK m).length k (fk ci k) := by
  obtain ⟨e1, e2, e3, e4⟩ := (fk_ok ci hci).2 k hk
  unfold fval
  show _ = if fk ci k = 2 then va_rf ((up1 (mR m) (mK m).length (fun _ => none) (mK m).length k).map ρ) else if fk ci k = 1 then .long (up1 (mJ m) (mK m).length (fun _ => 0) (mK m).length k) else .int (up1 (mI m) (mK m).length (fun _ => 0) (mK m).length k)
  rw [up1_self, up1_self, up1_self]
  rcases fk_three ci hci k hk with q | q | q
  · rw [e2 q, prs_I] at h
    cases h
    rw [q]
    rfl
  · have h3 := fk_rf0 ci hci k hk q
    rw [h] at h3
    rw [q]
    cases ty <;> first | rfl | (simp at h3)
  · rw [e3 q, prs_Z] at h
    cases h
    rw [q]
    rfl
theorem s_newC {idx ci x1 x2 : Nat} (X : FX base ρ vF D cs p s mth args meth c mi nL m0) (hd : decode mi.2.1 pc = .ok (.new idx, 3)) (hcp : cp mi.1 idx = some (12, ci, x1, x2)) (q3 : mX m = 0) (q4 : (mK m).length < 900000) (hN : cnt (mk1 m (0, ci)) ≤ cnt m0 + R.cells) (hS : slo (mk1 m (0, ci)) ≤ slo m0 + R.slots) (g : Go base ρ vF D cs p l e R s mth args below meth c Q nL m0 (pc + 3, L, .ref (mK m).length :: st, mk1 m (0, ci))) : Go base ρ vF D cs p l e R s mth args below meth c Q nL m0 (pc, L, st, m) := by
  intro ls H locs r
  have hmo1 : cnt m0 ≤ cnt m := r.2.2.2.2.1
  have hmo2 : slo m0 ≤ slo m := r.2.2.2.2.2.1
  obtain ⟨q, hq, hn, hcl, hins, hini⟩ := cp_val hcp
  obtain ⟨hci, rfl⟩ := cl_of hq
  have hNF := (fk_ok ci hci).1
  obtain ⟨-, -, hwd, ⟨ty0, hty⟩, hnm⟩ := cl_ok ci hci
  have hsz1 : szK (0, ci) = x1 := by
    show nF ci = x1
    rw [← hNF, hn]
  rw [cnt_mk1] at hN
  rw [slo_mk1, hsz1] at hS
  refine W_sz X r (fun hsz => ?_)
  have hsz := hsz q3
  have hKn := X.K.1 ci _ hq
  refine W.newcK X.1 X.2.1 X.own (X.w hcl gw_cl) (X.w hins gw_is) (X.w hini gw_in) (g := F0 mth pc ls (st.map (cv ρ vF))) rfl hd (by show cnt m - cnt m0 + 1 ≤ _; omega) (by show slo m - slo m0 + _ ≤ _; omega) hKn.2.1 rfl (fun H1 kC hkC e1 z1 o1 => ?_)
  have rel : Rf base ρ vF D cs s nL m0 (pc + 3, L, .ref (mK m).length :: st, mk1 m (0, ci)) ls H1 locs := by
    refine ⟨r.1, ?_, ⟨Nat.le_trans r.2.2.1.1 (by omega), fun x h1 h2 => (o1 x (Nat.lt_of_lt_of_le h1 r.2.2.1.1)).trans (r.2.2.1.2.1 x h1 h2), r.2.2.1.2.2⟩, r.2.2.2.tr (mono_mk1 q4)⟩
    show va_P D vwCl (wsA base ρ cs (mk1 m (0, ci))) H1
    rw [ws_mk1]
    refine va_P.app (r.2.1.kept (fun k x hx => o1 x.1 ((r.2.1 k x hx).lt))) (fun k x hx => ?_)
    have hz : k < 1 := (List.getElem?_eq_some_iff.mp hx).1
    rw [show k = 0 by omega] at hx
    cases hx
    refine ⟨_, hq, ?_⟩
    rw [hsz] at e1
    refine (u_born ty0 X.hts (lay_gw hci) hKn hkC e1 hty).to (fun k hk => ?_)
    rw [fdef (ρ := ρ) (m := m) hci (by omega) (hty k hk)]
    unfold vp_V
    rw [List.getD_eq_getElem?_getD, flds_get (by omega)]
    rfl
  have g2 : W p l e R s mth args below meth c H1 locs (cnt (mk1 m (0, ci)) - cnt m0) (slo (mk1 m (0, ci)) - slo m0) Q (F0 mth (pc + 3) ls (Value.ref (ρ (mK m).length) :: st.map (cv ρ vF))) := g ls H1 locs rel
  have ec : cnt (mk1 m (0, ci)) - cnt m0 = cnt m - cnt m0 + 1 := by rw [cnt_mk1]; omega
  have es : slo (mk1 m (0, ci)) - slo m0 = slo m - slo m0 + x1 := by rw [slo_mk1, hsz1]; omega
  rw [ec, es, X.rh (by unfold XB; omega), ← hsz] at g2
  exact g2
theorem s_mna {idx dm : Nat} (X : FX base ρ vF D cs p s mth args meth c mi nL m0) (hd : decode mi.2.1 pc = .ok (.multianewarray idx dm, 4)) (h : xmna mi.1 pc L st m idx dm = some (.inl f)) (hN : cnt f.2.2.2 ≤ cnt m0 + R.cells) (hS : slo f.2.2.2 ≤ slo m0 + R.slots) (g : Go base ρ vF D cs p l e R s mth args below meth c Q nL m0 f) : Go base ρ vF D cs p l e R s mth args below meth c Q nL m0 (pc, L, st, m) := by
  intro ls H locs r
  unfold xmna at h
  split at h
  · rename_i k n1 rr
    split at h
    · rename_i q
      obtain ⟨rfl, q1, q2, q3, q4, q5, q6⟩ := q
      split at h
      · rename_i x0 x1 x2 hcp
        have := nx_inj h
        subst this
        have hmo1 : cnt m0 ≤ cnt m := r.2.2.2.2.1
        have hmo2 : slo m0 ≤ slo m := r.2.2.2.2.2.1
        have hN' : cnt (mk2 m n1.toNatClampNeg k.toNatClampNeg) ≤ cnt m0 + R.cells := hN
        have hS' : slo (mk2 m n1.toNatClampNeg k.toNatClampNeg) ≤ slo m0 + R.slots := hS
        rw [cnt_mk2] at hN'
        rw [slo_mk2] at hS'
        have hl := cp_val hcp
        refine W_sz X r (fun hsz => ?_)
        have hsz := hsz q5
        intro T hT Y
        obtain ⟨vm₁, cA, comp, -, fA, fC, hO, -, Y', stp⟩ := Y.multianewarray2F (ty := .int) X.1 X.own (X.w hl gw_cl) (va_AOA.use X.ext.2.2.2.2.2.2.2.2.2.2.2.2.2.1) (X.w tw_arr_int gw_ac) (g := F0 mth pc ls ((Value.int k :: Value.int n1 :: rr).map (cv ρ vF))) rfl (by rw [X.2.1]; exact hd) rfl q1 q2 (by omega) (by show _ * 4 ≤ _; omega) (by omega) rfl rfl (by show cnt m - cnt m0 + _ ≤ _; omega) (by show slo m - slo m0 + _ ≤ _; omega)
        have hA4 : cA = cs 4 := Option.some.inj (fA.symm.trans (X.K.2 3 (cs 4, .array .int) rfl).2)
        have hA1 : comp = cs 1 := Option.some.inj (fC.symm.trans (X.K.2 0 (cs 1, .int) rfl).2)
        subst hA4
        subst hA1
        obtain ⟨f1, f2, -, -⟩ := Jvm.Free.Multi.fill_facts (T.setVm vm₁) (cs 4) (cs 1) n1.toNatClampNeg k.toNatClampNeg (defaultValue .int) n1.toNatClampNeg
        have hTh : (T.setVm vm₁).heap = H := hT
        have hold : ∀ x : Nat, x < H.size → (Jvm.Free.Multi.fill (T.setVm vm₁) (cs 4) (cs 1) n1.toNatClampNeg k.toNatClampNeg (defaultValue .int) n1.toNatClampNeg).heap[x]? = H[x]? := fun x hx => by
          have := Jvm.Free.Multi.fill_old (T.setVm vm₁) (cs 4) (cs 1) n1.toNatClampNeg k.toNatClampNeg (defaultValue .int) (a := x) (by rw [hTh]; exact hx) n1.toNatClampNeg
          rw [hTh] at this
          exact this
        have hrow : ∀ j : Nat, j < n1.toNatClampNeg → (Jvm.Free.Multi.fill (T.setVm vm₁) (cs 4) (cs 1) n1.toNatClampNeg k.toNatClampNeg (defaultValue .int) n1.toNatClampNeg).heap[H.size + 1 + j]? = some (Jvm.Free.Multi.innerC (cs 1) k.toNatClampNeg (defaultValue .int)) := fun j hj => by
          have := Jvm.Free.Multi.fill_inner (T.setVm vm₁) (cs 4) (cs 1) n1.toNatClampNeg k.toNatClampNeg (defaultValue .int) n1.toNatClampNeg j hj
          rw [hTh] at this
          exact this
        rw [hTh] at f1 f2
        generalize hF : Jvm.Free.Multi.fill (T.setVm vm₁) (cs 4) (cs 1) n1.toNatClampNeg k.toNatClampNeg (defaultValue .int) n1.toNatClampNeg = F at Y' stp f1 f2 hold hrow
        have rel : Rf base ρ vF D cs s nL m0 (pc + 4, L, .ref (mK m).length :: rr, mk2 m n1.toNatClampNeg k.toNatClampNeg) ls F.heap locs := by
          refine ⟨r.1, ?_, ⟨Nat.le_trans r.2.2.1.1 (by omega), fun x h1 h2 => (hold x (Nat.lt_of_lt_of_le h1 r.2.2.1.1)).trans (r.2.2.1.2.1 x h1 h2), r.2.2.1.2.2⟩, r.2.2.2.tr (mono_mk2 q6)⟩
          show va_P D vwCl (wsA base ρ cs (mk2 m n1.toNatClampNeg k.toNatClampNeg)) F.heap
          intro a z hz
          obtain ⟨kk, hkk, rfl⟩ := wsA_at hz
          have hkk2 : (mK m ++ (4, n1.toNatClampNeg) :: List.replicate n1.toNatClampNeg (1, k.toNatClampNeg))[a]? = some kk := hkk
          rcases Nat.lt_trichotomy a (mK m).length with ha | ha | ha
          · rw [List.getElem?_append_left ha] at hkk2
            rw [enc_mk2 ha]
            have hw := wsA_get (base := base) (ρ := ρ) (cs := cs) (m := m) hkk2
            exact (r.2.1 a _ hw).kept (hold _ ((r.2.1 a _ hw).lt))
          · subst ha
            rw [List.getElem?_append_right (Nat.le_refl _), Nat.sub_self] at hkk2
            cases hkk2
            show F.heap[base + (mK m).length]? = some (vp_cell (cs 4) (n1.toNatClampNeg, _))
            rw [← hsz, f2, vr_outer, vp_cell_q]
            congr 1
            congr 1
            funext j
            congr 1
            show _ = (up1 (mR m) (mK m).length (fun i => if i < n1.toNatClampNeg then some ((mK m).length + 1 + i) else none) (mK m).length j).map ρ
            rw [up1_self]
            by_cases hj : j < n1.toNatClampNeg
            · rw [if_pos hj, if_pos hj, Option.map_some, X.rh (by unfold XB; omega), hsz]
              congr 1
              omega
            · rw [if_neg hj, if_neg hj]
              rfl
          · rw [List.getElem?_append_right (by omega), show a - (mK m).length = (a - (mK m).length - 1) + 1 by omega, List.getElem?_cons_succ] at hkk2
            have hlt : a - (mK m).length - 1 < n1.toNatClampNeg := by
              have := (List.getElem?_eq_some_iff.mp hkk2).1
              rw [List.length_replicate] at this
              exact this
            rw [List.getElem?_replicate, if_pos hlt] at hkk2
            cases hkk2
            show F.heap[base + a]? = some (vp_cell (cs 1) (k.toNatClampNeg, Sum.inl (if (mK m).length < a ∧ a ≤ (mK m).length + n1.toNatClampNeg then (fun _ => 0) else mI m a)))
            rw [if_pos ⟨ha, by omega⟩, vp_cell_i]
            have hr := hrow (a - (mK m).length - 1) hlt
            rw [show H.size + 1 + (a - (mK m).length - 1) = base + a by omega] at hr
            rw [hr]
            exact congrArg some (arrV_new (cs 1) k.toNatClampNeg (.int 0))
        have g2 : W p l e R s mth args below meth c F.heap locs (cnt (mk2 m n1.toNatClampNeg k.toNatClampNeg) - cnt m0) (slo (mk2 m n1.toNatClampNeg k.toNatClampNeg) - slo m0) Q (F0 mth (pc + 4) ls (Value.ref (ρ (mK m).length) :: rr.map (cv ρ vF))) := g ls F.heap locs rel
        have ec : cnt (mk2 m n1.toNatClampNeg k.toNatClampNeg) - cnt m0 = cnt m - cnt m0 + 1 + n1.toNatClampNeg := by rw [cnt_mk2]; omega
        have es : slo (mk2 m n1.toNatClampNeg k.toNatClampNeg) - slo m0 = slo m - slo m0 + n1.toNatClampNeg + n1.toNatClampNeg * k.toNatClampNeg := by rw [slo_mk2]; omega
        rw [ec, es, X.rh (by unfold XB; omega), ← hsz] at g2
        obtain ⟨t, a1, b1⟩ := g2 F rfl Y'
        rw [← hT] at a1
        exact ⟨t, stp t a1, b1⟩
      · cases h
    · cases h
  · cases h
end S5
