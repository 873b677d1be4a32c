/-! CALLS, kind by kind -/
theorem cwM_nil {pe : MethodName × MI × Nat} (h : pe.2.1.2.2.2 = []) : cwM pe = Cond.code pe.1 pe.2.1.2.1 pe.2.2 (retT pe.2.1.2.2.1) := by
  unfold cwM
  rw [h]
theorem cwM_cons {pe : MethodName × MI × Nat} (h : pe.2.1.2.2.2 ≠ []) : cwM pe = Cond.codeWith pe.1 pe.2.1.2.1 pe.2.2 (retT pe.2.1.2.2.1) pe.2.1.2.2.2 := by
  unfold cwM
  split
  · rename_i q
    exact absurd q h
  · rfl
theorem stk {n : Nat} {st : List Value} {x : Value} {rr : List Value} (h : st.drop n = x :: rr) : st = (st.take n).reverse.reverse ++ x :: rr ∧ (st.take n).reverse.length = n := by
  have h1 : n < st.length := by
    rcases Nat.lt_or_ge n st.length with q | q
    · exact q
    · rw [List.drop_eq_nil_of_le q] at h
      cases h
  rw [List.reverse_reverse, List.length_reverse, List.length_take]
  exact ⟨by rw [← h, List.take_append_drop], by omega⟩
theorem stkS {n : Nat} {st : List Value} (h : n ≤ st.length) : st = (st.take n).reverse.reverse ++ st.drop n ∧ (st.take n).reverse.length = n := by
  rw [List.reverse_reverse, List.length_reverse, List.length_take]
  exact ⟨(List.take_append_drop n st).symm, by omega⟩
theorem gi_app {a b : List Cond} (h : ∀ w ∈ a, w ∈ gw) (hb : GoodIn gw b) : GoodIn gw (a ++ b) := fun w hw => (List.mem_append.mp hw).elim (fun z => gwW (h w z)) (hb w)
section S7
variable {base : Nat} {ρ : Nat → Nat} {vF : Value} {D : va_G} {cs : Nat → ClassId} {p : Program} {l : Launch} {e : Env} {R : Room} {s : State} {mth : MethodId} {args : Array Value} {below : List Frame} {meth : Method} {c : Code} {Q : State → Prop} {mi : MI} {nL : Nat} {m0 : AM} {pc n : Nat} {L : List (Option Value)} {st : List Value} {m : AM} {ls : Array Slot} {H : Heap} {locs : List Loc} {f : CF}
variable {call : CALL} {d : Nat}
theorem room8 (hF : vF.category = 1) {rr : List Value} (hw : wds rr ≤ 8) (g : List Value) : 2 * (F0 mth pc ls g).monitorRoom + ((rr.map (cv ρ vF)).map fun v => v.category).sum ≤ 8 := by
  have := wds_cv (ρ := ρ) hF rr
  exact lv_room (by omega)
/-- invokevirtual of a method of ours -/
theorem s_V {idx id n ci a : Nat} {rr : List Value} {rs : RS} {m' : AM} (X : FX base ρ vF D cs p s mth args meth c mi nL m0) (CK : ∀ (id : Nat) (vs : List Value) (m : AM) (r : RS) (m' : AM), call id vs m = some (r, m') → CokM l base ρ vF D cs d id vs m r m') (hRf : d + 9 ≤ R.frames) (hRl : 64 * d + 320 ≤ R.locals) (hN : cnt m' ≤ cnt m0 + R.cells) (hS : slo m' ≤ slo m0 + R.slots) (hcp : cp mi.1 idx = some (1, id, n, ci)) (hst : st.drop n = .ref a :: rr) (hk : kd m a = some (0, ci)) (ha : a < XB) (hw : wds rr ≤ 8) (hd : decode mi.2.1 pc = .ok (.invokevirtual idx, 3)) (hcall : call id (.ref a :: (st.take n).reverse) m = some (rs, m'))
    (gr : ∀ v, rs = .inl v → Go base ρ vF D cs p l e R s mth args below meth c Q nL m0 (pc + 3, L, v.toList ++ rr, m'))
    (gt : ∀ ex, rs = .inr ex → ex < 2 → ∀ (ls : Array Slot) (ce : Cell) (q : Addr) (H1 : Heap) (locs1 : List Loc), H1[q]? = some ce → ce.vm = .none → s.vm.findClass (exN ex) = some ce.cls → Rf base ρ vF D cs s nL m0 (pc, L, rr, m') ls H1 locs1 → vx_W p l e R s mth args below meth c H1 locs1 (cnt m' - cnt m0) (slo m' - slo m0) Q (F0 mth pc ls (rr.map (cv ρ vF))) q) : Go base ρ vF D cs p l e R s mth args below meth c Q nL m0 (pc, L, st, m) := by
  intro ls H locs r
  obtain ⟨pe, hpe, hcls, hl, him, hse, hin, hpn, hnil⟩ := cp_val hcp
  obtain ⟨pe2, hpe2, hmo, hM⟩ := CK _ _ _ _ _ hcall
  cases hpe.symm.trans hpe2
  obtain ⟨hpl, hmh, hrn, hmx, -⟩ := mv_of hpe
  have k1 : cnt m0 ≤ cnt m := r.2.2.2.2.1
  have k2 : slo m0 ≤ slo m := r.2.2.2.2.2.1
  have k3 := hmo.2.1
  have k4 := hmo.2.2.1
  obtain ⟨hs1, hs2⟩ := stk hst
  have hka := kd_in hk ha
  have hwg := wsA_get (base := base) (ρ := ρ) (cs := cs) hka
  obtain ⟨q0, hq0, -⟩ := r.2.1 a _ hwg
  obtain ⟨hci, rfl⟩ := cl_of hq0
  have hC : pe.1.cls = (clT ci).1 := by rw [hcls, (cl_ok ci hci).2.1]
  have hcw : CallW R s args (rn mi.1) pe.1.cls idx pe.1 pe.2.1.2.1 pe.2.2 (retT pe.2.1.2.2.1) (wsM pe) (rmM d m m') (cnt m' - cnt m) (slo m' - slo m) n := by
    refine cwV (Ts := gw) (ws' := gw) n X.hts ?_ (by unfold wsM; rw [cwM_nil hnil]) rfl rfl ⟨rfl, hmh.1, hmh.2, hpn⟩ ⟨hRf, by have h9 := rmM_l d m m'; omega⟩
    refine gi_app (fun w hw => ?_) (wsM_good hpe)
    simp only [List.mem_cons, List.not_mem_nil, or_false] at hw
    rcases hw with rfl | rfl | rfl | rfl
    · exact gw_of hl gw_ml
    · exact gw_of him gw_im
    · exact gw_of hse gw_se
    · exact gw_of hin gw_in
  have hrecv : ∃ cell : Cell, H[ρ a]? = some cell ∧ cell.vm.isStatics = false ∧ s.vm.findClass pe.1.cls = some cell.cls := by
    rw [X.rh ha, hC]
    exact va_recv X.K r.2.1 hq0 hwg
  have hstack : st.map (cv ρ vF) = ((st.take n).reverse.map (cv ρ vF)).reverse ++ Value.ref (ρ a) :: rr.map (cv ρ vF) := by
    conv => lhs; rw [hs1]
    rw [List.map_append, List.map_reverse]
    rfl
  refine W_sz X r (fun hsz => ?_)
  have hp : PreV s H pe.1.cls (ρ a) (PcM base ρ vF D cs (.ref a :: (st.take n).reverse) m) ((st.take n).reverse.map (cv ρ vF)) := ⟨pcM_blind, hrecv, fun U hU hW => ⟨rfl, pcM_at X r hsz hU hW⟩⟩
  have hf : cnt m - cnt m0 + (cnt m' - cnt m) ≤ R.cells ∧ slo m - slo m0 + (slo m' - slo m) ≤ R.slots := ⟨by omega, by omega⟩
  cases rs with
  | inl v => exact call_go (va_runV (rest := rr.map (cv ρ vF)) ⟨X.1, X.2.1, X.2.2.1, X.own, X.hts⟩ hM hcw hp rfl (by rw [List.length_map]; exact hs2) r.1.2.1 hstack (room8 X.hF hw _) hd hf) r hmo (gr v rfl)
  | inr ex => exact thr_go (vx_runV (rest := rr.map (cv ρ vF)) ⟨X.1, X.2.1, X.2.2.1, X.own, X.hts⟩ hM.2.2 hcw hp rfl (by rw [List.length_map]; exact hs2) r.1.2.1 hstack (room8 X.hF hw _) hd hf) r hmo (gt ex rfl hM.1 ls)
/-- invokevirtual on a String constant -/
theorem s_VS {idx id n x1 a j : Nat} {rr : List Value} {v : Option Value} {m' : AM} (X : FX base ρ vF D cs p s mth args meth c mi nL m0) (CK : ∀ (id : Nat) (vs : List Value) (m : AM) (r : RS) (m' : AM), call id vs m = some (r, m') → CokM l base ρ vF D cs d id vs m r m') (hRf : d + 9 ≤ R.frames) (hRl : 64 * d + 320 ≤ R.locals) (hN : cnt m' ≤ cnt m0 + R.cells) (hS : slo m' ≤ slo m0 + R.slots) (hcp : cp mi.1 idx = some (10, id, n, x1)) (hst : st.drop n = .ref a :: rr) (hk : kd m a = some (6, j)) (ha : XB ≤ a) (hw : wds rr ≤ 8) (hd : decode mi.2.1 pc = .ok (.invokevirtual idx, 3)) (hcall : call id (.ref a :: (st.take n).reverse) m = some (.inl v, m'))
    (gr : Go base ρ vF D cs p l e R s mth args below meth c Q nL m0 (pc + 3, L, v.toList ++ rr, m')) : Go base ρ vF D cs p l e R s mth args below meth c Q nL m0 (pc, L, st, m) := by
  intro ls H locs r
  obtain ⟨pe, hpe, hl, him, hse, hin, hpn, hnil, hcls⟩ := cp_val hcp
  obtain ⟨pe2, hpe2, hmo, hM⟩ := CK _ _ _ _ _ hcall
  cases hpe.symm.trans hpe2
  obtain ⟨hpl, hmh, hrn, hmx, -⟩ := mv_of hpe
  have k1 : cnt m0 ≤ cnt m := r.2.2.2.2.1
  have k2 : slo m0 ≤ slo m := r.2.2.2.2.2.1
  have k3 := hmo.2.1
  have k4 := hmo.2.2.1
  obtain ⟨hs1, hs2⟩ := stk hst
  obtain ⟨rfl, hj⟩ := kd6 hk (Nat.not_lt.mpr ha)
  have hcw : CallW R s args (rn mi.1) pe.1.cls idx pe.1 pe.2.1.2.1 pe.2.2 (retT pe.2.1.2.2.1) (wsM pe) (rmM d m m') (cnt m' - cnt m) (slo m' - slo m) n := by
    refine cwV (Ts := gw) (ws' := gw) n X.hts ?_ (by unfold wsM; rw [cwM_nil hnil]) rfl rfl ⟨rfl, hmh.1, hmh.2, hpn⟩ ⟨hRf, by have h9 := rmM_l d m m'; omega⟩
    refine gi_app (fun w hw => ?_) (wsM_good hpe)
    simp only [List.mem_cons, List.not_mem_nil, or_false] at hw
    rcases hw with rfl | rfl | rfl | rfl
    · exact gw_of hl gw_ml
    · exact gw_of him gw_im
    · exact gw_of hse gw_se
    · exact gw_of hin gw_in
  have hrecv : ∃ cell : Cell, H[ρ (XB + 2 + 2 * j)]? = some cell ∧ cell.vm.isStatics = false ∧ s.vm.findClass pe.1.cls = some cell.cls := by
    rw [hcls]
    have hv := vk_recv (i := j) X.ext.2.2.2.2.2.2.1 hj r.2.2.1
    exact hv
  have hstack : st.map (cv ρ vF) = ((st.take n).reverse.map (cv ρ vF)).reverse ++ Value.ref (ρ (XB + 2 + 2 * j)) :: rr.map (cv ρ vF) := by
    conv => lhs; rw [hs1]
    rw [List.map_append, List.map_reverse]
    rfl
  refine W_sz X r (fun hsz => ?_)
  have hp : PreV s H pe.1.cls (ρ (XB + 2 + 2 * j)) (PcM base ρ vF D cs (.ref (XB + 2 + 2 * j) :: (st.take n).reverse) m) ((st.take n).reverse.map (cv ρ vF)) := ⟨pcM_blind, hrecv, fun U hU hW => ⟨rfl, pcM_at X r hsz hU hW⟩⟩
  have hf : cnt m - cnt m0 + (cnt m' - cnt m) ≤ R.cells ∧ slo m - slo m0 + (slo m' - slo m) ≤ R.slots := ⟨by omega, by omega⟩
  exact call_go (va_runV (rest := rr.map (cv ρ vF)) ⟨X.1, X.2.1, X.2.2.1, X.own, X.hts⟩ hM hcw hp rfl (by rw [List.length_map]; exact hs2) r.1.2.1 hstack (room8 X.hF hw _) hd hf) r hmo gr
/-- invokestatic -/
theorem s_S {idx id n x1 : Nat} {v : Option Value} {m' : AM} (X : FX base ρ vF D cs p s mth args meth c mi nL m0) (CK : ∀ (id : Nat) (vs : List Value) (m : AM) (r : RS) (m' : AM), call id vs m = some (r, m') → CokM l base ρ vF D cs d id vs m r m') (hRf : d + 9 ≤ R.frames) (hRl : 64 * d + 320 ≤ R.locals) (hN : cnt m' ≤ cnt m0 + R.cells) (hS : slo m' ≤ slo m0 + R.slots) (hcp : cp mi.1 idx = some (2, id, n, x1)) (hst : n ≤ st.length) (hw : wds (st.drop n) ≤ 8) (hd : decode mi.2.1 pc = .ok (.invokestatic idx, 3)) (hcall : call id (st.take n).reverse m = some (.inl v, m'))
    (gr : Go base ρ vF D cs p l e R s mth args below meth c Q nL m0 (pc + 3, L, v.toList ++ st.drop n, m')) : Go base ρ vF D cs p l e R s mth args below meth c Q nL m0 (pc, L, st, m) := by
  intro ls H locs r
  obtain ⟨pe, hpe, hl, hsta, hin, hpn⟩ := cp_val hcp
  obtain ⟨pe2, hpe2, hmo, hM⟩ := CK _ _ _ _ _ hcall
  cases hpe.symm.trans hpe2
  obtain ⟨hpl, hmh, hrn, hmx, -⟩ := mv_of hpe
  have k1 : cnt m0 ≤ cnt m := r.2.2.2.2.1
  have k2 : slo m0 ≤ slo m := r.2.2.2.2.2.1
  have k3 := hmo.2.1
  have k4 := hmo.2.2.1
  obtain ⟨hs1, hs2⟩ := stkS hst
  have hstack : st.map (cv ρ vF) = ((st.take n).reverse.map (cv ρ vF)).reverse ++ (st.drop n).map (cv ρ vF) := by
    conv => lhs; rw [hs1]
    rw [List.map_append, List.map_reverse]
  refine W_sz X r (fun hsz => ?_)
  have hp : PreS s H (PcM base ρ vF D cs (st.take n).reverse m) ((st.take n).reverse.map (cv ρ vF)) := ⟨pcM_blind, fun U hU hW => ⟨rfl, pcM_at X r hsz hU hW⟩⟩
  have hf : cnt m - cnt m0 + (cnt m' - cnt m) ≤ R.cells ∧ slo m - slo m0 + (slo m' - slo m) ≤ R.slots := ⟨by omega, by omega⟩
  have hRo : (rmM d m m').frames + 1 ≤ R.frames ∧ 8 + (pe.2.2 + 11) + (rmM d m m').locals ≤ R.locals := ⟨hRf, by have h9 := rmM_l d m m'; omega⟩
  by_cases hnil : pe.2.1.2.2.2 = []
  · have hcw : CallB R s args (rn mi.1) idx pe.1 pe.2.1.2.1 pe.2.2 (retT pe.2.1.2.2.1) (wsM pe) (rmM d m m') (cnt m' - cnt m) (slo m' - slo m) n ∧ (Cond.static pe.1).before args s = true :=
      ⟨callB_of (ws' := gw) n X.hts (wsM_good hpe) (by unfold wsM; rw [cwM_nil hnil]) rfl rfl (X.w hin gw_in) (X.w hl gw_ml) ⟨hmh.1, hmh.2, hpn⟩ hRo, X.w hsta gw_st⟩
    exact call_go (va_runS (rest := (st.drop n).map (cv ρ vF)) ⟨X.1, X.2.1, X.2.2.1, X.own, X.hts⟩ hM hcw hp rfl (by rw [List.length_map]; exact hs2) r.1.2.1 hstack (room8 X.hF hw _) hd hf) r hmo gr
  · have hcw : vx_CSW R s args (rn mi.1) idx pe.1 pe.2.1.2.1 pe.2.2 (retT pe.2.1.2.2.1) pe.2.1.2.2.2 (wsM pe) (rmM d m m') (cnt m' - cnt m) (slo m' - slo m) n := by
      refine vx_cwSW (Ts := gw) (ws' := gw) n X.hts ?_ (by unfold wsM; rw [cwM_cons hnil]) rfl rfl ⟨hmh.1, hmh.2, hpn⟩ hRo
      refine gi_app (fun w hw => ?_) (wsM_good hpe)
      simp only [List.mem_cons, List.not_mem_nil, or_false] at hw
      rcases hw with rfl | rfl | rfl
      · exact gw_of hl gw_ml
      · exact gw_of hsta gw_st
      · exact gw_of hin gw_in
    exact call_go (vx_runSW (rest := (st.drop n).map (cv ρ vF)) ⟨X.1, X.2.1, X.2.2.1, X.own, X.hts⟩ hM hcw hp rfl (by rw [List.length_map]; exact hs2) r.1.2.1 hstack (room8 X.hF hw _) hd hf) r hmo gr
/-- invokestatic of a nest mate's -/
theorem s_SN {idx id n x1 : Nat} {v : Option Value} {m' : AM} (X : FX base ρ vF D cs p s mth args meth c mi nL m0) (CK : ∀ (id : Nat) (vs : List Value) (m : AM) (r : RS) (m' : AM), call id vs m = some (r, m') → CokM l base ρ vF D cs d id vs m r m') (hRf : d + 9 ≤ R.frames) (hRl : 64 * d + 320 ≤ R.locals) (hN : cnt m' ≤ cnt m0 + R.cells) (hS : slo m' ≤ slo m0 + R.slots) (hcp : cp mi.1 idx = some (3, id, n, x1)) (hst : n ≤ st.length) (hw : wds (st.drop n) ≤ 8) (hd : decode mi.2.1 pc = .ok (.invokestatic idx, 3)) (hcall : call id (st.take n).reverse m = some (.inl v, m'))
    (gr : Go base ρ vF D cs p l e R s mth args below meth c Q nL m0 (pc + 3, L, v.toList ++ st.drop n, m')) : Go base ρ vF D cs p l e R s mth args below meth c Q nL m0 (pc, L, st, m) := by
  intro ls H locs r
  obtain ⟨pe, j, hpe, hl, hsta, hin, hpn, hnil⟩ := cp_val hcp
  obtain ⟨pe2, hpe2, hmo, hM⟩ := CK _ _ _ _ _ hcall
  cases hpe.symm.trans hpe2
  obtain ⟨hpl, hmh, hrn, hmx, -⟩ := mv_of hpe
  have k1 : cnt m0 ≤ cnt m := r.2.2.2.2.1
  have k2 : slo m0 ≤ slo m := r.2.2.2.2.2.1
  have k3 := hmo.2.1
  have k4 := hmo.2.2.1
  obtain ⟨hs1, hs2⟩ := stkS hst
  have hstack : st.map (cv ρ vF) = ((st.take n).reverse.map (cv ρ vF)).reverse ++ (st.drop n).map (cv ρ vF) := by
    conv => lhs; rw [hs1]
    rw [List.map_append, List.map_reverse]
  refine W_sz X r (fun hsz => ?_)
  have hp : PreS s H (PcM base ρ vF D cs (st.take n).reverse m) ((st.take n).reverse.map (cv ρ vF)) := ⟨pcM_blind, fun U hU hW => ⟨rfl, pcM_at X r hsz hU hW⟩⟩
  have hf : cnt m - cnt m0 + (cnt m' - cnt m) ≤ R.cells ∧ slo m - slo m0 + (slo m' - slo m) ≤ R.slots := ⟨by omega, by omega⟩
  have hRo : (rmM d m m').frames + 1 ≤ R.frames ∧ 8 + (pe.2.2 + 11) + (rmM d m m').locals ≤ R.locals := ⟨hRf, by have h9 := rmM_l d m m'; omega⟩
  have hnw := X.ext.2.2.2.2.2.2.2.2.2.2.2.2.1 _ (List.mem_of_getElem? hl)
  have hcw := va_cnB (ws' := gw) (R := R) n X.hts (wsM_good hpe) (show wsM pe = Cond.code pe.1 pe.2.1.2.1 pe.2.2 (retT pe.2.1.2.2.1) :: gw by unfold wsM; rw [cwM_nil hnil]) (rm := rmM d m m') rfl rfl hnw (X.w hin gw_in) ⟨hmh.1, hmh.2, hpn⟩ hRo
  exact call_go (va_runSN (rest := (st.drop n).map (cv ρ vF)) ⟨X.1, X.2.1, X.2.2.1, X.own, X.hts⟩ hM ⟨hcw, X.w hsta gw_st, trivial⟩ hp rfl (by rw [List.length_map]; exact hs2) r.1.2.1 hstack (room8 X.hF hw _) hd hf) r hmo gr
/-- invokespecial of a constructor -/
theorem s_I {idx id n x1 a : Nat} {rr : List Value} {v : Option Value} {m' : AM} (X : FX base ρ vF D cs p s mth args meth c mi nL m0) (CK : ∀ (id : Nat) (vs : List Value) (m : AM) (r : RS) (m' : AM), call id vs m = some (r, m') → CokM l base ρ vF D cs d id vs m r m') (hRf : d + 9 ≤ R.frames) (hRl : 64 * d + 320 ≤ R.locals) (hN : cnt m' ≤ cnt m0 + R.cells) (hS : slo m' ≤ slo m0 + R.slots) (hcp : cp mi.1 idx = some (5, id, n, x1)) (hst : st.drop n = .ref a :: rr) (hw : wds rr ≤ 8) (hd : decode mi.2.1 pc = .ok (.invokespecial idx, 3)) (hcall : call id (.ref a :: (st.take n).reverse) m = some (.inl v, m'))
    (gr : Go base ρ vF D cs p l e R s mth args below meth c Q nL m0 (pc + 3, L, v.toList ++ rr, m')) : Go base ρ vF D cs p l e R s mth args below meth c Q nL m0 (pc, L, st, m) := by
  intro ls H locs r
  obtain ⟨pe, hpe, hl, him, hin, hnm, hpn, hnil, h6⟩ := cp_val hcp
  obtain ⟨pe2, hpe2, hmo, hM⟩ := CK _ _ _ _ _ hcall
  cases hpe.symm.trans hpe2
  obtain ⟨hpl, hmh, hrn, hmx, -⟩ := mv_of hpe
  have k1 : cnt m0 ≤ cnt m := r.2.2.2.2.1
  have k2 : slo m0 ≤ slo m := r.2.2.2.2.2.1
  have k3 := hmo.2.1
  have k4 := hmo.2.2.1
  obtain ⟨hs1, hs2⟩ := stk hst
  have hstack : st.map (cv ρ vF) = ((st.take n).reverse.map (cv ρ vF)).reverse ++ Value.ref (ρ a) :: rr.map (cv ρ vF) := by
    conv => lhs; rw [hs1]
    rw [List.map_append, List.map_reverse]
    rfl
  refine W_sz X r (fun hsz => ?_)
  have hp : PreS s H (PcM base ρ vF D cs (.ref a :: (st.take n).reverse) m) (Value.ref (ρ a) :: (st.take n).reverse.map (cv ρ vF)) := ⟨pcM_blind, fun U hU hW => ⟨rfl, pcM_at X r hsz hU hW⟩⟩
  have hf : cnt m - cnt m0 + (cnt m' - cnt m) ≤ R.cells ∧ slo m - slo m0 + (slo m' - slo m) ≤ R.slots := ⟨by omega, by omega⟩
  have hRo : (rmM d m m').frames + 1 ≤ R.frames ∧ 8 + (pe.2.2 + 11) + (rmM d m m').locals ≤ R.locals := ⟨hRf, by have h9 := rmM_l d m m'; omega⟩
  have hcw : CallB R s args (rn mi.1) idx pe.1 pe.2.1.2.1 pe.2.2 none (wsM pe) (rmM d m m') (cnt m' - cnt m) (slo m' - slo m) n ∧ pe.1.name = "<init>" ∧ (Cond.instanceMethod pe.1).before args s = true :=
    ⟨callB_of (ws' := gw) n X.hts (wsM_good hpe) (by unfold wsM; rw [cwM_nil hnil, h6]; rfl) rfl rfl (X.w hin gw_in) (X.w hl gw_ml) ⟨hmh.1, hmh.2, hpn⟩ hRo, hnm, X.w him gw_im⟩
  exact call_go (va_runI (rest := rr.map (cv ρ vF)) ⟨X.1, X.2.1, X.2.2.1, X.own, X.hts⟩ hM hcw hp rfl (by rw [List.length_map]; exact hs2) r.1.2.1 hstack (room8 X.hF hw _) hd hf) r hmo gr
/-- invokespecial of a nest mate's constructor -/
theorem s_IN {idx id n x1 a : Nat} {rr : List Value} {v : Option Value} {m' : AM} (X : FX base ρ vF D cs p s mth args meth c mi nL m0) (CK : ∀ (id : Nat) (vs : List Value) (m : AM) (r : RS) (m' : AM), call id vs m = some (r, m') → CokM l base ρ vF D cs d id vs m r m') (hRf : d + 9 ≤ R.frames) (hRl : 64 * d + 320 ≤ R.locals) (hN : cnt m' ≤ cnt m0 + R.cells) (hS : slo m' ≤ slo m0 + R.slots) (hcp : cp mi.1 idx = some (4, id, n, x1)) (hst : st.drop n = .ref a :: rr) (hw : wds rr ≤ 8) (hd : decode mi.2.1 pc = .ok (.invokespecial idx, 3)) (hcall : call id (.ref a :: (st.take n).reverse) m = some (.inl v, m'))
    (gr : Go base ρ vF D cs p l e R s mth args below meth c Q nL m0 (pc + 3, L, v.toList ++ rr, m')) : Go base ρ vF D cs p l e R s mth args below meth c Q nL m0 (pc, L, st, m) := by
  intro ls H locs r
  obtain ⟨pe, j, hpe, hl, him, hin, hnm, hpn, hnil, h6⟩ := cp_val hcp
  obtain ⟨pe2, hpe2, hmo, hM⟩ := CK _ _ _ _ _ hcall
  cases hpe.symm.trans hpe2
  obtain ⟨hpl, hmh, hrn, hmx, -⟩ := mv_of hpe
  have k1 : cnt m0 ≤ cnt m := r.2.2.2.2.1
  have k2 : slo m0 ≤ slo m := r.2.2.2.2.2.1
  have k3 := hmo.2.1
  have k4 := hmo.2.2.1
  obtain ⟨hs1, hs2⟩ := stk hst
  have hstack : st.map (cv ρ vF) = ((st.take n).reverse.map (cv ρ vF)).reverse ++ Value.ref (ρ a) :: rr.map (cv ρ vF) := by
    conv => lhs; rw [hs1]
    rw [List.map_append, List.map_reverse]
    rfl
  refine W_sz X r (fun hsz => ?_)
  have hp : PreS s H (PcM base ρ vF D cs (.ref a :: (st.take n).reverse) m) (Value.ref (ρ a) :: (st.take n).reverse.map (cv ρ vF)) := ⟨pcM_blind, fun U hU hW => ⟨rfl, pcM_at X r hsz hU hW⟩⟩
  have hf : cnt m - cnt m0 + (cnt m' - cnt m) ≤ R.cells ∧ slo m - slo m0 + (slo m' - slo m) ≤ R.slots := ⟨by omega, by omega⟩
  have hRo : (rmM d m m').frames + 1 ≤ R.frames ∧ 8 + (pe.2.2 + 11) + (rmM d m m').locals ≤ R.locals := ⟨hRf, by have h9 := rmM_l d m m'; omega⟩
  have hnw := X.ext.2.2.2.2.2.2.2.2.2.2.2.2.1 _ (List.mem_of_getElem? hl)
  have hcw := va_cnB (ws' := gw) (R := R) n X.hts (wsM_good hpe) (show wsM pe = Cond.code pe.1 pe.2.1.2.1 pe.2.2 none :: gw by unfold wsM; rw [cwM_nil hnil, h6]; rfl) (rm := rmM d m m') rfl rfl hnw (X.w hin gw_in) ⟨hmh.1, hmh.2, hpn⟩ hRo
  exact call_go (va_runIN (rest := rr.map (cv ρ vF)) ⟨X.1, X.2.1, X.2.2.1, X.own, X.hts⟩ hM ⟨hcw, hnm, X.w him gw_im⟩ hp rfl (by rw [List.length_map]; exact hs2) r.1.2.1 hstack (room8 X.hF hw _) hd hf) r hmo gr
end S7
