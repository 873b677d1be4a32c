/-! ONE INSTRUCTION, kind by kind: lengths, constants, what is made -/
section S4
variable {base : Nat} {ρ : Nat → Nat} {vF : Value} {D : va_G} {cs : Nat → ClassId} {p : Program} {l : Launch} {e : Env} {R : Room} {s : State} {mth : MethodId} {args : Array Value} {below : List Frame} {meth : Method} {c : Code} {Q : State → Prop} {mi : MI} {nL : Nat} {m0 : AM} {pc n : Nat} {L : List (Option Value)} {st : List Value} {m : AM} {ls : Array Slot} {H : Heap} {locs : List Loc} {f : CF}
theorem s_arraylength (X : FX base ρ vF D cs p s mth args meth c mi nL m0) (hd : decode mi.2.1 pc = .ok (.arraylength, 1)) (h : xlen pc L st m = some (.inl f)) (g : Go base ρ vF D cs p l e R s mth args below meth c Q nL m0 f) : Go base ρ vF D cs p l e R s mth args below meth c Q nL m0 (pc, L, st, m) := by
  intro ls H locs r
  unfold xlen at h
  split at h
  · rename_i a rr
    split at h
    · rename_i t n1 hk
      split at h
      · rename_i q
        have := nx_inj h
        subst this
        rcases q with ⟨ha, q⟩ | ⟨ha, q⟩
        · have hka := kd_in hk ha
          show W p l e R s mth args below meth c H locs (cnt m - cnt m0) (slo m - slo m0) Q (F0 mth pc ls (Value.ref (ρ a) :: rr.map (cv ρ vF)))
          rw [X.rh ha]
          rcases q with rfl | rfl | rfl | rfl
          · exact va_alen (ty := .int) X.1 X.2.1 X.K r.2.1 a 0 (wsA_get hka) rfl rfl hd (g ls H locs r)
          · exact va_alen (ty := .byte) X.1 X.2.1 X.K r.2.1 a 1 (wsA_get hka) rfl rfl hd (g ls H locs r)
          · exact va_alen (ty := .long) X.1 X.2.1 X.K r.2.1 a 2 (wsA_get hka) rfl rfl hd (g ls H locs r)
          · exact va_alen (ty := .array .int) X.1 X.2.1 X.K r.2.1 a 3 (wsA_get hka) rfl rfl hd (g ls H locs r)
        · have hE := X.ext.xe r.2.2.2.1
          rcases q with rfl | rfl
          · rcases kd5 hk ha with ⟨rfl, rfl⟩ | ⟨rfl, rfl⟩
            · exact va_slen X.1 X.2.1 hE.1 (Nat.lt_of_lt_of_le hE.2.1 X.bs) (Nat.not_le.mpr hE.2.1) r.2.2.1 hd (g ls H locs r)
            · exact va_tlen X.1 X.2.1 hE.2.2.2.1 r.2.2.1 rfl hd (g ls H locs r)
          · obtain ⟨j, rfl, hj, rfl⟩ := kd7 hk ha
            exact va_tlen X.1 X.2.1 (hE.2.2.2.2.2.2.1.1 j hj).2.2.2 r.2.2.1 rfl hd (g ls H locs r)
      · cases h
    · cases h
  · cases h
theorem s_ldc {idx : Nat} (X : FX base ρ vF D cs p s mth args meth c mi nL m0) (hd : decode mi.2.1 pc = .ok (.ldc idx, 2)) (h : xldc mi.1 (pc + 2) L st m idx false = some (.inl f)) (g : Go base ρ vF D cs p l e R s mth args below meth c Q nL m0 f) : Go base ρ vF D cs p l e R s mth args below meth c Q nL m0 (pc, L, st, m) := by
  intro ls H locs r
  unfold xldc at h
  split at h
  · rename_i v x1 x2 hcp
    have hl := cp_val hcp
    have := nx_inj h
    subst this
    exact lv_ldc X.1 X.2.1 X.own (X.w hl gw_ct) hd (g ls H locs r)
  · rename_i j x1 x2 hcp
    have hl := cp_val hcp
    have := nx_inj h
    subst this
    obtain ⟨z, hz, hz2⟩ := Option.map_eq_some_iff.mp hl
    have hv := X.ext.2.2.2.2.2.2.2.2.1 j z hz
    rw [show z.1 = mi.1 from congrArg Prod.fst hz2, show z.2.1 = idx from congrArg Prod.snd hz2] at hv
    exact va_ldcS X.1 X.2.1 X.own hv hd (g ls H locs r)
  · cases h
theorem s_ldc_w {idx : Nat} (X : FX base ρ vF D cs p s mth args meth c mi nL m0) (hd : decode mi.2.1 pc = .ok (.ldc_w idx, 3)) (h : xldc mi.1 (pc + 3) L st m idx true = some (.inl f)) (g : Go base ρ vF D cs p l e R s mth args below meth c Q nL m0 f) : Go base ρ vF D cs p l e R s mth args below meth c Q nL m0 (pc, L, st, m) := by
  intro ls H locs r
  unfold xldc at h
  split at h
  · rename_i v x1 x2 hcp
    have hl := cp_val hcp
    have := nx_inj h
    subst this
    exact lv_ldcw X.1 X.2.1 X.own (X.w hl gw_ct) hd (g ls H locs r)
  · cases h
  · cases h
theorem s_getstatic {idx : Nat} (X : FX base ρ vF D cs p s mth args meth c mi nL m0) (hd : decode mi.2.1 pc = .ok (.getstatic idx, 3)) (h : xgs mi.1 pc L st m idx = some (.inl f)) (g : Go base ρ vF D cs p l e R s mth args below meth c Q nL m0 f) : Go base ρ vF D cs p l e R s mth args below meth c Q nL m0 (pc, L, st, m) := by
  intro ls H locs r
  unfold xgs at h
  split at h
  · rename_i x0 x1 x2 hcp
    have hl := cp_val hcp
    have := nx_inj h
    subst this
    exact va_gets X.1 X.2.1 X.ext.2.2.1 r.2.2.1 X.own (X.w hl gw_fl) (fun _ z => z) hd (g ls H locs r)
  · rename_i x0 x1 x2 hcp
    have hl := cp_val hcp
    have := nx_inj h
    subst this
    exact va_gets X.1 X.2.1 X.ext.2.2.2.2.1 r.2.2.1 X.own (X.w hl gw_fl) (fun _ z => z) hd (g ls H locs r)
  · rename_i x0 x1 x2 hcp
    have hl := cp_val hcp
    have := nx_inj h
    subst this
    exact va_gets X.1 X.2.1 X.ext.2.2.2.2.2.1 r.2.2.1 X.own (X.w hl gw_fl) (fun _ z => z) hd (g ls H locs r)
  · cases h
theorem wds_cv (hF : vF.category = 1) (rr : List Value) : ((rr.map (cv ρ vF)).map fun v => v.category).sum = wds rr := by
  rw [List.map_map]
  have : ((fun v : Value => v.category) ∘ cv ρ vF) = fun v => v.category := by
    funext v
    exact cv_cat hF v
  rw [this]
  rfl
theorem s_max {idx : Nat} {x0 x1 x2 : Nat} {x y : Int32} {rr : List Value} (X : FX base ρ vF D cs p s mth args meth c mi nL m0) (hRf : 1 ≤ R.frames) (hRl : 64 ≤ R.locals) (hc : cnt m ≤ cnt m0 + R.cells) (hs : slo m ≤ slo m0 + R.slots) (hcp : cp mi.1 idx = some (8, x0, x1, x2)) (hw : wds rr ≤ 8) (hd : decode mi.2.1 pc = .ok (.invokestatic idx, 3)) (g : Go base ρ vF D cs p l e R s mth args below meth c Q nL m0 (pc + 3, L, .int (if x < y then y else x) :: rr, m)) : Go base ρ vF D cs p l e R s mth args below meth c Q nL m0 (pc, L, .int y :: .int x :: rr, m) := by
  intro ls H locs r
  have hwd := wds_cv (ρ := ρ) X.hF rr
  have h1 : cnt m - cnt m0 ≤ R.cells := by omega
  have h2 : slo m - slo m0 ≤ R.slots := by omega
  exact va_mmax X.1 X.2.1 (by rw [r.1.2.1]; exact X.2.2.1) X.own (X.w (cp_val hcp) gw_ml) (X.w tw_maxS gw_st) (X.w tw_math gw_in) (X.w tw_maxC gw_co) hRf (by omega) h1 h2 hd (g ls H locs r)
theorem s_min {idx : Nat} {x0 x1 x2 : Nat} {x y : Int32} {rr : List Value} (X : FX base ρ vF D cs p s mth args meth c mi nL m0) (hRf : 1 ≤ R.frames) (hRl : 64 ≤ R.locals) (hc : cnt m ≤ cnt m0 + R.cells) (hs : slo m ≤ slo m0 + R.slots) (hcp : cp mi.1 idx = some (9, x0, x1, x2)) (hw : wds rr ≤ 8) (hd : decode mi.2.1 pc = .ok (.invokestatic idx, 3)) (g : Go base ρ vF D cs p l e R s mth args below meth c Q nL m0 (pc + 3, L, .int (if y < x then y else x) :: rr, m)) : Go base ρ vF D cs p l e R s mth args below meth c Q nL m0 (pc, L, .int y :: .int x :: rr, m) := by
  intro ls H locs r
  have hwd := wds_cv (ρ := ρ) X.hF rr
  have h1 : cnt m - cnt m0 ≤ R.cells := by omega
  have h2 : slo m - slo m0 ≤ R.slots := by omega
  exact va_mmin X.1 X.2.1 (by rw [r.1.2.1]; exact X.2.2.1) X.own (X.w (cp_val hcp) gw_ml) (X.w tw_minS gw_st) (X.w tw_math gw_in) (X.w tw_minC gw_co) hRf (by omega) h1 h2 hd (g ls H locs r)
theorem s_objInit {idx : Nat} {x0 x1 x2 a : Nat} {rr : List Value} (X : FX base ρ vF D cs p s mth args meth c mi nL m0) (hRf : 1 ≤ R.frames) (hRl : 64 ≤ R.locals) (hcp : cp mi.1 idx = some (6, x0, x1, x2)) (hw : wds rr ≤ 8) (hd : decode mi.2.1 pc = .ok (.invokespecial idx, 3)) (g : Go base ρ vF D cs p l e R s mth args below meth c Q nL m0 (pc + 3, L, rr, m)) : Go base ρ vF D cs p l e R s mth args below meth c Q nL m0 (pc, L, .ref a :: rr, m) := by
  intro ls H locs r
  have hwd := wds_cv (ρ := ρ) X.hF rr
  refine W.objInit X.1 X.2.1 X.own (X.w (cp_val hcp) gw_ml) (X.w tw_objI gw_im) (X.w tw_objC gw_co) rfl (by rw [X.2.2.1]; exact r.1.2.1) (a := ρ a) (rest := rr.map (cv ρ vF)) rfl hd hRf ?_ (g ls H locs r)
  have := lv_room (m := mth) (pc := pc) (ls := ls) (rest := (Value.ref a :: rr).map (cv ρ vF)) (st := rr.map (cv ρ vF)) (by omega)
  exact Nat.le_trans (Nat.add_le_add_right this 12) (by omega)
theorem s_cpy {idx : Nat} {x0 x1 x2 : Nat} (X : FX base ρ vF D cs p s mth args meth c mi nL m0) (hRf : 1 ≤ R.frames) (hRl : 64 ≤ R.locals) (hcp : cp mi.1 idx = some (7, x0, x1, x2)) (hd : decode mi.2.1 pc = .ok (.invokestatic idx, 3)) (h : xcpy pc L st m = some (.inl f)) (g : Go base ρ vF D cs p l e R s mth args below meth c Q nL m0 f) : Go base ρ vF D cs p l e R s mth args below meth c Q nL m0 (pc, L, st, m) := by
  intro ls H locs r
  unfold xcpy at h
  split at h
  · rename_i n1 dp a sp a0 rr
    split at h
    · rename_i k0 k1 hk0 hk1
      split at h
      · rename_i q
        have := nx_inj h
        subst this
        have hwd := wds_cv (ρ := ρ) X.hF rr
        have hka := kd_in hk1 q.1
        show W p l e R s mth args below meth c H locs (cnt m - cnt m0) (slo m - slo m0) Q (F0 mth pc ls (Value.int n1 :: Value.int dp :: Value.ref (ρ a) :: Value.int sp :: Value.ref (ρ a0) :: rr.map (cv ρ vF)))
        rw [X.rh q.1, X.rh q.2.1]
        refine va_copyi (ty := .int) X.1 X.2.1 (by rw [r.1.2.1]; exact X.2.2.1) X.own (X.w (cp_val hcp) gw_ml) (X.w tw_cpyN gw_nt) (X.w tw_cpyS gw_st) (X.w tw_sys gw_in) X.K r.2.1 wsA_D r.2.2.1 a0 a 0 0 (wsA_get (kd_in hk0 q.2.1)) (wsA_get hka) rfl rfl rfl q.2.2.1 q.2.2.2.1 q.2.2.2.2.1 q.2.2.2.2.2.1 q.2.2.2.2.2.2.1 (fun _ _ => rfl) hRf ?_ hd (fun H1 locs1 hP1 hD1 hS1 => ?_)
        · have : nativeFrameWords "java/lang/System" "arraycopy" 5 ≤ 40 := by decide +kernel
          omega
        · exact g ls H1 locs1 ⟨r.1, by rw [ws_sIc hka]; exact hP1, hS1, r.2.2.2.tr (mono_sIc q.1)⟩
      · cases h
    · cases h
  · cases h
end S4
