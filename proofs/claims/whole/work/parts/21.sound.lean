/-! THE ABSTRACT MACHINE IS SOUND: what it answers, the method does -/
theorem MetFree.imp {l : Launch} {y : MethodName} {S : Spec} {P : Array Value → State → Prop} {K : Program → Env → List Frame → State → Array Value → Prop} {Q Q' : Array Value → State → Outcome → State → Prop} (h : MetFree l y S P K Q) (hq : ∀ a s o t, Q a s o t → Q' a s o t) : MetFree l y S P K Q' := by
  intro p e ha hc hk s m args below h1 h2 h3 h4
  obtain ⟨n, o, k1, k2, k3, k4⟩ := h p e ha hc hk s m args below h1 h2 h3 h4
  exact ⟨n, o, k1, k2, k3, hq _ _ _ _ k4⟩
def XcF : String → State → State → Prop := fun _ _ _ => False
theorem met_of_vx {l : Launch} {y : MethodName} {ws : List Cond} {rm : Room} {Pc : Array Value → State → Prop} {Qc : Array Value → State → Outcome → State → Prop} {mc ms : Nat} {free : Addr → Prop} (h : vx_Met l y ws rm Pc Qc XcF mc ms free) : Met l y ws rm Pc Qc mc ms free := by
  refine MetFree.imp h (fun a s o t hq => ?_)
  rcases hq with hq | ⟨q, -, E, ce, L, hx, -⟩
  · exact hq
  · exact absurd hx id
section C2
variable {base : Nat} {ρ : Nat → Nat} {vF : Value} {D : va_G} {cs : Nat → ClassId} {p : Program} {l : Launch} {e : Env} {R : Room} {s : State} {mth : MethodId} {args : Array Value} {below : List Frame} {meth : Method} {c : Code} {mi : MI} {nL : Nat} {m0 : AM} {f : CF}
/-- the end of a method that returns -/
theorem fin_ret (X : FX base ρ vF D cs p s mth args meth c mi nL m0) (hr : meth.sig.returnType = retT mi.2.2.1) (hlocks : meth.locks = false) (v : Option Value) (mf : AM) :
    FinI base ρ vF D cs p l e R s mth args below meth c (MQ below (QcM base ρ vF D cs v mf) args s (cnt mf - cnt m0) (slo mf - slo m0) (Aq base)) mi nL m0 v mf := by
  intro pc L ls H locs r hc
  have hq : ∀ t : State, t.heap = H → s.WarmedH t.vm → QcM base ρ vF D cs v mf args s (.returned (v.map (cv ρ vF))) t := fun t ht hW => ⟨rfl, by rw [ht]; exact r.2.1, r.2.2.1.F ht⟩
  rcases hc with ⟨x, rfl, hd, hty⟩ | ⟨x, rfl, hd, hty⟩ | ⟨rfl, hd, hty⟩
  · rcases hty with h0 | ⟨h1, hx⟩ | ⟨h4, hx⟩ | ⟨h5, hx⟩
    · exact W.iret X.1 X.2.1 (by rw [hr, h0]; rfl) hq r.2.2.1.2.2 hd hlocks
    · exact W.zret (ty := .boolean) X.1 X.2.1 (by rw [hr, h1]; rfl) (by rcases hx with rfl | rfl <;> rfl) hq r.2.2.1.2.2 hd hlocks
    · exact W.zret (ty := .char) X.1 X.2.1 (by rw [hr, h4]; rfl) hx hq r.2.2.1.2.2 hd hlocks
    · exact W.zret (ty := .byte) X.1 X.2.1 (by rw [hr, h5]; rfl) hx hq r.2.2.1.2.2 hd hlocks
  · exact W.lret X.1 X.2.1 (by rw [hr, hty]; rfl) hq r.2.2.1.2.2 hd hlocks
  · exact W.vret X.1 X.2.1 (by rw [hr]; rcases hty with q | q <;> rw [q] <;> rfl) hq r.2.2.1.2.2 hd hlocks
theorem exb0 : ∀ ex, ex < 2 → decode (exB ex) 0 = .ok (.aload_n 0, 1) ∧ decode (exB ex) 1 = .ok (.aload_n 1, 1) ∧ decode (exB ex) 2 = .ok (.invokespecial (exI ex), 3) ∧ decode (exB ex) 5 = .ok (.return_, 1) := by decide +kernel
/-- the end of a method that throws -/
theorem fin_thr (X : FX base ρ vF D cs p s mth args meth c mi nL m0) (hl : l.stackTraces = false) (hlocks : meth.locks = false) (hET : ∀ x ∈ c.exceptionTable.toList, False) {ex : Nat} (hex : ex < 2) {mf : AM} (hN : cnt mf ≤ cnt m0 + R.cells) (hS : slo mf ≤ slo m0 + R.slots) (hRf : 5 < R.frames) (hRl : 82 ≤ R.locals) :
    FinX base ρ vF D cs p l e R s mth args below meth c (vx_MQ below QcF (XcM base ρ D cs ex mf) args s (cnt mf - cnt m0) (slo mf - slo m0) (Aq base)) mi nL m0 ex mf := by
  refine ⟨?_, ?_⟩
  · intro pc L rr ls ce q H1 locs1 hce hcv hcl r
    exact vx_out (fun x hx => absurd (hET x hx) id) hlocks hce hcv hcl (fun t ht hA => ⟨rfl, by rw [ht]; exact r.2.1, r.2.2.1.F ht⟩) r.2.2.1.2.2 (Nat.le_refl _) (Nat.le_refl _)
  · intro pc L ls H locs m1 ik is ic y1 y2 hmf r hcp d0 d3 d4 d7 d10 ht
    subst hmf
    have k1 : cnt m0 ≤ cnt m1 := r.2.2.2.2.1
    have k2 : slo m0 ≤ slo m1 := r.2.2.2.2.2.1
    have e1 : cnt (sX m1) = cnt m1 + 1 := rfl
    have e2 : slo (sX m1) = slo m1 + 6 := by
      show ((mK m1).map szK).sum + 6 * (mX m1 + 1) = ((mK m1).map szK).sum + 6 * mX m1 + 6
      omega
    obtain ⟨how, htt⟩ := thr_own hex ht
    have hE := X.ext
    obtain ⟨sa, hsa⟩ := hE.2.2.2.2.2.2.2.2.2.2.2.1 ex hex
    rw [htt] at hsa
    have hW9 : thrW ex = (ownN "HoseDynasty" ic (exN ex) (exI ex) (exB ex)).filter vx_no := by
      unfold thrW
      rw [htt]
    have hown : s.vm.findClass "HoseDynasty" = some mth.cls := by
      have := X.own
      rw [how] at this
      exact this
    obtain ⟨b0, b1, b2, b5⟩ := exb0 ex hex
    have hlk := (cp_val hcp).2
    rw [how] at hlk
    refine throwN (own := "HoseDynasty") (cls := exN ex) (rest := []) X.1 X.2.1 hl hown (exfit ex hex) b0 b1 b2 b5 (X.w hlk gw_cl) (X.w (ex_ini hex) gw_in) hsa (by rw [← hW9]; exact thr_hat X hex) (by rw [← hW9]; exact List.all_eq_true.mp (thrW_ot ex hex)) hE.2.2.2.2.2.2.2.2.2.1 hE.2.2.2.2.2.2.2.2.2.2.1 r.2.2.1 (by rw [X.2.2.1]; exact r.1.2.1) d0 d3 d4 d7 d10 (fun x hx => absurd (hET x hx) id) hRf (by simpa using hRl) (by show cnt m1 - cnt m0 + 1 ≤ _; omega) (by show slo m1 - slo m0 + 6 ≤ _; omega) hlocks (fun t hA hz hk => ⟨rfl, ?_, ?_⟩) r.2.2.1.2.2 (by show cnt m1 - cnt m0 + 1 ≤ _; omega) (by show slo m1 - slo m0 + 6 ≤ _; omega)
    · show va_P D vwCl (wsA base ρ cs m1) t.heap
      exact r.2.1.kept (fun k x hx => hk x.1 ((r.2.1 k x hx).lt))
    · have h1 := r.2.2.1
      exact ⟨Nat.le_trans h1.1 hz, fun q hq hA2 => (hk q (Nat.lt_of_lt_of_le hq h1.1)).trans (h1.2.1 q hq hA2)⟩
end C2
set_option maxHeartbeats 2000000 in
/-- every method's contract, out of the abstract machine's answer -/
theorem sound {base : Nat} {ρ : Nat → Nat} {vF : Value} {D : va_G} {cs : Nat → ClassId} {l : Launch} (hl : l.stackTraces = false) (hρ : ∀ a, a < XB → ρ a = base + a) (hF : vF.category = 1) :
    ∀ (d id : Nat) (vs : List Value) (m : AM) (r : RS) (m' : AM), runM d id vs m = some (r, m') → CokM l base ρ vF D cs d id vs m r m' := by
  intro d
  induction d with
  | zero => intro id vs m r m' h; cases h
  | succ d ih =>
    intro id vs m r m' h
    unfold runM at h
    split at h
    · rename_i pe hpe
      split at h
      · rename_i hlen
        obtain ⟨k, hk⟩ := runI_some.mp h
        have CM : ∀ (id : Nat) (vs : List Value) (m : AM) (r : RS) (m' : AM), runM d id vs m = some (r, m') → MonoA m m' := fun id vs m r m' h => by
          obtain ⟨pe, -, h2, -⟩ := ih id vs m r m' h
          exact h2
        have CE : ∀ (id : Nat) (vs : List Value) (m : AM) (ex : Nat) (m' : AM), runM d id vs m = some (.inr ex, m') → ex < 2 := fun id vs m ex m' h => by
          obtain ⟨pe, -, -, h3⟩ := ih id vs m (.inr ex) m' h
          exact h3.1
        have hmo := mo_iter CM k _ r m' hk
        have kN : cnt m' ≤ cnt m + (rmM (d + 1) m m').cells := by
          show cnt m' ≤ cnt m + (cnt m' - cnt m)
          omega
        have kS : slo m' ≤ slo m + (rmM (d + 1) m m').slots := by
          show slo m' ≤ slo m + (slo m' - slo m)
          omega
        have kf : d + 9 ≤ (rmM (d + 1) m m').frames := by show d + 9 ≤ d + 1 + 8; omega
        have kl : 64 * d + 320 ≤ (rmM (d + 1) m m').locals := by
          have := rmM_l (d + 1) m m'
          omega
        obtain ⟨hpl, hmh, hrn, hmx, -⟩ := mv_of hpe
        refine ⟨pe, hpe, hmo, ?_⟩
        cases r with
        | inl v =>
          by_cases hnil : pe.2.1.2.2.2 = []
          · refine Met.ofW (cc := pe.2.1.2.1) (maxL := pe.2.2) (ret := retT pe.2.1.2.2.1) (ws' := gw) hpl (by unfold wsM; rw [cwM_nil hnil]) ?_
            intro p e s mth args below meth c s₁ B hml hv
            obtain ⟨X, ha, hP⟩ := fx_start hpe hρ hF B hml hv
            have hcode : (Cond.code pe.1 pe.2.1.2.1 pe.2.2 (retT pe.2.1.2.2.1)).before args s = true := X.hts _ (by rw [← cwM_nil hnil]; exact cwM_in hpe)
            have hE0 := B.noHandlers hcode
            have hET : c.exceptionTable.toList = tableOf pe.2.1.2.2.2 := by
              rw [hnil]
              show _ = []
              simpa using hE0
            have hgo := s_iter (l := l) (e := e) (below := below) (R := (headSpec (wsM pe) (rmM (d + 1) m m')).room) (r := .inl v) X hET ih kf kl kN kS (fun v' hv' => by cases hv'; exact fin_ret X B.returns B.notSynchronized v m') (fun ex he => by cases he) k _ hk
            subst ha
            rw [lg_entry_eq]
            have g2 := hgo _ s.heap [] ⟨ent_rl hF hlen, hP, va_S.rf, MonoA.rf m⟩
            have z1 : cnt m - cnt m = 0 := by omega
            have z2 : slo m - slo m = 0 := by omega
            have g3 : W p l e (headSpec (wsM pe) (rmM (d + 1) m m')).room s mth _ below meth c s.heap [] (cnt m - cnt m) (slo m - slo m) _ (F0 mth 0 _ []) := g2
            rw [z1, z2] at g3
            exact g3
          · refine met_of_vx (vx_ofWH (cc := pe.2.1.2.1) (maxL := pe.2.2) (ret := retT pe.2.1.2.2.1) (hh := pe.2.1.2.2.2) (ws' := gw) hpl (by unfold wsM; rw [cwM_cons hnil]) ?_)
            intro p e s mth args below meth c s₁ B hml hv
            obtain ⟨X, ha, hP⟩ := fx_start hpe hρ hF B hml hv
            have hcode : (Cond.codeWith pe.1 pe.2.1.2.1 pe.2.2 (retT pe.2.1.2.2.1) pe.2.1.2.2.2).before args s = true := X.hts _ (by rw [← cwM_cons hnil]; exact cwM_in hpe)
            have hET : c.exceptionTable.toList = tableOf pe.2.1.2.2.2 := vx_table (x := pe.1) B hcode
            refine vx_ret ?_
            have hgo := s_iter (l := l) (e := e) (below := below) (R := (headSpec (wsM pe) (rmM (d + 1) m m')).room) (r := .inl v) X hET ih kf kl kN kS (fun v' hv' => by cases hv'; exact fin_ret X B.returns B.notSynchronized v m') (fun ex he => by cases he) k _ hk
            subst ha
            rw [lg_entry_eq]
            have g2 := hgo _ s.heap [] ⟨ent_rl hF hlen, hP, va_S.rf, MonoA.rf m⟩
            have z1 : cnt m - cnt m = 0 := by omega
            have z2 : slo m - slo m = 0 := by omega
            have g3 : W p l e (headSpec (wsM pe) (rmM (d + 1) m m')).room s mth _ below meth c s.heap [] (cnt m - cnt m) (slo m - slo m) _ (F0 mth 0 _ []) := g2
            rw [z1, z2] at g3
            exact g3
        | inr ex =>
          obtain ⟨hex, hnil⟩ := exc_iter CE k _ hk
          refine ⟨hex, hnil, ?_⟩
          refine vx_ofW (cc := pe.2.1.2.1) (maxL := pe.2.2) (ret := retT pe.2.1.2.2.1) (ws' := gw) hpl (by unfold wsM; rw [cwM_nil hnil]) ?_
          intro p e s mth args below meth c s₁ B hml hE0 hv
          obtain ⟨X, ha, hP⟩ := fx_start hpe hρ hF B hml hv
          have hET : c.exceptionTable.toList = tableOf pe.2.1.2.2.2 := by
            rw [hnil]
            show _ = []
            cases hq : c.exceptionTable.toList with
            | nil => rfl
            | cons x t => exact (hE0 x (by rw [hq]; exact List.mem_cons_self)).elim
          have hgo := s_iter (l := l) (e := e) (below := below) (R := (headSpec (wsM pe) (rmM (d + 1) m m')).room) (r := .inr ex) X hET ih kf kl kN kS (fun v' hv' => by cases hv') (fun ex' he _ _ => by cases he; exact fin_thr X hl B.notSynchronized hE0 hex kN kS (by show 5 < d + 1 + 8; omega) (by have := rmM_l (d + 1) m m'; show 82 ≤ (rmM (d + 1) m m').locals; omega)) k _ hk
          subst ha
          rw [lg_entry_eq]
          have g2 := hgo _ s.heap [] ⟨ent_rl hF hlen, hP, va_S.rf, MonoA.rf m⟩
          have z1 : cnt m - cnt m = 0 := by omega
          have z2 : slo m - slo m = 0 := by omega
          have g3 : W p l e (headSpec (wsM pe) (rmM (d + 1) m m')).room s mth _ below meth c s.heap [] (cnt m - cnt m) (slo m - slo m) _ (F0 mth 0 _ []) := g2
          rw [z1, z2] at g3
          exact g3
      · cases h
    · cases h
