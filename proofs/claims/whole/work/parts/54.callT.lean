-- calling what may throw
section CallT
variable {l : Launch} {y : MethodName} {ws : List Cond} {rm : Room} {Pc : Array Value → State → Prop} {mc ms : Nat} {free : Addr → Prop} {ok : Prop} {rv : Option Value} {D : va_G} {w0 ws' : va_W} {A : Nat → Prop}
theorem mt_ok (hM : MetT l y ws rm Pc (QT ok none D w0 ws' A) mc ms free) (h : ok) : Met l y ws rm Pc (va_Qv (fun _ : Unit => True) (fun _ t => va_P D cls ws' t.heap) A) mc ms free := by
  intro p e ha hc hk s m args below hf happ hP hK
  obtain ⟨n, o, h1, h2, h3, ⟨hF, h4⟩, L, h5, h6⟩ := hM p e ha hc hk s m args below hf happ hP hK
  rcases h4 with ⟨-, rfl, h7⟩ | ⟨h7, -⟩
  · exact ⟨n, _, h1, h2, h3, ⟨⟨(), rfl, trivial, h7⟩, hF⟩, L, ⟨⟨_, rfl⟩, h5⟩, h6⟩
  · exact absurd h h7
theorem mt_oi {v : Int32} (hM : MetT l y ws rm Pc (QT ok (some (.int v)) D w0 ws' A) mc ms free) (h : ok) : Met l y ws rm Pc (va_Qi (fun (z : Int32) (_ : Unit) => z = v) (fun _ t => va_P D cls ws' t.heap) A) mc ms free := by
  intro p e ha hc hk s m args below hf happ hP hK
  obtain ⟨n, o, h1, h2, h3, ⟨hF, h4⟩, L, h5, h6⟩ := hM p e ha hc hk s m args below hf happ hP hK
  rcases h4 with ⟨-, rfl, h7⟩ | ⟨h7, -⟩
  · exact ⟨n, _, h1, h2, h3, ⟨⟨v, (), rfl, rfl, h7⟩, hF⟩, L, ⟨⟨_, rfl⟩, h5⟩, h6⟩
  · exact absurd h h7
end CallT
theorem bl_T {as : List Value} {D : va_G} {tys : List (ClassId × FieldType)} {ws : va_W} : FrameBlind (va_Pc as (PreT D tys ws)) :=
  fun a U g mk h => ⟨h.1, va_K.moved (u := U) (U := U.calling g mk a) (Vm.Alike.refl U.vm) h.2.1, NL_same (u := U) (U := U.calling g mk a) rfl h.2.2.1, h.2.2.2.1, TH_move h.2.2.2.2 (U := U.calling g mk a) (State.WarmedH.refl U) (fun _ _ q => q)⟩
section CallT2
variable {p : Program} {l : Launch} {e : Env} {R : Room} {s : State} {m : MethodId} {args : Array Value} {below : List Frame} {meth : Method} {c : Code} {H : Heap} {locs : List Loc} {cells slots : Nat} {Q : State → Prop}
variable {cc : ByteArray} {pc : Nat} {ls : Array Slot} {D : va_G} {A A1 : Nat → Prop} {tys : List (ClassId × FieldType)} {ws ws' : va_W} {H0 : Heap} {own : String} {nL index n k o : Nat}
variable {y : MethodName} {b : ByteArray} {r : Option FieldType} {rm : Room} {As st0 : List Value} {v : Int32} {ok : Prop} {rv : Option Value}
abbrev Rok1 (rm R : Room) (n : Nat) : Prop := rm.cells = 1 ∧ rm.slots = 6 ∧ rm.frames + 1 ≤ R.frames ∧ 8 + (n + 11) + rm.locals ≤ R.locals
theorem pw_T {as : List Value} (hK : va_K D cls tys s) (hN : NL s) (hP : va_P D cls ws H) (hT : TH s) (hH : ∀ (q : Nat) (c : Cell), s.heap[q]? = some c → H[q]? = some c) : ∀ U : State, U.heap = H → s.WarmedH U.vm → va_Pc as (PreT D tys ws) as.toArray U :=
  fun U hU hW => ⟨rfl, va_K.moved hW.alike hK, NL_warm hW hN, by rw [hU]; exact hP, TH_move hT hW (fun q c h => by rw [hU]; exact hH q c h)⟩
theorem c_tV (rest : List Value) (S : CallFix p m c cc nL s args TB own) (hM : Met l y (.code y b n r :: TB) rm (va_Pc (.ref o :: As) (PreT D tys ws)) (va_Qv (fun _ : Unit => True) (fun _ t => va_P D cls ws' t.heap) A1) 1 6 A1) (mf : MFv y b n r k) (hl : Cond.methodLink own index y ∈ TB) (hK : va_K D cls tys s) (hN : NL s) (hP : va_P D cls ws H) (hT : TH s) (hH : ∀ (q : Nat) (c : Cell), s.heap[q]? = some c → H[q]? = some c) (hS : va_S A H0 H locs) (hsub : ∀ q, A1 q → A q) (q0 ci : Nat) {fs : List Value} {T : u_T} {N : Nat} (he : ws[q0]? = some (o, .inr (ci, fs))) (hc : cls[ci]? = some (y.cls, T, N)) (hR : Rok1 rm R n) (hk : As.length = k) (hsz : ls.size = nL) (hst : st0 = As.reverse ++ .ref o :: rest) (hw : (rest.map fun v => v.category).sum ≤ 8) (hdg : decode cc pc = .ok (.invokevirtual index, 3)) (hcs : cells + 1 ≤ R.cells ∧ slots + 6 ≤ R.slots)
    (kk : ∀ (H1 : Heap) (locs1 : List Loc), va_P D cls ws' H1 → H.size ≤ H1.size → (∀ q : Nat, q < H.size → ¬ A1 q → H1[q]? = H[q]?) → va_S A H0 H1 locs1 → W p l e R s m args below meth c H1 locs1 (cells + 1) (slots + 6) Q (F0 m (pc + 3) ls rest)) : W p l e R s m args below meth c H locs cells slots Q (F0 m pc ls st0) :=
  va_callv (va_runV (C := y.cls) S hM ⟨callB_of k S.2.2.2.2 (gi mf.1) rfl hR.1 hR.2.1 (S.2.2.2.2 _ mf.2.1) (S.2.2.2.2 _ hl) mf.2.2.2.2 hR.2.2, S.2.2.2.2 _ mf.2.2.1, S.2.2.2.2 _ mf.2.2.2.1⟩ ⟨bl_T, va_recv hK hP hc he, pw_T hK hN hP hT hH⟩ rfl hk hsz hst (lv_room hw) hdg hcs) hS (fun q _ h => hsub q h) hsub (fun _ t H1 locs1 ht _ _ hB hz hk1 hS1 => kk H1 locs1 (by rw [← ht]; exact hB) hz hk1 hS1)
theorem c_tI (rest : List Value) (S : CallFix p m c cc nL s args TB own) (hM : Met l y (.code y b n r :: TB) rm (va_Pc (.ref o :: As) (PreT D tys ws)) (va_Qi (fun (z : Int32) (_ : Unit) => z = v) (fun _ t => va_P D cls ws' t.heap) A1) 1 6 A1) (mf : MFv y b n r k) (hl : Cond.methodLink own index y ∈ TB) (hK : va_K D cls tys s) (hN : NL s) (hP : va_P D cls ws H) (hT : TH s) (hH : ∀ (q : Nat) (c : Cell), s.heap[q]? = some c → H[q]? = some c) (hS : va_S A H0 H locs) (hsub : ∀ q, A1 q → A q) (q0 ci : Nat) {fs : List Value} {T : u_T} {N : Nat} (he : ws[q0]? = some (o, .inr (ci, fs))) (hc : cls[ci]? = some (y.cls, T, N)) (hR : Rok1 rm R n) (hk : As.length = k) (hsz : ls.size = nL) (hst : st0 = As.reverse ++ .ref o :: rest) (hw : (rest.map fun v => v.category).sum ≤ 8) (hdg : decode cc pc = .ok (.invokevirtual index, 3)) (hcs : cells + 1 ≤ R.cells ∧ slots + 6 ≤ R.slots)
    (kk : ∀ (H1 : Heap) (locs1 : List Loc), va_P D cls ws' H1 → H.size ≤ H1.size → (∀ q : Nat, q < H.size → ¬ A1 q → H1[q]? = H[q]?) → va_S A H0 H1 locs1 → W p l e R s m args below meth c H1 locs1 (cells + 1) (slots + 6) Q (F0 m (pc + 3) ls (.int v :: rest))) : W p l e R s m args below meth c H locs cells slots Q (F0 m pc ls st0) :=
  va_calli (va_runV (C := y.cls) S hM ⟨callB_of k S.2.2.2.2 (gi mf.1) rfl hR.1 hR.2.1 (S.2.2.2.2 _ mf.2.1) (S.2.2.2.2 _ hl) mf.2.2.2.2 hR.2.2, S.2.2.2.2 _ mf.2.2.1, S.2.2.2.2 _ mf.2.2.2.1⟩ ⟨bl_T, va_recv hK hP hc he, pw_T hK hN hP hT hH⟩ rfl hk hsz hst (lv_room hw) hdg hcs) hS (fun q _ h => hsub q h) hsub (fun z _ t H1 locs1 ht _ hz hB hz2 hk1 hS1 => by rw [hz]; exact kk H1 locs1 (by rw [← ht]; exact hB) hz2 hk1 hS1)
set_option maxHeartbeats 4000000 in
/-- a call that throws, caught by the one row of the caller's own table -/
theorem c_thr (rest : List Value) (hpc : Nat) {a0 a1 ci0 : Nat} (S : CallFix p m c cc nL s args TB own) (hM : MetT l y (.code y b n r :: TB) rm (va_Pc (.ref o :: As) (PreT D tys ws)) (QT ok rv D ws ws' A1) 1 6 A1) (hno : ¬ ok) (mf : MFv y b n r k) (hl : Cond.methodLink own index y ∈ TB) (hK : va_K D cls tys s) (hN : NL s) (hP : va_P D cls ws H) (hT : TH s) (hH : ∀ (q : Nat) (c : Cell), s.heap[q]? = some c → H[q]? = some c) (hS : va_S A H0 H locs) (hsub : ∀ q, A1 q → A q) (q0 ci : Nat) {fs : List Value} {T : u_T} {N : Nat} (he : ws[q0]? = some (o, .inr (ci, fs))) (hc : cls[ci]? = some (y.cls, T, N)) (hR : Rok1 rm R n) (hk : As.length = k) (hsz : ls.size = nL) (hst : st0 = As.reverse ++ .ref o :: rest) (hw : (rest.map fun v => v.category).sum ≤ 8) (hdg : decode cc pc = .ok (.invokevirtual index, 3)) (hcs : cells + 1 ≤ R.cells ∧ slots + 6 ≤ R.slots)
    (htab : c.exceptionTable.toList.map (fun h => (h.startPc, h.endPc, h.handlerPc, h.catchType)) = [(a0, a1, hpc, ci0)]) (hcov : a0 ≤ pc ∧ pc < a1) (hci : ci0 ≠ 0) (hcl : Cond.classLink own ci0 thX ∈ TB)
    (kk : ∀ (x : Nat) (H1 : Heap) (locs1 : List Loc), (∀ (q : Nat) (c : Cell), H[q]? = some c → H1[q]? = some c) → H.size ≤ H1.size → va_S A H0 H1 locs1 → W p l e R s m args below meth c H1 locs1 (cells + 1) (slots + 6) Q (F0 m hpc ls [.ref x])) : W p l e R s m args below meth c H locs cells slots Q (F0 m pc ls st0) := by
  obtain ⟨hx, hb, hml, hown, hts⟩ := S
  obtain ⟨mcode, mini, minst, msel, my1, my2, my3⟩ := mf
  intro T0 hT0 X
  have hpl : e.platform.magicAccessors = ({} : Platform).magicAccessors := by rw [X.admits.platform]
  obtain ⟨mk, methM, hnamed, hmethM, hstM, habM⟩ := Cond.instanceMethod_spec (hts _ minst)
  obtain ⟨methM', cM, hmethM', hcM, -, hlM, -, -, -, hsigM⟩ := Cond.code_spec hnamed (hts _ mcode)
  cases hmethM.symm.trans hmethM'
  obtain ⟨cellB, hcB, hoB, hclB⟩ := va_recv hK hP hc he
  obtain ⟨c2, r2, m2, q1, q2, q3, q4, kP, hkP, hkPi⟩ := Cond.selects_spec (hts _ msel)
  cases hclB.symm.trans q1
  cases (State.methodFound?_of_named hnamed ⟨my1, my2⟩).symm.trans q2
  cases hnamed.symm.trans q3
  have hselP : selectMethod e.platform s.vm cellB.cls mk = .method mk := by rw [Launch.admits_selectMethod X.admits]; exact q4
  have hlen : As.length = methM.sig.parameters.length := by
    rw [hsigM] at my3
    rw [hk]
    exact (Option.some.inj my3).symm
  obtain ⟨vm₁, X₁, hstep₁⟩ := X.invokevirtual hx hown (hts _ hl) hnamed hmethM hstM hkP hkPi ⟨my1, my2⟩ (a := o) (cell := cellB) (by rw [hT0]; exact hcB)
    (fun z h => by rw [h] at hoB; cases hoB) hselP hmethM habM hkP hkPi (g := F0 m pc ls st0) rfl (argsL := As) (rest := rest) hlen hst (by rw [hb]; exact hdg)
  have hU : (T0.setVm vm₁).heap = H := hT0
  have hnU := X₁.named hnamed
  obtain ⟨kY, hkY, -⟩ := className_of_methodNamed hnU
  have hwU : ∀ w ∈ Cond.code y b n r :: TB, w.before (Value.ref o :: As).toArray (T0.setVm vm₁) = true := fun w hw => pay_in hts (gi mcode) w hw _ _ X₁.warmed
  have hiU : (Cond.initialized y.cls).before (Value.ref o :: As).toArray (T0.setVm vm₁) = true := hwU _ (List.mem_cons_of_mem _ mini)
  have hinitY : kY.init = .initialized := Cond.initialized_spec (findClass_of_methodNamed hnU) hkY hiU
  obtain ⟨methY, cY, hmY, hcY, -, hlY, -, -, -, -⟩ := Cond.code_spec hnU (hwU _ List.mem_cons_self)
  have hAt := X₁.here
  have happ : (headSpec (Cond.code y b n r :: TB) rm).appliesLoose y e.platform ((T0.setVm vm₁).calling (F0 m pc ls rest) mk (Value.ref o :: As).toArray) = true :=
    Spec.appliesLoose_calling (g := F0 m pc ls rest) hAt (by rw [hb]; exact hdg) hnU hkY hinitY
      (X₁.room_calling (g := F0 m pc ls rest) (R' := rm) (hsz.trans hml.symm) hmY hcY hR.2.2.1 (by
        rw [hlY]
        have h1 := lv_room (m := m) (pc := pc) (ls := ls) (rest := rest) hw
        have h2 := hR.2.2.2
        have h3 : 2 * (F0 m pc ls rest).monitorRoom + ((F0 m pc ls rest).stack.map fun v => v.category).sum ≤ 8 := h1
        omega) (by rw [hR.1]; exact hcs.1) (by rw [hR.2.1]; exact hcs.2)) (atoms_intro hwU)
  obtain ⟨mid, hmid⟩ := hAt.above
  have hfr : ((T0.setVm vm₁).setTop (F0 m pc ls rest)).frames = (.java (F0 m pc ls rest) :: mid) ++ below := by rw [State.frames_setTop' (F0 m pc ls rest) hAt.top, hmid]; rfl
  have hpre := bl_T (Value.ref o :: As).toArray (T0.setVm vm₁) (F0 m pc ls rest) mk (pw_T (as := .ref o :: As) hK hN hP hT hH (T0.setVm vm₁) hU X₁.warmed)
  obtain ⟨o', s₂, hsteps, -, hend, hq⟩ := Steps.callFree hM p X₁.admits X₁.cas X₁.clock (acts := []) hfr happ hpre trivial
  obtain ⟨⟨hF, h4⟩, L, ⟨hW2, hsame⟩, hfree⟩ := hq
  rcases h4 with ⟨h4, -⟩ | ⟨-, x, ce, rfl, hxs, hce, hcv, hccls, hcass, hkeep⟩
  · exact absurd h4 hno
  rw [State.frames_setTop' (F0 m pc ls rest) hAt.top, X₁.tail] at hend
  obtain ⟨T', X', hWT, hsT, ht⟩ := X₁.outOfThrown (g := F0 m pc ls rest) rfl hend hW2 hsame
  have hh2 : s₂.heap = T'.heap := by rw [ht]; exact Stand.throwing_heap T' _ x
  have hU' : ((T0.setVm vm₁).calling (F0 m pc ls rest) mk (Value.ref o :: As).toArray).heap = H := hU
  have hF : va_F A1 ((T0.setVm vm₁).calling (F0 m pc ls rest) mk (Value.ref o :: As).toArray) s₂ := hF
  have hkeep : ∀ (q : Nat) (c : Cell), ((T0.setVm vm₁).calling (F0 m pc ls rest) mk (Value.ref o :: As).toArray).heap[q]? = some c → s₂.heap[q]? = some c := hkeep
  rw [hU'] at hkeep
  obtain ⟨c0, hfc0, hclk⟩ := Cond.classLink_spec hown (hts _ hcl) e.platform hpl
  obtain ⟨hg₁, hwarm₁, hready₁⟩ := State.classEntry (e := e) X'.warmed hclk
  obtain ⟨xe, hxe, hxm⟩ : ∃ xe, c.exceptionTable.toList = [xe] ∧ (xe.startPc, xe.endPc, xe.handlerPc, xe.catchType) = (a0, a1, hpc, ci0) := by
    cases htl : c.exceptionTable.toList with
    | nil => rw [htl] at htab; cases htab
    | cons z t =>
      cases t with
      | nil =>
        rw [htl] at htab
        exact ⟨z, rfl, (List.cons.inj htab).1⟩
      | cons z2 t2 =>
        rw [htl] at htab
        exact absurd (List.cons.inj htab).2 (by simp)
  simp only [Prod.mk.injEq] at hxm
  obtain ⟨e0, e1, e2, e3⟩ := hxm
  have hce' : T'.heap[x]? = some ce := by rw [← hh2]; exact hce
  have hA1 : s.vm.Alike vm₁ := X₁.warmed.alike
  have hA2 : s.vm.Alike (T'.vm.noted m.cls ci0 (.cls c0)) := hwarm₁.alike
  have hA3 : s.vm.Alike T'.vm := X'.warmed.alike
  have hcc : ce.cls = c0 := by
    have h1 : vm₁.findClass thX = some ce.cls := hccls
    rw [hA1.findClass] at h1
    exact Option.some.inj (h1.symm.trans hfc0)
  have has : (T'.vm.noted m.cls ci0 (.cls c0)).assignable ce.cls c0 = true := by
    have h1 : vm₁.assignable ce.cls ce.cls = true := hcass
    rw [hA1.assignable] at h1
    rw [hA2.assignable, ← hcc]
    exact h1
  have hex : ∃ k, (T'.vm.noted m.cls ci0 (.cls c0)).classes[c0]? = some k := by
    have h1 : (T'.vm.noted m.cls ci0 (.cls c0)).findClass thX = some c0 := by rw [hA2.findClass]; exact hfc0
    exact Vm.classAt_of_findClass h1
  have hfind : FindsC e ((T'.setTop (F0 m pc ls rest)).pushFrame (.throwing x)) (F0 m pc ls rest) x (.found xe.handlerPc) (T'.vm.noted m.cls ci0 (.cls c0)) :=
    ct_finds (meth := meth) (code := c) (x := xe) (c := c0) (cell := ce) (by rw [Stand.throwing_vm]; exact X'.method') X'.code hxe (by
      show (decide (xe.startPc ≤ pc) && decide (pc < xe.endPc)) = true
      rw [e0, e1]
      simp [hcov.1, hcov.2]) (by rw [e3]; exact hci) (by rw [Stand.throwing_vm, e3]; exact hg₁) (by
      rw [Stand.throwing_vm]
      have h1 := hA2.2.1
      have h2 := hA3.2.1
      omega) (by rw [Stand.throwing_heap]; exact hce') (fun k h => by rw [hcv] at h; cases h) (by rw [hcc]; exact hex) hex has
  have X'' := X'.noted hwarm₁
  have hF1 : H.size ≤ T'.heap.size := by
    have h1 := hF.1
    rw [hU', hh2] at h1
    exact h1
  have hS' : va_S A H0 T'.heap (locs ++ L) := by
    refine ⟨Nat.le_trans hS.1 hF1, fun q hq hn => ?_, fun z hz => ?_⟩
    · have h1 := hF.2 q (by rw [hU']; exact Nat.lt_of_lt_of_le hq hS.1) (fun z => hn (hsub q z))
      rw [hU', hh2] at h1
      rw [h1]
      exact hS.2.1 q hq hn
    · rcases List.mem_append.mp hz with h1 | h1
      · exact hS.2.2 z h1
      · exact hsub _ (hfree z h1)
  obtain ⟨t, a1', b1'⟩ := kk x T'.heap (locs ++ L) (fun q c0 h => by rw [← hh2]; exact hkeep q c0 h) hF1 hS' (T'.setVm (T'.vm.noted m.cls ci0 (.cls c0))) rfl X''
  refine ⟨t, hstep₁ _ (fun acts => ?_), b1'⟩
  rw [doInvoke_state]
  refine hsteps.trans ?_
  rw [ht]
  exact ct_caught X'.here hfind (by rw [e2]; exact a1')
end CallT2
