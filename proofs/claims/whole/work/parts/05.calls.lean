-- contracts: pure int (or boolean) methods, writers without and with an answer; what a method is to the tables
abbrev PreW (D : va_G) (tys : List (ClassId × FieldType)) (ws : va_W) : State → Prop := fun U => va_K D cls tys U ∧ NL U ∧ va_P D cls ws U.heap
abbrev PMi (l : Launch) (y : MethodName) (b : ByteArray) (n : Nat) (r : Option FieldType) (rm : Room) (as : List Value) (D : va_G) (tys : List (ClassId × FieldType)) (ws : va_W) (v : Int32) : Prop :=
  Met l y (.code y b n r :: TB) rm (va_Pc as (PreW D tys ws)) (vp_Si (fun z => z = v)) 0 0 (fun _ => False)
abbrev WMv (l : Launch) (y : MethodName) (b : ByteArray) (n : Nat) (r : Option FieldType) (rm : Room) (as : List Value) (D : va_G) (tys : List (ClassId × FieldType)) (ws ws' : va_W) (A : Nat → Prop) : Prop :=
  Met l y (.code y b n r :: TB) rm (va_Pc as (PreW D tys ws)) (va_Qv (fun _ : Unit => True) (fun _ t => va_P D cls ws' t.heap) A) 0 0 A
abbrev WMi (l : Launch) (y : MethodName) (b : ByteArray) (n : Nat) (r : Option FieldType) (rm : Room) (as : List Value) (D : va_G) (tys : List (ClassId × FieldType)) (ws ws' : va_W) (A : Nat → Prop) (v : Int32) : Prop :=
  Met l y (.code y b n r :: TB) rm (va_Pc as (PreW D tys ws)) (va_Qi (fun (z : Int32) (_ : Unit) => z = v) (fun _ t => va_P D cls ws' t.heap) A) 0 0 A
abbrev MFd (y : MethodName) (k : Nat) : Prop := y.cls ≠ "java/lang/invoke/MethodHandle" ∧ y.cls ≠ "java/lang/invoke/VarHandle" ∧ (parseMethodDescriptor y.desc).map (fun d => d.parameters.length) = some k
abbrev MFv (y : MethodName) (b : ByteArray) (n : Nat) (r : Option FieldType) (k : Nat) : Prop :=
  Cond.code y b n r ∈ TB ∧ Cond.initialized y.cls ∈ TB ∧ Cond.instanceMethod y ∈ TB ∧ Cond.selects y.cls y y ∈ TB ∧ MFd y k
abbrev MFs (y : MethodName) (b : ByteArray) (n : Nat) (r : Option FieldType) (k : Nat) : Prop :=
  Cond.code y b n r ∈ TB ∧ Cond.initialized y.cls ∈ TB ∧ Cond.static y ∈ TB ∧ MFd y k
abbrev Rok (rm R : Room) (n : Nat) : Prop := rm.cells = 0 ∧ rm.slots = 0 ∧ rm.frames + 1 ≤ R.frames ∧ 8 + (n + 11) + rm.locals ≤ R.locals
theorem gi {y : MethodName} {b : ByteArray} {n : Nat} {r : Option FieldType} (h : Cond.code y b n r ∈ TB) : GoodIn TB (Cond.code y b n r :: TB) := by
  intro w hw
  rcases List.mem_cons.mp hw with hw | hw
  · rw [hw]; exact ⟨h, good_of_word (TB_good _ h)⟩
  · exact ⟨hw, good_of_word (TB_good _ hw)⟩
theorem bl_W {as : List Value} {D : va_G} {tys : List (ClassId × FieldType)} {ws : va_W} : FrameBlind (va_Pc as (PreW D tys ws)) :=
  fun a U g mk h => ⟨h.1, va_K.moved (u := U) (U := U.calling g mk a) (Vm.Alike.refl U.vm) h.2.1, NL_same (u := U) (U := U.calling g mk a) rfl h.2.2.1, h.2.2.2⟩
section OwnCalls
variable {p : Program} {l : Launch} {e : Env} {R : Room} {s : State} {m : MethodId} {args : Array Value} {below : List Frame} {meth : Method} {c : Code} {H : Heap} {locs : List Loc} {cells slots : Nat} {Q : State → Prop}
variable {cc : ByteArray} {pc : Nat} {ls : Array Slot} {D : va_G} {A : Nat → Prop} {tys : List (ClassId × FieldType)} {ws ws' : va_W} {H0 : Heap} {own : String} {nL index n k o : Nat}
variable {y : MethodName} {b : ByteArray} {r : Option FieldType} {rm : Room} {As st0 : List Value} {v : Int32}
theorem pw_U {as : List Value} (hK : va_K D cls tys s) (hN : NL s) (hP : va_P D cls ws H) : ∀ U : State, U.heap = H → s.WarmedH U.vm → va_Pc as (PreW D tys ws) as.toArray U :=
  fun U hU hW => ⟨rfl, va_K.moved hW.alike hK, NL_warm hW hN, by rw [hU]; exact hP⟩
-- pure: a virtual call by a link, by a nest link; a static call
theorem c_pV (rest : List Value) (S : CallFix p m c cc nL s args TB own) (hM : PMi l y b n r rm (.ref o :: As) D tys ws v) (mf : MFv y b n r k) (hl : Cond.methodLink own index y ∈ TB) (hK : va_K D cls tys s) (hN : NL s) (hP : va_P D cls ws H) (q0 ci : Nat) {fs : List Value} {T : u_T} {N : Nat} (he : ws[q0]? = some (o, .inr (ci, fs))) (hc : cls[ci]? = some (y.cls, T, N)) (hR : Rok rm R n) (hk : As.length = k) (hsz : ls.size = nL) (hst : st0 = As.reverse ++ .ref o :: rest) (hw : (rest.map fun v => v.category).sum ≤ 8) (hdg : decode cc pc = .ok (.invokevirtual index, 3)) (hcs : cells ≤ R.cells ∧ slots ≤ R.slots)
    (kk : W p l e R s m args below meth c H locs cells slots Q (F0 m (pc + 3) ls (.int v :: rest))) : W p l e R s m args below meth c H locs cells slots Q (F0 m pc ls st0) := by
  refine vp_callSi (post := fun z => z = v) (W.runV (C := y.cls) S hM ⟨callB_of k S.2.2.2.2 (gi mf.1) rfl hR.1 hR.2.1 (S.2.2.2.2 _ mf.2.1) (S.2.2.2.2 _ hl) mf.2.2.2.2 hR.2.2, S.2.2.2.2 _ mf.2.2.1, S.2.2.2.2 _ mf.2.2.2.1⟩ ⟨bl_W, va_recv hK hP hc he, pw_U hK hN hP⟩ rfl hk hsz hst (lv_room hw) hdg hcs) (fun z hz => ?_)
  rw [hz]; exact kk
theorem c_pN (rest : List Value) (S : CallFix p m c cc nL s args TB own) (hM : PMi l y b n r rm (.ref o :: As) D tys ws v) (mf : MFv y b n r k) (hl : Cond.methodLinkNest own index y R_M ∈ NW) (hK : va_K D cls tys s) (hN : NL s) (hP : va_P D cls ws H) (q0 ci : Nat) {fs : List Value} {T : u_T} {N : Nat} (he : ws[q0]? = some (o, .inr (ci, fs))) (hc : cls[ci]? = some (y.cls, T, N)) (hR : Rok rm R n) (hk : As.length = k) (hsz : ls.size = nL) (hst : st0 = As.reverse ++ .ref o :: rest) (hw : (rest.map fun v => v.category).sum ≤ 8) (hdg : decode cc pc = .ok (.invokevirtual index, 3)) (hcs : cells ≤ R.cells ∧ slots ≤ R.slots)
    (kk : W p l e R s m args below meth c H locs cells slots Q (F0 m (pc + 3) ls (.int v :: rest))) : W p l e R s m args below meth c H locs cells slots Q (F0 m pc ls st0) := by
  refine vp_callSi (post := fun z => z = v) (va_Run.run (va_runVN (C := y.cls) S hM ⟨va_cnB k S.2.2.2.2 (gi mf.1) rfl hR.1 hR.2.1 (hN _ hl) (S.2.2.2.2 _ mf.2.1) mf.2.2.2.2 hR.2.2, S.2.2.2.2 _ mf.2.2.1, S.2.2.2.2 _ mf.2.2.2.1⟩ ⟨bl_W, va_recv hK hP hc he, pw_U hK hN hP⟩ rfl hk hsz hst (lv_room hw) hdg hcs)) (fun z hz => ?_)
  rw [hz]; exact kk
theorem c_pS (rest : List Value) (S : CallFix p m c cc nL s args TB own) (hM : PMi l y b n r rm As D tys ws v) (mf : MFs y b n r k) (hl : Cond.methodLink own index y ∈ TB) (hK : va_K D cls tys s) (hN : NL s) (hP : va_P D cls ws H) (hR : Rok rm R n) (hk : As.length = k) (hsz : ls.size = nL) (hst : st0 = As.reverse ++ rest) (hw : (rest.map fun v => v.category).sum ≤ 8) (hdg : decode cc pc = .ok (.invokestatic index, 3)) (hcs : cells ≤ R.cells ∧ slots ≤ R.slots)
    (kk : W p l e R s m args below meth c H locs cells slots Q (F0 m (pc + 3) ls (.int v :: rest))) : W p l e R s m args below meth c H locs cells slots Q (F0 m pc ls st0) := by
  refine vp_callSi (post := fun z => z = v) (W.runS S hM ⟨callB_of k S.2.2.2.2 (gi mf.1) rfl hR.1 hR.2.1 (S.2.2.2.2 _ mf.2.1) (S.2.2.2.2 _ hl) mf.2.2.2 hR.2.2, S.2.2.2.2 _ mf.2.2.1⟩ ⟨bl_W, pw_U hK hN hP⟩ rfl hk hsz hst (lv_room hw) hdg hcs) (fun z hz => ?_)
  rw [hz]; exact kk
-- writers without an answer
theorem c_vV (rest : List Value) (S : CallFix p m c cc nL s args TB own) (hM : WMv l y b n r rm (.ref o :: As) D tys ws ws' A) (mf : MFv y b n r k) (hl : Cond.methodLink own index y ∈ TB) (hK : va_K D cls tys s) (hN : NL s) (hP : va_P D cls ws H) (hS : va_S A H0 H locs) (q0 ci : Nat) {fs : List Value} {T : u_T} {N : Nat} (he : ws[q0]? = some (o, .inr (ci, fs))) (hc : cls[ci]? = some (y.cls, T, N)) (hR : Rok rm R n) (hk : As.length = k) (hsz : ls.size = nL) (hst : st0 = As.reverse ++ .ref o :: rest) (hw : (rest.map fun v => v.category).sum ≤ 8) (hdg : decode cc pc = .ok (.invokevirtual index, 3)) (hcs : cells ≤ R.cells ∧ slots ≤ R.slots)
    (kk : ∀ (H1 : Heap) (locs1 : List Loc), va_P D cls ws' H1 → va_S A H0 H1 locs1 → W p l e R s m args below meth c H1 locs1 cells slots Q (F0 m (pc + 3) ls rest)) : W p l e R s m args below meth c H locs cells slots Q (F0 m pc ls st0) :=
  va_callv (va_runV (C := y.cls) S hM ⟨callB_of k S.2.2.2.2 (gi mf.1) rfl hR.1 hR.2.1 (S.2.2.2.2 _ mf.2.1) (S.2.2.2.2 _ hl) mf.2.2.2.2 hR.2.2, S.2.2.2.2 _ mf.2.2.1, S.2.2.2.2 _ mf.2.2.2.1⟩ ⟨bl_W, va_recv hK hP hc he, pw_U hK hN hP⟩ rfl hk hsz hst (lv_room hw) hdg hcs) hS (fun _ _ h => h) (fun _ h => h) (fun _ t H1 locs1 ht _ _ hB _ _ hS1 => kk H1 locs1 (by rw [← ht]; exact hB) hS1)
theorem c_vN (rest : List Value) (S : CallFix p m c cc nL s args TB own) (hM : WMv l y b n r rm (.ref o :: As) D tys ws ws' A) (mf : MFv y b n r k) (hl : Cond.methodLinkNest own index y R_M ∈ NW) (hK : va_K D cls tys s) (hN : NL s) (hP : va_P D cls ws H) (hS : va_S A H0 H locs) (q0 ci : Nat) {fs : List Value} {T : u_T} {N : Nat} (he : ws[q0]? = some (o, .inr (ci, fs))) (hc : cls[ci]? = some (y.cls, T, N)) (hR : Rok rm R n) (hk : As.length = k) (hsz : ls.size = nL) (hst : st0 = As.reverse ++ .ref o :: rest) (hw : (rest.map fun v => v.category).sum ≤ 8) (hdg : decode cc pc = .ok (.invokevirtual index, 3)) (hcs : cells ≤ R.cells ∧ slots ≤ R.slots)
    (kk : ∀ (H1 : Heap) (locs1 : List Loc), va_P D cls ws' H1 → va_S A H0 H1 locs1 → W p l e R s m args below meth c H1 locs1 cells slots Q (F0 m (pc + 3) ls rest)) : W p l e R s m args below meth c H locs cells slots Q (F0 m pc ls st0) :=
  va_callv (va_runVN (C := y.cls) S hM ⟨va_cnB k S.2.2.2.2 (gi mf.1) rfl hR.1 hR.2.1 (hN _ hl) (S.2.2.2.2 _ mf.2.1) mf.2.2.2.2 hR.2.2, S.2.2.2.2 _ mf.2.2.1, S.2.2.2.2 _ mf.2.2.2.1⟩ ⟨bl_W, va_recv hK hP hc he, pw_U hK hN hP⟩ rfl hk hsz hst (lv_room hw) hdg hcs) hS (fun _ _ h => h) (fun _ h => h) (fun _ t H1 locs1 ht _ _ hB _ _ hS1 => kk H1 locs1 (by rw [← ht]; exact hB) hS1)
-- writers with an answer
theorem c_iV (rest : List Value) (S : CallFix p m c cc nL s args TB own) (hM : WMi l y b n r rm (.ref o :: As) D tys ws ws' A v) (mf : MFv y b n r k) (hl : Cond.methodLink own index y ∈ TB) (hK : va_K D cls tys s) (hN : NL s) (hP : va_P D cls ws H) (hS : va_S A H0 H locs) (q0 ci : Nat) {fs : List Value} {T : u_T} {N : Nat} (he : ws[q0]? = some (o, .inr (ci, fs))) (hc : cls[ci]? = some (y.cls, T, N)) (hR : Rok rm R n) (hk : As.length = k) (hsz : ls.size = nL) (hst : st0 = As.reverse ++ .ref o :: rest) (hw : (rest.map fun v => v.category).sum ≤ 8) (hdg : decode cc pc = .ok (.invokevirtual index, 3)) (hcs : cells ≤ R.cells ∧ slots ≤ R.slots)
    (kk : ∀ (H1 : Heap) (locs1 : List Loc), va_P D cls ws' H1 → va_S A H0 H1 locs1 → W p l e R s m args below meth c H1 locs1 cells slots Q (F0 m (pc + 3) ls (.int v :: rest))) : W p l e R s m args below meth c H locs cells slots Q (F0 m pc ls st0) :=
  va_calli (va_runV (C := y.cls) S hM ⟨callB_of k S.2.2.2.2 (gi mf.1) rfl hR.1 hR.2.1 (S.2.2.2.2 _ mf.2.1) (S.2.2.2.2 _ hl) mf.2.2.2.2 hR.2.2, S.2.2.2.2 _ mf.2.2.1, S.2.2.2.2 _ mf.2.2.2.1⟩ ⟨bl_W, va_recv hK hP hc he, pw_U hK hN hP⟩ rfl hk hsz hst (lv_room hw) hdg hcs) hS (fun _ _ h => h) (fun _ h => h) (fun z _ t H1 locs1 ht _ hz hB _ _ hS1 => by rw [hz]; exact kk H1 locs1 (by rw [← ht]; exact hB) hS1)
theorem c_iS (rest : List Value) (S : CallFix p m c cc nL s args TB own) (hM : WMi l y b n r rm As D tys ws ws' A v) (mf : MFs y b n r k) (hl : Cond.methodLink own index y ∈ TB) (hK : va_K D cls tys s) (hN : NL s) (hP : va_P D cls ws H) (hS : va_S A H0 H locs) (hR : Rok rm R n) (hk : As.length = k) (hsz : ls.size = nL) (hst : st0 = As.reverse ++ rest) (hw : (rest.map fun v => v.category).sum ≤ 8) (hdg : decode cc pc = .ok (.invokestatic index, 3)) (hcs : cells ≤ R.cells ∧ slots ≤ R.slots)
    (kk : ∀ (H1 : Heap) (locs1 : List Loc), va_P D cls ws' H1 → va_S A H0 H1 locs1 → W p l e R s m args below meth c H1 locs1 cells slots Q (F0 m (pc + 3) ls (.int v :: rest))) : W p l e R s m args below meth c H locs cells slots Q (F0 m pc ls st0) :=
  va_calli (va_runS S hM ⟨callB_of k S.2.2.2.2 (gi mf.1) rfl hR.1 hR.2.1 (S.2.2.2.2 _ mf.2.1) (S.2.2.2.2 _ hl) mf.2.2.2 hR.2.2, S.2.2.2.2 _ mf.2.2.1⟩ ⟨bl_W, pw_U hK hN hP⟩ rfl hk hsz hst (lv_room hw) hdg hcs) hS (fun _ _ h => h) (fun _ h => h) (fun z _ t H1 locs1 ht _ hz hB _ _ hS1 => by rw [hz]; exact kk H1 locs1 (by rw [← ht]; exact hB) hS1)
end OwnCalls
section OwnEntry
variable {l : Launch} {y : MethodName} {b : ByteArray} {n : Nat} {r : Option FieldType} {rm : Room} {as : List Value} {D : va_G} {tys : List (ClassId × FieldType)} {ws ws' : va_W} {v : Int32} {A : Nat → Prop}
theorem ofP (hy : plainName y.cls = true) (hn : (lg_sl as).length ≤ n)
    (body : ∀ (p : Program) (e : Env) (s : State) (m : MethodId) (below : List Frame) (meth : Method) (c : Code) (ls : Array Slot), CallFix p m c b n s as.toArray TB y.cls → meth.sig.returnType = r → meth.locks = false → va_K D cls tys s → NL s → va_P D cls ws s.heap → lv_has ls n (lv_args 0 as) →
      W p l e rm s m as.toArray below meth c s.heap [] 0 0 (MQ below (vp_Si (fun z => z = v)) as.toArray s 0 0 (fun _ => False)) (F0 m 0 ls [])) : PMi l y b n r rm as D tys ws v := by
  refine Met.ofW (cc := b) (maxL := n) (ret := r) hy rfl ?_
  intro p e s m args below meth c s₁ B hml hv
  obtain ⟨rfl, hK, hN, hP⟩ := hv
  have hts := atoms_spec (ws := Cond.code y b n r :: TB) B.pre
  rw [lg_entry_eq]
  exact body p e s m below meth c _ ⟨B.exec, B.bytes, hml, findClass_of_methodNamed B.named, fun w hw => hts w (List.mem_cons_of_mem _ hw)⟩ B.returns B.notSynchronized hK hN hP (lv_entry as hn)
theorem ofV (hy : plainName y.cls = true) (hn : (lg_sl as).length ≤ n)
    (body : ∀ (p : Program) (e : Env) (s : State) (m : MethodId) (below : List Frame) (meth : Method) (c : Code) (ls : Array Slot), CallFix p m c b n s as.toArray TB y.cls → meth.sig.returnType = r → meth.locks = false → va_K D cls tys s → NL s → va_P D cls ws s.heap → lv_has ls n (lv_args 0 as) →
      W p l e rm s m as.toArray below meth c s.heap [] 0 0 (MQ below (va_Qv (fun _ : Unit => True) (fun _ t => va_P D cls ws' t.heap) A) as.toArray s 0 0 A) (F0 m 0 ls [])) : WMv l y b n r rm as D tys ws ws' A := by
  refine Met.ofW (cc := b) (maxL := n) (ret := r) hy rfl ?_
  intro p e s m args below meth c s₁ B hml hv
  obtain ⟨rfl, hK, hN, hP⟩ := hv
  have hts := atoms_spec (ws := Cond.code y b n r :: TB) B.pre
  rw [lg_entry_eq]
  exact body p e s m below meth c _ ⟨B.exec, B.bytes, hml, findClass_of_methodNamed B.named, fun w hw => hts w (List.mem_cons_of_mem _ hw)⟩ B.returns B.notSynchronized hK hN hP (lv_entry as hn)
theorem ofI (hy : plainName y.cls = true) (hn : (lg_sl as).length ≤ n)
    (body : ∀ (p : Program) (e : Env) (s : State) (m : MethodId) (below : List Frame) (meth : Method) (c : Code) (ls : Array Slot), CallFix p m c b n s as.toArray TB y.cls → meth.sig.returnType = r → meth.locks = false → va_K D cls tys s → NL s → va_P D cls ws s.heap → lv_has ls n (lv_args 0 as) →
      W p l e rm s m as.toArray below meth c s.heap [] 0 0 (MQ below (va_Qi (fun (z : Int32) (_ : Unit) => z = v) (fun _ t => va_P D cls ws' t.heap) A) as.toArray s 0 0 A) (F0 m 0 ls [])) : WMi l y b n r rm as D tys ws ws' A v := by
  refine Met.ofW (cc := b) (maxL := n) (ret := r) hy rfl ?_
  intro p e s m args below meth c s₁ B hml hv
  obtain ⟨rfl, hK, hN, hP⟩ := hv
  have hts := atoms_spec (ws := Cond.code y b n r :: TB) B.pre
  rw [lg_entry_eq]
  exact body p e s m below meth c _ ⟨B.exec, B.bytes, hml, findClass_of_methodNamed B.named, fun w hw => hts w (List.mem_cons_of_mem _ hw)⟩ B.returns B.notSynchronized hK hN hP (lv_entry as hn)
end OwnEntry
section OwnEnds
variable {p : Program} {l : Launch} {e : Env} {R : Room} {s : State} {m : MethodId} {args : Array Value} {below : List Frame} {meth : Method} {c : Code} {H : Heap} {locs : List Loc} {cc : ByteArray} {pc : Nat} {ls : Array Slot} {D : va_G} {A : Nat → Prop} {ws ws' : va_W} {v x : Int32} {own : String} {nL : Nat}
theorem e_pi (S : CallFix p m c cc nL s args TB own) (hr : meth.sig.returnType = some .int) (hlocks : meth.locks = false) (hv : x = v) (hdg : decode cc pc = .ok (.ireturn, 1)) :
    W p l e R s m args below meth c s.heap [] 0 0 (MQ below (vp_Si (fun z => z = v)) args s 0 0 (fun _ => False)) (F0 m pc ls [.int x]) :=
  W.iret S.1 S.2.1 hr (fun t ht _ => ⟨x, rfl, hv, ht⟩) t_nil hdg hlocks
theorem e_pz {z : Bool} (S : CallFix p m c cc nL s args TB own) (hr : meth.sig.returnType = some .boolean) (hlocks : meth.locks = false) (hv : b2i z = v) (hdg : decode cc pc = .ok (.ireturn, 1)) :
    W p l e R s m args below meth c s.heap [] 0 0 (MQ below (vp_Si (fun z => z = v)) args s 0 0 (fun _ => False)) (F0 m pc ls [.int (b2i z)]) :=
  W.zret S.1 S.2.1 hr (b2i_nar z) (fun t ht _ => ⟨b2i z, rfl, hv, ht⟩) t_nil hdg hlocks
theorem e_wv (S : CallFix p m c cc nL s args TB own) (hr : meth.sig.returnType = none) (hlocks : meth.locks = false) (hP : va_P D cls ws H) (hS : va_S A s.heap H locs) (hw : ws = ws') (hdg : decode cc pc = .ok (.return_, 1)) :
    W p l e R s m args below meth c H locs 0 0 (MQ below (va_Qv (fun _ : Unit => True) (fun _ t => va_P D cls ws' t.heap) A) args s 0 0 A) (F0 m pc ls []) :=
  W.vret S.1 S.2.1 hr (fun t ht _ => ⟨⟨(), rfl, trivial, by show va_P D cls ws' t.heap; rw [ht, ← hw]; exact hP⟩, hS.F ht⟩) hS.2.2 hdg hlocks
theorem e_wi (S : CallFix p m c cc nL s args TB own) (hr : meth.sig.returnType = some .int) (hlocks : meth.locks = false) (hP : va_P D cls ws H) (hS : va_S A s.heap H locs) (hv : x = v) (hw : ws = ws') (hdg : decode cc pc = .ok (.ireturn, 1)) :
    W p l e R s m args below meth c H locs 0 0 (MQ below (va_Qi (fun (z : Int32) (_ : Unit) => z = v) (fun _ t => va_P D cls ws' t.heap) A) args s 0 0 A) (F0 m pc ls [.int x]) :=
  W.iret S.1 S.2.1 hr (fun t ht _ => ⟨⟨x, (), rfl, hv, by show va_P D cls ws' t.heap; rw [ht, ← hw]; exact hP⟩, hS.F ht⟩) hS.2.2 hdg hlocks
theorem e_wz {z : Bool} (S : CallFix p m c cc nL s args TB own) (hr : meth.sig.returnType = some .boolean) (hlocks : meth.locks = false) (hP : va_P D cls ws H) (hS : va_S A s.heap H locs) (hv : b2i z = v) (hw : ws = ws') (hdg : decode cc pc = .ok (.ireturn, 1)) :
    W p l e R s m args below meth c H locs 0 0 (MQ below (va_Qi (fun (z : Int32) (_ : Unit) => z = v) (fun _ t => va_P D cls ws' t.heap) A) args s 0 0 A) (F0 m pc ls [.int (b2i z)]) :=
  W.zret S.1 S.2.1 hr (b2i_nar z) (fun t ht _ => ⟨⟨b2i z, (), rfl, hv, by show va_P D cls ws' t.heap; rw [ht, ← hw]; exact hP⟩, hS.F ht⟩) hS.2.2 hdg hlocks
end OwnEnds
