-- constructors
def z0 : Cp := (false, 0, 0, 0, 0, 0)
theorem oi_inst : Cond.instanceMethod Lib.objectInit ∈ TB := tbT 16 (by decide +kernel) rfl
theorem oi_code : Cond.code Lib.objectInit ⟨#[0xb1]⟩ 1 none ∈ TB := tbT 17 (by decide +kernel) rfl
theorem oi_M : Cond.methodLink R_M 1 Lib.objectInit ∈ TB := tbT 15 (by decide +kernel) rfl
theorem oi_K : Cond.methodLink R_K 3 Lib.objectInit ∈ TB := tbT 24 (by decide +kernel) rfl
theorem oi_E : Cond.methodLink R_E 3 Lib.objectInit ∈ TB := tbT 57 (by decide +kernel) rfl
theorem oi_R : Cond.methodLink R_R 1 Lib.objectInit ∈ TB := tbT 350 (by decide +kernel) rfl
theorem ac_byte : Cond.arrayClass (newarray.typeOf .byte) ∈ TB := tbT 66 (by decide +kernel) rfl
theorem ac_boolean : Cond.arrayClass (newarray.typeOf .boolean) ∈ TB := tbT 67 (by decide +kernel) rfl
theorem ac_int : Cond.arrayClass (newarray.typeOf .int) ∈ TB := tbT 410 (by decide +kernel) rfl
theorem ac_long : Cond.arrayClass (newarray.typeOf .long) ∈ TB := tbT 580 (by decide +kernel) rfl
theorem cl_K : Cond.classLink R_M 9 R_K ∈ TB := tbT 18 (by decide +kernel) rfl
theorem it_K : Cond.instantiable R_K 6 ∈ TB := tbT 20 (by decide +kernel) rfl
theorem cl_E : Cond.classLink R_M 29 R_E ∈ TB := tbT 52 (by decide +kernel) rfl
theorem it_E : Cond.instantiable R_E 2 ∈ TB := tbT 53 (by decide +kernel) rfl
theorem ni_K : Cond.methodLinkNest R_M 15 y_K_init R_M ∈ NW := nwT 21 (by decide +kernel) rfl
theorem ni_E : Cond.methodLinkNest R_M 31 y_E_init R_M ∈ NW := nwT 54 (by decide +kernel) rfl
abbrev MFi (y : MethodName) (b : ByteArray) (n : Nat) : Prop := Cond.code y b n none ∈ TB ∧ Cond.initialized y.cls ∈ TB ∧ Cond.instanceMethod y ∈ TB ∧ MFd y 0
theorem mi_K : MFi y_K_init b_K_init 1 := ⟨tbT 23 (by decide +kernel) rfl, tbT 2 (by decide +kernel) rfl, tbT 22 (by decide +kernel) rfl, by decide, by decide, by decide +kernel⟩
theorem mi_E : MFi y_E_init b_E_init 1 := ⟨tbT 56 (by decide +kernel) rfl, tbT 3 (by decide +kernel) rfl, tbT 55 (by decide +kernel) rfl, by decide, by decide, by decide +kernel⟩
theorem mi_M : MFi y_M_init b_M_init 2 := ⟨tbT 14 (by decide +kernel) rfl, tbT 1 (by decide +kernel) rfl, tbT 13 (by decide +kernel) rfl, by decide, by decide, by decide +kernel⟩
theorem mi_R : MFi y_R_init b_R_init 1 := ⟨tbT 349 (by decide +kernel) rfl, tbT 4 (by decide +kernel) rfl, tbT 348 (by decide +kernel) rfl, by decide, by decide, by decide +kernel⟩
theorem D_one {A : Nat → Prop} {o : Nat} {x : va_E} (h : A o) : va_D A [(o, x)] := by
  have key : ∀ (k : Nat) (q : Nat × va_E), [(o, x)][k]? = some q → k = 0 ∧ q.1 = o := by
    intro k q hk
    have hz : k < 1 := (List.getElem?_eq_some_iff.mp hk).1
    have h0 : k = 0 := by omega
    subst h0
    cases hk
    exact ⟨rfl, rfl⟩
  refine ⟨fun i j p q hi hj _ => ?_, fun k q hk => ?_⟩
  · rw [(key i p hi).1, (key j q hj).1]
  · rw [(key k q hk).2]; exact h
def PreI (D : va_G) (ws : va_W) (sz : Nat) (U : State) : Prop := U.heap.size = sz ∧ va_AO R_K U ∧ va_K D cls [] U ∧ NL U ∧ va_P D cls ws U.heap
theorem bl_I {as : List Value} {D : va_G} {ws : va_W} {sz : Nat} : FrameBlind (va_Pc as (PreI D ws sz)) :=
  fun a U g mk h => ⟨h.1, h.2.1, va_AO.moved (u := U) (U := U.calling g mk a) (Vm.Alike.refl U.vm) h.2.2.1, va_K.moved (u := U) (U := U.calling g mk a) (Vm.Alike.refl U.vm) h.2.2.2.1, NL_same (u := U) (U := U.calling g mk a) rfl h.2.2.2.2.1, h.2.2.2.2.2⟩
theorem pw_I {as : List Value} {D : va_G} {ws : va_W} {s : State} {H : Heap} (hO : va_AO R_K s) (hK : va_K D cls [] s) (hN : NL s) (hP : va_P D cls ws H) : ∀ U : State, U.heap = H → s.WarmedH U.vm → va_Pc as (PreI D ws H.size) as.toArray U :=
  fun U hU hW => ⟨rfl, by rw [hU], va_AO.moved hW.alike hO, va_K.moved hW.alike hK, NL_warm hW hN, by rw [hU]; exact hP⟩
theorem ofIn {l : Launch} {y : MethodName} {b : ByteArray} {n : Nat} {rm : Room} {as : List Value} {D : va_G} {ws : va_W} {sz : Nat} {Qc : Array Value → State → Outcome → State → Prop} {mc ms : Nat} {free : Addr → Prop} (hy : plainName y.cls = true) (hn : (lg_sl as).length ≤ n) (hnm : y.name = "<init>")
    (body : ∀ (p : Program) (e : Env) (s : State) (m : MethodId) (below : List Frame) (meth : Method) (c : Code) (ls : Array Slot), CallFix p m c b n s as.toArray TB y.cls → meth.sig.returnType = none → meth.locks = false → meth.name = "<init>" → s.heap.size = sz → va_AO R_K s → va_K D cls [] s → NL s → va_P D cls ws s.heap → lv_has ls n (lv_args 0 as) →
      W p l e rm s m as.toArray below meth c s.heap [] 0 0 (MQ below Qc as.toArray s mc ms free) (F0 m 0 ls [])) : Met l y (.code y b n none :: TB) rm (va_Pc as (PreI D ws sz)) Qc mc ms free := by
  refine Met.ofW (cc := b) (maxL := n) (ret := none) hy rfl ?_
  intro p e s m args below meth c s₁ B hml hv
  obtain ⟨rfl, hz, hO, hK, hN, hP⟩ := hv
  have hts := atoms_spec (ws := Cond.code y b n none :: TB) B.pre
  have hin : meth.name = "<init>" := (name_of_methodNamed B.named B.method).1.trans hnm
  rw [lg_entry_eq]
  exact body p e s m below meth c _ ⟨B.exec, B.bytes, hml, findClass_of_methodNamed B.named, fun w hw => hts w (List.mem_cons_of_mem _ hw)⟩ B.returns B.notSynchronized hin hz hO hK hN hP (lv_entry as hn)
set_option maxHeartbeats 4000000 in
theorem c_K_init (l : Launch) (D : va_G) (tys : List (ClassId × FieldType)) (o : Nat) : WMv l y_K_init b_K_init 1 none ({ frames := 1, cells := 0, slots := 0, locals := 12 }) [.ref o] D tys [] [] (fun _ => False) := by
  refine ofV (by decide) (Nat.le_of_ble_eq_true rfl) ?_
  intro p e s m below meth c ls S hr hlocks hK hN hP hl
  have hx := S.1
  have hb := S.2.1
  have hl : lv_has ls 1 [(0, .ref o)] := hl
  refine lv_aload_n hx hb d_K_init_0 rfl (lv_at hl 0 rfl) ?_
  refine W.objInit hx hb S.2.2.2.1 (S.2.2.2.2 _ oi_K) (S.2.2.2.2 _ oi_inst) (S.2.2.2.2 _ oi_code) rfl (by rw [S.2.2.1]; exact hl.1) rfl d_K_init_1 (Nat.le_of_ble_eq_true rfl) (Nat.le_of_ble_eq_true rfl) ?_
  refine W.eq (g2 := F0 m 4 ls []) rfl ?_
  exact e_wv S hr hlocks hP va_S.rf rfl d_K_init_4
section InitCalls
variable {p : Program} {l : Launch} {e : Env} {R : Room} {s : State} {m : MethodId} {args : Array Value} {below : List Frame} {meth : Method} {c : Code} {H : Heap} {locs : List Loc} {cells slots : Nat} {Q : State → Prop}
variable {cc : ByteArray} {pc : Nat} {ls : Array Slot} {D : va_G} {A : Nat → Prop} {tys : List (ClassId × FieldType)} {ws : va_W} {H0 : Heap} {nL o : Nat} {st0 : List Value}
/-- the constructor of a capability: nothing changes -/
theorem c_kI (rest : List Value) (S : CallFix p m c cc nL s args TB R_M) (hK : va_K D cls tys s) (hN : NL s) (hP : va_P D cls ws H) (hS : va_S A H0 H locs) (hR : 2 ≤ R.frames ∧ 32 ≤ R.locals) (hsz : ls.size = nL) (hst : st0 = .ref o :: rest) (hw : (rest.map fun v => v.category).sum ≤ 8) (hdg : decode cc pc = .ok (.invokespecial 15, 3)) (hcs : cells ≤ R.cells ∧ slots ≤ R.slots)
    (kk : ∀ (H1 : Heap) (locs1 : List Loc), va_P D cls ws H1 → va_S A H0 H1 locs1 → W p l e R s m args below meth c H1 locs1 cells slots Q (F0 m (pc + 3) ls rest)) : W p l e R s m args below meth c H locs cells slots Q (F0 m pc ls st0) := by
  have hP0 : va_P D cls [] H := fun k q hk => by cases hk
  exact va_callv (va_runIN (As := []) (b := o) (host := R_M) S (c_K_init l D tys o) ⟨va_cnB 0 S.2.2.2.2 (gi mi_K.1) rfl rfl rfl (hN _ ni_K) (S.2.2.2.2 _ mi_K.2.1) mi_K.2.2.2 ⟨by show 1 + 1 ≤ R.frames; exact hR.1, by show 8 + (1 + 11) + 12 ≤ R.locals; exact hR.2⟩, rfl, S.2.2.2.2 _ mi_K.2.2.1⟩ ⟨bl_W, pw_U hK hN hP0⟩ rfl rfl hsz hst (lv_room hw) hdg hcs) hS (fun _ _ h => h.elim) (fun _ h => h.elim)
    (fun _ t H1 locs1 ht _ _ hB hz hk1 hS1 => kk H1 locs1 (hP.kept (fun k q hk => hk1 q.1 ((hP k q hk).lt) (fun h => h))) hS1)
end InitCalls
def E_at (D : va_G) (A : Nat → Prop) (o : Nat) (t : State) : Prop := ∃ (a b : Nat) (qa qb : ClassId), va_K D cls [(qa, .byte), (qb, .boolean)] t ∧ va_P D cls [(o, .inr (1, [.ref a, .ref b])), (a, .inl (qa, 512, .inl (fun _ => 0))), (b, .inl (qb, 64, .inl (fun _ => b2i false)))] t.heap ∧ va_D A [(o, .inr (1, [.ref a, .ref b])), (a, .inl (qa, 512, .inl (fun _ => 0))), (b, .inl (qb, 64, .inl (fun _ => b2i false)))]
set_option maxHeartbeats 4000000 in
set_option maxRecDepth 100000 in
theorem c_E_init (l : Launch) (D : va_G) (o sz : Nat) : Met l y_E_init (.code y_E_init b_E_init 1 none :: TB) ({ frames := 1, cells := 2, slots := 576, locals := 12 }) (va_Pc [.ref o] (PreI D [(o, .inr (1, [.null, .null]))] sz)) (va_Qv (fun _ : Unit => True) (fun _ t => E_at D (va_A [(o, .inr (1, [.null, .null]))] sz) o t) (va_A [(o, .inr (1, [.null, .null]))] sz)) 2 576 (va_A [(o, .inr (1, [.null, .null]))] sz) := by
  refine ofIn (by decide) (Nat.le_of_ble_eq_true rfl) rfl ?_
  intro p e s m below meth c ls S hr hlocks hin hsz hO hK hN hP hl
  have hx := S.1
  have hb := S.2.1
  subst hsz
  have hD : va_D (va_A [(o, .inr (1, [.null, .null]))] s.heap.size) [(o, .inr (1, [.null, .null]))] := D_one (Or.inl ⟨0, _, rfl⟩)
  generalize hAe : va_A [(o, .inr (1, [.null, .null]))] s.heap.size = A at hD ⊢
  have hA : ∀ q : Nat, s.heap.size ≤ q → A q := fun q h => by rw [← hAe]; exact Or.inr h
  have hS : va_S A s.heap s.heap [] := va_S.rf
  have hl : lv_has ls 1 [(0, .ref o)] := hl
  refine lv_aload_n hx hb d_E_init_0 rfl (lv_at hl 0 rfl) ?_
  refine W.objInit hx hb S.2.2.2.1 (S.2.2.2.2 _ oi_E) (S.2.2.2.2 _ oi_inst) (S.2.2.2.2 _ oi_code) rfl (by rw [S.2.2.1]; exact hl.1) rfl d_E_init_1 (Nat.le_of_ble_eq_true rfl) (Nat.le_of_ble_eq_true rfl) ?_
  refine W.eq (g2 := F0 m 4 ls []) rfl ?_
  refine lv_aload_n hx hb d_E_init_4 rfl (lv_at hl 0 rfl) ?_
  refine lv_sipush (v := (512 : Int32)) hx hb d_E_init_5 (by decide) ?_
  refine va_newa (a0 := (512, .inl (fun _ => 0))) (ty := .byte) hx hb (S.2.2.2.2 _ ac_byte) rfl hK hP hD hS hA (fun _ => rfl) (by decide) (N' := 512) (by decide) (by decide) (Nat.le_of_ble_eq_true rfl) (Nat.le_of_ble_eq_true rfl) d_E_init_8 (fun b0 k0 H hK hP hD hS => ?_)
  have hP : va_P D cls [(o, .inr (1, [.null, .null])), (b0, .inl (k0, (512, .inl (fun _ => 0))))] H := hP
  have hD : va_D A [(o, .inr (1, [.null, .null])), (b0, .inl (k0, (512, .inl (fun _ => 0))))] := hD
  have hK : va_K D cls [(k0, .byte)] s := hK
  refine W.widen (k := 1) (n := 512) (by omega) (by omega) ?_
  refine va_putF (D := D) (ci := 1) (v := .ref b0) (ty := t_E 0) (C := R_E) (T := F_E) (N := 2) hx hb S.2.2.2.2 in_E t_E t_E_ok n_E S.2.2.2.1 hK hP hD hS 0 rfl rfl 0 (by decide) (S.2.2.2.2 _ fl_E_9) (fun _ h9 => h9) rfl hin rfl (by decide +kernel) rfl rfl (Nat.le_of_ble_eq_true rfl) d_E_init_10 (fun H locs hP hD hS => ?_)
  have hP : va_P D cls [(o, .inr (1, [.ref b0, .null])), (b0, .inl (k0, (512, .inl (fun _ => 0))))] H := hP
  have hD : va_D A [(o, .inr (1, [.ref b0, .null])), (b0, .inl (k0, (512, .inl (fun _ => 0))))] := hD
  refine lv_aload_n hx hb d_E_init_13 rfl (lv_at hl 0 rfl) ?_
  refine lv_bipush (v := (64 : Int32)) hx hb d_E_init_14 (by decide) ?_
  refine va_newa (a0 := (64, .inl (fun _ => b2i false))) (ty := .boolean) hx hb (S.2.2.2.2 _ ac_boolean) rfl hK hP hD hS hA (fun _ => rfl) (by decide) (N' := 64) (by decide) (by decide) (Nat.le_of_ble_eq_true rfl) (Nat.le_of_ble_eq_true rfl) d_E_init_16 (fun b1 k1 H hK hP hD hS => ?_)
  have hP : va_P D cls [(o, .inr (1, [.ref b0, .null])), (b0, .inl (k0, (512, .inl (fun _ => 0)))), (b1, .inl (k1, (64, .inl (fun _ => b2i false))))] H := hP
  have hD : va_D A [(o, .inr (1, [.ref b0, .null])), (b0, .inl (k0, (512, .inl (fun _ => 0)))), (b1, .inl (k1, (64, .inl (fun _ => b2i false))))] := hD
  have hK : va_K D cls [(k0, .byte), (k1, .boolean)] s := hK
  refine W.widen (k := 2) (n := 576) (by omega) (by omega) ?_
  refine va_putF (D := D) (ci := 1) (v := .ref b1) (ty := t_E 1) (C := R_E) (T := F_E) (N := 2) hx hb S.2.2.2.2 in_E t_E t_E_ok n_E S.2.2.2.1 hK hP hD hS 0 rfl rfl 1 (by decide) (S.2.2.2.2 _ fl_E_15) (fun _ h9 => h9) rfl hin rfl (by decide +kernel) rfl rfl (Nat.le_of_ble_eq_true rfl) d_E_init_18 (fun H locs hP hD hS => ?_)
  have hP : va_P D cls [(o, .inr (1, [.ref b0, .ref b1])), (b0, .inl (k0, (512, .inl (fun _ => 0)))), (b1, .inl (k1, (64, .inl (fun _ => b2i false))))] H := hP
  have hD : va_D A [(o, .inr (1, [.ref b0, .ref b1])), (b0, .inl (k0, (512, .inl (fun _ => 0)))), (b1, .inl (k1, (64, .inl (fun _ => b2i false))))] := hD
  exact W.vret hx hb hr (fun t ht hW => ⟨⟨(), rfl, trivial, b0, b1, k0, k1, va_K.moved hW.alike hK, by rw [ht]; exact hP, hD⟩, hS.F ht⟩) hS.2.2 d_E_init_21 hlocks
def sel9 (a0 a1 a2 a3 a4 a5 a6 a7 a8 : Nat) : Nat → Nat
  | 0 => a0
  | 1 => a1
  | 2 => a2
  | 3 => a3
  | 4 => a4
  | 5 => a5
  | 6 => a6
  | 7 => a7
  | _ => a8
def selQ (a0 a1 a2 a3 a4 a5 a6 a7 : ClassId) : Nat → ClassId
  | 0 => a0
  | 1 => a1
  | 2 => a2
  | 3 => a3
  | 4 => a4
  | 5 => a5
  | 6 => a6
  | _ => a7
def c0R : Nat → Cp := f_R_set (f_R_set (fun _ => z0) 8 0 512 0 255) 1 0 512 0 255
def R_at (D : va_G) (A : Nat → Prop) (o : Nat) (t : State) : Prop := ∃ (q : Nat → ClassId) (xa : Nat → Nat), xa 0 = o ∧ va_K D cls (tyR q) t ∧ va_P D cls (rW q xa 0 0 0 0 0 0 0 0 0 false (fun _ => 0) (fun _ => false) c0R) t.heap ∧ va_D A (rW q xa 0 0 0 0 0 0 0 0 0 false (fun _ => 0) (fun _ => false) c0R)
set_option maxHeartbeats 4000000 in
set_option maxRecDepth 100000 in
theorem c_R_init (l : Launch) (D : va_G) (o sz : Nat) : Met l y_R_init (.code y_R_init b_R_init 1 none :: TB) ({ frames := 1, cells := 8, slots := 648, locals := 25 }) (va_Pc [.ref o] (PreI D [(o, .inr (3, [.int 0, .null, .null, .null, .null, .null, .null, .null, .null, .int 0, .int 0, .int 0, .int 0, .int 0, .int 0, .int 0, .int 0, .int 0]))] sz)) (va_Qv (fun _ : Unit => True) (fun _ t => R_at D (va_A [(o, .inr (3, [.int 0, .null, .null, .null, .null, .null, .null, .null, .null, .int 0, .int 0, .int 0, .int 0, .int 0, .int 0, .int 0, .int 0, .int 0]))] sz) o t) (va_A [(o, .inr (3, [.int 0, .null, .null, .null, .null, .null, .null, .null, .null, .int 0, .int 0, .int 0, .int 0, .int 0, .int 0, .int 0, .int 0, .int 0]))] sz)) 8 648 (va_A [(o, .inr (3, [.int 0, .null, .null, .null, .null, .null, .null, .null, .null, .int 0, .int 0, .int 0, .int 0, .int 0, .int 0, .int 0, .int 0, .int 0]))] sz) := by
  refine ofIn (by decide) (Nat.le_of_ble_eq_true rfl) rfl ?_
  intro p e s m below meth c ls S hr hlocks hin hsz hO hK hN hP hl
  have hx := S.1
  have hb := S.2.1
  subst hsz
  have hD : va_D (va_A [(o, .inr (3, [.int 0, .null, .null, .null, .null, .null, .null, .null, .null, .int 0, .int 0, .int 0, .int 0, .int 0, .int 0, .int 0, .int 0, .int 0]))] s.heap.size) [(o, .inr (3, [.int 0, .null, .null, .null, .null, .null, .null, .null, .null, .int 0, .int 0, .int 0, .int 0, .int 0, .int 0, .int 0, .int 0, .int 0]))] := D_one (Or.inl ⟨0, _, rfl⟩)
  generalize hAe : va_A [(o, .inr (3, [.int 0, .null, .null, .null, .null, .null, .null, .null, .null, .int 0, .int 0, .int 0, .int 0, .int 0, .int 0, .int 0, .int 0, .int 0]))] s.heap.size = A at hD ⊢
  have hA : ∀ q : Nat, s.heap.size ≤ q → A q := fun q h => by rw [← hAe]; exact Or.inr h
  have hS : va_S A s.heap s.heap [] := va_S.rf
  have hl : lv_has ls 1 [(0, .ref o)] := hl
  refine lv_aload_n hx hb d_R_init_0 rfl (lv_at hl 0 rfl) ?_
  refine W.objInit hx hb S.2.2.2.1 (S.2.2.2.2 _ oi_R) (S.2.2.2.2 _ oi_inst) (S.2.2.2.2 _ oi_code) rfl (by rw [S.2.2.1]; exact hl.1) rfl d_R_init_1 (Nat.le_of_ble_eq_true rfl) (Nat.le_of_ble_eq_true rfl) ?_
  refine W.eq (g2 := F0 m 4 ls []) rfl ?_
  refine lv_aload_n hx hb d_R_init_4 rfl (lv_at hl 0 rfl) ?_
  refine lv_sipush (v := (512 : Int32)) hx hb d_R_init_5 (by decide) ?_
  refine va_newa (a0 := (512, .inl (fun _ => 0))) (ty := .int) hx hb (S.2.2.2.2 _ ac_int) rfl hK hP hD hS hA (fun _ => rfl) (by decide) (N' := 512) (by decide) (by decide) (Nat.le_of_ble_eq_true rfl) (Nat.le_of_ble_eq_true rfl) d_R_init_8 (fun b0 k0 H hK hP hD hS => ?_)
  have hP : va_P D cls [(o, .inr (3, [.int 0, .null, .null, .null, .null, .null, .null, .null, .null, .int 0, .int 0, .int 0, .int 0, .int 0, .int 0, .int 0, .int 0, .int 0])), (b0, .inl (k0, (512, .inl (fun _ => 0))))] H := hP
  have hD : va_D A [(o, .inr (3, [.int 0, .null, .null, .null, .null, .null, .null, .null, .null, .int 0, .int 0, .int 0, .int 0, .int 0, .int 0, .int 0, .int 0, .int 0])), (b0, .inl (k0, (512, .inl (fun _ => 0))))] := hD
  have hK : va_K D cls [(k0, .int)] s := hK
  refine W.widen (k := 1) (n := 512) (by omega) (by omega) ?_
  refine va_putF (D := D) (ci := 3) (v := .ref b0) (ty := t_R 1) (C := R_R) (T := F_R) (N := 18) hx hb S.2.2.2.2 in_R t_R t_R_ok n_R S.2.2.2.1 hK hP hD hS 0 rfl rfl 1 (by decide) (S.2.2.2.2 _ fl_R_7) (fun _ h9 => h9) rfl hin rfl (by decide +kernel) rfl rfl (Nat.le_of_ble_eq_true rfl) d_R_init_10 (fun H locs hP hD hS => ?_)
  have hP : va_P D cls [(o, .inr (3, [.int 0, .ref b0, .null, .null, .null, .null, .null, .null, .null, .int 0, .int 0, .int 0, .int 0, .int 0, .int 0, .int 0, .int 0, .int 0])), (b0, .inl (k0, (512, .inl (fun _ => 0))))] H := hP
  have hD : va_D A [(o, .inr (3, [.int 0, .ref b0, .null, .null, .null, .null, .null, .null, .null, .int 0, .int 0, .int 0, .int 0, .int 0, .int 0, .int 0, .int 0, .int 0])), (b0, .inl (k0, (512, .inl (fun _ => 0))))] := hD
  refine lv_aload_n hx hb d_R_init_13 rfl (lv_at hl 0 rfl) ?_
  refine lv_bipush (v := (64 : Int32)) hx hb d_R_init_14 (by decide) ?_
  refine va_newa (a0 := (64, .inl (fun _ => b2i false))) (ty := .boolean) hx hb (S.2.2.2.2 _ ac_boolean) rfl hK hP hD hS hA (fun _ => rfl) (by decide) (N' := 64) (by decide) (by decide) (Nat.le_of_ble_eq_true rfl) (Nat.le_of_ble_eq_true rfl) d_R_init_16 (fun b1 k1 H hK hP hD hS => ?_)
  have hP : va_P D cls [(o, .inr (3, [.int 0, .ref b0, .null, .null, .null, .null, .null, .null, .null, .int 0, .int 0, .int 0, .int 0, .int 0, .int 0, .int 0, .int 0, .int 0])), (b0, .inl (k0, (512, .inl (fun _ => 0)))), (b1, .inl (k1, (64, .inl (fun _ => b2i false))))] H := hP
  have hD : va_D A [(o, .inr (3, [.int 0, .ref b0, .null, .null, .null, .null, .null, .null, .null, .int 0, .int 0, .int 0, .int 0, .int 0, .int 0, .int 0, .int 0, .int 0])), (b0, .inl (k0, (512, .inl (fun _ => 0)))), (b1, .inl (k1, (64, .inl (fun _ => b2i false))))] := hD
  have hK : va_K D cls [(k0, .int), (k1, .boolean)] s := hK
  refine W.widen (k := 2) (n := 576) (by omega) (by omega) ?_
  refine va_putF (D := D) (ci := 3) (v := .ref b1) (ty := t_R 2) (C := R_R) (T := F_R) (N := 18) hx hb S.2.2.2.2 in_R t_R t_R_ok n_R S.2.2.2.1 hK hP hD hS 0 rfl rfl 2 (by decide) (S.2.2.2.2 _ fl_R_13) (fun _ h9 => h9) rfl hin rfl (by decide +kernel) rfl rfl (Nat.le_of_ble_eq_true rfl) d_R_init_18 (fun H locs hP hD hS => ?_)
  have hP : va_P D cls [(o, .inr (3, [.int 0, .ref b0, .ref b1, .null, .null, .null, .null, .null, .null, .int 0, .int 0, .int 0, .int 0, .int 0, .int 0, .int 0, .int 0, .int 0])), (b0, .inl (k0, (512, .inl (fun _ => 0)))), (b1, .inl (k1, (64, .inl (fun _ => b2i false))))] H := hP
  have hD : va_D A [(o, .inr (3, [.int 0, .ref b0, .ref b1, .null, .null, .null, .null, .null, .null, .int 0, .int 0, .int 0, .int 0, .int 0, .int 0, .int 0, .int 0, .int 0])), (b0, .inl (k0, (512, .inl (fun _ => 0)))), (b1, .inl (k1, (64, .inl (fun _ => b2i false))))] := hD
  refine lv_aload_n hx hb d_R_init_21 rfl (lv_at hl 0 rfl) ?_
  refine lv_bipush (v := (12 : Int32)) hx hb d_R_init_22 (by decide) ?_
  refine va_newa (a0 := (12, .inl (fun _ => b2i false))) (ty := .boolean) hx hb (S.2.2.2.2 _ ac_boolean) rfl hK hP hD hS hA (fun _ => rfl) (by decide) (N' := 12) (by decide) (by decide) (Nat.le_of_ble_eq_true rfl) (Nat.le_of_ble_eq_true rfl) d_R_init_24 (fun b2 k2 H hK hP hD hS => ?_)
  have hP : va_P D cls [(o, .inr (3, [.int 0, .ref b0, .ref b1, .null, .null, .null, .null, .null, .null, .int 0, .int 0, .int 0, .int 0, .int 0, .int 0, .int 0, .int 0, .int 0])), (b0, .inl (k0, (512, .inl (fun _ => 0)))), (b1, .inl (k1, (64, .inl (fun _ => b2i false)))), (b2, .inl (k2, (12, .inl (fun _ => b2i false))))] H := hP
  have hD : va_D A [(o, .inr (3, [.int 0, .ref b0, .ref b1, .null, .null, .null, .null, .null, .null, .int 0, .int 0, .int 0, .int 0, .int 0, .int 0, .int 0, .int 0, .int 0])), (b0, .inl (k0, (512, .inl (fun _ => 0)))), (b1, .inl (k1, (64, .inl (fun _ => b2i false)))), (b2, .inl (k2, (12, .inl (fun _ => b2i false))))] := hD
  have hK : va_K D cls [(k0, .int), (k1, .boolean), (k2, .boolean)] s := hK
  refine W.widen (k := 3) (n := 588) (by omega) (by omega) ?_
  refine va_putF (D := D) (ci := 3) (v := .ref b2) (ty := t_R 3) (C := R_R) (T := F_R) (N := 18) hx hb S.2.2.2.2 in_R t_R t_R_ok n_R S.2.2.2.1 hK hP hD hS 0 rfl rfl 3 (by decide) (S.2.2.2.2 _ fl_R_17) (fun _ h9 => h9) rfl hin rfl (by decide +kernel) rfl rfl (Nat.le_of_ble_eq_true rfl) d_R_init_26 (fun H locs hP hD hS => ?_)
  have hP : va_P D cls [(o, .inr (3, [.int 0, .ref b0, .ref b1, .ref b2, .null, .null, .null, .null, .null, .int 0, .int 0, .int 0, .int 0, .int 0, .int 0, .int 0, .int 0, .int 0])), (b0, .inl (k0, (512, .inl (fun _ => 0)))), (b1, .inl (k1, (64, .inl (fun _ => b2i false)))), (b2, .inl (k2, (12, .inl (fun _ => b2i false))))] H := hP
  have hD : va_D A [(o, .inr (3, [.int 0, .ref b0, .ref b1, .ref b2, .null, .null, .null, .null, .null, .int 0, .int 0, .int 0, .int 0, .int 0, .int 0, .int 0, .int 0, .int 0])), (b0, .inl (k0, (512, .inl (fun _ => 0)))), (b1, .inl (k1, (64, .inl (fun _ => b2i false)))), (b2, .inl (k2, (12, .inl (fun _ => b2i false))))] := hD
  refine lv_aload_n hx hb d_R_init_29 rfl (lv_at hl 0 rfl) ?_
  refine lv_bipush (v := (12 : Int32)) hx hb d_R_init_30 (by decide) ?_
  refine va_newa (a0 := (12, .inl (fun _ => 0))) (ty := .int) hx hb (S.2.2.2.2 _ ac_int) rfl hK hP hD hS hA (fun _ => rfl) (by decide) (N' := 12) (by decide) (by decide) (Nat.le_of_ble_eq_true rfl) (Nat.le_of_ble_eq_true rfl) d_R_init_32 (fun b3 k3 H hK hP hD hS => ?_)
  have hP : va_P D cls [(o, .inr (3, [.int 0, .ref b0, .ref b1, .ref b2, .null, .null, .null, .null, .null, .int 0, .int 0, .int 0, .int 0, .int 0, .int 0, .int 0, .int 0, .int 0])), (b0, .inl (k0, (512, .inl (fun _ => 0)))), (b1, .inl (k1, (64, .inl (fun _ => b2i false)))), (b2, .inl (k2, (12, .inl (fun _ => b2i false)))), (b3, .inl (k3, (12, .inl (fun _ => 0))))] H := hP
  have hD : va_D A [(o, .inr (3, [.int 0, .ref b0, .ref b1, .ref b2, .null, .null, .null, .null, .null, .int 0, .int 0, .int 0, .int 0, .int 0, .int 0, .int 0, .int 0, .int 0])), (b0, .inl (k0, (512, .inl (fun _ => 0)))), (b1, .inl (k1, (64, .inl (fun _ => b2i false)))), (b2, .inl (k2, (12, .inl (fun _ => b2i false)))), (b3, .inl (k3, (12, .inl (fun _ => 0))))] := hD
  have hK : va_K D cls [(k0, .int), (k1, .boolean), (k2, .boolean), (k3, .int)] s := hK
  refine W.widen (k := 4) (n := 600) (by omega) (by omega) ?_
  refine va_putF (D := D) (ci := 3) (v := .ref b3) (ty := t_R 4) (C := R_R) (T := F_R) (N := 18) hx hb S.2.2.2.2 in_R t_R t_R_ok n_R S.2.2.2.1 hK hP hD hS 0 rfl rfl 4 (by decide) (S.2.2.2.2 _ fl_R_20) (fun _ h9 => h9) rfl hin rfl (by decide +kernel) rfl rfl (Nat.le_of_ble_eq_true rfl) d_R_init_34 (fun H locs hP hD hS => ?_)
  have hP : va_P D cls [(o, .inr (3, [.int 0, .ref b0, .ref b1, .ref b2, .ref b3, .null, .null, .null, .null, .int 0, .int 0, .int 0, .int 0, .int 0, .int 0, .int 0, .int 0, .int 0])), (b0, .inl (k0, (512, .inl (fun _ => 0)))), (b1, .inl (k1, (64, .inl (fun _ => b2i false)))), (b2, .inl (k2, (12, .inl (fun _ => b2i false)))), (b3, .inl (k3, (12, .inl (fun _ => 0))))] H := hP
  have hD : va_D A [(o, .inr (3, [.int 0, .ref b0, .ref b1, .ref b2, .ref b3, .null, .null, .null, .null, .int 0, .int 0, .int 0, .int 0, .int 0, .int 0, .int 0, .int 0, .int 0])), (b0, .inl (k0, (512, .inl (fun _ => 0)))), (b1, .inl (k1, (64, .inl (fun _ => b2i false)))), (b2, .inl (k2, (12, .inl (fun _ => b2i false)))), (b3, .inl (k3, (12, .inl (fun _ => 0))))] := hD
  refine lv_aload_n hx hb d_R_init_37 rfl (lv_at hl 0 rfl) ?_
  refine lv_bipush (v := (12 : Int32)) hx hb d_R_init_38 (by decide) ?_
  refine va_newa (a0 := (12, .inl (fun _ => 0))) (ty := .int) hx hb (S.2.2.2.2 _ ac_int) rfl hK hP hD hS hA (fun _ => rfl) (by decide) (N' := 12) (by decide) (by decide) (Nat.le_of_ble_eq_true rfl) (Nat.le_of_ble_eq_true rfl) d_R_init_40 (fun b4 k4 H hK hP hD hS => ?_)
  have hP : va_P D cls [(o, .inr (3, [.int 0, .ref b0, .ref b1, .ref b2, .ref b3, .null, .null, .null, .null, .int 0, .int 0, .int 0, .int 0, .int 0, .int 0, .int 0, .int 0, .int 0])), (b0, .inl (k0, (512, .inl (fun _ => 0)))), (b1, .inl (k1, (64, .inl (fun _ => b2i false)))), (b2, .inl (k2, (12, .inl (fun _ => b2i false)))), (b3, .inl (k3, (12, .inl (fun _ => 0)))), (b4, .inl (k4, (12, .inl (fun _ => 0))))] H := hP
  have hD : va_D A [(o, .inr (3, [.int 0, .ref b0, .ref b1, .ref b2, .ref b3, .null, .null, .null, .null, .int 0, .int 0, .int 0, .int 0, .int 0, .int 0, .int 0, .int 0, .int 0])), (b0, .inl (k0, (512, .inl (fun _ => 0)))), (b1, .inl (k1, (64, .inl (fun _ => b2i false)))), (b2, .inl (k2, (12, .inl (fun _ => b2i false)))), (b3, .inl (k3, (12, .inl (fun _ => 0)))), (b4, .inl (k4, (12, .inl (fun _ => 0))))] := hD
  have hK : va_K D cls [(k0, .int), (k1, .boolean), (k2, .boolean), (k3, .int), (k4, .int)] s := hK
  refine W.widen (k := 5) (n := 612) (by omega) (by omega) ?_
  refine va_putF (D := D) (ci := 3) (v := .ref b4) (ty := t_R 5) (C := R_R) (T := F_R) (N := 18) hx hb S.2.2.2.2 in_R t_R t_R_ok n_R S.2.2.2.1 hK hP hD hS 0 rfl rfl 5 (by decide) (S.2.2.2.2 _ fl_R_23) (fun _ h9 => h9) rfl hin rfl (by decide +kernel) rfl rfl (Nat.le_of_ble_eq_true rfl) d_R_init_42 (fun H locs hP hD hS => ?_)
  have hP : va_P D cls [(o, .inr (3, [.int 0, .ref b0, .ref b1, .ref b2, .ref b3, .ref b4, .null, .null, .null, .int 0, .int 0, .int 0, .int 0, .int 0, .int 0, .int 0, .int 0, .int 0])), (b0, .inl (k0, (512, .inl (fun _ => 0)))), (b1, .inl (k1, (64, .inl (fun _ => b2i false)))), (b2, .inl (k2, (12, .inl (fun _ => b2i false)))), (b3, .inl (k3, (12, .inl (fun _ => 0)))), (b4, .inl (k4, (12, .inl (fun _ => 0))))] H := hP
  have hD : va_D A [(o, .inr (3, [.int 0, .ref b0, .ref b1, .ref b2, .ref b3, .ref b4, .null, .null, .null, .int 0, .int 0, .int 0, .int 0, .int 0, .int 0, .int 0, .int 0, .int 0])), (b0, .inl (k0, (512, .inl (fun _ => 0)))), (b1, .inl (k1, (64, .inl (fun _ => b2i false)))), (b2, .inl (k2, (12, .inl (fun _ => b2i false)))), (b3, .inl (k3, (12, .inl (fun _ => 0)))), (b4, .inl (k4, (12, .inl (fun _ => 0))))] := hD
  refine lv_aload_n hx hb d_R_init_45 rfl (lv_at hl 0 rfl) ?_
  refine lv_bipush (v := (12 : Int32)) hx hb d_R_init_46 (by decide) ?_
  refine va_newa (a0 := (12, .inl (fun _ => 0))) (ty := .int) hx hb (S.2.2.2.2 _ ac_int) rfl hK hP hD hS hA (fun _ => rfl) (by decide) (N' := 12) (by decide) (by decide) (Nat.le_of_ble_eq_true rfl) (Nat.le_of_ble_eq_true rfl) d_R_init_48 (fun b5 k5 H hK hP hD hS => ?_)
  have hP : va_P D cls [(o, .inr (3, [.int 0, .ref b0, .ref b1, .ref b2, .ref b3, .ref b4, .null, .null, .null, .int 0, .int 0, .int 0, .int 0, .int 0, .int 0, .int 0, .int 0, .int 0])), (b0, .inl (k0, (512, .inl (fun _ => 0)))), (b1, .inl (k1, (64, .inl (fun _ => b2i false)))), (b2, .inl (k2, (12, .inl (fun _ => b2i false)))), (b3, .inl (k3, (12, .inl (fun _ => 0)))), (b4, .inl (k4, (12, .inl (fun _ => 0)))), (b5, .inl (k5, (12, .inl (fun _ => 0))))] H := hP
  have hD : va_D A [(o, .inr (3, [.int 0, .ref b0, .ref b1, .ref b2, .ref b3, .ref b4, .null, .null, .null, .int 0, .int 0, .int 0, .int 0, .int 0, .int 0, .int 0, .int 0, .int 0])), (b0, .inl (k0, (512, .inl (fun _ => 0)))), (b1, .inl (k1, (64, .inl (fun _ => b2i false)))), (b2, .inl (k2, (12, .inl (fun _ => b2i false)))), (b3, .inl (k3, (12, .inl (fun _ => 0)))), (b4, .inl (k4, (12, .inl (fun _ => 0)))), (b5, .inl (k5, (12, .inl (fun _ => 0))))] := hD
  have hK : va_K D cls [(k0, .int), (k1, .boolean), (k2, .boolean), (k3, .int), (k4, .int), (k5, .int)] s := hK
  refine W.widen (k := 6) (n := 624) (by omega) (by omega) ?_
  refine va_putF (D := D) (ci := 3) (v := .ref b5) (ty := t_R 6) (C := R_R) (T := F_R) (N := 18) hx hb S.2.2.2.2 in_R t_R t_R_ok n_R S.2.2.2.1 hK hP hD hS 0 rfl rfl 6 (by decide) (S.2.2.2.2 _ fl_R_26) (fun _ h9 => h9) rfl hin rfl (by decide +kernel) rfl rfl (Nat.le_of_ble_eq_true rfl) d_R_init_50 (fun H locs hP hD hS => ?_)
  have hP : va_P D cls [(o, .inr (3, [.int 0, .ref b0, .ref b1, .ref b2, .ref b3, .ref b4, .ref b5, .null, .null, .int 0, .int 0, .int 0, .int 0, .int 0, .int 0, .int 0, .int 0, .int 0])), (b0, .inl (k0, (512, .inl (fun _ => 0)))), (b1, .inl (k1, (64, .inl (fun _ => b2i false)))), (b2, .inl (k2, (12, .inl (fun _ => b2i false)))), (b3, .inl (k3, (12, .inl (fun _ => 0)))), (b4, .inl (k4, (12, .inl (fun _ => 0)))), (b5, .inl (k5, (12, .inl (fun _ => 0))))] H := hP
  have hD : va_D A [(o, .inr (3, [.int 0, .ref b0, .ref b1, .ref b2, .ref b3, .ref b4, .ref b5, .null, .null, .int 0, .int 0, .int 0, .int 0, .int 0, .int 0, .int 0, .int 0, .int 0])), (b0, .inl (k0, (512, .inl (fun _ => 0)))), (b1, .inl (k1, (64, .inl (fun _ => b2i false)))), (b2, .inl (k2, (12, .inl (fun _ => b2i false)))), (b3, .inl (k3, (12, .inl (fun _ => 0)))), (b4, .inl (k4, (12, .inl (fun _ => 0)))), (b5, .inl (k5, (12, .inl (fun _ => 0))))] := hD
  refine lv_aload_n hx hb d_R_init_53 rfl (lv_at hl 0 rfl) ?_
  refine lv_bipush (v := (12 : Int32)) hx hb d_R_init_54 (by decide) ?_
  refine va_newa (a0 := (12, .inl (fun _ => 0))) (ty := .int) hx hb (S.2.2.2.2 _ ac_int) rfl hK hP hD hS hA (fun _ => rfl) (by decide) (N' := 12) (by decide) (by decide) (Nat.le_of_ble_eq_true rfl) (Nat.le_of_ble_eq_true rfl) d_R_init_56 (fun b6 k6 H hK hP hD hS => ?_)
  have hP : va_P D cls [(o, .inr (3, [.int 0, .ref b0, .ref b1, .ref b2, .ref b3, .ref b4, .ref b5, .null, .null, .int 0, .int 0, .int 0, .int 0, .int 0, .int 0, .int 0, .int 0, .int 0])), (b0, .inl (k0, (512, .inl (fun _ => 0)))), (b1, .inl (k1, (64, .inl (fun _ => b2i false)))), (b2, .inl (k2, (12, .inl (fun _ => b2i false)))), (b3, .inl (k3, (12, .inl (fun _ => 0)))), (b4, .inl (k4, (12, .inl (fun _ => 0)))), (b5, .inl (k5, (12, .inl (fun _ => 0)))), (b6, .inl (k6, (12, .inl (fun _ => 0))))] H := hP
  have hD : va_D A [(o, .inr (3, [.int 0, .ref b0, .ref b1, .ref b2, .ref b3, .ref b4, .ref b5, .null, .null, .int 0, .int 0, .int 0, .int 0, .int 0, .int 0, .int 0, .int 0, .int 0])), (b0, .inl (k0, (512, .inl (fun _ => 0)))), (b1, .inl (k1, (64, .inl (fun _ => b2i false)))), (b2, .inl (k2, (12, .inl (fun _ => b2i false)))), (b3, .inl (k3, (12, .inl (fun _ => 0)))), (b4, .inl (k4, (12, .inl (fun _ => 0)))), (b5, .inl (k5, (12, .inl (fun _ => 0)))), (b6, .inl (k6, (12, .inl (fun _ => 0))))] := hD
  have hK : va_K D cls [(k0, .int), (k1, .boolean), (k2, .boolean), (k3, .int), (k4, .int), (k5, .int), (k6, .int)] s := hK
  refine W.widen (k := 7) (n := 636) (by omega) (by omega) ?_
  refine va_putF (D := D) (ci := 3) (v := .ref b6) (ty := t_R 7) (C := R_R) (T := F_R) (N := 18) hx hb S.2.2.2.2 in_R t_R t_R_ok n_R S.2.2.2.1 hK hP hD hS 0 rfl rfl 7 (by decide) (S.2.2.2.2 _ fl_R_29) (fun _ h9 => h9) rfl hin rfl (by decide +kernel) rfl rfl (Nat.le_of_ble_eq_true rfl) d_R_init_58 (fun H locs hP hD hS => ?_)
  have hP : va_P D cls [(o, .inr (3, [.int 0, .ref b0, .ref b1, .ref b2, .ref b3, .ref b4, .ref b5, .ref b6, .null, .int 0, .int 0, .int 0, .int 0, .int 0, .int 0, .int 0, .int 0, .int 0])), (b0, .inl (k0, (512, .inl (fun _ => 0)))), (b1, .inl (k1, (64, .inl (fun _ => b2i false)))), (b2, .inl (k2, (12, .inl (fun _ => b2i false)))), (b3, .inl (k3, (12, .inl (fun _ => 0)))), (b4, .inl (k4, (12, .inl (fun _ => 0)))), (b5, .inl (k5, (12, .inl (fun _ => 0)))), (b6, .inl (k6, (12, .inl (fun _ => 0))))] H := hP
  have hD : va_D A [(o, .inr (3, [.int 0, .ref b0, .ref b1, .ref b2, .ref b3, .ref b4, .ref b5, .ref b6, .null, .int 0, .int 0, .int 0, .int 0, .int 0, .int 0, .int 0, .int 0, .int 0])), (b0, .inl (k0, (512, .inl (fun _ => 0)))), (b1, .inl (k1, (64, .inl (fun _ => b2i false)))), (b2, .inl (k2, (12, .inl (fun _ => b2i false)))), (b3, .inl (k3, (12, .inl (fun _ => 0)))), (b4, .inl (k4, (12, .inl (fun _ => 0)))), (b5, .inl (k5, (12, .inl (fun _ => 0)))), (b6, .inl (k6, (12, .inl (fun _ => 0))))] := hD
  refine lv_aload_n hx hb d_R_init_61 rfl (lv_at hl 0 rfl) ?_
  refine lv_bipush (v := (12 : Int32)) hx hb d_R_init_62 (by decide) ?_
  refine va_newa (a0 := (12, .inl (fun _ => 0))) (ty := .int) hx hb (S.2.2.2.2 _ ac_int) rfl hK hP hD hS hA (fun _ => rfl) (by decide) (N' := 12) (by decide) (by decide) (Nat.le_of_ble_eq_true rfl) (Nat.le_of_ble_eq_true rfl) d_R_init_64 (fun b7 k7 H hK hP hD hS => ?_)
  have hP : va_P D cls [(o, .inr (3, [.int 0, .ref b0, .ref b1, .ref b2, .ref b3, .ref b4, .ref b5, .ref b6, .null, .int 0, .int 0, .int 0, .int 0, .int 0, .int 0, .int 0, .int 0, .int 0])), (b0, .inl (k0, (512, .inl (fun _ => 0)))), (b1, .inl (k1, (64, .inl (fun _ => b2i false)))), (b2, .inl (k2, (12, .inl (fun _ => b2i false)))), (b3, .inl (k3, (12, .inl (fun _ => 0)))), (b4, .inl (k4, (12, .inl (fun _ => 0)))), (b5, .inl (k5, (12, .inl (fun _ => 0)))), (b6, .inl (k6, (12, .inl (fun _ => 0)))), (b7, .inl (k7, (12, .inl (fun _ => 0))))] H := hP
  have hD : va_D A [(o, .inr (3, [.int 0, .ref b0, .ref b1, .ref b2, .ref b3, .ref b4, .ref b5, .ref b6, .null, .int 0, .int 0, .int 0, .int 0, .int 0, .int 0, .int 0, .int 0, .int 0])), (b0, .inl (k0, (512, .inl (fun _ => 0)))), (b1, .inl (k1, (64, .inl (fun _ => b2i false)))), (b2, .inl (k2, (12, .inl (fun _ => b2i false)))), (b3, .inl (k3, (12, .inl (fun _ => 0)))), (b4, .inl (k4, (12, .inl (fun _ => 0)))), (b5, .inl (k5, (12, .inl (fun _ => 0)))), (b6, .inl (k6, (12, .inl (fun _ => 0)))), (b7, .inl (k7, (12, .inl (fun _ => 0))))] := hD
  have hK : va_K D cls [(k0, .int), (k1, .boolean), (k2, .boolean), (k3, .int), (k4, .int), (k5, .int), (k6, .int), (k7, .int)] s := hK
  refine W.widen (k := 8) (n := 648) (by omega) (by omega) ?_
  refine va_putF (D := D) (ci := 3) (v := .ref b7) (ty := t_R 8) (C := R_R) (T := F_R) (N := 18) hx hb S.2.2.2.2 in_R t_R t_R_ok n_R S.2.2.2.1 hK hP hD hS 0 rfl rfl 8 (by decide) (S.2.2.2.2 _ fl_R_32) (fun _ h9 => h9) rfl hin rfl (by decide +kernel) rfl rfl (Nat.le_of_ble_eq_true rfl) d_R_init_66 (fun H locs hP hD hS => ?_)
  have hP : va_P D cls [(o, .inr (3, [.int 0, .ref b0, .ref b1, .ref b2, .ref b3, .ref b4, .ref b5, .ref b6, .ref b7, .int 0, .int 0, .int 0, .int 0, .int 0, .int 0, .int 0, .int 0, .int 0])), (b0, .inl (k0, (512, .inl (fun _ => 0)))), (b1, .inl (k1, (64, .inl (fun _ => b2i false)))), (b2, .inl (k2, (12, .inl (fun _ => b2i false)))), (b3, .inl (k3, (12, .inl (fun _ => 0)))), (b4, .inl (k4, (12, .inl (fun _ => 0)))), (b5, .inl (k5, (12, .inl (fun _ => 0)))), (b6, .inl (k6, (12, .inl (fun _ => 0)))), (b7, .inl (k7, (12, .inl (fun _ => 0))))] H := hP
  have hD : va_D A [(o, .inr (3, [.int 0, .ref b0, .ref b1, .ref b2, .ref b3, .ref b4, .ref b5, .ref b6, .ref b7, .int 0, .int 0, .int 0, .int 0, .int 0, .int 0, .int 0, .int 0, .int 0])), (b0, .inl (k0, (512, .inl (fun _ => 0)))), (b1, .inl (k1, (64, .inl (fun _ => b2i false)))), (b2, .inl (k2, (12, .inl (fun _ => b2i false)))), (b3, .inl (k3, (12, .inl (fun _ => 0)))), (b4, .inl (k4, (12, .inl (fun _ => 0)))), (b5, .inl (k5, (12, .inl (fun _ => 0)))), (b6, .inl (k6, (12, .inl (fun _ => 0)))), (b7, .inl (k7, (12, .inl (fun _ => 0))))] := hD
  obtain ⟨q, hq⟩ : ∃ q, q = selQ k0 k1 k2 k3 k4 k5 k6 k7 := ⟨_, rfl⟩
  obtain ⟨xa, hxa⟩ : ∃ xa, xa = sel9 o b0 b1 b2 b3 b4 b5 b6 b7 := ⟨_, rfl⟩
  have ho : xa 0 = o := by rw [hxa]; rfl
  have hP : va_P D cls (rW q xa 0 0 0 0 0 0 0 0 0 false (fun _ => 0) (fun _ => false) (fun _ => z0)) H := by rw [hq, hxa]; exact hP
  have hD : va_D A (rW q xa 0 0 0 0 0 0 0 0 0 false (fun _ => 0) (fun _ => false) (fun _ => z0)) := by rw [hq, hxa]; exact hD
  have hK : va_K D cls (tyR q) s := by rw [hq]; exact hK
  rw [← ho] at hl
  refine lv_aload_n hx hb d_R_init_69 rfl (lv_at hl 0 rfl) ?_
  refine lv_bipush (v := (8 : Int32)) hx hb d_R_init_70 (by decide) ?_
  refine lv_iconst (v := (0 : Int32)) hx hb d_R_init_72 (by decide) ?_
  refine lv_sipush (v := (512 : Int32)) hx hb d_R_init_73 (by decide) ?_
  refine lv_iconst (v := (0 : Int32)) hx hb d_R_init_76 (by decide) ?_
  refine lv_sipush (v := (255 : Int32)) hx hb d_R_init_77 (by decide) ?_
  refine c_vV [] S (c_R_set l _ _ _ _ _ _ _ _ _ _ _ _ _ _ _ _ A (rW_D hD) (8 : Int32) (0 : Int32) (512 : Int32) (0 : Int32) (255 : Int32) (by first | assumption | exact in_k rfl | decide)) mf_R_set ml_R_35 hK hN hP hS 0 3 rfl rfl ⟨rfl, rfl, Nat.le_of_ble_eq_true rfl, Nat.le_of_ble_eq_true rfl⟩ rfl hl.1 rfl (Nat.le_of_ble_eq_true rfl) d_R_init_80 ⟨Nat.le_of_ble_eq_true rfl, Nat.le_of_ble_eq_true rfl⟩ (fun H locs hP hS => ?_)
  refine lv_aload_n hx hb d_R_init_83 rfl (lv_at hl 0 rfl) ?_
  refine lv_iconst (v := (1 : Int32)) hx hb d_R_init_84 (by decide) ?_
  refine lv_iconst (v := (0 : Int32)) hx hb d_R_init_85 (by decide) ?_
  refine lv_sipush (v := (512 : Int32)) hx hb d_R_init_86 (by decide) ?_
  refine lv_iconst (v := (0 : Int32)) hx hb d_R_init_89 (by decide) ?_
  refine lv_sipush (v := (255 : Int32)) hx hb d_R_init_90 (by decide) ?_
  refine c_vV [] S (c_R_set l _ _ _ _ _ _ _ _ _ _ _ _ _ _ _ _ A (rW_D hD) (1 : Int32) (0 : Int32) (512 : Int32) (0 : Int32) (255 : Int32) (by first | assumption | exact in_k rfl | decide)) mf_R_set ml_R_35 hK hN hP hS 0 3 rfl rfl ⟨rfl, rfl, Nat.le_of_ble_eq_true rfl, Nat.le_of_ble_eq_true rfl⟩ rfl hl.1 rfl (Nat.le_of_ble_eq_true rfl) d_R_init_93 ⟨Nat.le_of_ble_eq_true rfl, Nat.le_of_ble_eq_true rfl⟩ (fun H locs hP hS => ?_)
  exact W.vret hx hb hr (fun t ht hW => ⟨⟨(), rfl, trivial, q, xa, ho, va_K.moved hW.alike hK, by rw [ht]; exact hP, rW_D hD⟩, hS.F ht⟩) hS.2.2 d_R_init_96 hlocks
