-- throwing: its words, its contract, its row
def thX : String := "java/lang/IllegalArgumentException"
def thN : List String := ["java/lang/RuntimeException", "java/lang/Exception"]
def OA : List Cond := Bundle.ownAtoms0 R_M 49 thX thN
def OB : List Cond := OA.filter (fun w => !goodWord w)
def ob_is : Cond → Bool
  | .castable .. => true
  | .declares .. => true
  | .laysStatic .. => true
  | .isRef (.static ..) => true
  | _ => false
theorem oa_in : OA.all (fun w => !goodWord w || decide (w ∈ tables_1)) = true := by decide +kernel
theorem ob_ok : OB.all ob_is = true := by decide +kernel
def TH (U : State) : Prop := ∀ w ∈ OB, w.before #[] U = true
theorem th_args {w : Cond} (h : ob_is w = true) {A A' : Array Value} {U : State} (hb : w.before A U = true) : w.before A' U = true := by
  cases w with
  | castable => exact hb
  | declares => exact hb
  | laysStatic => exact hb
  | isRef t =>
    cases t with
    | static => exact hb
    | _ => cases h
  | _ => cases h
theorem th_words {args : Array Value} {s : State} (hts : ∀ w ∈ TB, w.before args s = true) (hT : TH s) : ∀ a ∈ OA, a.before args s = true := by
  intro w hw
  have h1 := List.all_eq_true.mp oa_in w hw
  by_cases hg : goodWord w = true
  · rw [hg] at h1
    have h2 : w ∈ tables_1 := by simpa using h1
    exact hts w (List.mem_filter.mpr ⟨List.mem_append_right _ h2, hg⟩)
  · have hb : w ∈ OB := List.mem_filter.mpr ⟨hw, by simpa using hg⟩
    exact th_args (List.all_eq_true.mp ob_ok w hb) (hT w hb)
theorem th_static {s U : State} {C f d : String} (hW : s.WarmedH U.vm) (hH : ∀ (q : Nat) (c : Cell), s.heap[q]? = some c → U.heap[q]? = some c) (h : (Cond.isRef (.static C f d)).before #[] s = true) : (Cond.isRef (.static C f d)).before #[] U = true := by
  have h1 : (Cond.isRef (.static C f d)).before #[] (s.setVm U.vm) = true := Cond.before_shiftedFace (State.Shifted.of_warmed hW) _ rfl h
  have e1 : (s.setVm U.vm).fieldNamed? C f d true = U.fieldNamed? C f d true := rfl
  simp only [Cond.before, Cond.holds, Cond.value, Term.eval, e1] at h1 ⊢
  cases hn : U.fieldNamed? C f d true with
  | none => rw [hn] at h1; simp at h1
  | some r =>
    obtain ⟨c0, k, slot⟩ := r
    rw [hn] at h1
    cases hs : k.statics with
    | none => simp [hs] at h1
    | some a =>
      cases hc : s.heap[a]? with
      | none => simp [hs, hc] at h1
      | some cell =>
        have hu := hH a cell hc
        simp [hs, hc] at h1
        simp [hs, hu]
        exact h1
theorem th_lays {s U : State} {C f d : String} (hW : s.WarmedH U.vm) (hH : ∀ (q : Nat) (c : Cell), s.heap[q]? = some c → U.heap[q]? = some c) (h : (Cond.laysStatic C f d).before #[] s = true) : (Cond.laysStatic C f d).before #[] U = true := by
  have h1 : (Cond.laysStatic C f d).before #[] (s.setVm U.vm) = true := Cond.before_shiftedFace (State.Shifted.of_warmed hW) _ rfl h
  have e1 : (s.setVm U.vm).fieldFound? C f d = U.fieldFound? C f d := rfl
  have e2 : (s.setVm U.vm).vm.findClass C = U.vm.findClass C := rfl
  have e3 : (s.setVm U.vm).heap = s.heap := rfl
  simp only [Cond.before, Cond.holds, Cond.value, e1, e2, e3] at h1 ⊢
  cases hn : U.vm.findClass C with
  | none => rw [hn] at h1; simp at h1
  | some c0 =>
    cases hf : U.fieldFound? C f d with
    | none => rw [hn, hf] at h1; simp at h1
    | some r =>
      obtain ⟨c1, k, i, fd⟩ := r
      rw [hn, hf] at h1
      cases hs : k.statics with
      | none => simp [hs] at h1
      | some a =>
        cases hc : s.heap[a]? with
        | none => simp [hs, hc] at h1
        | some cell =>
          have hu := hH a cell hc
          simp [hs, hc] at h1
          simp [hs, hu]
          exact h1
theorem TH_move {s U : State} (hT : TH s) (hW : s.WarmedH U.vm) (hH : ∀ (q : Nat) (c : Cell), s.heap[q]? = some c → U.heap[q]? = some c) : TH U := by
  intro w hw
  have hi := List.all_eq_true.mp ob_ok w hw
  have hb := hT w hw
  cases w with
  | castable => exact va_Nw.warmC hW hb
  | declares => exact va_Nw.warmD hW hb
  | laysStatic C f d =>
    exact th_lays hW hH hb
  | isRef t =>
    cases t with
    | static => exact th_static hW hH hb
    | _ => cases hi
  | _ => cases hi
-- contracts whose method may throw
def FEa (first t : State) (L : List Loc) (k n : Nat) : Prop := first.WarmedH t.vm ∧ first.sameButNew ({ t with vm := first.vm } : State) L k n
def MetT (l : Launch) (y : MethodName) (ws : List Cond) (rm : Room) (Pc : Array Value → State → Prop) (Qc : Array Value → State → Outcome → State → Prop) (mc ms : Nat) (free : Addr → Prop) : Prop :=
  MetFree l y (headSpec ws rm) Pc (fun _ _ _ _ _ => True) (fun a st o t => Qc a st o t ∧ ∃ L, FEa st t L mc ms ∧ ∀ q ∈ L, free q.base)
def MQT (below : List Frame) (Qc : Array Value → State → Outcome → State → Prop) (a : Array Value) (s : State) (mc ms : Nat) (free : Addr → Prop) : State → Prop := fun t =>
  ∃ o, t.status = .running ∧ Ended t below o ∧ Qc a s o t ∧ ∃ L, FEa s t L mc ms ∧ ∀ q ∈ L, free q.base
abbrev PreT (D : va_G) (tys : List (ClassId × FieldType)) (ws : va_W) : State → Prop := fun U => va_K D cls tys U ∧ NL U ∧ va_P D cls ws U.heap ∧ TH U
/-- it returns with rv where ok, else it throws a fresh IllegalArgumentException and nothing has changed -/
def QT (ok : Prop) (rv : Option Value) (D : va_G) (ws ws' : va_W) (A : Nat → Prop) : Array Value → State → Outcome → State → Prop := fun _ st oc t =>
  va_F A st t ∧ ((ok ∧ oc = .returned rv ∧ va_P D cls ws' t.heap) ∨ (¬ ok ∧ ∃ (x : Addr) (ce : Cell), oc = .threw x ∧ st.heap.size ≤ x ∧ t.heap[x]? = some ce ∧ ce.vm = .none ∧ st.vm.findClass thX = some ce.cls ∧ st.vm.assignable ce.cls ce.cls = true ∧ ∀ (q : Nat) (c : Cell), st.heap[q]? = some c → t.heap[q]? = some c))
theorem sb_eq {s t : State} {k n : Nat} (h : s.sameButNew ({ t with vm := s.vm } : State) [] k n) : ∀ (q : Nat) (c : Cell), s.heap[q]? = some c → t.heap[q]? = some c := by
  intro q c hq
  obtain ⟨c', h1, h2, h3, h4⟩ := h.2.2.2.2.2 q c hq
  have h5 : c'.slots = c.slots := Array.ext_getElem? fun i => h4 i (by simp)
  have h6 : c' = c := by rw [h2, h5]
  rw [← h6]
  exact h1
theorem P_keep {D : va_G} {cl : List vw_C} {ws : va_W} {H H1 : Heap} (hP : va_P D cl ws H) (h : ∀ (q : Nat) (c : Cell), H[q]? = some c → H1[q]? = some c) : va_P D cl ws H1 := by
  intro k q hk
  have h1 := hP k q hk
  obtain ⟨a, e⟩ := q
  cases e with
  | inl x => exact h a _ h1
  | inr o =>
    obtain ⟨r, hr, cell, h2, h3⟩ := h1
    exact ⟨r, hr, cell, h a _ h2, h3⟩
section Thr
variable {p : Program} {l : Launch} {e : Env} {R : Room} {s : State} {m : MethodId} {args : Array Value} {below : List Frame} {meth : Method} {c : Code} {H : Heap} {locs : List Loc} {cells slots : Nat} {Q Q' : State → Prop} {Qc : Array Value → State → Outcome → State → Prop} {free : Addr → Prop}
variable {cc : ByteArray} {pc : Nat} {ls : Array Slot} {D : va_G} {A : Nat → Prop} {ws ws0 ws' : va_W} {own : String} {nL : Nat} {ok : Prop} {rv : Option Value} {x : Int32}
theorem w_mono {g : JFrame} (h : ∀ t, Q t → Q' t) (k : W p l e R s m args below meth c H locs cells slots Q g) : W p l e R s m args below meth c H locs cells slots Q' g := fun T hT X =>
  let ⟨t, a, b⟩ := k T hT X
  ⟨t, a, h t b⟩
theorem mq_t (t : State) (h : MQ below Qc args s cells slots free t) : MQT below Qc args s cells slots free t := by
  obtain ⟨o, h1, h2, h3, L, h4, h5⟩ := h
  exact ⟨o, h1, h2, h3, L, h4.2, h5⟩
theorem e_tv (S : CallFix p m c cc nL s args TB own) (hr : meth.sig.returnType = none) (hlocks : meth.locks = false) (hP : va_P D cls ws H) (hS : va_S A s.heap H locs) (hok : ok) (hw : ws = ws') (hdg : decode cc pc = .ok (.return_, 1)) :
    W p l e R s m args below meth c H locs 0 0 (MQT below (QT ok none D ws0 ws' A) args s 1 6 A) (F0 m pc ls []) :=
  W.widen (k := 1) (n := 6) (by decide) (by decide) (w_mono mq_t (W.vret S.1 S.2.1 hr (fun t ht _ => ⟨hS.F ht, Or.inl ⟨hok, rfl, by rw [ht, ← hw]; exact hP⟩⟩) hS.2.2 hdg hlocks))
theorem e_ti (S : CallFix p m c cc nL s args TB own) (hr : meth.sig.returnType = some .int) (hlocks : meth.locks = false) (hP : va_P D cls ws H) (hS : va_S A s.heap H locs) (hok : ok) (hv : rv = some (.int x)) (hw : ws = ws') (hdg : decode cc pc = .ok (.ireturn, 1)) :
    W p l e R s m args below meth c H locs 0 0 (MQT below (QT ok rv D ws0 ws' A) args s 1 6 A) (F0 m pc ls [.int x]) :=
  W.widen (k := 1) (n := 6) (by decide) (by decide) (w_mono mq_t (W.iret S.1 S.2.1 hr (fun t ht _ => ⟨hS.F ht, Or.inl ⟨hok, by rw [hv], by rw [ht, ← hw]; exact hP⟩⟩) hS.2.2 hdg hlocks))
/-- new IllegalArgumentException, dup, its constructor, athrow -/
theorem th_all (S : CallFix p m c cc nL s args TB R_M) (htr : e.platform.stackTraces = false) (hT : TH s) (htab : c.exceptionTable.toList = []) (hlocks : meth.locks = false) (hno : ¬ ok) (hsize : ls.size = nL)
    (d0 : decode cc pc = .ok (.new 47, 3)) (d1 : decode cc (pc + 3) = .ok (.dup, 1)) (d2 : decode cc (pc + 4) = .ok (.invokespecial 49, 3)) (d3 : decode cc (pc + 7) = .ok (.athrow, 1)) (hR : 5 < R.frames ∧ 81 ≤ R.locals ∧ 1 ≤ R.cells ∧ 6 ≤ R.slots)
    (kcl : Cond.classLink R_M 47 thX ∈ TB) (kin : Cond.instantiable thX 6 ∈ TB) (kit : Cond.initialized thX ∈ TB) : W p l e R s m args below meth c s.heap [] 0 0 (MQT below (QT ok rv D ws0 ws' A) args s 1 6 A) (F0 m pc ls []) := by
  refine W.newc (n := 6) S.1 S.2.1 S.2.2.2.1 (S.2.2.2.2 _ kcl) (S.2.2.2.2 _ kin) (S.2.2.2.2 _ kit) rfl d0 (by omega) (by omega) (fun cC kC hfc hkC _ _ => ?_)
  refine lv_dup (va := .ref s.heap.size) S.1 S.2.1 d1 rfl ?_
  intro T hT' X
  have hcell : T.heap[s.heap.size]? = some (freshCell cC kC) := by
    rw [hT']
    simp
  obtain ⟨U, st, hrun, hend, hW, hsame, ce, hce, hown⟩ := X.ctorThrow0 (ic := 49) (cls := thX) (names := thN) (rest := []) S.1 htr S.2.2.2.1 (by decide +kernel) (by decide +kernel) (th_words S.2.2.2.2 hT) (by simp) hfc hkC hcell (Nat.le_refl _)
    (g := F0 m (pc + 4) ls [.ref s.heap.size, .ref s.heap.size]) rfl (by rw [S.2.2.1]; exact hsize) rfl rfl rfl (by rw [S.2.1]; exact d2) (by rw [S.2.1]; exact d3) (by rw [htab]; simp) (by show 2 + 3 < R.frames; omega) (by
      show 2 * 0 + _ + _ ≤ R.locals
      simp [thN, Value.category]
      omega) hlocks
  have hk := sb_eq hsame
  refine ⟨U, st, .threw s.heap.size, hrun, hend, ⟨⟨hsame.2.1, fun q hq _ => ?_⟩, Or.inr ⟨hno, s.heap.size, ce, rfl, Nat.le_refl _, hce, hown.vm, hown.cls, hown.self, hk⟩⟩, [], ⟨hW, hsame⟩, by simp⟩
  cases hc : s.heap[q]? with
  | none => exact absurd hq (by simpa using hc)
  | some cell => exact hk q cell hc
end Thr
theorem cl_th : Cond.classLink R_M 47 thX ∈ TB := tbT 263 (by decide +kernel) rfl
theorem in_th : Cond.instantiable thX 6 ∈ TB := tbT 264 (by decide +kernel) rfl
theorem it_th : Cond.initialized thX ∈ TB := tbT 8 (by decide +kernel) rfl
theorem ofT {l : Launch} {y : MethodName} {b : ByteArray} {n : Nat} {r : Option FieldType} {rm : Room} {as : List Value} {D : va_G} {tys : List (ClassId × FieldType)} {ws : va_W} {Qc : Array Value → State → Outcome → State → Prop} {mc ms : Nat} {free : Addr → Prop} (hla : ∀ e, l.admits e → e.platform.stackTraces = false) (hy : plainName y.cls = true) (hn : (lg_sl as).length ≤ n)
    (body : ∀ (p : Program) (e : Env) (s : State) (m : MethodId) (below : List Frame) (meth : Method) (c : Code) (ls : Array Slot), CallFix p m c b n s as.toArray TB y.cls → meth.sig.returnType = r → meth.locks = false → va_K D cls tys s → NL s → va_P D cls ws s.heap → TH s → e.platform.stackTraces = false → c.exceptionTable.toList = [] → lv_has ls n (lv_args 0 as) →
      W p l e rm s m as.toArray below meth c s.heap [] 0 0 (MQT below Qc as.toArray s mc ms free) (F0 m 0 ls [])) : MetT l y (.code y b n r :: TB) rm (va_Pc as (PreT D tys ws)) Qc mc ms free := by
  refine MetFree.of_bodyS (code := b) (maxLocals := n) (ret := r) hy ?_ ?_
  · intro args s m h hn
    obtain ⟨meth, c, h1, h2, h3, h4, h5, h6, -, -⟩ := Cond.code_spec hn (atoms_spec (ws := Cond.code y b n r :: TB) h _ List.mem_cons_self)
    exact ⟨meth, c, h1, h2, h3, h4, h5, h6⟩
  · intro p e s m args below meth c s₁ B hml hv _
    obtain ⟨rfl, hK, hN, hP, hT⟩ := hv
    have hts := atoms_spec (ws := Cond.code y b n r :: TB) B.pre
    have X := Stand.of_body B
    obtain ⟨meth', c', h1, h2, -, -, -, -, h7, -⟩ := Cond.code_spec B.named (hts _ List.mem_cons_self)
    have h8 : c.exceptionTable.toList = [] := by
      cases X.method.symm.trans h1
      cases X.code.symm.trans h2
      simpa using h7
    have hh0 : s₁.heap = s.heap := by rw [B.state]; rfl
    have K := body p e s m below meth c _ ⟨B.exec, B.bytes, hml, findClass_of_methodNamed B.named, fun w hw => hts w (List.mem_cons_of_mem _ hw)⟩ B.returns B.notSynchronized hK hN hP hT (hla e B.admits) h8 (lv_entry as hn)
    rw [← lg_entry_eq] at K
    obtain ⟨t, a1, o, b1, b2, b3⟩ := K s₁ hh0 X
    exact ⟨t, o, a1, b1, b2, ⟨b3.1, b3.2⟩⟩
