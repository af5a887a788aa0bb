-- the law's own wrappers
theorem P_l {D : va_G} {cl : List vw_C} {a b : va_W} {H : Heap} (h : va_P D cl (a ++ b) H) : va_P D cl a H := fun k q hk => h k q (by
  have hlt := (List.getElem?_eq_some_iff.mp hk).1
  rw [List.getElem?_append_left hlt]
  exact hk)
theorem P_r {D : va_G} {cl : List vw_C} {a b : va_W} {H : Heap} (h : va_P D cl (a ++ b) H) : va_P D cl b H := fun k q hk => h (a.length + k) q (by
  rw [List.getElem?_append_right (by omega), Nat.add_sub_cancel_left]
  exact hk)
theorem P_same {D : va_G} {cl : List vw_C} {ws : va_W} {H H1 : Heap} (hP : va_P D cl ws H) (h : ∀ (k : Nat) (q : Nat × va_E), ws[k]? = some q → H1[q.1]? = H[q.1]?) : va_P D cl ws H1 := by
  intro k q hk
  have h1 := hP k q hk
  have h2 := h k q hk
  obtain ⟨a, e⟩ := q
  cases e with
  | inl x => exact h2.trans h1
  | inr o =>
    obtain ⟨r, hr, cell, h3, h4⟩ := h1
    exact ⟨r, hr, cell, h2.trans h3, h4⟩
theorem D_l {A : Nat → Prop} {a b : va_W} (h : va_D A (a ++ b)) : va_D A a := by
  have key : ∀ (i : Nat) (p : Nat × va_E), a[i]? = some p → (a ++ b)[i]? = some p := fun i p hi => by
    rw [List.getElem?_append_left (List.getElem?_eq_some_iff.mp hi).1]
    exact hi
  exact ⟨fun i j p q hi hj e => h.1 i j p q (key i p hi) (key j q hj) e, fun k q hk => h.2 k q (key k q hk)⟩
/-- the addresses of a world -/
def Ain (ws : va_W) : Nat → Prop := fun q => ∃ (k : Nat) (e : va_E), ws[k]? = some (q, e)
theorem D_in {A : Nat → Prop} {ws : va_W} (h : va_D A ws) : va_D (Ain ws) ws := ⟨h.1, fun k q hk => ⟨k, q.2, hk⟩⟩
theorem A_sub {A : Nat → Prop} {ws : va_W} (h : va_D A ws) : ∀ q, Ain ws q → A q := fun q ⟨k, e, hk⟩ => h.2 k (q, e) hk
theorem A_not {A : Nat → Prop} {a b : va_W} (h : va_D A (a ++ b)) {k : Nat} {q : Nat × va_E} (hk : b[k]? = some q) : ¬ Ain a q.1 := by
  intro ⟨i, e, hi⟩
  have h1 : (a ++ b)[i]? = some (q.1, e) := by
    rw [List.getElem?_append_left (List.getElem?_eq_some_iff.mp hi).1]
    exact hi
  have h2 : (a ++ b)[a.length + k]? = some q := by
    rw [List.getElem?_append_right (by omega), Nat.add_sub_cancel_left]
    exact hk
  have h3 := h.1 i (a.length + k) _ _ h1 h2 rfl
  have h4 := (List.getElem?_eq_some_iff.mp hi).1
  omega
theorem P_lt {D : va_G} {cl : List vw_C} {ws : va_W} {H : Heap} (hP : va_P D cl ws H) {k : Nat} {q : Nat × va_E} (hk : ws[k]? = some q) : q.1 < H.size := by
  have h1 := hP k q hk
  obtain ⟨a, e⟩ := q
  cases e with
  | inl x => exact (Array.getElem?_eq_some_iff.mp h1).1
  | inr o =>
    obtain ⟨r, hr, cell, h3, h4⟩ := h1
    exact (Array.getElem?_eq_some_iff.mp h3).1
/-- the frame rule: what isn't the callee's stays -/
theorem P_fr {A : Nat → Prop} {D : va_G} {cl : List vw_C} {a b : va_W} {H H1 : Heap} (hP : va_P D cl (a ++ b) H) (hD : va_D A (a ++ b)) (hk : ∀ q : Nat, q < H.size → ¬ Ain a q → H1[q]? = H[q]?) : va_P D cl b H1 :=
  P_same (P_r hP) (fun k q h => hk q.1 (P_lt (P_r hP) h) (A_not hD h))
theorem giW {w : Cond} (h : w ∈ TB) : GoodIn TB (w :: TB) := by
  intro z hz
  rcases List.mem_cons.mp hz with hz | hz
  · rw [hz]; exact ⟨h, good_of_word (TB_good _ h)⟩
  · exact ⟨hz, good_of_word (TB_good _ hz)⟩
theorem ofWr {l : Launch} {y : MethodName} {b : ByteArray} {n : Nat} {r : Option FieldType} {hh : List (Nat × Nat × Nat × Nat)} {rm : Room} {as : List Value} {D : va_G} {tys : List (ClassId × FieldType)} {ws : va_W} {Qc : Array Value → State → Outcome → State → Prop} {mc ms : Nat} {free : Addr → Prop} (hy : plainName y.cls = true) (hn : (lg_sl as).length ≤ n)
    (body : ∀ (p : Program) (e : Env) (s : State) (m : MethodId) (below : List Frame) (meth : Method) (c : Code) (ls : Array Slot), CallFix p m c b n s as.toArray TB y.cls → meth.sig.returnType = r → meth.locks = false → va_K D cls tys s → NL s → va_P D cls ws s.heap → TH s → c.exceptionTable.toList.map (fun h => (h.startPc, h.endPc, h.handlerPc, h.catchType)) = hh → lv_has ls n (lv_args 0 as) →
      W p l e rm s m as.toArray below meth c s.heap [] 0 0 (MQ below Qc as.toArray s mc ms free) (F0 m 0 ls [])) : Met l y (.codeWith y b n r hh :: TB) rm (va_Pc as (PreT D tys ws)) Qc mc ms free := by
  refine va_MetW (cc := b) (maxL := n) (ret := r) (hh := hh) hy rfl ?_
  intro p e s m args below meth c s₁ B hml hv
  obtain ⟨rfl, hK, hN, hP, hT⟩ := hv
  have hts := atoms_spec (ws := Cond.codeWith y b n r hh :: TB) B.pre
  have X := Stand.of_body B
  obtain ⟨m9, meth', c', hn9, h1, h2, -, -, h7, -⟩ := Cond.codeWith_spec (hts _ List.mem_cons_self)
  cases B.named.symm.trans hn9
  have h8 : c.exceptionTable.toList.map (fun h => (h.startPc, h.endPc, h.handlerPc, h.catchType)) = hh := by
    cases X.method.symm.trans h1
    cases X.code.symm.trans h2
    exact h7
  rw [lg_entry_eq]
  exact body p e s m below meth c _ ⟨B.exec, B.bytes, hml, findClass_of_methodNamed B.named, fun w hw => hts w (List.mem_cons_of_mem _ hw)⟩ B.returns B.notSynchronized hK hN hP hT h8 (lv_entry as hn)
section CallW
variable {p : Program} {l : Launch} {e : Env} {R : Room} {s : State} {m : MethodId} {args : Array Value} {below : List Frame} {meth : Method} {c : Code} {H : Heap} {locs : List Loc} {cells slots : Nat} {Q : State → Prop}
variable {cc : ByteArray} {pc : Nat} {ls : Array Slot} {D : va_G} {A A1 : Nat → Prop} {tys : List (ClassId × FieldType)} {ws ws' : va_W} {H0 : Heap} {own : String} {nL index n k : Nat}
variable {y : MethodName} {b : ByteArray} {r : Option FieldType} {hh : List (Nat × Nat × Nat × Nat)} {rm : Room} {As st0 : List Value} {v : Int32}
theorem c_wS (rest : List Value) (S : CallFix p m c cc nL s args TB own) (hM : Met l y (.codeWith y b n r hh :: TB) rm (va_Pc As (PreT D tys ws)) (va_Qi (fun (z : Int32) (_ : Unit) => z = v) (fun _ t => va_P D cls ws' t.heap) A1) 1 6 A1) (mcode : Cond.codeWith y b n r hh ∈ TB) (mini : Cond.initialized y.cls ∈ TB) (mst : Cond.static y ∈ TB) (md : MFd y k) (hl : Cond.methodLink own index y ∈ TB) (hK : va_K D cls tys s) (hN : NL s) (hP : va_P D cls ws H) (hT : TH s) (hH : ∀ (q : Nat) (c : Cell), s.heap[q]? = some c → H[q]? = some c) (hS : va_S A H0 H locs) (hsub : ∀ q, A1 q → A q) (hR : Rok1 rm R n) (hk : As.length = k) (hsz : ls.size = nL) (hst : st0 = As.reverse ++ rest) (hw : (rest.map fun v => v.category).sum ≤ 8) (hdg : decode cc pc = .ok (.invokestatic index, 3)) (hcs : cells + 1 ≤ R.cells ∧ slots + 6 ≤ R.slots)
    (kk : ∀ (H1 : Heap) (locs1 : List Loc), va_P D cls ws' H1 → H.size ≤ H1.size → (∀ q : Nat, q < H.size → ¬ A1 q → H1[q]? = H[q]?) → va_S A H0 H1 locs1 → W p l e R s m args below meth c H1 locs1 (cells + 1) (slots + 6) Q (F0 m (pc + 3) ls (.int v :: rest))) : W p l e R s m args below meth c H locs cells slots Q (F0 m pc ls st0) := by
  have hrun : va_Run p l e R s m args below meth c H locs cells slots 1 6 (F0 m pc ls st0) rest ((va_Qi (fun (z : Int32) (_ : Unit) => z = v) (fun _ t => va_P D cls ws' t.heap) A1) As.toArray) A1 := by
    obtain ⟨hx, hb, hml, hown, hts⟩ := S
    have hK2 : Back l R p e below s args y 3 8 (PreOf R 1 6 (va_Pc As (PreT D tys ws))) (PostOf (va_Qi (fun (z : Int32) (_ : Unit) => z = v) (fun _ t => va_P D cls ws' t.heap) A1) 1 6 A1) :=
      va_backW (hh := hh) (bytes := b) (maxL := n) (ret := r) hM bl_T hR.1 hR.2.1 hR.2.2.1 hR.2.2.2 (pay_in hts (giW mcode)) List.mem_cons_self (fun a' U hW => word_at hW (Or.inl rfl) (hts _ mini))
    intro T0 hT0 X
    obtain ⟨mk, methM, cM, hnamed, hmethM, hcM, -, -, -, -, -, hsigM⟩ := Cond.codeWith_spec (hts _ mcode)
    have hstatic : methM.isStatic = true := Cond.static_spec hnamed hmethM (hts _ mst)
    obtain ⟨kP, hkP, -⟩ := className_of_methodNamed hnamed
    have hinitP : kP.init = .initialized := Cond.initialized_spec (findClass_of_methodNamed hnamed) hkP (hts _ mini)
    have hlen : As.length = methM.sig.parameters.length := by
      have h3 := md.2.2
      rw [hsigM] at h3
      rw [hk]
      exact (Option.some.inj h3).symm
    obtain ⟨vm₁, X₁, hstep₁⟩ := X.invokestatic hx hown (hts _ hl) hnamed hmethM hstatic hkP hinitP ⟨md.1, md.2.1⟩ (g := F0 m pc ls st0) rfl (argsL := As) (rest := rest) hlen hst (by rw [hb]; exact hdg)
    obtain ⟨v', ⟨U', l2, c2, s2⟩, X', ⟨g', mk', t, L, e1, e2, hq, h1, hL, h2, h3⟩, hsteps⟩ := hK2 m meth c ⟨T0.setVm vm₁, locs, cells, slots⟩ (F0 m pc ls rest) (.invokestatic index) mk As.toArray X₁ rfl (hsz.trans hml.symm) (by rw [hb]; exact hdg) (lv_room hw) (X₁.named hnamed) ⟨hcs.1, hcs.2, pw_T hK hN hP hT hH (T0.setVm vm₁) hT0 X₁.warmed⟩
    dsimp only [Pt.U, Pt.locs, Pt.cells, Pt.slots] at X' e1 e2 h1 h2 h3 hsteps
    subst h1; subst h2; subst h3
    exact ⟨v', (T0.setVm vm₁).calling g' mk' As.toArray, t, U', L, hT0, X', hL, e1, e2, hq, fun target h => hstep₁ _ fun acts => by rw [doInvoke_state]; exact hsteps.trans h⟩
  exact va_calli hrun hS (fun q _ h => hsub q h) hsub (fun z _ t H1 locs1 ht _ hz hB hz2 hk1 hS1 => by rw [hz]; exact kk H1 locs1 (by rw [← ht]; exact hB) hz2 hk1 hS1)
end CallW
