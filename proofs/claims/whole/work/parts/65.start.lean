/-! THE CLAIM OUT OF ONE WALK OF THE LAW'S BODY. Your part is whole_start (and what it stands on); all else here is the same for every law, but numbers. -/
def R_law : String := "CapMachineLaw"
def lw_P (b : Addr) (xs : List Int32) (args : Array Value) (s : State) : Prop := args = #[.ref b] ∧ s.IntsAt b xs ∧ xs.length ≤ 3072 ∧ (Jvm.Cond.and given_1 narrow_1).before args s = true
def lw_Q (_ : Array Value) (s : State) (o : Outcome) (t : State) : Prop := o = .returned (some (.int 1)) ∧ Framed s o t [] 601024 7293034
def lw_Z (below : List Frame) (a : Array Value) (s : State) : State → Prop := fun t => ∃ o, t.status = .running ∧ Ended t below o ∧ lw_Q a s o t
/-- the law's own end, with 1 on the stack, nothing written that was there before, its room as the claim has it -/
theorem lw_ret {p : Program} {l : Launch} {e : Env} {s : State} {m : MethodId} {below : List Frame} {meth : Method} {c : Code} {b : Nat} (hx : p.tables.exec = Jvm.exec) (hb : c.code = code) (hr : meth.sig.returnType = ret) (hlocks : meth.locks = false) {pc : Nat} {H : Heap} {ls : Array Slot} (hdg : decode code pc = .ok (.ireturn, 1)) : W p l e room_1 s m #[Value.ref b] below meth c H [] 601024 7293034 (lw_Z below #[Value.ref b] s) (F0 m pc ls [.int 1]) := by
  intro T hT X
  obtain ⟨fs, hret, hrun, hended, hW, hframe⟩ := X.leave (v := some (.int 1)) (hlocks := hlocks) (fun h => by rw [hr] at h; cases h)
  have hmeth' : T.vm.method? m = some meth := X.method'
  refine ⟨T.setFrames fs, ?_, .returned (some (.int 1)), hrun, hended, rfl, ⟨_, rfl⟩, hW, hframe⟩
  jvm_step X.here [X.here.top, hx, hb, hdg, hmeth', hr, ret, narrow_b1]
  (try refine ⟨rfl, ?_⟩); (try refine ⟨rfl, ?_⟩)
  first | (intro acts; rw [hret _ acts rfl rfl rfl]) | rw [hret _ _ rfl rfl rfl]
  exact Steps.refl _
/-- what holds at the law's entry: the machine, the code, the tables' words (any of lw_tbl by 'hts w (by decide +kernel)'), the script of L ints xs at the cell b, what the Statement gives of the start (any of its parts by flat_of_before) -/
def lw_At (p : Program) (s : State) (m : MethodId) (meth : Method) (c : Code) (b L : Nat) (xs : Nat → Int32) : Prop :=
  p.tables.exec = Jvm.exec ∧ c.code = code ∧ meth.sig.returnType = ret ∧ c.maxLocals = 7 ∧ s.vm.findClass R_law = some m.cls ∧ (∀ w ∈ lw_tbl, w.before #[Value.ref b] s = true) ∧ va_X b L xs s s.heap ∧ b < s.heap.size ∧ meth.locks = false ∧ (Jvm.Cond.and given_1 narrow_1).before #[Value.ref b] s = true
theorem cl_LM : Cond.classLink R_L 8 R_M ∈ TB := tbT 10 (by decide +kernel) rfl
theorem it_M : Cond.instantiable R_M 8 ∈ TB := tbT 11 (by decide +kernel) rfl
theorem cl_LR : Cond.classLink R_L 28 R_R ∈ TB := tbT 345 (by decide +kernel) rfl
theorem it_R : Cond.instantiable R_R 18 ∈ TB := tbT 346 (by decide +kernel) rfl
theorem ao_K : Cond.arrayOver (.object R_K) ∈ tables_1 := List.mem_of_getElem? (i := 19) (by decide +kernel)
theorem nl_of {args : Array Value} {s : State} (h : ∀ w ∈ tables_1, w.before args s = true) : NL s := fun w hw => by
  have h1 := List.mem_filter.mp hw
  have h2 : w.onTables = true := by
    have h3 := h1.2
    cases w <;> first | rfl | cases h3
  exact va_Nw.of h2 (h w h1.1)
def th_r1 : Cond := .isRef (.static "java/lang/Throwable" "UNASSIGNED_STACK" "[Ljava/lang/StackTraceElement;")
def th_r2 : Cond := .isRef (.static "java/lang/Throwable" "SUPPRESSED_SENTINEL" "Ljava/util/List;")
theorem ob_in : OB.all (fun w => decide (w ∈ tables_1) || (decide (w = th_r1) || decide (w = th_r2))) = true := by decide +kernel
theorem th_of {args : Array Value} {s : State} (h : ∀ w ∈ tables_1, w.before args s = true) (hgv : (Jvm.Cond.and given_1 narrow_1).before args s = true) : TH s := fun w hw => by
  refine th_args (A := args) (List.all_eq_true.mp ob_ok w hw) ?_
  have h1 := List.all_eq_true.mp ob_in w hw
  simp only [Bool.or_eq_true, decide_eq_true_eq] at h1
  have hf := flat_of_before _ hgv
  rcases h1 with h1 | h1 | h1
  · exact h w h1
  · rw [h1]; exact hf _ (by decide +kernel)
  · rw [h1]; exact hf _ (by decide +kernel)
def dC (c0 c1 c2 c3 : ClassId) : Nat → ClassId
  | 0 => c0
  | 1 => c1
  | 2 => c2
  | _ => c3
def dI (i0 i1 i2 i3 : Nat → Nat) : Nat → Nat → Nat
  | 0 => i0
  | 1 => i1
  | 2 => i2
  | _ => i3
theorem k_of {args : Array Value} {s : State} (hts : ∀ w ∈ TB, w.before args s = true) : ∃ D : va_G, va_K D cls [] s := by
  obtain ⟨c0, i0, h0⟩ := u_known (C := R_K) (T := F_K) (N := 6) hts in_K (hts _ it_K)
  obtain ⟨c1, i1, h1⟩ := u_known (C := R_E) (T := F_E) (N := 2) hts in_E (hts _ it_E)
  obtain ⟨c2, i2, h2⟩ := u_known (C := R_M) (T := F_M) (N := 8) hts in_M (hts _ it_M)
  obtain ⟨c3, i3, h3⟩ := u_known (C := R_R) (T := F_R) (N := 18) hts in_R (hts _ it_R)
  refine ⟨(dC c0 c1 c2 c3, dI i0 i1 i2 i3), fun k x hx => ?_, fun k x hx => by cases hx⟩
  match k, hx with
  | 0, hx => cases hx; exact h0
  | 1, hx => cases hx; exact h1
  | 2, hx => cases hx; exact h2
  | 3, hx => cases hx; exact h3
  | n + 4, hx => cases hx
theorem mz0 : ∀ j, j < 8 → defaultValue (t_M j) = vp_V [.null, .null, .null, .null, .null, .null, .int 0, .int 0] j := by
  intro j hj
  match j, hj with
  | 0, _ => rfl
  | 1, _ => rfl
  | 2, _ => rfl
  | 3, _ => rfl
  | 4, _ => rfl
  | 5, _ => rfl
  | 6, _ => rfl
  | 7, _ => rfl
theorem rz0 : ∀ j, j < 18 → defaultValue (t_R j) = vp_V [.int 0, .null, .null, .null, .null, .null, .null, .null, .null, .int 0, .int 0, .int 0, .int 0, .int 0, .int 0, .int 0, .int 0, .int 0] j := by
  intro j hj
  match j, hj with
  | 0, _ => rfl
  | 1, _ => rfl
  | 2, _ => rfl
  | 3, _ => rfl
  | 4, _ => rfl
  | 5, _ => rfl
  | 6, _ => rfl
  | 7, _ => rfl
  | 8, _ => rfl
  | 9, _ => rfl
  | 10, _ => rfl
  | 11, _ => rfl
  | 12, _ => rfl
  | 13, _ => rfl
  | 14, _ => rfl
  | 15, _ => rfl
  | 16, _ => rfl
  | 17, _ => rfl
  | n + 18, h => exact absurd h (by omega)
set_option maxHeartbeats 4000000 in
set_option maxRecDepth 100000 in
theorem whole_start {p : Program} {e : Env} {s : State} {m : MethodId} {below : List Frame} {meth : Method} {c : Code} (l : Launch) (hla : ∀ e, l.admits e → e.platform.stackTraces = false) {b L : Nat} {xs : Nat → Int32} (hL : L ≤ 3072) (C0 : lw_At p s m meth c b L xs) : W p l e room_1 s m #[Value.ref b] below meth c s.heap [] 0 0 (lw_Z below #[Value.ref b] s) (entryFrame m ([Value.ref b] : List Value).toArray 7) := by
  obtain ⟨hx, hb, hr, hml, hown, hts0, hX, hbl, hlocks, hgv⟩ := C0
  have hts : ∀ w ∈ TB, w.before #[Value.ref b] s = true := fun w hw => hts0 w (List.mem_filter.mp hw).1
  have S : CallFix p m c code 7 s #[Value.ref b] TB R_L := ⟨hx, hb, hml, hown, hts⟩
  have ht1 : ∀ w ∈ tables_1, w.before #[Value.ref b] s = true := fun w hw => hts0 w (List.mem_append_right _ hw)
  have hN : NL s := nl_of ht1
  have hT : TH s := th_of ht1 hgv
  have hO : va_AO R_K s := va_AO.of (ht1 _ ao_K)
  obtain ⟨D, hK⟩ := k_of hts
  obtain ⟨A, hAd⟩ : ∃ A : Nat → Prop, A = fun q => s.heap.size ≤ q := ⟨_, rfl⟩
  have hA : ∀ q : Nat, s.heap.size ≤ q → A q := fun q h => by rw [hAd]; exact h
  have hAs : ∀ q : Nat, q < s.heap.size → ¬ A q := fun q h => by rw [hAd]; exact Nat.not_le.mpr h
  have hS : va_S A s.heap s.heap [] := va_S.rf
  have hP : va_P D cls [] s.heap := fun k q hk => by cases hk
  have hD : va_D A [] := ⟨fun i j p q hi => (by cases hi), fun k q hk => (by cases hk)⟩
  have hl := lv_entry ([.ref b]) (n := 7) (Nat.le_of_ble_eq_true rfl)
  rw [lg_entry_eq]
  generalize (lg_sl ([.ref b]) ++ List.replicate (7 - (lg_sl ([.ref b])).length) Slot.unset).toArray = ls at hl ⊢
  have hl : lv_has ls 7 [(0, .ref b)] := hl
  refine va_new (ci := 2) (fs := [.null, .null, .null, .null, .null, .null, .int 0, .int 0]) (C := R_M) (T := F_M) (N := 8) hx hb hts in_M t_M t_M_ok hown (hts _ cl_LM) (hts _ it_M) (hts _ mi_M.2.1) hK hP hD hS hA rfl mz0 (Nat.le_of_ble_eq_true rfl) (Nat.le_of_ble_eq_true rfl) d_L_0 (fun o1 H hP hD hS => ?_)
  have hP : va_P D cls [(o1, .inr (2, [.null, .null, .null, .null, .null, .null, .int 0, .int 0]))] H := hP
  have hD : va_D A [(o1, .inr (2, [.null, .null, .null, .null, .null, .null, .int 0, .int 0]))] := hD
  refine lv_dup hx hb d_L_3 rfl ?_
  have hFc := va_free (wc := [(o1, .inr (2, [.null, .null, .null, .null, .null, .null, .int 0, .int 0]))]) hD hS hA [0] rfl
  refine va_callv (va_runI (As := []) (rest := [.ref o1]) (b := o1) S (c_M_init l D o1 H.size) ⟨callB_of 0 hts (gi mi_M.1) rfl rfl rfl (hts _ mi_M.2.1) (hts _ ml_L_27) mi_M.2.2.2 ⟨Nat.le_of_ble_eq_true rfl, Nat.le_of_ble_eq_true rfl⟩, rfl, hts _ mi_M.2.2.1⟩ ⟨bl_I, pw_I hO hK hN hP⟩ rfl rfl hl.1 rfl (lv_room (Nat.le_of_ble_eq_true rfl)) d_L_4 ⟨Nat.le_of_ble_eq_true rfl, Nat.le_of_ble_eq_true rfl⟩) hS (fun q _ h => hFc q h) hFc (fun u t H1 locs ht hvm _ hB hz1 hk1 hS => ?_)
  obtain ⟨q, xa, ad, ho1, hK1, hP1, hD1⟩ := hB
  rw [ht] at hP1
  have hKM := va_K.moved hvm.symm hK1
  have hDm := hD1.weaken (fun k z _ h => hFc _ h)
  have hPm := hP1
  clear hP1 hD1 hP hD hFc hk1
  generalize H1 = H at hPm hS ⊢
  subst ho1
  refine lv_astore_n (lv' := [(1, .ref (xa 0)), (0, .ref b)]) hx hb d_L_7 rfl hl (by decide) rfl (fun ls hl => ?_)
  refine W.widen (k := 17) (n := 669) (by omega) (by omega) ?_
  refine va_new (ci := 3) (fs := [.int 0, .null, .null, .null, .null, .null, .null, .null, .null, .int 0, .int 0, .int 0, .int 0, .int 0, .int 0, .int 0, .int 0, .int 0]) (C := R_R) (T := F_R) (N := 18) hx hb hts in_R t_R t_R_ok hown (hts _ cl_LR) (hts _ it_R) (hts _ mi_R.2.1) hKM hPm hDm hS hA rfl rz0 (Nat.le_of_ble_eq_true rfl) (Nat.le_of_ble_eq_true rfl) d_L_8 (fun o2 H hP hD hS => ?_)
  refine lv_dup hx hb d_L_11 rfl ?_
  have hPc := hP.sub (ws' := [(o2, .inr (3, [.int 0, .null, .null, .null, .null, .null, .null, .null, .null, .int 0, .int 0, .int 0, .int 0, .int 0, .int 0, .int 0, .int 0, .int 0]))]) [17] rfl
  have hFc := va_free (wc := [(o2, .inr (3, [.int 0, .null, .null, .null, .null, .null, .null, .null, .null, .int 0, .int 0, .int 0, .int 0, .int 0, .int 0, .int 0, .int 0, .int 0]))]) hD hS hA [17] rfl
  refine va_callv (va_runI (As := []) (rest := [.ref o2]) (b := o2) S (c_R_init l D o2 H.size) ⟨callB_of 0 hts (gi mi_R.1) rfl rfl rfl (hts _ mi_R.2.1) (hts _ ml_L_30) mi_R.2.2.2 ⟨Nat.le_of_ble_eq_true rfl, Nat.le_of_ble_eq_true rfl⟩, rfl, hts _ mi_R.2.2.1⟩ ⟨bl_I, pw_I hO hK hN hPc⟩ rfl rfl hl.1 rfl (lv_room (Nat.le_of_ble_eq_true rfl)) d_L_12 ⟨Nat.le_of_ble_eq_true rfl, Nat.le_of_ble_eq_true rfl⟩) hS (fun q _ h => hFc q h) hFc (fun u t H1 locs ht hvm _ hB hz1 hk1 hS => ?_)
  obtain ⟨q2, xb, ho2, hK2, hP2, hD2⟩ := hB
  rw [ht] at hP2
  have hKR := va_K.moved hvm.symm hK2
  obtain ⟨hPj, hDj⟩ := va_join (wr := mW q xa ad 0 0 (fun _ => 0) (fun _ => false) c0M) hP hD [17] [0, 1, 2, 3, 4, 5, 6, 7, 8, 9, 10, 11, 12, 13, 14, 15, 16] rfl rfl (by decide) (by decide) hk1 hFc hP2 hD2
  clear hP2 hD2 hP hD hPc hFc hk1
  generalize H1 = H at hPj hS ⊢
  subst ho2
  refine lv_astore_n (lv' := [(2, .ref (xb 0)), (1, .ref (xa 0)), (0, .ref b)]) hx hb d_L_15 rfl hl (by decide) rfl (fun ls hl => ?_)
  refine W.widen (k := 26) (n := 1335) (by omega) (by omega) ?_
  refine lv_iconst (v := (1 : Int32)) hx hb d_L_16 (by decide) ?_
  refine va_newa (a0 := (1, .inr (.inl (fun _ => 0)))) (ty := .long) hx hb (hts _ ac_long) rfl hK hPj hDj hS hA (fun _ => rfl) (by decide) (N' := 1) (by decide) (by decide) (Nat.le_of_ble_eq_true rfl) (Nat.le_of_ble_eq_true rfl) d_L_17 (fun ob cL H hKL hP hD hS => ?_)
  have hP : va_P D cls (lwW q xa ad q2 xb ob cL 0 0 (fun _ => 0) (fun _ => false) c0M 0 0 0 0 0 0 0 0 0 false (fun _ => 0) (fun _ => false) c0R (fun _ => 0)) H := by
    unfold lwW
    rw [← List.append_assoc]
    exact hP
  have hD : va_D A (lwW q xa ad q2 xb ob cL 0 0 (fun _ => 0) (fun _ => false) c0M 0 0 0 0 0 0 0 0 0 false (fun _ => 0) (fun _ => false) c0R (fun _ => 0)) := by
    unfold lwW
    rw [← List.append_assoc]
    exact hD
  refine lv_astore_n (lv' := [(3, .ref ob), (2, .ref (xb 0)), (1, .ref (xa 0)), (0, .ref b)]) hx hb d_L_19 rfl hl (by decide) rfl (fun ls hl => ?_)
  refine lv_iconst (v := (0 : Int32)) hx hb d_L_20 (by decide) ?_
  refine lv_istore (lv' := [(4, .int (nI 0)), (3, .ref ob), (2, .ref (xb 0)), (1, .ref (xa 0)), (0, .ref b)]) hx hb d_L_21 hl (by decide) rfl (fun ls hl => ?_)
  refine W.widen (k := 27 + 0) (n := 1336 + 6 * 0) (by omega) (by omega) ?_
  refine lw_loop ⟨hla, S, hX, hbl, hAs, hL, hKM, hKR, hKL, hN, hT, D_map hD rfl⟩ ?_ L 0 H locs ls (Nat.zero_le _) (by omega) ⟨_, _, _, _, _, _, _, _, _, _, _, _, _, _, _, _, _, hP, in_q0, in_m0, in_t0, in_g0⟩ hS hl
  intro H locs ls cells slots h1 h2 hS
  refine lv_iconst (v := (1 : Int32)) hx hb d_L_438 (by decide) ?_
  refine W.widen (k := 601024) (n := 7293034) h1 h2 ?_
  refine va_forget (fun q hq => by
    have h3 := hS.2.2 q hq
    rw [hAd] at h3
    exact h3) ?_
  exact lw_ret hx hb hr hlocks d_L_439
set_option maxHeartbeats 4000000 in
theorem lw_walk (l : Launch) (hla : ∀ e, l.admits e → e.platform.stackTraces = false) (b : Addr) (xs : List Int32) : MetFree l x (headSpec (Jvm.Cond.code x code maxLocals ret :: tables_1) room_1) (lw_P b xs) (fun _ _ _ _ _ => True) lw_Q := by
  refine MetFree.of_bodyS (code := code) (maxLocals := maxLocals) (ret := ret) (by decide) ?_ ?_
  · intro args s m h hn
    obtain ⟨meth, c, h1, h2, h3, h4, h5, h6, -, -⟩ := Cond.code_spec hn (atoms_spec (ws := Jvm.Cond.code x code maxLocals ret :: tables_1) h _ List.mem_cons_self)
    exact ⟨meth, c, h1, h2, h3, h4, h5, h6⟩
  · intro p e s m args below meth c s₁ B hml0 hP _
    obtain ⟨rfl, hx, hbd, hgv⟩ := hP
    obtain ⟨scr, harrAt, hlist, hof, hsmall⟩ := hx
    obtain ⟨hcb, hkn, -, -⟩ := State.arrayAt?_spec harrAt
    have hown : s.vm.findClass R_law = some m.cls := findClass_of_methodNamed B.named
    have hts0 : ∀ c ∈ (Jvm.Cond.code x code maxLocals ret :: tables_1), c.before #[Value.ref b] s = true := atoms_spec (ws := Jvm.Cond.code x code maxLocals ret :: tables_1) B.pre
    have hts : ∀ w ∈ lw_tbl, w.before #[Value.ref b] s = true := k2_hts_sels lw_privs (fun w hw => hts0 w (List.mem_cons_of_mem _ hw)) lw_privs_ok
    have hml : c.maxLocals = 7 := B.maxLocals_eq (hts0 _ List.mem_cons_self)
    have X₀ : Stand p l e room_1 s m #[Value.ref b] below meth c s₁ [] 0 0 := Stand.of_body B
    have hh0 : s₁.heap = s.heap := by rw [B.state]; rfl
    have hsz : scr.slots.size = xs.length := by rw [← Array.length_toList, hlist, List.length_map]
    have hval : ∀ j : Nat, j < xs.length → scr.slots[j]? = some (.int (xs.getD j 0)) := fun j hj => by
      rw [← Array.getElem?_toList, hlist]
      simp [hj]
    have hbl : b < s.heap.size := (Array.getElem?_eq_some_iff.mp hcb).1
    have hX : va_X b xs.length (fun j => xs.getD j 0) s s.heap := ⟨scr, hcb, hof, hkn, hsz, hval⟩
    have K : W p l e room_1 s m #[Value.ref b] below meth c s₁.heap [] 0 0 (lw_Z below #[Value.ref b] s) (entryFrame m ([Value.ref b] : List Value).toArray 7) := by
      rw [hh0]
      exact whole_start l hla hbd ⟨B.exec, B.bytes, B.returns, hml, hown, hts, hX, hbl, B.notSynchronized, hgv⟩
    obtain ⟨t, a1, o, b1, b2, b3⟩ := K s₁ rfl X₀
    exact ⟨t, o, a1, b1, b2, b3⟩
theorem lw_pre_spec {args : Array Value} {s : State} (h : (Jvm.Cond.and given_1 narrow_1).before args s = true) (hr : rest_1_c.before args s = true) : ∃ (b : Addr) (xs : List Int32), lw_P b xs args s := by
  have hs := flat_of_before _ h
  have hq := flat_of_before _ hr
  have hc : (Cond.count 1).before args s = true := hs _ (by decide +kernel)
  have harr : (Cond.arrayOf (.arg 0) .int).before args s = true := hs _ (by decide +kernel)
  have hle : (Cond.le (.length (.arg 0)) (.int 3072)).before args s = true := hs _ (by decide +kernel)
  have hlen : (Cond.isInt (.length (.arg 0))).before args s = true := hq _ (by decide +kernel)
  have hall : (Cond.all (.arg 0) (.isInt (.elem (.arg 0) (.index 0)))).before args s = true := hq _ (by decide +kernel)
  obtain ⟨b, xs, hb, hx⟩ := State.ints_of_pre rfl harr hlen hall
  have hsm : xs.length < 2 ^ 31 := hx.choose_spec.2.2.2
  have hev : (Term.length (.arg 0)).eval args s none [] s = some (.int xs.length.toInt32) := hx.length_eval hb
  have hv := Cond.le_ints hev (show (Term.int 3072).eval args s none [] s = some (.int 3072) from rfl)
  have hd : xs.length.toInt32 ≤ 3072 := by
    simpa [Cond.before, Cond.holds, hv] using hle
  have hN : xs.length ≤ 3072 := (Int32.ofNat_le_ofNat hsm (by decide)).mp (show Int32.ofNat xs.length ≤ Int32.ofNat 3072 from hd)
  exact ⟨b, xs, Cond.one_arg hc (show args[0]? = some (.ref b) from hb), hx, hN, h⟩
theorem lw_comes (l : Launch) (hla : ∀ e, l.admits e → e.platform.stackTraces = false) : Comes l x (Jvm.Cond.code x code maxLocals ret :: tables_1) room_1 (fun tb e args s => Calls_1 tb e args s ∧ rest_1 tb e args s ∧ Pre_1 tb e args s)
    (fun _ _ args s o t => lw_Q args s o t) := by
  intro p e ha hc hk s m args below hf hfit hheap happ hpre
  obtain ⟨b, xs, hP⟩ := lw_pre_spec hpre.2.2 hpre.2.1
  obtain ⟨k, o, h1, h2, h3, hQ⟩ := lw_walk l hla b xs p e ha hc hk s m args below hf ((Spec.applies_iff_loose hf).mp happ).1 hP trivial
  exact ⟨k, o, h1, h2, h3, hQ⟩
theorem lw_frame {s t : State} {o : Outcome} {args : Array Value} (h : Framed s o t [] 601024 7293034) :
    Framed s o t (fieldLocs frame_1_writes args s ++ arrayLocs frame_1_arrays args s ++ staticLocs frame_1_statics s) 601024 7293034 := h
theorem lw_limb (L : Cond) (hL : ∀ (args : Array Value) (s t : State), L.after args s (.returned (some (.int 1))) t = true) :
    ArmFor flags0 classFile x code maxLocals ret World_1 tables_1 room_1 Calls_1 rest_1 Pre_1
      (fun tb e a s o t => postC L tb e a s o t ∧ Framed s o t (fieldLocs frame_1_writes a s ++ arrayLocs frame_1_arrays a s ++ staticLocs frame_1_statics s) 601024 7293034) := by
  intro l hfl _ _ p e ha hc hk s m args below hf hfit hheap happ hpre
  obtain ⟨k, o, h1, h2, h3, rfl, hF⟩ := lw_comes l (fl_tr hfl) p e ha hc hk s m args below hf hfit hheap happ hpre
  exact ⟨k, _, h1, h2, h3, hL args s _, lw_frame hF⟩
