theorem kz0 : ∀ j, j < 6 → defaultValue (t_K j) = vp_V (capL z0) j := by
  intro j hj
  match j, hj with
  | 0, _ => rfl
  | 1, _ => rfl
  | 2, _ => rfl
  | 3, _ => rfl
  | 4, _ => rfl
  | 5, _ => rfl
def fI (ad : Nat → Nat) : Nat → Nat → Option Nat
  | 0 => fun _ => none
  | j + 1 => va_up (fI ad j) j (some (ad j))
theorem fI_at (ad : Nat → Nat) : ∀ (j i : Nat), i < j → fI ad j i = some (ad i) := by
  intro j
  induction j with
  | zero => intro i h; omega
  | succ j ih =>
    intro i h
    show va_up (fI ad j) j (some (ad j)) i = some (ad i)
    by_cases hi : i = j
    · rw [hi, va_up_self]
    · rw [va_up_ne _ _ hi]; exact ih i (by omega)
theorem fI_co {ad ad' : Nat → Nat} : ∀ (j : Nat), (∀ i, i < j → ad i = ad' i) → fI ad j = fI ad' j := by
  intro j
  induction j with
  | zero => intro _; rfl
  | succ j ih =>
    intro h
    show va_up (fI ad j) j (some (ad j)) = va_up (fI ad' j) j (some (ad' j))
    rw [ih (fun i hi => h i (by omega)), h j (by omega)]
theorem fI_up (ad : Nat → Nat) (j q : Nat) : va_up (fI ad j) j (some q) = fI (va_up ad j q) (j + 1) := by
  show _ = va_up (fI (va_up ad j q) j) j (some (va_up ad j q j))
  rw [va_up_self, fI_co (ad := va_up ad j q) (ad' := ad) j (fun i hi => va_up_ne _ _ (by omega))]
def bI (ad : Nat → Nat) (j : Nat) : va_W := (List.range j).map (fun i => (ad i, .inr (0, capL z0)))
theorem bI_push (ad : Nat → Nat) (j q : Nat) : bI ad j ++ [(q, .inr (0, capL z0))] = bI (va_up ad j q) (j + 1) := by
  unfold bI
  rw [List.range_succ, List.map_append]
  simp only [List.map_cons, List.map_nil, va_up_self]
  congr 1
  apply List.map_congr_left
  intro i hi
  have := List.mem_range.mp hi
  rw [va_up_ne _ _ (by omega)]
theorem bI_get (ad : Nat → Nat) {j i : Nat} (h : i < j) : (bI ad j)[i]? = some (ad i, .inr (0, capL z0)) := by
  simp [bI, h]
def mO (xs : Nat) : List Value := [.ref xs, .null, .null, .null, .null, .null, .int 0, .int 0]
def wI (o xs : Nat) (cA : ClassId) (f : Nat → Option Nat) (b : va_W) : va_W := (o, .inr (2, mO xs)) :: (xs, .inl (cA, 11, .inr (.inr (.inr (.inr f))))) :: b
theorem P_refs {D : va_G} {o xs : Nat} {cA : ClassId} {f g : Nat → Option Nat} {b : va_W} {H : Heap} (h : va_P D cls (wI o xs cA f b) H) (e : ∀ i, i < 11 → f i = g i) : va_P D cls (wI o xs cA g b) H := by
  intro k q hk
  match k, hk with
  | 0, hk => exact h 0 q hk
  | 1, hk =>
    have h1 := h 1 _ rfl
    cases hk
    show H[xs]? = some (vp_cell cA (11, .inr (.inr (.inr (.inr g)))))
    have h2 : H[xs]? = some (vp_cell cA (11, .inr (.inr (.inr (.inr f))))) := h1
    rw [h2, vp_cell_q, vp_cell_q]
    congr 1
    unfold arrV
    congr 1
    apply Array.ext
    · simp
    · intro i h3 h4
      simp at h3
      simp [e i h3]
  | k + 2, hk => exact h (k + 2) q hk
set_option maxHeartbeats 4000000 in
set_option maxRecDepth 100000 in
theorem lp_M_init {p : Program} {l : Launch} {e : Env} {s : State} {m : MethodId} {args : Array Value} {below : List Frame} {meth : Method} {c : Code} {Q : State → Prop} {D : va_G} {A : Nat → Prop} {o xs : Nat} {cA : ClassId} (S : CallFix p m c b_M_init 2 s args TB R_M) (hK : va_K D cls [(cA, .object R_K)] s) (hN : NL s) (hA : ∀ q : Nat, s.heap.size ≤ q → A q)
    (ex : ∀ (ad : Nat → Nat) (H : Heap) (locs : List Loc) (ls : Array Slot), va_P D cls (wI o xs cA (fI ad 11) (bI ad 11)) H → va_D A (wI o xs cA (fI ad 11) (bI ad 11)) → va_S A s.heap H locs → lv_has ls 2 [(1, .int (nI 11)), (0, .ref o)] → W p l e ({ frames := 2, cells := 16, slots := 661, locals := 32 }) s m args below meth c H locs 12 77 Q (F0 m 40 ls [])) :
    ∀ (n j : Nat) (ad : Nat → Nat) (H : Heap) (locs : List Loc) (ls : Array Slot), j + n = 11 → va_P D cls (wI o xs cA (fI ad j) (bI ad j)) H → va_D A (wI o xs cA (fI ad j) (bI ad j)) → va_S A s.heap H locs → lv_has ls 2 [(1, .int (nI j)), (0, .ref o)] → W p l e ({ frames := 2, cells := 16, slots := 661, locals := 32 }) s m args below meth c H locs (1 + j) (11 + 6 * j) Q (F0 m 15 ls []) := by
  have hx := S.1
  have hb := S.2.1
  intro n
  induction n with
  | zero =>
    intro j ad H locs ls hj hP hD hS hl
    have hj : j = 11 := by omega
    subst hj
    refine lv_iload_n hx hb d_M_init_15 rfl (lv_at hl 0 rfl) ?_
    refine lv_bipush (v := (11 : Int32)) hx hb d_M_init_16 (by decide) ?_
    refine lv_icmp_ge (tgt := 40) hx hb d_M_init_18 rfl (fun _ => ?_) (fun h => ?_)
    · exact ex ad H locs ls hP hD hS hl
    · exact absurd (by decide) h
  | succ n ih =>
    intro j ad H locs ls hj hP hD hS hl
    refine lv_iload_n hx hb d_M_init_15 rfl (lv_at hl 0 rfl) ?_
    refine lv_bipush (v := (11 : Int32)) hx hb d_M_init_16 (by decide) ?_
    refine lv_icmp_ge (tgt := 40) hx hb d_M_init_18 rfl (fun h => ?_) (fun h => ?_)
    · exact absurd h (nI_ge (a := j) (b := 11) (by omega) (by decide))
    refine lv_aload_n hx hb d_M_init_21 rfl (lv_at hl 1 rfl) ?_
    refine va_get (D := D) (ci := 2) (v := .ref xs) (C := R_M) (T := F_M) (N := 8) hx hb S.2.2.2.2 in_M S.2.2.2.1 hK hP 0 rfl rfl 0 (by decide) (S.2.2.2.2 _ fl_M_11) (fun _ h9 => h9) rfl d_M_init_22 ?_
    refine lv_iload_n hx hb d_M_init_25 rfl (lv_at hl 0 rfl) ?_
    refine va_new (ci := 0) (fs := capL z0) (C := R_K) (T := F_K) (N := 6) hx hb S.2.2.2.2 in_K t_K t_K_ok S.2.2.2.1 (S.2.2.2.2 _ cl_K) (S.2.2.2.2 _ it_K) (S.2.2.2.2 _ mi_K.2.1) hK hP hD hS hA rfl kz0 (by show 1 + j + 1 ≤ 16; omega) (by show 11 + 6 * j + 6 ≤ 661; omega) d_M_init_26 (fun q H hP hD hS => ?_)
    refine W.widen (k := 1 + (j + 1)) (n := 11 + 6 * (j + 1)) (by omega) (by omega) ?_
    have hP : va_P D cls (wI o xs cA (fI ad j) (bI (va_up ad j q) (j + 1))) H := by rw [← bI_push]; exact hP
    have hD : va_D A (wI o xs cA (fI ad j) (bI (va_up ad j q) (j + 1))) := by rw [← bI_push]; exact hD
    refine lv_dup hx hb d_M_init_29 rfl ?_
    refine c_kI [.ref q, .int (nI j), .ref xs] S hK hN hP hS ⟨Nat.le_of_ble_eq_true rfl, Nat.le_of_ble_eq_true rfl⟩ hl.1 rfl (Nat.le_of_ble_eq_true rfl) d_M_init_30 ⟨by show 1 + (j + 1) ≤ 16; omega, by show 11 + 6 * (j + 1) ≤ 661; omega⟩ (fun H locs hP hS => ?_)
    have hv : (wI o xs cA (fI ad j) (bI (va_up ad j q) (j + 1)))[j + 2]? = some (q, .inr (0, capL z0)) := by
      show (bI (va_up ad j q) (j + 1))[j]? = _
      rw [bI_get _ (by omega), va_up_self]
    refine va_astq (r := (R_K, F_K, 6)) hx hb hK hP hD hS 1 0 (j + 2) 0 rfl rfl hv rfl (nI_in (by omega) (by decide)) d_M_init_33 (fun H locs hP hD hS => ?_)
    rw [nI_clamp (by omega), fI_up] at hP hD
    refine lv_iinc (k := 0) (v := nI (j + 1)) (lv' := [(1, .int (nI (j + 1))), (0, .ref o)]) hx hb d_M_init_34 hl rfl ((congrArg (nI j + ·) (by decide)).trans (nI_succ j).symm) (by decide) rfl (fun ls hl => ?_)
    refine lv_goto (tgt := 15) hx hb d_M_init_37 rfl ?_
    exact ih (j + 1) (va_up ad j q) H locs ls (by omega) hP hD hS hl
theorem P_refs2 {D : va_G} {x : Nat × va_E} {xs : Nat} {cA : ClassId} {f g : Nat → Option Nat} {b : va_W} {H : Heap} (h : va_P D cls (x :: (xs, .inl (cA, 11, .inr (.inr (.inr (.inr f))))) :: b) H) (e : ∀ i, i < 11 → f i = g i) : va_P D cls (x :: (xs, .inl (cA, 11, .inr (.inr (.inr (.inr g))))) :: b) H := by
  have h1 := P_refs (D := D) (o := 0) (f := f) (g := g) (b := []) (H := H) (xs := xs) (cA := cA)
  intro k q hk
  match k, hk with
  | 0, hk => exact h 0 q hk
  | 1, hk =>
    have h1 := h 1 _ rfl
    cases hk
    show H[xs]? = some (vp_cell cA (11, .inr (.inr (.inr (.inr g)))))
    have h2 : H[xs]? = some (vp_cell cA (11, .inr (.inr (.inr (.inr f))))) := h1
    rw [h2, vp_cell_q, vp_cell_q]
    congr 1
    unfold arrV
    congr 1
    apply Array.ext
    · simp
    · intro i h3 h4
      simp at h3
      simp [e i h3]
  | k + 2, hk => exact h (k + 2) q hk
def c0M : Nat → Cp := f_K_becomeGranted (f_K_becomeGranted (fun _ => z0) 8 0 512 0 255) 1 0 512 0 255
def M_at (D : va_G) (A : Nat → Prop) (o : Nat) (t : State) : Prop := ∃ (q : Nat → ClassId) (xa ad : Nat → Nat), xa 0 = o ∧ va_K D cls (tyM q) t ∧ va_P D cls (mW q xa ad 0 0 (fun _ => 0) (fun _ => false) c0M) t.heap ∧ va_D A (mW q xa ad 0 0 (fun _ => 0) (fun _ => false) c0M)
set_option maxHeartbeats 4000000 in
set_option maxRecDepth 100000 in
theorem c_M_init (l : Launch) (D : va_G) (o sz : Nat) : Met l y_M_init (.code y_M_init b_M_init 2 none :: TB) ({ frames := 2, cells := 16, slots := 661, locals := 32 }) (va_Pc [.ref o] (PreI D [(o, .inr (2, [.null, .null, .null, .null, .null, .null, .int 0, .int 0]))] sz)) (va_Qv (fun _ : Unit => True) (fun _ t => M_at D (va_A [(o, .inr (2, [.null, .null, .null, .null, .null, .null, .int 0, .int 0]))] sz) o t) (va_A [(o, .inr (2, [.null, .null, .null, .null, .null, .null, .int 0, .int 0]))] sz)) 16 661 (va_A [(o, .inr (2, [.null, .null, .null, .null, .null, .null, .int 0, .int 0]))] sz) := by
  refine ofIn (by decide) (Nat.le_of_ble_eq_true rfl) rfl ?_
  intro p e s m below meth c ls S hr hlocks hin hsz hO hK hN hP hl
  have hx := S.1
  have hb := S.2.1
  subst hsz
  have hD : va_D (va_A [(o, .inr (2, [.null, .null, .null, .null, .null, .null, .int 0, .int 0]))] s.heap.size) [(o, .inr (2, [.null, .null, .null, .null, .null, .null, .int 0, .int 0]))] := D_one (Or.inl ⟨0, _, rfl⟩)
  generalize hAe : va_A [(o, .inr (2, [.null, .null, .null, .null, .null, .null, .int 0, .int 0]))] s.heap.size = A at hD ⊢
  have hA : ∀ q : Nat, s.heap.size ≤ q → A q := fun q h => by rw [← hAe]; exact Or.inr h
  have hS : va_S A s.heap s.heap [] := va_S.rf
  have hl : lv_has ls 2 [(0, .ref o)] := hl
  refine lv_aload_n hx hb d_M_init_0 rfl (lv_at hl 0 rfl) ?_
  refine W.objInit hx hb S.2.2.2.1 (S.2.2.2.2 _ oi_M) (S.2.2.2.2 _ oi_inst) (S.2.2.2.2 _ oi_code) rfl (by rw [S.2.2.1]; exact hl.1) rfl d_M_init_1 (Nat.le_of_ble_eq_true rfl) (Nat.le_of_ble_eq_true rfl) ?_
  refine W.eq (g2 := F0 m 4 ls []) rfl ?_
  refine lv_aload_n hx hb d_M_init_4 rfl (lv_at hl 0 rfl) ?_
  refine lv_bipush (v := (11 : Int32)) hx hb d_M_init_5 (by decide) ?_
  refine va_newq (N' := 11) hx hb S.2.2.2.1 (S.2.2.2.2 _ cl_K) hO hK hP hD hS hA (by decide) (by decide) (by decide) (Nat.le_of_ble_eq_true rfl) (Nat.le_of_ble_eq_true rfl) d_M_init_7 (fun xs cA H hK hP hD hS => ?_)
  have hK : va_K D cls [(cA, .object R_K)] s := hK
  refine W.widen (k := 1) (n := 11) (by omega) (by omega) ?_
  refine va_putF (D := D) (ci := 2) (v := .ref xs) (ty := t_M 0) (C := R_M) (T := F_M) (N := 8) hx hb S.2.2.2.2 in_M t_M t_M_ok n_M S.2.2.2.1 hK hP hD hS 0 rfl rfl 0 (by decide) (S.2.2.2.2 _ fl_M_11) (fun _ h9 => h9) rfl hin rfl (by decide +kernel) rfl rfl (Nat.le_of_ble_eq_true rfl) d_M_init_10 (fun H locs hP hD hS => ?_)
  have hP : va_P D cls (wI o xs cA (fI (fun _ => 0) 0) (bI (fun _ => 0) 0)) H := hP
  have hD : va_D A (wI o xs cA (fI (fun _ => 0) 0) (bI (fun _ => 0) 0)) := hD
  refine lv_iconst (v := (0 : Int32)) hx hb d_M_init_13 (by decide) ?_
  refine lv_istore_n (lv' := [(1, .int (nI 0)), (0, .ref o)]) hx hb d_M_init_14 rfl hl (by decide) rfl (fun ls hl => ?_)
  refine lp_M_init S hK hN hA ?_ 11 0 (fun _ => 0) H locs ls rfl hP hD hS hl
  clear hP hD hS hl
  intro ad H locs ls hP hD hS hl
  have hP := P_refs (g := fun i => some (ad i)) hP (fI_at ad 11)
  have hP : va_P D cls [(o, .inr (2, [.ref xs, .null, .null, .null, .null, .null, .int 0, .int 0])), (xs, .inl (cA, 11, .inr (.inr (.inr (.inr (fun i => some (ad i))))))), (ad 0, .inr (0, capL z0)), (ad 1, .inr (0, capL z0)), (ad 2, .inr (0, capL z0)), (ad 3, .inr (0, capL z0)), (ad 4, .inr (0, capL z0)), (ad 5, .inr (0, capL z0)), (ad 6, .inr (0, capL z0)), (ad 7, .inr (0, capL z0)), (ad 8, .inr (0, capL z0)), (ad 9, .inr (0, capL z0)), (ad 10, .inr (0, capL z0))] H := hP
  have hD : va_D A [(o, .inr (2, [.ref xs, .null, .null, .null, .null, .null, .int 0, .int 0])), (xs, .inl (cA, 11, .inr (.inr (.inr (.inr (fun i => some (ad i))))))), (ad 0, .inr (0, capL z0)), (ad 1, .inr (0, capL z0)), (ad 2, .inr (0, capL z0)), (ad 3, .inr (0, capL z0)), (ad 4, .inr (0, capL z0)), (ad 5, .inr (0, capL z0)), (ad 6, .inr (0, capL z0)), (ad 7, .inr (0, capL z0)), (ad 8, .inr (0, capL z0)), (ad 9, .inr (0, capL z0)), (ad 10, .inr (0, capL z0))] := D_map hD rfl
  refine lv_aload_n hx hb d_M_init_40 rfl (lv_at hl 1 rfl) ?_
  refine lv_aload_n hx hb d_M_init_41 rfl (lv_at hl 1 rfl) ?_
  refine va_get (D := D) (ci := 2) (v := .ref xs) (C := R_M) (T := F_M) (N := 8) hx hb S.2.2.2.2 in_M S.2.2.2.1 hK hP 0 rfl rfl 0 (by decide) (S.2.2.2.2 _ fl_M_11) (fun _ h9 => h9) rfl d_M_init_42 ?_
  refine lv_bipush (v := (8 : Int32)) hx hb d_M_init_45 (by decide) ?_
  refine va_aldq hx hb hK hP 1 0 rfl rfl (in_k rfl) d_M_init_47 ?_
  refine W.eq (g2 := F0 m 48 ls [.ref (ad 8), .ref o]) rfl ?_
  refine va_putF (D := D) (ci := 2) (v := .ref (ad 8)) (ty := t_M 1) (C := R_M) (T := F_M) (N := 8) hx hb S.2.2.2.2 in_M t_M t_M_ok n_M S.2.2.2.1 hK hP hD hS 0 rfl rfl 1 (by decide) (S.2.2.2.2 _ fl_M_16) (fun _ h9 => h9) rfl hin rfl (by decide +kernel) rfl rfl (Nat.le_of_ble_eq_true rfl) d_M_init_48 (fun H locs hP hD hS => ?_)
  have hP : va_P D cls [(o, .inr (2, [.ref xs, .ref (ad 8), .null, .null, .null, .null, .int 0, .int 0])), (xs, .inl (cA, 11, .inr (.inr (.inr (.inr (fun i => some (ad i))))))), (ad 0, .inr (0, capL z0)), (ad 1, .inr (0, capL z0)), (ad 2, .inr (0, capL z0)), (ad 3, .inr (0, capL z0)), (ad 4, .inr (0, capL z0)), (ad 5, .inr (0, capL z0)), (ad 6, .inr (0, capL z0)), (ad 7, .inr (0, capL z0)), (ad 8, .inr (0, capL z0)), (ad 9, .inr (0, capL z0)), (ad 10, .inr (0, capL z0))] H := hP
  have hD : va_D A [(o, .inr (2, [.ref xs, .ref (ad 8), .null, .null, .null, .null, .int 0, .int 0])), (xs, .inl (cA, 11, .inr (.inr (.inr (.inr (fun i => some (ad i))))))), (ad 0, .inr (0, capL z0)), (ad 1, .inr (0, capL z0)), (ad 2, .inr (0, capL z0)), (ad 3, .inr (0, capL z0)), (ad 4, .inr (0, capL z0)), (ad 5, .inr (0, capL z0)), (ad 6, .inr (0, capL z0)), (ad 7, .inr (0, capL z0)), (ad 8, .inr (0, capL z0)), (ad 9, .inr (0, capL z0)), (ad 10, .inr (0, capL z0))] := hD
  refine lv_aload_n hx hb d_M_init_51 rfl (lv_at hl 1 rfl) ?_
  refine lv_aload_n hx hb d_M_init_52 rfl (lv_at hl 1 rfl) ?_
  refine va_get (D := D) (ci := 2) (v := .ref xs) (C := R_M) (T := F_M) (N := 8) hx hb S.2.2.2.2 in_M S.2.2.2.1 hK hP 0 rfl rfl 0 (by decide) (S.2.2.2.2 _ fl_M_11) (fun _ h9 => h9) rfl d_M_init_53 ?_
  refine lv_bipush (v := (9 : Int32)) hx hb d_M_init_56 (by decide) ?_
  refine va_aldq hx hb hK hP 1 0 rfl rfl (in_k rfl) d_M_init_58 ?_
  refine W.eq (g2 := F0 m 59 ls [.ref (ad 9), .ref o]) rfl ?_
  refine va_putF (D := D) (ci := 2) (v := .ref (ad 9)) (ty := t_M 2) (C := R_M) (T := F_M) (N := 8) hx hb S.2.2.2.2 in_M t_M t_M_ok n_M S.2.2.2.1 hK hP hD hS 0 rfl rfl 2 (by decide) (S.2.2.2.2 _ fl_M_20) (fun _ h9 => h9) rfl hin rfl (by decide +kernel) rfl rfl (Nat.le_of_ble_eq_true rfl) d_M_init_59 (fun H locs hP hD hS => ?_)
  have hP : va_P D cls [(o, .inr (2, [.ref xs, .ref (ad 8), .ref (ad 9), .null, .null, .null, .int 0, .int 0])), (xs, .inl (cA, 11, .inr (.inr (.inr (.inr (fun i => some (ad i))))))), (ad 0, .inr (0, capL z0)), (ad 1, .inr (0, capL z0)), (ad 2, .inr (0, capL z0)), (ad 3, .inr (0, capL z0)), (ad 4, .inr (0, capL z0)), (ad 5, .inr (0, capL z0)), (ad 6, .inr (0, capL z0)), (ad 7, .inr (0, capL z0)), (ad 8, .inr (0, capL z0)), (ad 9, .inr (0, capL z0)), (ad 10, .inr (0, capL z0))] H := hP
  have hD : va_D A [(o, .inr (2, [.ref xs, .ref (ad 8), .ref (ad 9), .null, .null, .null, .int 0, .int 0])), (xs, .inl (cA, 11, .inr (.inr (.inr (.inr (fun i => some (ad i))))))), (ad 0, .inr (0, capL z0)), (ad 1, .inr (0, capL z0)), (ad 2, .inr (0, capL z0)), (ad 3, .inr (0, capL z0)), (ad 4, .inr (0, capL z0)), (ad 5, .inr (0, capL z0)), (ad 6, .inr (0, capL z0)), (ad 7, .inr (0, capL z0)), (ad 8, .inr (0, capL z0)), (ad 9, .inr (0, capL z0)), (ad 10, .inr (0, capL z0))] := hD
  refine lv_aload_n hx hb d_M_init_62 rfl (lv_at hl 1 rfl) ?_
  refine lv_aload_n hx hb d_M_init_63 rfl (lv_at hl 1 rfl) ?_
  refine va_get (D := D) (ci := 2) (v := .ref xs) (C := R_M) (T := F_M) (N := 8) hx hb S.2.2.2.2 in_M S.2.2.2.1 hK hP 0 rfl rfl 0 (by decide) (S.2.2.2.2 _ fl_M_11) (fun _ h9 => h9) rfl d_M_init_64 ?_
  refine lv_bipush (v := (10 : Int32)) hx hb d_M_init_67 (by decide) ?_
  refine va_aldq hx hb hK hP 1 0 rfl rfl (in_k rfl) d_M_init_69 ?_
  refine W.eq (g2 := F0 m 70 ls [.ref (ad 10), .ref o]) rfl ?_
  refine va_putF (D := D) (ci := 2) (v := .ref (ad 10)) (ty := t_M 3) (C := R_M) (T := F_M) (N := 8) hx hb S.2.2.2.2 in_M t_M t_M_ok n_M S.2.2.2.1 hK hP hD hS 0 rfl rfl 3 (by decide) (S.2.2.2.2 _ fl_M_23) (fun _ h9 => h9) rfl hin rfl (by decide +kernel) rfl rfl (Nat.le_of_ble_eq_true rfl) d_M_init_70 (fun H locs hP hD hS => ?_)
  have hP : va_P D cls [(o, .inr (2, [.ref xs, .ref (ad 8), .ref (ad 9), .ref (ad 10), .null, .null, .int 0, .int 0])), (xs, .inl (cA, 11, .inr (.inr (.inr (.inr (fun i => some (ad i))))))), (ad 0, .inr (0, capL z0)), (ad 1, .inr (0, capL z0)), (ad 2, .inr (0, capL z0)), (ad 3, .inr (0, capL z0)), (ad 4, .inr (0, capL z0)), (ad 5, .inr (0, capL z0)), (ad 6, .inr (0, capL z0)), (ad 7, .inr (0, capL z0)), (ad 8, .inr (0, capL z0)), (ad 9, .inr (0, capL z0)), (ad 10, .inr (0, capL z0))] H := hP
  have hD : va_D A [(o, .inr (2, [.ref xs, .ref (ad 8), .ref (ad 9), .ref (ad 10), .null, .null, .int 0, .int 0])), (xs, .inl (cA, 11, .inr (.inr (.inr (.inr (fun i => some (ad i))))))), (ad 0, .inr (0, capL z0)), (ad 1, .inr (0, capL z0)), (ad 2, .inr (0, capL z0)), (ad 3, .inr (0, capL z0)), (ad 4, .inr (0, capL z0)), (ad 5, .inr (0, capL z0)), (ad 6, .inr (0, capL z0)), (ad 7, .inr (0, capL z0)), (ad 8, .inr (0, capL z0)), (ad 9, .inr (0, capL z0)), (ad 10, .inr (0, capL z0))] := hD
  refine lv_aload_n hx hb d_M_init_73 rfl (lv_at hl 1 rfl) ?_
  refine va_new (ci := 0) (fs := capL z0) (C := R_K) (T := F_K) (N := 6) hx hb S.2.2.2.2 in_K t_K t_K_ok S.2.2.2.1 (S.2.2.2.2 _ cl_K) (S.2.2.2.2 _ it_K) (S.2.2.2.2 _ mi_K.2.1) hK hP hD hS hA rfl kz0 (Nat.le_of_ble_eq_true rfl) (Nat.le_of_ble_eq_true rfl) d_M_init_74 (fun lk H hP hD hS => ?_)
  have hP : va_P D cls [(o, .inr (2, [.ref xs, .ref (ad 8), .ref (ad 9), .ref (ad 10), .null, .null, .int 0, .int 0])), (xs, .inl (cA, 11, .inr (.inr (.inr (.inr (fun i => some (ad i))))))), (ad 0, .inr (0, capL z0)), (ad 1, .inr (0, capL z0)), (ad 2, .inr (0, capL z0)), (ad 3, .inr (0, capL z0)), (ad 4, .inr (0, capL z0)), (ad 5, .inr (0, capL z0)), (ad 6, .inr (0, capL z0)), (ad 7, .inr (0, capL z0)), (ad 8, .inr (0, capL z0)), (ad 9, .inr (0, capL z0)), (ad 10, .inr (0, capL z0)), (lk, .inr (0, capL z0))] H := hP
  have hD : va_D A [(o, .inr (2, [.ref xs, .ref (ad 8), .ref (ad 9), .ref (ad 10), .null, .null, .int 0, .int 0])), (xs, .inl (cA, 11, .inr (.inr (.inr (.inr (fun i => some (ad i))))))), (ad 0, .inr (0, capL z0)), (ad 1, .inr (0, capL z0)), (ad 2, .inr (0, capL z0)), (ad 3, .inr (0, capL z0)), (ad 4, .inr (0, capL z0)), (ad 5, .inr (0, capL z0)), (ad 6, .inr (0, capL z0)), (ad 7, .inr (0, capL z0)), (ad 8, .inr (0, capL z0)), (ad 9, .inr (0, capL z0)), (ad 10, .inr (0, capL z0)), (lk, .inr (0, capL z0))] := hD
  refine lv_dup hx hb d_M_init_77 rfl ?_
  refine c_kI [.ref lk, .ref o] S hK hN hP hS ⟨Nat.le_of_ble_eq_true rfl, Nat.le_of_ble_eq_true rfl⟩ hl.1 rfl (Nat.le_of_ble_eq_true rfl) d_M_init_78 ⟨Nat.le_of_ble_eq_true rfl, Nat.le_of_ble_eq_true rfl⟩ (fun H locs hP hS => ?_)
  refine va_putF (D := D) (ci := 2) (v := .ref lk) (ty := t_M 4) (C := R_M) (T := F_M) (N := 8) hx hb S.2.2.2.2 in_M t_M t_M_ok n_M S.2.2.2.1 hK hP hD hS 0 rfl rfl 4 (by decide) (S.2.2.2.2 _ fl_M_26) (fun _ h9 => h9) rfl hin rfl (by decide +kernel) rfl rfl (Nat.le_of_ble_eq_true rfl) d_M_init_81 (fun H locs hP hD hS => ?_)
  have hP : va_P D cls [(o, .inr (2, [.ref xs, .ref (ad 8), .ref (ad 9), .ref (ad 10), .ref lk, .null, .int 0, .int 0])), (xs, .inl (cA, 11, .inr (.inr (.inr (.inr (fun i => some (ad i))))))), (ad 0, .inr (0, capL z0)), (ad 1, .inr (0, capL z0)), (ad 2, .inr (0, capL z0)), (ad 3, .inr (0, capL z0)), (ad 4, .inr (0, capL z0)), (ad 5, .inr (0, capL z0)), (ad 6, .inr (0, capL z0)), (ad 7, .inr (0, capL z0)), (ad 8, .inr (0, capL z0)), (ad 9, .inr (0, capL z0)), (ad 10, .inr (0, capL z0)), (lk, .inr (0, capL z0))] H := hP
  have hD : va_D A [(o, .inr (2, [.ref xs, .ref (ad 8), .ref (ad 9), .ref (ad 10), .ref lk, .null, .int 0, .int 0])), (xs, .inl (cA, 11, .inr (.inr (.inr (.inr (fun i => some (ad i))))))), (ad 0, .inr (0, capL z0)), (ad 1, .inr (0, capL z0)), (ad 2, .inr (0, capL z0)), (ad 3, .inr (0, capL z0)), (ad 4, .inr (0, capL z0)), (ad 5, .inr (0, capL z0)), (ad 6, .inr (0, capL z0)), (ad 7, .inr (0, capL z0)), (ad 8, .inr (0, capL z0)), (ad 9, .inr (0, capL z0)), (ad 10, .inr (0, capL z0)), (lk, .inr (0, capL z0))] := hD
  refine lv_aload_n hx hb d_M_init_84 rfl (lv_at hl 1 rfl) ?_
  refine va_new (ci := 1) (fs := [.null, .null]) (C := R_E) (T := F_E) (N := 2) hx hb S.2.2.2.2 in_E t_E t_E_ok S.2.2.2.1 (S.2.2.2.2 _ cl_E) (S.2.2.2.2 _ it_E) (S.2.2.2.2 _ mi_E.2.1) hK hP hD hS hA rfl (fun j hj => by rcases (show j = 0 ∨ j = 1 by omega) with rfl | rfl <;> rfl) (Nat.le_of_ble_eq_true rfl) (Nat.le_of_ble_eq_true rfl) d_M_init_85 (fun oE H hP hD hS => ?_)
  have hP : va_P D cls [(o, .inr (2, [.ref xs, .ref (ad 8), .ref (ad 9), .ref (ad 10), .ref lk, .null, .int 0, .int 0])), (xs, .inl (cA, 11, .inr (.inr (.inr (.inr (fun i => some (ad i))))))), (ad 0, .inr (0, capL z0)), (ad 1, .inr (0, capL z0)), (ad 2, .inr (0, capL z0)), (ad 3, .inr (0, capL z0)), (ad 4, .inr (0, capL z0)), (ad 5, .inr (0, capL z0)), (ad 6, .inr (0, capL z0)), (ad 7, .inr (0, capL z0)), (ad 8, .inr (0, capL z0)), (ad 9, .inr (0, capL z0)), (ad 10, .inr (0, capL z0)), (lk, .inr (0, capL z0)), (oE, .inr (1, [.null, .null]))] H := hP
  have hD : va_D A [(o, .inr (2, [.ref xs, .ref (ad 8), .ref (ad 9), .ref (ad 10), .ref lk, .null, .int 0, .int 0])), (xs, .inl (cA, 11, .inr (.inr (.inr (.inr (fun i => some (ad i))))))), (ad 0, .inr (0, capL z0)), (ad 1, .inr (0, capL z0)), (ad 2, .inr (0, capL z0)), (ad 3, .inr (0, capL z0)), (ad 4, .inr (0, capL z0)), (ad 5, .inr (0, capL z0)), (ad 6, .inr (0, capL z0)), (ad 7, .inr (0, capL z0)), (ad 8, .inr (0, capL z0)), (ad 9, .inr (0, capL z0)), (ad 10, .inr (0, capL z0)), (lk, .inr (0, capL z0)), (oE, .inr (1, [.null, .null]))] := hD
  refine lv_dup hx hb d_M_init_88 rfl ?_
  have hPc := hP.sub (ws' := [(oE, .inr (1, [.null, .null]))]) [14] rfl
  have hFc := va_free (wc := [(oE, .inr (1, [.null, .null]))]) hD hS hA [14] rfl
  refine va_callv (va_runIN (As := []) (rest := [.ref oE, .ref o]) (b := oE) (host := R_M) S (c_E_init l D oE H.size) ⟨va_cnB 0 S.2.2.2.2 (gi mi_E.1) rfl rfl rfl (hN _ ni_E) (S.2.2.2.2 _ mi_E.2.1) mi_E.2.2.2 ⟨Nat.le_of_ble_eq_true rfl, Nat.le_of_ble_eq_true rfl⟩, rfl, S.2.2.2.2 _ mi_E.2.2.1⟩ ⟨bl_I, pw_I hO (hK.sub (tys' := []) [] rfl) hN hPc⟩ rfl rfl hl.1 rfl (lv_room (Nat.le_of_ble_eq_true rfl)) d_M_init_89 ⟨Nat.le_of_ble_eq_true rfl, Nat.le_of_ble_eq_true rfl⟩) hS (fun q _ h => hFc q h) hFc (fun u t H1 locs ht hvm _ hB hz1 hk1 hS => ?_)
  obtain ⟨a, b, qa, qb, hK1, hP1, hD1⟩ := hB
  rw [ht] at hP1
  have hK1 := va_K.moved hvm.symm hK1
  obtain ⟨hP, hD⟩ := va_join (wr := [(o, .inr (2, [.ref xs, .ref (ad 8), .ref (ad 9), .ref (ad 10), .ref lk, .null, .int 0, .int 0])), (xs, .inl (cA, 11, .inr (.inr (.inr (.inr (fun i => some (ad i))))))), (ad 0, .inr (0, capL z0)), (ad 1, .inr (0, capL z0)), (ad 2, .inr (0, capL z0)), (ad 3, .inr (0, capL z0)), (ad 4, .inr (0, capL z0)), (ad 5, .inr (0, capL z0)), (ad 6, .inr (0, capL z0)), (ad 7, .inr (0, capL z0)), (ad 8, .inr (0, capL z0)), (ad 9, .inr (0, capL z0)), (ad 10, .inr (0, capL z0)), (lk, .inr (0, capL z0))]) hP hD [14] [0, 1, 2, 3, 4, 5, 6, 7, 8, 9, 10, 11, 12, 13] rfl rfl (by decide) (by decide) hk1 hFc hP1 hD1
  have hK := hK.app hK1
  generalize H1 = H at hP hS ⊢
  have hP : va_P D cls [(o, .inr (2, [.ref xs, .ref (ad 8), .ref (ad 9), .ref (ad 10), .ref lk, .null, .int 0, .int 0])), (xs, .inl (cA, 11, .inr (.inr (.inr (.inr (fun i => some (ad i))))))), (ad 0, .inr (0, capL z0)), (ad 1, .inr (0, capL z0)), (ad 2, .inr (0, capL z0)), (ad 3, .inr (0, capL z0)), (ad 4, .inr (0, capL z0)), (ad 5, .inr (0, capL z0)), (ad 6, .inr (0, capL z0)), (ad 7, .inr (0, capL z0)), (ad 8, .inr (0, capL z0)), (ad 9, .inr (0, capL z0)), (ad 10, .inr (0, capL z0)), (lk, .inr (0, capL z0)), (oE, .inr (1, [.ref a, .ref b])), (a, .inl (qa, 512, .inl (fun _ => 0))), (b, .inl (qb, 64, .inl (fun _ => b2i false)))] H := hP
  have hD : va_D A [(o, .inr (2, [.ref xs, .ref (ad 8), .ref (ad 9), .ref (ad 10), .ref lk, .null, .int 0, .int 0])), (xs, .inl (cA, 11, .inr (.inr (.inr (.inr (fun i => some (ad i))))))), (ad 0, .inr (0, capL z0)), (ad 1, .inr (0, capL z0)), (ad 2, .inr (0, capL z0)), (ad 3, .inr (0, capL z0)), (ad 4, .inr (0, capL z0)), (ad 5, .inr (0, capL z0)), (ad 6, .inr (0, capL z0)), (ad 7, .inr (0, capL z0)), (ad 8, .inr (0, capL z0)), (ad 9, .inr (0, capL z0)), (ad 10, .inr (0, capL z0)), (lk, .inr (0, capL z0)), (oE, .inr (1, [.ref a, .ref b])), (a, .inl (qa, 512, .inl (fun _ => 0))), (b, .inl (qb, 64, .inl (fun _ => b2i false)))] := hD
  refine va_putF (D := D) (ci := 2) (v := .ref oE) (ty := t_M 5) (C := R_M) (T := F_M) (N := 8) hx hb S.2.2.2.2 in_M t_M t_M_ok n_M S.2.2.2.1 hK hP hD hS 0 rfl rfl 5 (by decide) (S.2.2.2.2 _ fl_M_32) (fun _ h9 => h9) rfl hin rfl (by decide +kernel) rfl rfl (Nat.le_of_ble_eq_true rfl) d_M_init_92 (fun H locs hP hD hS => ?_)
  have hP : va_P D cls [(o, .inr (2, [.ref xs, .ref (ad 8), .ref (ad 9), .ref (ad 10), .ref lk, .ref oE, .int 0, .int 0])), (xs, .inl (cA, 11, .inr (.inr (.inr (.inr (fun i => some (ad i))))))), (ad 0, .inr (0, capL z0)), (ad 1, .inr (0, capL z0)), (ad 2, .inr (0, capL z0)), (ad 3, .inr (0, capL z0)), (ad 4, .inr (0, capL z0)), (ad 5, .inr (0, capL z0)), (ad 6, .inr (0, capL z0)), (ad 7, .inr (0, capL z0)), (ad 8, .inr (0, capL z0)), (ad 9, .inr (0, capL z0)), (ad 10, .inr (0, capL z0)), (lk, .inr (0, capL z0)), (oE, .inr (1, [.ref a, .ref b])), (a, .inl (qa, 512, .inl (fun _ => 0))), (b, .inl (qb, 64, .inl (fun _ => b2i false)))] H := hP
  have hD : va_D A [(o, .inr (2, [.ref xs, .ref (ad 8), .ref (ad 9), .ref (ad 10), .ref lk, .ref oE, .int 0, .int 0])), (xs, .inl (cA, 11, .inr (.inr (.inr (.inr (fun i => some (ad i))))))), (ad 0, .inr (0, capL z0)), (ad 1, .inr (0, capL z0)), (ad 2, .inr (0, capL z0)), (ad 3, .inr (0, capL z0)), (ad 4, .inr (0, capL z0)), (ad 5, .inr (0, capL z0)), (ad 6, .inr (0, capL z0)), (ad 7, .inr (0, capL z0)), (ad 8, .inr (0, capL z0)), (ad 9, .inr (0, capL z0)), (ad 10, .inr (0, capL z0)), (lk, .inr (0, capL z0)), (oE, .inr (1, [.ref a, .ref b])), (a, .inl (qa, 512, .inl (fun _ => 0))), (b, .inl (qb, 64, .inl (fun _ => b2i false)))] := hD
  obtain ⟨q, hq⟩ : ∃ q, q = selQ cA qa qb qb qb qb qb qb := ⟨_, rfl⟩
  obtain ⟨xa, hxa⟩ : ∃ xa, xa = sel9 o xs oE a b b b b b := ⟨_, rfl⟩
  obtain ⟨ad9, had⟩ : ∃ ad9, ad9 = va_up ad 11 lk := ⟨_, rfl⟩
  have ho : xa 0 = o := by rw [hxa]; rfl
  have hP := P_refs2 (g := fun i => some (ad9 i)) hP (fun i hi => by rw [had, va_up_ne _ _ (by omega)])
  have hP : va_P D cls (mW q xa ad9 0 0 (fun _ => 0) (fun _ => false) (fun _ => z0)) H := by rw [hq, hxa, had]; rw [had] at hP; exact hP.sub [0, 1, 14, 15, 16, 2, 3, 4, 5, 6, 7, 8, 9, 10, 11, 12, 13] rfl
  have hD : va_D A (mW q xa ad9 0 0 (fun _ => 0) (fun _ => false) (fun _ => z0)) := by rw [hq, hxa, had]; exact (D_map (ws' := [(o, .inr (2, [.ref xs, .ref (ad 8), .ref (ad 9), .ref (ad 10), .ref lk, .ref oE, .int 0, .int 0])), (xs, .inl (cA, 11, .inr (.inr (.inr (.inr (fun i => some (va_up ad 11 lk i))))))), (ad 0, .inr (0, capL z0)), (ad 1, .inr (0, capL z0)), (ad 2, .inr (0, capL z0)), (ad 3, .inr (0, capL z0)), (ad 4, .inr (0, capL z0)), (ad 5, .inr (0, capL z0)), (ad 6, .inr (0, capL z0)), (ad 7, .inr (0, capL z0)), (ad 8, .inr (0, capL z0)), (ad 9, .inr (0, capL z0)), (ad 10, .inr (0, capL z0)), (lk, .inr (0, capL z0)), (oE, .inr (1, [.ref a, .ref b])), (a, .inl (qa, 512, .inl (fun _ => 0))), (b, .inl (qb, 64, .inl (fun _ => b2i false)))]) hD rfl).sub [0, 1, 14, 15, 16, 2, 3, 4, 5, 6, 7, 8, 9, 10, 11, 12, 13] (by decide) rfl
  have hK : va_K D cls (tyM q) s := by rw [hq]; exact hK
  rw [← ho] at hl
  clear had
  generalize ad9 = ad at hP hD
  refine lv_aload_n hx hb d_M_init_95 rfl (lv_at hl 1 rfl) ?_
  refine m_get S hK hP 1 (by decide) fl_M_16 rfl d_M_init_96 ?_
  refine lv_iconst (v := (0 : Int32)) hx hb d_M_init_99 (by decide) ?_
  refine lv_sipush (v := (512 : Int32)) hx hb d_M_init_100 (by decide) ?_
  refine lv_iconst (v := (0 : Int32)) hx hb d_M_init_103 (by decide) ?_
  refine lv_sipush (v := (255 : Int32)) hx hb d_M_init_104 (by decide) ?_
  refine c_vN [] S (c_K_becomeGranted l _ _ _ _ _ _ _ _ _ A (mW_D hD) 8 (by decide) (0 : Int32) (512 : Int32) (0 : Int32) (255 : Int32)) mf_K_becomeGranted mn_M_36 hK hN hP hS (5 + 8) 0 (mW_get (by decide)) rfl ⟨rfl, rfl, Nat.le_of_ble_eq_true rfl, Nat.le_of_ble_eq_true rfl⟩ rfl hl.1 rfl (Nat.le_of_ble_eq_true rfl) d_M_init_107 ⟨Nat.le_of_ble_eq_true rfl, Nat.le_of_ble_eq_true rfl⟩ (fun H locs hP hS => ?_)
  refine lv_aload_n hx hb d_M_init_110 rfl (lv_at hl 1 rfl) ?_
  refine m_get S hK hP 0 (by decide) fl_M_11 rfl d_M_init_111 ?_
  refine lv_iconst (v := (1 : Int32)) hx hb d_M_init_114 (by decide) ?_
  refine s_ald S hK hP (in_k rfl) d_M_init_115 ?_
  refine lv_iconst (v := (0 : Int32)) hx hb d_M_init_116 (by decide) ?_
  refine lv_sipush (v := (512 : Int32)) hx hb d_M_init_117 (by decide) ?_
  refine lv_iconst (v := (0 : Int32)) hx hb d_M_init_120 (by decide) ?_
  refine lv_sipush (v := (255 : Int32)) hx hb d_M_init_121 (by decide) ?_
  refine c_vN [] S (c_K_becomeGranted l _ _ _ _ _ _ _ _ _ A (mW_D hD) ((1 : Int32).toNatClampNeg) (by decide) (0 : Int32) (512 : Int32) (0 : Int32) (255 : Int32)) mf_K_becomeGranted mn_M_36 hK hN hP hS (5 + ((1 : Int32).toNatClampNeg)) 0 (mW_get (by decide)) rfl ⟨rfl, rfl, Nat.le_of_ble_eq_true rfl, Nat.le_of_ble_eq_true rfl⟩ rfl hl.1 rfl (Nat.le_of_ble_eq_true rfl) d_M_init_124 ⟨Nat.le_of_ble_eq_true rfl, Nat.le_of_ble_eq_true rfl⟩ (fun H locs hP hS => ?_)
  refine lv_aload_n hx hb d_M_init_127 rfl (lv_at hl 1 rfl) ?_
  refine lv_iconst (v := (0 : Int32)) hx hb d_M_init_128 (by decide) ?_
  refine m_putS S hK hP (mW_D hD) hS fl_M_40 d_M_init_129 (fun H locs hP hS => ?_)
  refine lv_aload_n hx hb d_M_init_132 rfl (lv_at hl 1 rfl) ?_
  refine lv_iconst (v := (0 : Int32)) hx hb d_M_init_133 (by decide) ?_
  refine m_putC S hK hP (mW_D hD) hS fl_M_44 d_M_init_134 (fun H locs hP hS => ?_)
  exact W.vret hx hb hr (fun t ht hW => ⟨⟨(), rfl, trivial, q, xa, ad, ho, va_K.moved hW.alike hK, by rw [ht]; exact hP, mW_D hD⟩, hS.F ht⟩) hS.2.2 d_M_init_137 hlocks
