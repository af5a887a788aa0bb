def f_E_byteAt (fB : Nat → Int32) (xt : Int32) : Int32 :=
  (fB xt.toNatClampNeg) &&& (255 : Int32)
set_option maxHeartbeats 4000000 in
set_option maxRecDepth 100000 in
theorem c_E_byteAt (l : Launch) (D : va_G) (q : Nat → ClassId) (xa ad : Nat → Nat) (sS : Int32) (sC : Int32) (fB : Nat → Int32) (gT : Nat → Bool) (cK : Nat → Cp) (xt : Int32) (h0 : vp_in xt 512) : PMi l y_E_byteAt b_E_byteAt 2 (some .int) ({ frames := 0, cells := 0, slots := 0, locals := 0 }) [.ref (xa 2), .int xt] D (tyM q) (mW q xa ad sS sC fB gT cK) ((f_E_byteAt fB xt)) := by
  refine ofP (by decide) (Nat.le_of_ble_eq_true rfl) ?_
  intro p e s m below meth c ls S hr hlocks hK hN hP hl
  have hx := S.1
  have hb := S.2.1
  have hl : lv_has ls 2 [(0, .ref (xa 2)), (1, .int xt)] := hl
  refine lv_aload_n hx hb d_E_byteAt_0 rfl (lv_at hl 0 rfl) ?_
  refine e_get S hK hP 0 (by decide) fl_E_9 rfl d_E_byteAt_1 ?_
  refine lv_iload_n hx hb d_E_byteAt_4 rfl (lv_at hl 1 rfl) ?_
  refine b_ald S hK hP (by first | assumption | exact and7_in _) d_E_byteAt_5 ?_
  refine lv_sipush (v := (255 : Int32)) hx hb d_E_byteAt_6 (by decide) ?_
  refine lv_iand hx hb d_E_byteAt_9 ?_
  exact e_pi S hr hlocks (rfl : f_E_byteAt fB xt = (fB xt.toNatClampNeg) &&& (255 : Int32)).symm d_E_byteAt_10
def f_E_wordAt (fB : Nat → Int32) (xt : Int32) : Int32 :=
  (((f_E_byteAt fB xt) ||| ((f_E_byteAt fB (xt + (1 : Int32))) <<< ((8 : Int32) &&& 31))) ||| ((f_E_byteAt fB (xt + (2 : Int32))) <<< ((16 : Int32) &&& 31))) ||| ((f_E_byteAt fB (xt + (3 : Int32))) <<< ((24 : Int32) &&& 31))
set_option maxHeartbeats 4000000 in
set_option maxRecDepth 100000 in
theorem c_E_wordAt (l : Launch) (D : va_G) (q : Nat → ClassId) (xa ad : Nat → Nat) (sS : Int32) (sC : Int32) (fB : Nat → Int32) (gT : Nat → Bool) (cK : Nat → Cp) (xt : Int32) (h : Ar xt 4) : PMi l y_E_wordAt b_E_wordAt 2 (some .int) ({ frames := 1, cells := 0, slots := 0, locals := 21 }) [.ref (xa 2), .int xt] D (tyM q) (mW q xa ad sS sC fB gT cK) ((f_E_wordAt fB xt)) := by
  refine ofP (by decide) (Nat.le_of_ble_eq_true rfl) ?_
  intro p e s m below meth c ls S hr hlocks hK hN hP hl
  have hx := S.1
  have hb := S.2.1
  have hl : lv_has ls 2 [(0, .ref (xa 2)), (1, .int xt)] := hl
  have h0 := h.i0 (by decide)
  have h1 := h.i1 (by decide)
  have h2 := h.i2 (by decide)
  have h3 := h.i3 (by decide)
  refine lv_aload_n hx hb d_E_wordAt_0 rfl (lv_at hl 0 rfl) ?_
  refine lv_iload_n hx hb d_E_wordAt_1 rfl (lv_at hl 1 rfl) ?_
  refine c_pV [] S (c_E_byteAt l _ _ _ _ _ _ _ _ _ xt (by first | assumption | exact in_k rfl | decide)) mf_E_byteAt ml_E_19 hK hN hP 2 1 rfl rfl ⟨rfl, rfl, Nat.le_of_ble_eq_true rfl, Nat.le_of_ble_eq_true rfl⟩ rfl hl.1 rfl (Nat.le_of_ble_eq_true rfl) d_E_wordAt_2 ⟨Nat.zero_le _, Nat.zero_le _⟩ ?_
  refine lv_aload_n hx hb d_E_wordAt_5 rfl (lv_at hl 0 rfl) ?_
  refine lv_iload_n hx hb d_E_wordAt_6 rfl (lv_at hl 1 rfl) ?_
  refine lv_iconst (v := (1 : Int32)) hx hb d_E_wordAt_7 (by decide) ?_
  refine lv_iadd hx hb d_E_wordAt_8 ?_
  refine c_pV [.int (f_E_byteAt fB xt)] S (c_E_byteAt l _ _ _ _ _ _ _ _ _ (xt + (1 : Int32)) (by first | assumption | exact in_k rfl | decide)) mf_E_byteAt ml_E_19 hK hN hP 2 1 rfl rfl ⟨rfl, rfl, Nat.le_of_ble_eq_true rfl, Nat.le_of_ble_eq_true rfl⟩ rfl hl.1 rfl (Nat.le_of_ble_eq_true rfl) d_E_wordAt_9 ⟨Nat.zero_le _, Nat.zero_le _⟩ ?_
  refine lv_bipush (v := (8 : Int32)) hx hb d_E_wordAt_12 (by decide) ?_
  refine lv_ishl hx hb d_E_wordAt_14 ?_
  refine lv_ior hx hb d_E_wordAt_15 ?_
  refine lv_aload_n hx hb d_E_wordAt_16 rfl (lv_at hl 0 rfl) ?_
  refine lv_iload_n hx hb d_E_wordAt_17 rfl (lv_at hl 1 rfl) ?_
  refine lv_iconst (v := (2 : Int32)) hx hb d_E_wordAt_18 (by decide) ?_
  refine lv_iadd hx hb d_E_wordAt_19 ?_
  refine c_pV [.int ((f_E_byteAt fB xt) ||| ((f_E_byteAt fB (xt + (1 : Int32))) <<< ((8 : Int32) &&& 31)))] S (c_E_byteAt l _ _ _ _ _ _ _ _ _ (xt + (2 : Int32)) (by first | assumption | exact in_k rfl | decide)) mf_E_byteAt ml_E_19 hK hN hP 2 1 rfl rfl ⟨rfl, rfl, Nat.le_of_ble_eq_true rfl, Nat.le_of_ble_eq_true rfl⟩ rfl hl.1 rfl (Nat.le_of_ble_eq_true rfl) d_E_wordAt_20 ⟨Nat.zero_le _, Nat.zero_le _⟩ ?_
  refine lv_bipush (v := (16 : Int32)) hx hb d_E_wordAt_23 (by decide) ?_
  refine lv_ishl hx hb d_E_wordAt_25 ?_
  refine lv_ior hx hb d_E_wordAt_26 ?_
  refine lv_aload_n hx hb d_E_wordAt_27 rfl (lv_at hl 0 rfl) ?_
  refine lv_iload_n hx hb d_E_wordAt_28 rfl (lv_at hl 1 rfl) ?_
  refine lv_iconst (v := (3 : Int32)) hx hb d_E_wordAt_29 (by decide) ?_
  refine lv_iadd hx hb d_E_wordAt_30 ?_
  refine c_pV [.int (((f_E_byteAt fB xt) ||| ((f_E_byteAt fB (xt + (1 : Int32))) <<< ((8 : Int32) &&& 31))) ||| ((f_E_byteAt fB (xt + (2 : Int32))) <<< ((16 : Int32) &&& 31)))] S (c_E_byteAt l _ _ _ _ _ _ _ _ _ (xt + (3 : Int32)) (by first | assumption | exact in_k rfl | decide)) mf_E_byteAt ml_E_19 hK hN hP 2 1 rfl rfl ⟨rfl, rfl, Nat.le_of_ble_eq_true rfl, Nat.le_of_ble_eq_true rfl⟩ rfl hl.1 rfl (Nat.le_of_ble_eq_true rfl) d_E_wordAt_31 ⟨Nat.zero_le _, Nat.zero_le _⟩ ?_
  refine lv_bipush (v := (24 : Int32)) hx hb d_E_wordAt_34 (by decide) ?_
  refine lv_ishl hx hb d_E_wordAt_36 ?_
  refine lv_ior hx hb d_E_wordAt_37 ?_
  exact e_pi S hr hlocks (rfl : f_E_wordAt fB xt = (((f_E_byteAt fB xt) ||| ((f_E_byteAt fB (xt + (1 : Int32))) <<< ((8 : Int32) &&& 31))) ||| ((f_E_byteAt fB (xt + (2 : Int32))) <<< ((16 : Int32) &&& 31))) ||| ((f_E_byteAt fB (xt + (3 : Int32))) <<< ((24 : Int32) &&& 31))).symm d_E_wordAt_38
def g_E_store (xt wd : Int32) : Nat → Int32 → (Nat → Int32) → (Nat → Bool) → (Nat → Int32) × (Nat → Bool)
  | 0, _, f, g => (f, g)
  | n + 1, k, f, g => g_E_store xt wd n (k + 1) (upd f (xt + k).toNatClampNeg ((wd.toUInt32 >>> (((8 : Int32) * k).toUInt32 &&& Int32.toUInt32 31)).toInt32.toInt8.toInt32)) (va_up g ((xt + k) / (8 : Int32)).toNatClampNeg false)
def f_E_store (fB : Nat → Int32) (gT : Nat → Bool) (xt wd ct : Int32) : (Nat → Int32) × (Nat → Bool) := g_E_store xt wd ct.toNatClampNeg 0 fB gT
set_option maxHeartbeats 4000000 in
set_option maxRecDepth 100000 in
theorem lp_E_store {p : Program} {l : Launch} {e : Env} {R : Room} {s : State} {m : MethodId} {args : Array Value} {below : List Frame} {meth : Method} {c : Code} {Q : State → Prop} {D : va_G} {q : Nat → ClassId} {xa ad : Nat → Nat} {sS : Int32} {sC : Int32} {cK : Nat → Cp} {A : Nat → Prop} {f0 : Nat → Int32} {g0 : Nat → Bool} (S : CallFix p m c b_E_store 5 s args TB R_E) (hK : va_K D cls (tyM q) s) (hD : va_D A (mW q xa ad sS sC f0 g0 cK)) (xt wd ct : Int32) (hs : As xt ct) (W0 : (Nat → Int32) × (Nat → Bool))
    (ex : ∀ (H : Heap) (locs : List Loc) (ls : Array Slot), va_P D cls (mW q xa ad sS sC W0.1 W0.2 cK) H → va_S A s.heap H locs → W p l e R s m args below meth c H locs 0 0 Q (F0 m 45 ls [])) :
    ∀ (n : Nat) (k : Int32) (fB : Nat → Int32) (gT : Nat → Bool) (H : Heap) (locs : List Loc) (ls : Array Slot), 0 ≤ k.toInt → k.toInt + (n : Int) = ct.toInt → g_E_store xt wd n k fB gT = W0 → va_P D cls (mW q xa ad sS sC fB gT cK) H → va_S A s.heap H locs → lv_has ls 5 [(4, .int k), (0, .ref (xa 2)), (1, .int xt), (2, .int wd), (3, .int ct)] → W p l e R s m args below meth c H locs 0 0 Q (F0 m 3 ls []) := by
  have hx := S.1
  have hb := S.2.1
  obtain ⟨hs1, hs2, hs3⟩ := hs
  intro n
  induction n with
  | zero =>
    intro k fB gT H locs ls h0 hk hF hP hS hl
    refine lv_iload hx hb d_E_store_3 (lv_at hl 0 rfl) ?_
    refine lv_iload_n hx hb d_E_store_5 rfl (lv_at hl 4 rfl) ?_
    refine lv_icmp_ge (tgt := 45) hx hb d_E_store_6 rfl (fun _ => ?_) (fun h => ?_)
    · exact ex H locs ls (by rw [← hF]; exact hP) hS
    · exact absurd (Int32.le_iff_toInt_le.mpr (by omega)) h
  | succ n ih =>
    intro k fB gT H locs ls h0 hk hF hP hS hl
    have e1 := ad_s (x := xt) (y := k) (by omega) (by omega)
    have hin : vp_in (xt + k) 512 := vp_in_iff.mpr ⟨by omega, by omega⟩
    have hin2 : vp_in ((xt + k) / (8 : Int32)) 64 := dv_in hin
    refine lv_iload hx hb d_E_store_3 (lv_at hl 0 rfl) ?_
    refine lv_iload_n hx hb d_E_store_5 rfl (lv_at hl 4 rfl) ?_
    refine lv_icmp_ge (tgt := 45) hx hb d_E_store_6 rfl (fun h => ?_) (fun h => ?_)
    · exact absurd (Int32.le_iff_toInt_le.mp h) (by omega)
    · refine lv_aload_n hx hb d_E_store_9 rfl (lv_at hl 1 rfl) ?_
      refine e_get S hK hP 0 (by decide) fl_E_9 rfl d_E_store_10 ?_
      refine lv_iload_n hx hb d_E_store_13 rfl (lv_at hl 2 rfl) ?_
      refine lv_iload hx hb d_E_store_14 (lv_at hl 0 rfl) ?_
      refine lv_iadd hx hb d_E_store_16 ?_
      refine lv_iload_n hx hb d_E_store_17 rfl (lv_at hl 3 rfl) ?_
      refine lv_bipush (v := (8 : Int32)) hx hb d_E_store_18 (by decide) ?_
      refine lv_iload hx hb d_E_store_20 (lv_at hl 0 rfl) ?_
      refine lv_imul hx hb d_E_store_22 ?_
      refine lv_iushr (v := (wd.toUInt32 >>> (((8 : Int32) * k).toUInt32 &&& Int32.toUInt32 31)).toInt32) hx hb d_E_store_23 rfl ?_
      refine lv_i2b (v := ((wd.toUInt32 >>> (((8 : Int32) * k).toUInt32 &&& Int32.toUInt32 31)).toInt32).toInt8.toInt32) hx hb d_E_store_24 rfl ?_
      refine b_ast S hK hP (mW_D hD) hS (by first | assumption | exact and7_in _) d_E_store_25 (fun H locs hP hS => ?_)
      refine lv_aload_n hx hb d_E_store_26 rfl (lv_at hl 1 rfl) ?_
      refine e_get S hK hP 1 (by decide) fl_E_15 rfl d_E_store_27 ?_
      refine lv_iload_n hx hb d_E_store_30 rfl (lv_at hl 2 rfl) ?_
      refine lv_iload hx hb d_E_store_31 (lv_at hl 0 rfl) ?_
      refine lv_iadd hx hb d_E_store_33 ?_
      refine lv_bipush (v := (8 : Int32)) hx hb d_E_store_34 (by decide) ?_
      refine lv_idiv hx hb d_E_store_36 (by decide) ?_
      refine lv_iconst (v := (0 : Int32)) hx hb d_E_store_37 (by decide) ?_
      refine t_ast (z := false) S hK hP (mW_D hD) hS (by first | assumption | exact and7_in _) d_E_store_38 (fun H locs hP hS => ?_)
      refine lv_iinc (k := 0) (v := k + 1) (lv' := [(4, .int (k + 1)), (0, .ref (xa 2)), (1, .int xt), (2, .int wd), (3, .int ct)]) hx hb d_E_store_39 hl rfl (congrArg (k + ·) (by decide)) (by decide) rfl (fun ls hl => ?_)
      refine lv_goto (tgt := 3) hx hb d_E_store_42 rfl ?_
      have e2 : (k + 1).toInt = k.toInt + 1 := by
        have e1' : (1 : Int32).toInt = 1 := by decide
        have hc := Int32.toInt_lt ct
        exact (ad_s (x := k) (y := 1) (by omega) (by omega)).trans (by omega)
      exact ih (k + 1) _ _ _ _ _ (by omega) (by omega) hF hP hS hl
set_option maxHeartbeats 4000000 in
set_option maxRecDepth 100000 in
theorem c_E_store (l : Launch) (D : va_G) (q : Nat → ClassId) (xa ad : Nat → Nat) (sS : Int32) (sC : Int32) (fB : Nat → Int32) (gT : Nat → Bool) (cK : Nat → Cp) (A : Nat → Prop) (hD : va_D A (mW q xa ad sS sC fB gT cK)) (xt wd ct : Int32) (hs : As xt ct) : WMv l y_E_store b_E_store 5 none ({ frames := 0, cells := 0, slots := 0, locals := 0 }) [.ref (xa 2), .int xt, .int wd, .int ct] D (tyM q) (mW q xa ad sS sC fB gT cK) (mW q xa ad sS sC (f_E_store fB gT xt wd ct).1 (f_E_store fB gT xt wd ct).2 cK) A := by
  refine ofV (by decide) (Nat.le_of_ble_eq_true rfl) ?_
  intro p e s m below meth c ls S hr hlocks hK hN hP hl
  have hx := S.1
  have hb := S.2.1
  have hS : va_S A s.heap s.heap [] := va_S.rf
  have hl : lv_has ls 5 [(0, .ref (xa 2)), (1, .int xt), (2, .int wd), (3, .int ct)] := hl
  refine lv_iconst (v := (0 : Int32)) hx hb d_E_store_0 (by decide) ?_
  refine lv_istore (lv' := [(4, .int 0), (0, .ref (xa 2)), (1, .int xt), (2, .int wd), (3, .int ct)]) hx hb d_E_store_1 hl (by decide) rfl (fun ls hl => ?_)
  have h2 := hs.2.1
  have hc : ct.toNatClampNeg = ct.toInt.toNat := rfl
  have e0 : (0 : Int32).toInt = 0 := by decide
  exact lp_E_store S hK hD xt wd ct hs (f_E_store fB gT xt wd ct) (fun H locs ls hP hS => e_wv S hr hlocks hP hS rfl d_E_store_45) ct.toNatClampNeg 0 fB gT _ _ ls (by omega) (by omega) rfl hP hS hl
def f_E_loadCapability (fB : Nat → Int32) (gT : Nat → Bool) (cK : Nat → Cp) (xt : Int32) (j0 : Nat) : (Nat → Cp) :=
  (f_K_becomeUnpacked cK j0 (gT ((xt / (8 : Int32)).toNatClampNeg)) (f_E_wordAt fB xt) (f_E_wordAt fB (xt + (4 : Int32))))
set_option maxHeartbeats 4000000 in
set_option maxRecDepth 100000 in
theorem c_E_loadCapability (l : Launch) (D : va_G) (q : Nat → ClassId) (xa ad : Nat → Nat) (sS : Int32) (sC : Int32) (fB : Nat → Int32) (gT : Nat → Bool) (cK : Nat → Cp) (A : Nat → Prop) (hD : va_D A (mW q xa ad sS sC fB gT cK)) (xt : Int32) (j0 : Nat) (hj0 : j0 < 12) (h : Ar xt 8) : WMv l y_E_loadCapability b_E_loadCapability 3 none ({ frames := 2, cells := 0, slots := 0, locals := 42 }) [.ref (xa 2), .int xt, .ref (ad j0)] D (tyM q) (mW q xa ad sS sC fB gT cK) (mW q xa ad sS sC fB gT (f_E_loadCapability fB gT cK xt j0)) A := by
  refine ofV (by decide) (Nat.le_of_ble_eq_true rfl) ?_
  intro p e s m below meth c ls S hr hlocks hK hN hP hl
  have hx := S.1
  have hb := S.2.1
  have hS : va_S A s.heap s.heap [] := va_S.rf
  have hl : lv_has ls 3 [(0, .ref (xa 2)), (1, .int xt), (2, .ref (ad j0))] := hl
  have h0 := h.lo
  have h1 := h.hi
  have h2 := h.dv (by decide)
  refine lv_aload_n hx hb d_E_loadCapability_0 rfl (lv_at hl 2 rfl) ?_
  refine lv_aload_n hx hb d_E_loadCapability_1 rfl (lv_at hl 0 rfl) ?_
  refine e_get S hK hP 1 (by decide) fl_E_15 rfl d_E_loadCapability_2 ?_
  refine lv_iload_n hx hb d_E_loadCapability_5 rfl (lv_at hl 1 rfl) ?_
  refine lv_bipush (v := (8 : Int32)) hx hb d_E_loadCapability_6 (by decide) ?_
  refine lv_idiv hx hb d_E_loadCapability_8 (by decide) ?_
  refine t_ald S hK hP (by first | assumption | exact and7_in _) d_E_loadCapability_9 ?_
  refine lv_aload_n hx hb d_E_loadCapability_10 rfl (lv_at hl 0 rfl) ?_
  refine lv_iload_n hx hb d_E_loadCapability_11 rfl (lv_at hl 1 rfl) ?_
  refine c_pV [.int (b2i (gT ((xt / (8 : Int32)).toNatClampNeg))), .ref (ad j0)] S (c_E_wordAt l _ _ _ _ _ _ _ _ _ xt (by first | assumption | exact in_k rfl | decide)) mf_E_wordAt ml_E_23 hK hN hP 2 1 rfl rfl ⟨rfl, rfl, Nat.le_of_ble_eq_true rfl, Nat.le_of_ble_eq_true rfl⟩ rfl hl.1 rfl (Nat.le_of_ble_eq_true rfl) d_E_loadCapability_12 ⟨Nat.zero_le _, Nat.zero_le _⟩ ?_
  refine lv_aload_n hx hb d_E_loadCapability_15 rfl (lv_at hl 0 rfl) ?_
  refine lv_iload_n hx hb d_E_loadCapability_16 rfl (lv_at hl 1 rfl) ?_
  refine lv_iconst (v := (4 : Int32)) hx hb d_E_loadCapability_17 (by decide) ?_
  refine lv_iadd hx hb d_E_loadCapability_18 ?_
  refine c_pV [.int (f_E_wordAt fB xt), .int (b2i (gT ((xt / (8 : Int32)).toNatClampNeg))), .ref (ad j0)] S (c_E_wordAt l _ _ _ _ _ _ _ _ _ (xt + (4 : Int32)) (by first | assumption | exact in_k rfl | decide)) mf_E_wordAt ml_E_23 hK hN hP 2 1 rfl rfl ⟨rfl, rfl, Nat.le_of_ble_eq_true rfl, Nat.le_of_ble_eq_true rfl⟩ rfl hl.1 rfl (Nat.le_of_ble_eq_true rfl) d_E_loadCapability_19 ⟨Nat.zero_le _, Nat.zero_le _⟩ ?_
  refine c_vN [] S (c_K_becomeUnpacked l _ _ _ _ _ _ _ _ _ A (mW_D hD) j0 (by first | assumption | exact and7_lt _) (gT ((xt / (8 : Int32)).toNatClampNeg)) (f_E_wordAt fB xt) (f_E_wordAt fB (xt + (4 : Int32)))) mf_K_becomeUnpacked mn_E_26 hK hN hP hS (5 + j0) 0 (mW_get (by first | assumption | exact and7_lt _)) rfl ⟨rfl, rfl, Nat.le_of_ble_eq_true rfl, Nat.le_of_ble_eq_true rfl⟩ rfl hl.1 rfl (Nat.le_of_ble_eq_true rfl) d_E_loadCapability_22 ⟨Nat.zero_le _, Nat.zero_le _⟩ (fun H locs hP hS => ?_)
  have hF : f_E_loadCapability fB gT cK xt j0 = (f_K_becomeUnpacked cK j0 (gT ((xt / (8 : Int32)).toNatClampNeg)) (f_E_wordAt fB xt) (f_E_wordAt fB (xt + (4 : Int32)))) := rfl
  exact e_wv S hr hlocks hP hS (congrArg (fun z => mW q xa ad sS sC fB gT z) hF.symm) d_E_loadCapability_25
def f_E_storeCapability (fB : Nat → Int32) (gT : Nat → Bool) (cK : Nat → Cp) (xt : Int32) (j0 : Nat) : (Nat → Int32) × (Nat → Bool) :=
  ((f_E_store ((f_E_store fB gT xt (k_a (cK j0)) (4 : Int32)).1) ((f_E_store fB gT xt (k_a (cK j0)) (4 : Int32)).2) (xt + (4 : Int32)) (f_K_packed cK j0) (4 : Int32)).1, va_up ((f_E_store ((f_E_store fB gT xt (k_a (cK j0)) (4 : Int32)).1) ((f_E_store fB gT xt (k_a (cK j0)) (4 : Int32)).2) (xt + (4 : Int32)) (f_K_packed cK j0) (4 : Int32)).2) ((xt / (8 : Int32)).toNatClampNeg) (k_v (cK j0)))
set_option maxHeartbeats 4000000 in
set_option maxRecDepth 100000 in
theorem c_E_storeCapability (l : Launch) (D : va_G) (q : Nat → ClassId) (xa ad : Nat → Nat) (sS : Int32) (sC : Int32) (fB : Nat → Int32) (gT : Nat → Bool) (cK : Nat → Cp) (A : Nat → Prop) (hD : va_D A (mW q xa ad sS sC fB gT cK)) (xt : Int32) (j0 : Nat) (hj0 : j0 < 12) (h : Ar xt 8) : WMv l y_E_storeCapability b_E_storeCapability 3 none ({ frames := 1, cells := 0, slots := 0, locals := 24 }) [.ref (xa 2), .int xt, .ref (ad j0)] D (tyM q) (mW q xa ad sS sC fB gT cK) (mW q xa ad sS sC ((f_E_storeCapability fB gT cK xt j0).1) ((f_E_storeCapability fB gT cK xt j0).2) cK) A := by
  refine ofV (by decide) (Nat.le_of_ble_eq_true rfl) ?_
  intro p e s m below meth c ls S hr hlocks hK hN hP hl
  have hx := S.1
  have hb := S.2.1
  have hS : va_S A s.heap s.heap [] := va_S.rf
  have hl : lv_has ls 3 [(0, .ref (xa 2)), (1, .int xt), (2, .ref (ad j0))] := hl
  have h0 := h.lo
  have h1 := h.hi
  have h2 := h.dv (by decide)
  have h3 := h0.a4
  have h4 := h1.a4
  refine lv_aload_n hx hb d_E_storeCapability_0 rfl (lv_at hl 0 rfl) ?_
  refine lv_iload_n hx hb d_E_storeCapability_1 rfl (lv_at hl 1 rfl) ?_
  refine lv_aload_n hx hb d_E_storeCapability_2 rfl (lv_at hl 2 rfl) ?_
  refine k_getN (v := .int (k_a (cK j0))) S hK hP (by first | assumption | exact and7_lt _) 5 (by decide) hN fn_E_32 rfl d_E_storeCapability_3 ?_
  refine lv_iconst (v := (4 : Int32)) hx hb d_E_storeCapability_6 (by decide) ?_
  refine c_vV [] S (c_E_store l _ _ _ _ _ _ _ _ _ A (mW_D hD) xt (k_a (cK j0)) (4 : Int32) (by first | assumption | exact in_k rfl | decide)) mf_E_store ml_E_36 hK hN hP hS 2 1 rfl rfl ⟨rfl, rfl, Nat.le_of_ble_eq_true rfl, Nat.le_of_ble_eq_true rfl⟩ rfl hl.1 rfl (Nat.le_of_ble_eq_true rfl) d_E_storeCapability_7 ⟨Nat.zero_le _, Nat.zero_le _⟩ (fun H locs hP hS => ?_)
  refine lv_aload_n hx hb d_E_storeCapability_10 rfl (lv_at hl 0 rfl) ?_
  refine lv_iload_n hx hb d_E_storeCapability_11 rfl (lv_at hl 1 rfl) ?_
  refine lv_iconst (v := (4 : Int32)) hx hb d_E_storeCapability_12 (by decide) ?_
  refine lv_iadd hx hb d_E_storeCapability_13 ?_
  refine lv_aload_n hx hb d_E_storeCapability_14 rfl (lv_at hl 2 rfl) ?_
  refine c_pN [.int (xt + (4 : Int32)), .ref (xa 2)] S (c_K_packed l _ _ _ _ _ _ _ _ _ j0 (by first | assumption | exact and7_lt _)) mf_K_packed mn_E_40 hK hN hP (5 + j0) 0 (mW_get (by first | assumption | exact and7_lt _)) rfl ⟨rfl, rfl, Nat.le_of_ble_eq_true rfl, Nat.le_of_ble_eq_true rfl⟩ rfl hl.1 rfl (Nat.le_of_ble_eq_true rfl) d_E_storeCapability_15 ⟨Nat.zero_le _, Nat.zero_le _⟩ ?_
  refine lv_iconst (v := (4 : Int32)) hx hb d_E_storeCapability_18 (by decide) ?_
  refine c_vV [] S (c_E_store l _ _ _ _ _ _ _ _ _ A (mW_D hD) (xt + (4 : Int32)) (f_K_packed cK j0) (4 : Int32) (by first | assumption | exact in_k rfl | decide)) mf_E_store ml_E_36 hK hN hP hS 2 1 rfl rfl ⟨rfl, rfl, Nat.le_of_ble_eq_true rfl, Nat.le_of_ble_eq_true rfl⟩ rfl hl.1 rfl (Nat.le_of_ble_eq_true rfl) d_E_storeCapability_19 ⟨Nat.zero_le _, Nat.zero_le _⟩ (fun H locs hP hS => ?_)
  refine lv_aload_n hx hb d_E_storeCapability_22 rfl (lv_at hl 0 rfl) ?_
  refine e_get S hK hP 1 (by decide) fl_E_15 rfl d_E_storeCapability_23 ?_
  refine lv_iload_n hx hb d_E_storeCapability_26 rfl (lv_at hl 1 rfl) ?_
  refine lv_bipush (v := (8 : Int32)) hx hb d_E_storeCapability_27 (by decide) ?_
  refine lv_idiv hx hb d_E_storeCapability_29 (by decide) ?_
  refine lv_aload_n hx hb d_E_storeCapability_30 rfl (lv_at hl 2 rfl) ?_
  refine k_getN (v := .int (b2i (k_v (cK j0)))) S hK hP (by first | assumption | exact and7_lt _) 0 (by decide) hN fn_E_44 rfl d_E_storeCapability_31 ?_
  refine t_ast (z := k_v (cK j0)) S hK hP (mW_D hD) hS (by first | assumption | exact and7_in _) d_E_storeCapability_34 (fun H locs hP hS => ?_)
  have hF : f_E_storeCapability fB gT cK xt j0 = ((f_E_store ((f_E_store fB gT xt (k_a (cK j0)) (4 : Int32)).1) ((f_E_store fB gT xt (k_a (cK j0)) (4 : Int32)).2) (xt + (4 : Int32)) (f_K_packed cK j0) (4 : Int32)).1, va_up ((f_E_store ((f_E_store fB gT xt (k_a (cK j0)) (4 : Int32)).1) ((f_E_store fB gT xt (k_a (cK j0)) (4 : Int32)).2) (xt + (4 : Int32)) (f_K_packed cK j0) (4 : Int32)).2) ((xt / (8 : Int32)).toNatClampNeg) (k_v (cK j0))) := rfl
  exact e_wv S hr hlocks hP hS (congrArg (fun z => mW q xa ad sS sC z.1 z.2 cK) hF.symm) d_E_storeCapability_35
