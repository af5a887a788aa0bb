def f_M_state (sS : Int32) : Int32 :=
  sS
set_option maxHeartbeats 4000000 in
set_option maxRecDepth 100000 in
theorem c_M_state (l : Launch) (D : va_G) (q : Nat → ClassId) (xa ad : Nat → Nat) (sS : Int32) (sC : Int32) (fB : Nat → Int32) (gT : Nat → Bool) (cK : Nat → Cp) : PMi l y_M_state b_M_state 1 (some .int) ({ frames := 0, cells := 0, slots := 0, locals := 0 }) [.ref (xa 0)] D (tyM q) (mW q xa ad sS sC fB gT cK) ((f_M_state sS)) := by
  refine ofP (by decide) (Nat.le_of_ble_eq_true rfl) ?_
  intro p e s m below meth c ls S hr hlocks hK hN hP hl
  have hx := S.1
  have hb := S.2.1
  have hl : lv_has ls 1 [(0, .ref (xa 0))] := hl
  refine lv_aload_n hx hb d_M_state_0 rfl (lv_at hl 0 rfl) ?_
  refine m_get S hK hP 6 (by decide) fl_M_40 rfl d_M_state_1 ?_
  exact e_pi S hr hlocks (rfl : f_M_state sS = sS).symm d_M_state_4
def f_M_cause (sC : Int32) : Int32 :=
  sC
set_option maxHeartbeats 4000000 in
set_option maxRecDepth 100000 in
theorem c_M_cause (l : Launch) (D : va_G) (q : Nat → ClassId) (xa ad : Nat → Nat) (sS : Int32) (sC : Int32) (fB : Nat → Int32) (gT : Nat → Bool) (cK : Nat → Cp) : PMi l y_M_cause b_M_cause 1 (some .int) ({ frames := 0, cells := 0, slots := 0, locals := 0 }) [.ref (xa 0)] D (tyM q) (mW q xa ad sS sC fB gT cK) ((f_M_cause sC)) := by
  refine ofP (by decide) (Nat.le_of_ble_eq_true rfl) ?_
  intro p e s m below meth c ls S hr hlocks hK hN hP hl
  have hx := S.1
  have hb := S.2.1
  have hl : lv_has ls 1 [(0, .ref (xa 0))] := hl
  refine lv_aload_n hx hb d_M_cause_0 rfl (lv_at hl 0 rfl) ?_
  refine m_get S hK hP 7 (by decide) fl_M_44 rfl d_M_cause_1 ?_
  exact e_pi S hr hlocks (rfl : f_M_cause sC = sC).symm d_M_cause_4
def f_M_number (cK : Nat → Cp) (j1 : Nat) (nu : Int32) : Int32 × (Nat → Cp) :=
  ((0 : Int32), (f_K_becomeNumber cK j1 nu))
set_option maxHeartbeats 4000000 in
set_option maxRecDepth 100000 in
theorem c_M_number (l : Launch) (D : va_G) (q : Nat → ClassId) (xa ad : Nat → Nat) (sS : Int32) (sC : Int32) (fB : Nat → Int32) (gT : Nat → Bool) (cK : Nat → Cp) (A : Nat → Prop) (hD : va_D A (mW q xa ad sS sC fB gT cK)) (j1 : Nat) (hj1 : j1 < 12) (nu : Int32) : WMi l y_M_number b_M_number 2 (some .int) ({ frames := 1, cells := 0, slots := 0, locals := 21 }) [.ref (ad j1), .int nu] D (tyM q) (mW q xa ad sS sC fB gT cK) (mW q xa ad sS sC fB gT ((f_M_number cK j1 nu).2)) A (((f_M_number cK j1 nu).1)) := by
  refine ofI (by decide) (Nat.le_of_ble_eq_true rfl) ?_
  intro p e s m below meth c ls S hr hlocks hK hN hP hl
  have hx := S.1
  have hb := S.2.1
  have hS : va_S A s.heap s.heap [] := va_S.rf
  have hl : lv_has ls 2 [(0, .ref (ad j1)), (1, .int nu)] := hl
  refine lv_aload_n hx hb d_M_number_0 rfl (lv_at hl 0 rfl) ?_
  refine lv_iload_n hx hb d_M_number_1 rfl (lv_at hl 1 rfl) ?_
  refine c_vN [] S (c_K_becomeNumber l _ _ _ _ _ _ _ _ _ A (mW_D hD) j1 (by first | assumption | exact and7_lt _) nu) mf_K_becomeNumber mn_M_102 hK hN hP hS (5 + j1) 0 (mW_get (by first | assumption | exact and7_lt _)) rfl ⟨rfl, rfl, Nat.le_of_ble_eq_true rfl, Nat.le_of_ble_eq_true rfl⟩ rfl hl.1 rfl (Nat.le_of_ble_eq_true rfl) d_M_number_2 ⟨Nat.zero_le _, Nat.zero_le _⟩ (fun H locs hP hS => ?_)
  refine lv_iconst (v := (0 : Int32)) hx hb d_M_number_5 (by decide) ?_
  have hF : f_M_number cK j1 nu = ((0 : Int32), (f_K_becomeNumber cK j1 nu)) := rfl
  exact e_wi S hr hlocks hP hS (congrArg (fun z => z.1) hF.symm) (congrArg (fun z => mW q xa ad sS sC fB gT z.2) hF.symm) d_M_number_6
def f_M_copy (cK : Nat → Cp) (j1 : Nat) (j2 : Nat) : Int32 × (Nat → Cp) :=
  ((0 : Int32), (f_K_become cK j1 j2))
set_option maxHeartbeats 4000000 in
set_option maxRecDepth 100000 in
theorem c_M_copy (l : Launch) (D : va_G) (q : Nat → ClassId) (xa ad : Nat → Nat) (sS : Int32) (sC : Int32) (fB : Nat → Int32) (gT : Nat → Bool) (cK : Nat → Cp) (A : Nat → Prop) (hD : va_D A (mW q xa ad sS sC fB gT cK)) (j1 : Nat) (hj1 : j1 < 12) (j2 : Nat) (hj2 : j2 < 12) : WMi l y_M_copy b_M_copy 2 (some .int) ({ frames := 1, cells := 0, slots := 0, locals := 21 }) [.ref (ad j1), .ref (ad j2)] D (tyM q) (mW q xa ad sS sC fB gT cK) (mW q xa ad sS sC fB gT ((f_M_copy cK j1 j2).2)) A (((f_M_copy cK j1 j2).1)) := by
  refine ofI (by decide) (Nat.le_of_ble_eq_true rfl) ?_
  intro p e s m below meth c ls S hr hlocks hK hN hP hl
  have hx := S.1
  have hb := S.2.1
  have hS : va_S A s.heap s.heap [] := va_S.rf
  have hl : lv_has ls 2 [(0, .ref (ad j1)), (1, .ref (ad j2))] := hl
  refine lv_aload_n hx hb d_M_copy_0 rfl (lv_at hl 0 rfl) ?_
  refine lv_aload_n hx hb d_M_copy_1 rfl (lv_at hl 1 rfl) ?_
  refine c_vN [] S (c_K_become l _ _ _ _ _ _ _ _ _ A (mW_D hD) j1 (by first | assumption | exact and7_lt _) j2 (by first | assumption | exact and7_lt _)) mf_K_become mn_M_79 hK hN hP hS (5 + j1) 0 (mW_get (by first | assumption | exact and7_lt _)) rfl ⟨rfl, rfl, Nat.le_of_ble_eq_true rfl, Nat.le_of_ble_eq_true rfl⟩ rfl hl.1 rfl (Nat.le_of_ble_eq_true rfl) d_M_copy_2 ⟨Nat.zero_le _, Nat.zero_le _⟩ (fun H locs hP hS => ?_)
  refine lv_iconst (v := (0 : Int32)) hx hb d_M_copy_5 (by decide) ?_
  have hF : f_M_copy cK j1 j2 = ((0 : Int32), (f_K_become cK j1 j2)) := rfl
  exact e_wi S hr hlocks hP hS (congrArg (fun z => z.1) hF.symm) (congrArg (fun z => mW q xa ad sS sC fB gT z.2) hF.symm) d_M_copy_6
def f_M_withoutTag (cK : Nat → Cp) (j1 : Nat) (j2 : Nat) : Int32 × (Nat → Cp) :=
  ((0 : Int32), va_up (f_K_become cK j1 j2) j1 (s_v ((f_K_become cK j1 j2) j1) false))
set_option maxHeartbeats 4000000 in
set_option maxRecDepth 100000 in
theorem c_M_withoutTag (l : Launch) (D : va_G) (q : Nat → ClassId) (xa ad : Nat → Nat) (sS : Int32) (sC : Int32) (fB : Nat → Int32) (gT : Nat → Bool) (cK : Nat → Cp) (A : Nat → Prop) (hD : va_D A (mW q xa ad sS sC fB gT cK)) (j1 : Nat) (hj1 : j1 < 12) (j2 : Nat) (hj2 : j2 < 12) : WMi l y_M_withoutTag b_M_withoutTag 2 (some .int) ({ frames := 1, cells := 0, slots := 0, locals := 21 }) [.ref (ad j1), .ref (ad j2)] D (tyM q) (mW q xa ad sS sC fB gT cK) (mW q xa ad sS sC fB gT ((f_M_withoutTag cK j1 j2).2)) A (((f_M_withoutTag cK j1 j2).1)) := by
  refine ofI (by decide) (Nat.le_of_ble_eq_true rfl) ?_
  intro p e s m below meth c ls S hr hlocks hK hN hP hl
  have hx := S.1
  have hb := S.2.1
  have hS : va_S A s.heap s.heap [] := va_S.rf
  have hl : lv_has ls 2 [(0, .ref (ad j1)), (1, .ref (ad j2))] := hl
  refine lv_aload_n hx hb d_M_withoutTag_0 rfl (lv_at hl 0 rfl) ?_
  refine lv_aload_n hx hb d_M_withoutTag_1 rfl (lv_at hl 1 rfl) ?_
  refine c_vN [] S (c_K_become l _ _ _ _ _ _ _ _ _ A (mW_D hD) j1 (by first | assumption | exact and7_lt _) j2 (by first | assumption | exact and7_lt _)) mf_K_become mn_M_79 hK hN hP hS (5 + j1) 0 (mW_get (by first | assumption | exact and7_lt _)) rfl ⟨rfl, rfl, Nat.le_of_ble_eq_true rfl, Nat.le_of_ble_eq_true rfl⟩ rfl hl.1 rfl (Nat.le_of_ble_eq_true rfl) d_M_withoutTag_2 ⟨Nat.zero_le _, Nat.zero_le _⟩ (fun H locs hP hS => ?_)
  refine lv_aload_n hx hb d_M_withoutTag_5 rfl (lv_at hl 0 rfl) ?_
  refine lv_iconst (v := (0 : Int32)) hx hb d_M_withoutTag_6 (by decide) ?_
  refine k_putN S hK hP (mW_D hD) hS (by first | assumption | exact and7_lt _) 0 (by decide) hN fn_M_83 (s_v ((f_K_become cK j1 j2) j1) false) rfl (b2i_nar false) (b2i_fit false) d_M_withoutTag_7 (fun H locs hP hS => ?_)
  refine lv_iconst (v := (0 : Int32)) hx hb d_M_withoutTag_10 (by decide) ?_
  have hF : f_M_withoutTag cK j1 j2 = ((0 : Int32), va_up (f_K_become cK j1 j2) j1 (s_v ((f_K_become cK j1 j2) j1) false)) := rfl
  exact e_wi S hr hlocks hP hS (congrArg (fun z => z.1) hF.symm) (congrArg (fun z => mW q xa ad sS sC fB gT z.2) hF.symm) d_M_withoutTag_11
def f_M_withAddress (cK : Nat → Cp) (j1 : Nat) (j2 : Nat) (na : Int32) : Int32 × (Nat → Cp) :=
  if (k_v (cK j2)) = true then (if (k_y (cK j2)) = (0 : Int32) then ((0 : Int32), (f_K_moveTo (f_K_become cK j1 j2) j1 na))
    else ((2 : Int32), cK))
  else ((0 : Int32), (f_K_moveTo (f_K_become cK j1 j2) j1 na))
set_option maxHeartbeats 4000000 in
set_option maxRecDepth 100000 in
theorem c_M_withAddress (l : Launch) (D : va_G) (q : Nat → ClassId) (xa ad : Nat → Nat) (sS : Int32) (sC : Int32) (fB : Nat → Int32) (gT : Nat → Bool) (cK : Nat → Cp) (A : Nat → Prop) (hD : va_D A (mW q xa ad sS sC fB gT cK)) (j1 : Nat) (hj1 : j1 < 12) (j2 : Nat) (hj2 : j2 < 12) (na : Int32) : WMi l y_M_withAddress b_M_withAddress 3 (some .int) ({ frames := 1, cells := 0, slots := 0, locals := 22 }) [.ref (ad j1), .ref (ad j2), .int na] D (tyM q) (mW q xa ad sS sC fB gT cK) (mW q xa ad sS sC fB gT ((f_M_withAddress cK j1 j2 na).2)) A (((f_M_withAddress cK j1 j2 na).1)) := by
  refine ofI (by decide) (Nat.le_of_ble_eq_true rfl) ?_
  intro p e s m below meth c ls S hr hlocks hK hN hP hl
  have hx := S.1
  have hb := S.2.1
  have hS : va_S A s.heap s.heap [] := va_S.rf
  have hl : lv_has ls 3 [(0, .ref (ad j1)), (1, .ref (ad j2)), (2, .int na)] := hl
  refine lv_aload_n hx hb d_M_withAddress_0 rfl (lv_at hl 1 rfl) ?_
  refine k_getN (v := .int (b2i (k_v (cK j2)))) S hK hP (by first | assumption | exact and7_lt _) 0 (by decide) hN fn_M_83 rfl d_M_withAddress_1 ?_
  refine zb_eq (tgt := 16) hx hb d_M_withAddress_4 rfl (fun h_4 => ?_) (fun h_4 => ?_)
  · -- 4: taken
    refine lv_aload_n hx hb d_M_withAddress_16 rfl (lv_at hl 0 rfl) ?_
    refine lv_aload_n hx hb d_M_withAddress_17 rfl (lv_at hl 1 rfl) ?_
    refine c_vN [] S (c_K_become l _ _ _ _ _ _ _ _ _ A (mW_D hD) j1 (by first | assumption | exact and7_lt _) j2 (by first | assumption | exact and7_lt _)) mf_K_become mn_M_79 hK hN hP hS (5 + j1) 0 (mW_get (by first | assumption | exact and7_lt _)) rfl ⟨rfl, rfl, Nat.le_of_ble_eq_true rfl, Nat.le_of_ble_eq_true rfl⟩ rfl hl.1 rfl (Nat.le_of_ble_eq_true rfl) d_M_withAddress_18 ⟨Nat.zero_le _, Nat.zero_le _⟩ (fun H locs hP hS => ?_)
    refine lv_aload_n hx hb d_M_withAddress_21 rfl (lv_at hl 0 rfl) ?_
    refine lv_iload_n hx hb d_M_withAddress_22 rfl (lv_at hl 2 rfl) ?_
    refine c_vN [] S (c_K_moveTo l _ _ _ _ _ _ _ _ _ A (mW_D hD) j1 (by first | assumption | exact and7_lt _) na) mf_K_moveTo mn_M_112 hK hN hP hS (5 + j1) 0 (mW_get (by first | assumption | exact and7_lt _)) rfl ⟨rfl, rfl, Nat.le_of_ble_eq_true rfl, Nat.le_of_ble_eq_true rfl⟩ rfl hl.1 rfl (Nat.le_of_ble_eq_true rfl) d_M_withAddress_23 ⟨Nat.zero_le _, Nat.zero_le _⟩ (fun H locs hP hS => ?_)
    refine lv_iconst (v := (0 : Int32)) hx hb d_M_withAddress_26 (by decide) ?_
    have hF : f_M_withAddress cK j1 j2 na = ((0 : Int32), (f_K_moveTo (f_K_become cK j1 j2) j1 na)) := (if_neg (bn_f h_4)).trans (rfl)
    exact e_wi S hr hlocks hP hS (congrArg (fun z => z.1) hF.symm) (congrArg (fun z => mW q xa ad sS sC fB gT z.2) hF.symm) d_M_withAddress_27
  · -- 4: not taken
    refine lv_aload_n hx hb d_M_withAddress_7 rfl (lv_at hl 1 rfl) ?_
    refine k_getN (v := .int (k_y (cK j2))) S hK hP (by first | assumption | exact and7_lt _) 4 (by decide) hN fn_M_115 rfl d_M_withAddress_8 ?_
    refine lv_if_eq (tgt := 16) hx hb d_M_withAddress_11 rfl (fun h_11 => ?_) (fun h_11 => ?_)
    · -- 11: taken
      refine lv_aload_n hx hb d_M_withAddress_16 rfl (lv_at hl 0 rfl) ?_
      refine lv_aload_n hx hb d_M_withAddress_17 rfl (lv_at hl 1 rfl) ?_
      refine c_vN [] S (c_K_become l _ _ _ _ _ _ _ _ _ A (mW_D hD) j1 (by first | assumption | exact and7_lt _) j2 (by first | assumption | exact and7_lt _)) mf_K_become mn_M_79 hK hN hP hS (5 + j1) 0 (mW_get (by first | assumption | exact and7_lt _)) rfl ⟨rfl, rfl, Nat.le_of_ble_eq_true rfl, Nat.le_of_ble_eq_true rfl⟩ rfl hl.1 rfl (Nat.le_of_ble_eq_true rfl) d_M_withAddress_18 ⟨Nat.zero_le _, Nat.zero_le _⟩ (fun H locs hP hS => ?_)
      refine lv_aload_n hx hb d_M_withAddress_21 rfl (lv_at hl 0 rfl) ?_
      refine lv_iload_n hx hb d_M_withAddress_22 rfl (lv_at hl 2 rfl) ?_
      refine c_vN [] S (c_K_moveTo l _ _ _ _ _ _ _ _ _ A (mW_D hD) j1 (by first | assumption | exact and7_lt _) na) mf_K_moveTo mn_M_112 hK hN hP hS (5 + j1) 0 (mW_get (by first | assumption | exact and7_lt _)) rfl ⟨rfl, rfl, Nat.le_of_ble_eq_true rfl, Nat.le_of_ble_eq_true rfl⟩ rfl hl.1 rfl (Nat.le_of_ble_eq_true rfl) d_M_withAddress_23 ⟨Nat.zero_le _, Nat.zero_le _⟩ (fun H locs hP hS => ?_)
      refine lv_iconst (v := (0 : Int32)) hx hb d_M_withAddress_26 (by decide) ?_
      have hF : f_M_withAddress cK j1 j2 na = ((0 : Int32), (f_K_moveTo (f_K_become cK j1 j2) j1 na)) := (if_pos h_4).trans ((if_pos h_11).trans (rfl))
      exact e_wi S hr hlocks hP hS (congrArg (fun z => z.1) hF.symm) (congrArg (fun z => mW q xa ad sS sC fB gT z.2) hF.symm) d_M_withAddress_27
    · -- 11: not taken
      refine lv_iconst (v := (2 : Int32)) hx hb d_M_withAddress_14 (by decide) ?_
      have hF : f_M_withAddress cK j1 j2 na = ((2 : Int32), cK) := (if_pos h_4).trans ((if_neg h_11).trans (rfl))
      exact e_wi S hr hlocks hP hS (congrArg (fun z => z.1) hF.symm) (congrArg (fun z => mW q xa ad sS sC fB gT z.2) hF.symm) d_M_withAddress_15
def f_M_withPermissions (cK : Nat → Cp) (j1 : Nat) (j2 : Nat) (mk : Int32) : Int32 × (Nat → Cp) :=
  if (k_v (cK j2)) = true then (if (k_y (cK j2)) = (0 : Int32) then ((0 : Int32), va_up (f_K_become cK j1 j2) j1 (s_p ((f_K_become cK j1 j2) j1) ((k_p ((f_K_become cK j1 j2) j2)) &&& mk)))
    else ((2 : Int32), cK))
  else ((0 : Int32), va_up (f_K_become cK j1 j2) j1 (s_p ((f_K_become cK j1 j2) j1) ((k_p ((f_K_become cK j1 j2) j2)) &&& mk)))
set_option maxHeartbeats 4000000 in
set_option maxRecDepth 100000 in
theorem c_M_withPermissions (l : Launch) (D : va_G) (q : Nat → ClassId) (xa ad : Nat → Nat) (sS : Int32) (sC : Int32) (fB : Nat → Int32) (gT : Nat → Bool) (cK : Nat → Cp) (A : Nat → Prop) (hD : va_D A (mW q xa ad sS sC fB gT cK)) (j1 : Nat) (hj1 : j1 < 12) (j2 : Nat) (hj2 : j2 < 12) (mk : Int32) : WMi l y_M_withPermissions b_M_withPermissions 3 (some .int) ({ frames := 1, cells := 0, slots := 0, locals := 21 }) [.ref (ad j1), .ref (ad j2), .int mk] D (tyM q) (mW q xa ad sS sC fB gT cK) (mW q xa ad sS sC fB gT ((f_M_withPermissions cK j1 j2 mk).2)) A (((f_M_withPermissions cK j1 j2 mk).1)) := by
  refine ofI (by decide) (Nat.le_of_ble_eq_true rfl) ?_
  intro p e s m below meth c ls S hr hlocks hK hN hP hl
  have hx := S.1
  have hb := S.2.1
  have hS : va_S A s.heap s.heap [] := va_S.rf
  have hl : lv_has ls 3 [(0, .ref (ad j1)), (1, .ref (ad j2)), (2, .int mk)] := hl
  refine lv_aload_n hx hb d_M_withPermissions_0 rfl (lv_at hl 1 rfl) ?_
  refine k_getN (v := .int (b2i (k_v (cK j2)))) S hK hP (by first | assumption | exact and7_lt _) 0 (by decide) hN fn_M_83 rfl d_M_withPermissions_1 ?_
  refine zb_eq (tgt := 16) hx hb d_M_withPermissions_4 rfl (fun h_4 => ?_) (fun h_4 => ?_)
  · -- 4: taken
    refine lv_aload_n hx hb d_M_withPermissions_16 rfl (lv_at hl 0 rfl) ?_
    refine lv_aload_n hx hb d_M_withPermissions_17 rfl (lv_at hl 1 rfl) ?_
    refine c_vN [] S (c_K_become l _ _ _ _ _ _ _ _ _ A (mW_D hD) j1 (by first | assumption | exact and7_lt _) j2 (by first | assumption | exact and7_lt _)) mf_K_become mn_M_79 hK hN hP hS (5 + j1) 0 (mW_get (by first | assumption | exact and7_lt _)) rfl ⟨rfl, rfl, Nat.le_of_ble_eq_true rfl, Nat.le_of_ble_eq_true rfl⟩ rfl hl.1 rfl (Nat.le_of_ble_eq_true rfl) d_M_withPermissions_18 ⟨Nat.zero_le _, Nat.zero_le _⟩ (fun H locs hP hS => ?_)
    refine lv_aload_n hx hb d_M_withPermissions_21 rfl (lv_at hl 0 rfl) ?_
    refine lv_aload_n hx hb d_M_withPermissions_22 rfl (lv_at hl 1 rfl) ?_
    refine k_getN (v := .int (k_p ((f_K_become cK j1 j2) j2))) S hK hP (by first | assumption | exact and7_lt _) 3 (by decide) hN fn_M_165 rfl d_M_withPermissions_23 ?_
    refine lv_iload_n hx hb d_M_withPermissions_26 rfl (lv_at hl 2 rfl) ?_
    refine lv_iand hx hb d_M_withPermissions_27 ?_
    refine k_putN S hK hP (mW_D hD) hS (by first | assumption | exact and7_lt _) 3 (by decide) hN fn_M_165 (s_p ((f_K_become cK j1 j2) j1) ((k_p ((f_K_become cK j1 j2) j2)) &&& mk)) rfl rfl rfl d_M_withPermissions_28 (fun H locs hP hS => ?_)
    refine lv_iconst (v := (0 : Int32)) hx hb d_M_withPermissions_31 (by decide) ?_
    have hF : f_M_withPermissions cK j1 j2 mk = ((0 : Int32), va_up (f_K_become cK j1 j2) j1 (s_p ((f_K_become cK j1 j2) j1) ((k_p ((f_K_become cK j1 j2) j2)) &&& mk))) := (if_neg (bn_f h_4)).trans (rfl)
    exact e_wi S hr hlocks hP hS (congrArg (fun z => z.1) hF.symm) (congrArg (fun z => mW q xa ad sS sC fB gT z.2) hF.symm) d_M_withPermissions_32
  · -- 4: not taken
    refine lv_aload_n hx hb d_M_withPermissions_7 rfl (lv_at hl 1 rfl) ?_
    refine k_getN (v := .int (k_y (cK j2))) S hK hP (by first | assumption | exact and7_lt _) 4 (by decide) hN fn_M_115 rfl d_M_withPermissions_8 ?_
    refine lv_if_eq (tgt := 16) hx hb d_M_withPermissions_11 rfl (fun h_11 => ?_) (fun h_11 => ?_)
    · -- 11: taken
      refine lv_aload_n hx hb d_M_withPermissions_16 rfl (lv_at hl 0 rfl) ?_
      refine lv_aload_n hx hb d_M_withPermissions_17 rfl (lv_at hl 1 rfl) ?_
      refine c_vN [] S (c_K_become l _ _ _ _ _ _ _ _ _ A (mW_D hD) j1 (by first | assumption | exact and7_lt _) j2 (by first | assumption | exact and7_lt _)) mf_K_become mn_M_79 hK hN hP hS (5 + j1) 0 (mW_get (by first | assumption | exact and7_lt _)) rfl ⟨rfl, rfl, Nat.le_of_ble_eq_true rfl, Nat.le_of_ble_eq_true rfl⟩ rfl hl.1 rfl (Nat.le_of_ble_eq_true rfl) d_M_withPermissions_18 ⟨Nat.zero_le _, Nat.zero_le _⟩ (fun H locs hP hS => ?_)
      refine lv_aload_n hx hb d_M_withPermissions_21 rfl (lv_at hl 0 rfl) ?_
      refine lv_aload_n hx hb d_M_withPermissions_22 rfl (lv_at hl 1 rfl) ?_
      refine k_getN (v := .int (k_p ((f_K_become cK j1 j2) j2))) S hK hP (by first | assumption | exact and7_lt _) 3 (by decide) hN fn_M_165 rfl d_M_withPermissions_23 ?_
      refine lv_iload_n hx hb d_M_withPermissions_26 rfl (lv_at hl 2 rfl) ?_
      refine lv_iand hx hb d_M_withPermissions_27 ?_
      refine k_putN S hK hP (mW_D hD) hS (by first | assumption | exact and7_lt _) 3 (by decide) hN fn_M_165 (s_p ((f_K_become cK j1 j2) j1) ((k_p ((f_K_become cK j1 j2) j2)) &&& mk)) rfl rfl rfl d_M_withPermissions_28 (fun H locs hP hS => ?_)
      refine lv_iconst (v := (0 : Int32)) hx hb d_M_withPermissions_31 (by decide) ?_
      have hF : f_M_withPermissions cK j1 j2 mk = ((0 : Int32), va_up (f_K_become cK j1 j2) j1 (s_p ((f_K_become cK j1 j2) j1) ((k_p ((f_K_become cK j1 j2) j2)) &&& mk))) := (if_pos h_4).trans ((if_pos h_11).trans (rfl))
      exact e_wi S hr hlocks hP hS (congrArg (fun z => z.1) hF.symm) (congrArg (fun z => mW q xa ad sS sC fB gT z.2) hF.symm) d_M_withPermissions_32
    · -- 11: not taken
      refine lv_iconst (v := (2 : Int32)) hx hb d_M_withPermissions_14 (by decide) ?_
      have hF : f_M_withPermissions cK j1 j2 mk = ((2 : Int32), cK) := (if_pos h_4).trans ((if_neg h_11).trans (rfl))
      exact e_wi S hr hlocks hP hS (congrArg (fun z => z.1) hF.symm) (congrArg (fun z => mW q xa ad sS sC fB gT z.2) hF.symm) d_M_withPermissions_15
def f_M_multipleNotAbove (bd : Int32) : Int32 :=
  (bd / (8 : Int32)) * (8 : Int32)
set_option maxHeartbeats 4000000 in
set_option maxRecDepth 100000 in
theorem c_M_multipleNotAbove (l : Launch) (D : va_G) (q : Nat → ClassId) (xa ad : Nat → Nat) (sS : Int32) (sC : Int32) (fB : Nat → Int32) (gT : Nat → Bool) (cK : Nat → Cp) (bd : Int32) : PMi l y_M_multipleNotAbove b_M_multipleNotAbove 1 (some .int) ({ frames := 0, cells := 0, slots := 0, locals := 0 }) [.int bd] D (tyM q) (mW q xa ad sS sC fB gT cK) ((f_M_multipleNotAbove bd)) := by
  refine ofP (by decide) (Nat.le_of_ble_eq_true rfl) ?_
  intro p e s m below meth c ls S hr hlocks hK hN hP hl
  have hx := S.1
  have hb := S.2.1
  have hl : lv_has ls 1 [(0, .int bd)] := hl
  refine lv_iload_n hx hb d_M_multipleNotAbove_0 rfl (lv_at hl 0 rfl) ?_
  refine lv_bipush (v := (8 : Int32)) hx hb d_M_multipleNotAbove_1 (by decide) ?_
  refine lv_idiv hx hb d_M_multipleNotAbove_3 (by decide) ?_
  refine lv_bipush (v := (8 : Int32)) hx hb d_M_multipleNotAbove_4 (by decide) ?_
  refine lv_imul hx hb d_M_multipleNotAbove_6 ?_
  exact e_pi S hr hlocks (rfl : f_M_multipleNotAbove bd = (bd / (8 : Int32)) * (8 : Int32)).symm d_M_multipleNotAbove_7
def f_M_multipleNotBelow (bd : Int32) : Int32 :=
  (f_M_multipleNotAbove ((bd + (8 : Int32)) - (1 : Int32)))
set_option maxHeartbeats 4000000 in
set_option maxRecDepth 100000 in
theorem c_M_multipleNotBelow (l : Launch) (D : va_G) (q : Nat → ClassId) (xa ad : Nat → Nat) (sS : Int32) (sC : Int32) (fB : Nat → Int32) (gT : Nat → Bool) (cK : Nat → Cp) (bd : Int32) : PMi l y_M_multipleNotBelow b_M_multipleNotBelow 1 (some .int) ({ frames := 1, cells := 0, slots := 0, locals := 20 }) [.int bd] D (tyM q) (mW q xa ad sS sC fB gT cK) ((f_M_multipleNotBelow bd)) := by
  refine ofP (by decide) (Nat.le_of_ble_eq_true rfl) ?_
  intro p e s m below meth c ls S hr hlocks hK hN hP hl
  have hx := S.1
  have hb := S.2.1
  have hl : lv_has ls 1 [(0, .int bd)] := hl
  refine lv_iload_n hx hb d_M_multipleNotBelow_0 rfl (lv_at hl 0 rfl) ?_
  refine lv_bipush (v := (8 : Int32)) hx hb d_M_multipleNotBelow_1 (by decide) ?_
  refine lv_iadd hx hb d_M_multipleNotBelow_3 ?_
  refine lv_iconst (v := (1 : Int32)) hx hb d_M_multipleNotBelow_4 (by decide) ?_
  refine lv_isub hx hb d_M_multipleNotBelow_5 ?_
  refine c_pS [] S (c_M_multipleNotAbove l _ _ _ _ _ _ _ _ _ ((bd + (8 : Int32)) - (1 : Int32))) mf_M_multipleNotAbove ml_M_178 hK hN hP ⟨rfl, rfl, Nat.le_of_ble_eq_true rfl, Nat.le_of_ble_eq_true rfl⟩ rfl hl.1 rfl (Nat.le_of_ble_eq_true rfl) d_M_multipleNotBelow_6 ⟨Nat.zero_le _, Nat.zero_le _⟩ ?_
  exact e_pi S hr hlocks (rfl : f_M_multipleNotBelow bd = (f_M_multipleNotAbove ((bd + (8 : Int32)) - (1 : Int32)))).symm d_M_multipleNotBelow_9
def f_M_areExact (nb : Int32) (nt : Int32) : Bool :=
  if (nt - nb) ≤ (64 : Int32) then true else (if (if (f_M_multipleNotAbove nb) = nb then (if (f_M_multipleNotAbove nt) = nt then true else false) else false) = true then true else false)
set_option maxHeartbeats 4000000 in
set_option maxRecDepth 100000 in
theorem c_M_areExact (l : Launch) (D : va_G) (q : Nat → ClassId) (xa ad : Nat → Nat) (sS : Int32) (sC : Int32) (fB : Nat → Int32) (gT : Nat → Bool) (cK : Nat → Cp) (nb : Int32) (nt : Int32) : PMi l y_M_areExact b_M_areExact 3 (some .boolean) ({ frames := 1, cells := 0, slots := 0, locals := 20 }) [.int nb, .int nt] D (tyM q) (mW q xa ad sS sC fB gT cK) (b2i (f_M_areExact nb nt)) := by
  refine ofP (by decide) (Nat.le_of_ble_eq_true rfl) ?_
  intro p e s m below meth c ls S hr hlocks hK hN hP hl
  have hx := S.1
  have hb := S.2.1
  have hl : lv_has ls 3 [(0, .int nb), (1, .int nt)] := hl
  refine lv_iload_n hx hb d_M_areExact_0 rfl (lv_at hl 0 rfl) ?_
  refine c_pS [] S (c_M_multipleNotAbove l _ _ _ _ _ _ _ _ _ nb) mf_M_multipleNotAbove ml_M_178 hK hN hP ⟨rfl, rfl, Nat.le_of_ble_eq_true rfl, Nat.le_of_ble_eq_true rfl⟩ rfl hl.1 rfl (Nat.le_of_ble_eq_true rfl) d_M_areExact_1 ⟨Nat.zero_le _, Nat.zero_le _⟩ ?_
  refine lv_iload_n hx hb d_M_areExact_4 rfl (lv_at hl 0 rfl) ?_
  refine jn 21 ls [] (b2i (if (f_M_multipleNotAbove nb) = nb then (if (f_M_multipleNotAbove nt) = nt then true else false) else false)) ?_ (fun k_21 => ?_)
  · -- from 21 on
    refine lv_istore_n (lv' := [(2, .int _), (0, .int _), (1, .int _)]) hx hb d_M_areExact_21 rfl hl (by decide) rfl (fun ls hl => ?_)
    refine lv_iload_n hx hb d_M_areExact_22 rfl (lv_at hl 2 rfl) ?_
    refine lv_iload_n hx hb d_M_areExact_23 rfl (lv_at hl 1 rfl) ?_
    refine lv_isub hx hb d_M_areExact_24 ?_
    refine lv_bipush (v := (64 : Int32)) hx hb d_M_areExact_25 (by decide) ?_
    refine jn 39 ls [] (b2i (if (nt - nb) ≤ (64 : Int32) then true else (if (if (f_M_multipleNotAbove nb) = nb then (if (f_M_multipleNotAbove nt) = nt then true else false) else false) = true then true else false))) ?_ (fun k_39 => ?_)
    · -- from 39 on
      exact e_pz (z := if (nt - nb) ≤ (64 : Int32) then true else (if (if (f_M_multipleNotAbove nb) = nb then (if (f_M_multipleNotAbove nt) = nt then true else false) else false) = true then true else false)) S hr hlocks (congrArg b2i (rfl : f_M_areExact nb nt = if (nt - nb) ≤ (64 : Int32) then true else (if (if (f_M_multipleNotAbove nb) = nb then (if (f_M_multipleNotAbove nt) = nt then true else false) else false) = true then true else false)).symm) d_M_areExact_39
    · -- to 39
      refine lv_icmp_le (tgt := 34) hx hb d_M_areExact_27 rfl (fun h_27 => ?_) (fun h_27 => ?_)
      · -- 27: taken
        refine lv_iconst (v := (1 : Int32)) hx hb d_M_areExact_34 (by decide) ?_
        refine lv_goto (tgt := 39) hx hb d_M_areExact_35 rfl ?_
        exact k_39 _ (congrArg b2i ((if_pos h_27).trans (rfl) : (if (nt - nb) ≤ (64 : Int32) then true else (if (if (f_M_multipleNotAbove nb) = nb then (if (f_M_multipleNotAbove nt) = nt then true else false) else false) = true then true else false)) = true).symm)
      · -- 27: not taken
        refine lv_iload_n hx hb d_M_areExact_30 rfl (lv_at hl 0 rfl) ?_
        refine zb_eq (tgt := 38) hx hb d_M_areExact_31 rfl (fun h_31 => ?_) (fun h_31 => ?_)
        · -- 31: taken
          refine lv_iconst (v := (0 : Int32)) hx hb d_M_areExact_38 (by decide) ?_
          exact k_39 _ (congrArg b2i ((if_neg h_27).trans ((if_neg (bn_f h_31)).trans (rfl)) : (if (nt - nb) ≤ (64 : Int32) then true else (if (if (f_M_multipleNotAbove nb) = nb then (if (f_M_multipleNotAbove nt) = nt then true else false) else false) = true then true else false)) = false).symm)
        · -- 31: not taken
          refine lv_iconst (v := (1 : Int32)) hx hb d_M_areExact_34 (by decide) ?_
          refine lv_goto (tgt := 39) hx hb d_M_areExact_35 rfl ?_
          exact k_39 _ (congrArg b2i ((if_neg h_27).trans ((if_pos h_31).trans (rfl)) : (if (nt - nb) ≤ (64 : Int32) then true else (if (if (f_M_multipleNotAbove nb) = nb then (if (f_M_multipleNotAbove nt) = nt then true else false) else false) = true then true else false)) = true).symm)
  · -- to 21
    refine lv_icmp_ne (tgt := 20) hx hb d_M_areExact_5 rfl (fun h_5 => ?_) (fun h_5 => ?_)
    · -- 5: taken
      refine lv_iconst (v := (0 : Int32)) hx hb d_M_areExact_20 (by decide) ?_
      exact k_21 _ (congrArg b2i ((if_neg h_5).trans (rfl) : (if (f_M_multipleNotAbove nb) = nb then (if (f_M_multipleNotAbove nt) = nt then true else false) else false) = false).symm)
    · -- 5: not taken
      refine lv_iload_n hx hb d_M_areExact_8 rfl (lv_at hl 1 rfl) ?_
      refine c_pS [] S (c_M_multipleNotAbove l _ _ _ _ _ _ _ _ _ nt) mf_M_multipleNotAbove ml_M_178 hK hN hP ⟨rfl, rfl, Nat.le_of_ble_eq_true rfl, Nat.le_of_ble_eq_true rfl⟩ rfl hl.1 rfl (Nat.le_of_ble_eq_true rfl) d_M_areExact_9 ⟨Nat.zero_le _, Nat.zero_le _⟩ ?_
      refine lv_iload_n hx hb d_M_areExact_12 rfl (lv_at hl 1 rfl) ?_
      refine lv_icmp_ne (tgt := 20) hx hb d_M_areExact_13 rfl (fun h_13 => ?_) (fun h_13 => ?_)
      · -- 13: taken
        refine lv_iconst (v := (0 : Int32)) hx hb d_M_areExact_20 (by decide) ?_
        exact k_21 _ (congrArg b2i ((if_pos h_5).trans ((if_neg h_13).trans (rfl)) : (if (f_M_multipleNotAbove nb) = nb then (if (f_M_multipleNotAbove nt) = nt then true else false) else false) = false).symm)
      · -- 13: not taken
        refine lv_iconst (v := (1 : Int32)) hx hb d_M_areExact_16 (by decide) ?_
        refine lv_goto (tgt := 21) hx hb d_M_areExact_17 rfl ?_
        exact k_21 _ (congrArg b2i ((if_pos h_5).trans ((if_pos h_13).trans (rfl)) : (if (f_M_multipleNotAbove nb) = nb then (if (f_M_multipleNotAbove nt) = nt then true else false) else false) = true).symm)
def f_M_withBounds (cK : Nat → Cp) (j1 : Nat) (j2 : Nat) (ln : Int32) (ex : Bool) : Int32 × (Nat → Cp) :=
  if (k_v (cK j2)) = true then (if (k_y (cK j2)) = (0 : Int32) then (if ln < (0 : Int32) then ((4 : Int32), cK)
      else if (k_a (cK j2)) < (k_b (cK j2)) then ((4 : Int32), cK)
      else if (lg_cmp (((k_a (cK j2)).toInt64) + ln.toInt64) ((k_t (cK j2)).toInt64)) ≤ (0 : Int32) then (if (f_M_areExact (k_a (cK j2)) ((((k_a (cK j2)).toInt64) + ln.toInt64).toInt32)) = true then (if (k_a (cK j2)) < (k_b (cK j2)) then ((4 : Int32), cK)
          else if ((((k_a (cK j2)).toInt64) + ln.toInt64).toInt32) ≤ (k_t (cK j2)) then (if ex = true then (if (f_M_areExact (k_a (cK j2)) ((((k_a (cK j2)).toInt64) + ln.toInt64).toInt32)) = true then ((0 : Int32), va_up (f_K_become cK j1 j2) j1 (s_t (s_b ((f_K_become cK j1 j2) j1) (k_a (cK j2))) ((((k_a (cK j2)).toInt64) + ln.toInt64).toInt32)))
              else ((6 : Int32), cK))
            else ((0 : Int32), va_up (f_K_become cK j1 j2) j1 (s_t (s_b ((f_K_become cK j1 j2) j1) (k_a (cK j2))) ((((k_a (cK j2)).toInt64) + ln.toInt64).toInt32))))
          else ((4 : Int32), cK))
        else if (f_M_multipleNotAbove (k_a (cK j2))) < (k_b (cK j2)) then ((4 : Int32), cK)
        else if (f_M_multipleNotBelow ((((k_a (cK j2)).toInt64) + ln.toInt64).toInt32)) ≤ (k_t (cK j2)) then (if ex = true then (if (f_M_areExact (k_a (cK j2)) ((((k_a (cK j2)).toInt64) + ln.toInt64).toInt32)) = true then ((0 : Int32), va_up (f_K_become cK j1 j2) j1 (s_t (s_b ((f_K_become cK j1 j2) j1) (f_M_multipleNotAbove (k_a (cK j2)))) (f_M_multipleNotBelow ((((k_a (cK j2)).toInt64) + ln.toInt64).toInt32))))
            else ((6 : Int32), cK))
          else ((0 : Int32), va_up (f_K_become cK j1 j2) j1 (s_t (s_b ((f_K_become cK j1 j2) j1) (f_M_multipleNotAbove (k_a (cK j2)))) (f_M_multipleNotBelow ((((k_a (cK j2)).toInt64) + ln.toInt64).toInt32)))))
        else ((4 : Int32), cK))
      else ((4 : Int32), cK))
    else ((2 : Int32), cK))
  else ((1 : Int32), cK)
set_option maxHeartbeats 4000000 in
set_option maxRecDepth 100000 in
theorem c_M_withBounds (l : Launch) (D : va_G) (q : Nat → ClassId) (xa ad : Nat → Nat) (sS : Int32) (sC : Int32) (fB : Nat → Int32) (gT : Nat → Bool) (cK : Nat → Cp) (A : Nat → Prop) (hD : va_D A (mW q xa ad sS sC fB gT cK)) (j1 : Nat) (hj1 : j1 < 12) (j2 : Nat) (hj2 : j2 < 12) (ln : Int32) (ex : Bool) : WMi l y_M_withBounds b_M_withBounds 9 (some .int) ({ frames := 2, cells := 0, slots := 0, locals := 42 }) [.ref (ad j1), .ref (ad j2), .int ln, .int (b2i ex)] D (tyM q) (mW q xa ad sS sC fB gT cK) (mW q xa ad sS sC fB gT ((f_M_withBounds cK j1 j2 ln ex).2)) A (((f_M_withBounds cK j1 j2 ln ex).1)) := by
  refine ofI (by decide) (Nat.le_of_ble_eq_true rfl) ?_
  intro p e s m below meth c ls S hr hlocks hK hN hP hl
  have hx := S.1
  have hb := S.2.1
  have hS : va_S A s.heap s.heap [] := va_S.rf
  have hl : lv_has ls 9 [(0, .ref (ad j1)), (1, .ref (ad j2)), (2, .int ln), (3, .int (b2i ex))] := hl
  refine lv_aload_n hx hb d_M_withBounds_0 rfl (lv_at hl 1 rfl) ?_
  refine k_getN (v := .int (b2i (k_v (cK j2)))) S hK hP (by first | assumption | exact and7_lt _) 0 (by decide) hN fn_M_83 rfl d_M_withBounds_1 ?_
  refine zb_ne (tgt := 9) hx hb d_M_withBounds_4 rfl (fun h_4 => ?_) (fun h_4 => ?_)
  · -- 4: taken
    refine lv_aload_n hx hb d_M_withBounds_9 rfl (lv_at hl 1 rfl) ?_
    refine k_getN (v := .int (k_y (cK j2))) S hK hP (by first | assumption | exact and7_lt _) 4 (by decide) hN fn_M_115 rfl d_M_withBounds_10 ?_
    refine lv_if_eq (tgt := 18) hx hb d_M_withBounds_13 rfl (fun h_13 => ?_) (fun h_13 => ?_)
    · -- 13: taken
      refine lv_aload_n hx hb d_M_withBounds_18 rfl (lv_at hl 1 rfl) ?_
      refine k_getN (v := .int (k_a (cK j2))) S hK hP (by first | assumption | exact and7_lt _) 5 (by decide) hN fn_M_87 rfl d_M_withBounds_19 ?_
      refine lv_i2l (v := (k_a (cK j2)).toInt64) hx hb d_M_withBounds_22 rfl ?_
      refine lv_iload_n hx hb d_M_withBounds_23 rfl (lv_at hl 2 rfl) ?_
      refine lv_i2l (v := ln.toInt64) hx hb d_M_withBounds_24 rfl ?_
      refine lv_ladd hx hb d_M_withBounds_25 ?_
      refine lv_lstore (lv' := [(4, .long _), (0, .ref _), (1, .ref _), (2, .int _), (3, .int _)]) hx hb d_M_withBounds_26 hl (by decide) rfl (fun ls hl => ?_)
      refine lv_iload_n hx hb d_M_withBounds_28 rfl (lv_at hl 3 rfl) ?_
      refine lv_if_lt (tgt := 54) hx hb d_M_withBounds_29 rfl (fun h_29 => ?_) (fun h_29 => ?_)
      · -- 29: taken
        refine lv_iconst (v := (4 : Int32)) hx hb d_M_withBounds_54 (by decide) ?_
        have hF : f_M_withBounds cK j1 j2 ln ex = ((4 : Int32), cK) := (if_pos h_4).trans ((if_pos h_13).trans ((if_pos h_29).trans (rfl)))
        exact e_wi S hr hlocks hP hS (congrArg (fun z => z.1) hF.symm) (congrArg (fun z => mW q xa ad sS sC fB gT z.2) hF.symm) d_M_withBounds_55
      · -- 29: not taken
        refine lv_aload_n hx hb d_M_withBounds_32 rfl (lv_at hl 2 rfl) ?_
        refine k_getN (v := .int (k_a (cK j2))) S hK hP (by first | assumption | exact and7_lt _) 5 (by decide) hN fn_M_87 rfl d_M_withBounds_33 ?_
        refine lv_aload_n hx hb d_M_withBounds_36 rfl (lv_at hl 2 rfl) ?_
        refine k_getN (v := .int (k_b (cK j2))) S hK hP (by first | assumption | exact and7_lt _) 1 (by decide) hN fn_M_168 rfl d_M_withBounds_37 ?_
        refine lv_icmp_lt (tgt := 54) hx hb d_M_withBounds_40 rfl (fun h_40 => ?_) (fun h_40 => ?_)
        · -- 40: taken
          refine lv_iconst (v := (4 : Int32)) hx hb d_M_withBounds_54 (by decide) ?_
          have hF : f_M_withBounds cK j1 j2 ln ex = ((4 : Int32), cK) := (if_pos h_4).trans ((if_pos h_13).trans ((if_neg h_29).trans ((if_pos h_40).trans (rfl))))
          exact e_wi S hr hlocks hP hS (congrArg (fun z => z.1) hF.symm) (congrArg (fun z => mW q xa ad sS sC fB gT z.2) hF.symm) d_M_withBounds_55
        · -- 40: not taken
          refine lv_lload hx hb d_M_withBounds_43 (lv_at hl 0 rfl) ?_
          refine lv_aload_n hx hb d_M_withBounds_45 rfl (lv_at hl 2 rfl) ?_
          refine k_getN (v := .int (k_t (cK j2))) S hK hP (by first | assumption | exact and7_lt _) 2 (by decide) hN fn_M_171 rfl d_M_withBounds_46 ?_
          refine lv_i2l (v := (k_t (cK j2)).toInt64) hx hb d_M_withBounds_49 rfl ?_
          refine W.lcmp hx hb d_M_withBounds_50 ?_
          refine lv_if_le (tgt := 56) hx hb d_M_withBounds_51 rfl (fun h_51 => ?_) (fun h_51 => ?_)
          · -- 51: taken
            refine lv_aload_n hx hb d_M_withBounds_56 rfl (lv_at hl 2 rfl) ?_
            refine k_getN (v := .int (k_a (cK j2))) S hK hP (by first | assumption | exact and7_lt _) 5 (by decide) hN fn_M_87 rfl d_M_withBounds_57 ?_
            refine lv_istore (lv' := [(6, .int _), (4, .long _), (0, .ref _), (1, .ref _), (2, .int _), (3, .int _)]) hx hb d_M_withBounds_60 hl (by decide) rfl (fun ls hl => ?_)
            refine lv_lload hx hb d_M_withBounds_62 (lv_at hl 1 rfl) ?_
            refine lv_l2i (v := (((k_a (cK j2)).toInt64) + ln.toInt64).toInt32) hx hb d_M_withBounds_64 rfl ?_
            refine lv_istore (lv' := [(7, .int _), (6, .int _), (4, .long _), (0, .ref _), (1, .ref _), (2, .int _), (3, .int _)]) hx hb d_M_withBounds_65 hl (by decide) rfl (fun ls hl => ?_)
            refine lv_iload hx hb d_M_withBounds_67 (lv_at hl 1 rfl) ?_
            refine lv_iload hx hb d_M_withBounds_69 (lv_at hl 0 rfl) ?_
            refine c_pS [] S (c_M_areExact l _ _ _ _ _ _ _ _ _ (k_a (cK j2)) ((((k_a (cK j2)).toInt64) + ln.toInt64).toInt32)) mf_M_areExact ml_M_174 hK hN hP ⟨rfl, rfl, Nat.le_of_ble_eq_true rfl, Nat.le_of_ble_eq_true rfl⟩ rfl hl.1 rfl (Nat.le_of_ble_eq_true rfl) d_M_withBounds_71 ⟨Nat.zero_le _, Nat.zero_le _⟩ ?_
            refine lv_istore (lv' := [(8, .int _), (7, .int _), (6, .int _), (4, .long _), (0, .ref _), (1, .ref _), (2, .int _), (3, .int _)]) hx hb d_M_withBounds_74 hl (by decide) rfl (fun ls hl => ?_)
            refine lv_iload hx hb d_M_withBounds_76 (lv_at hl 0 rfl) ?_
            refine zb_ne (tgt := 95) hx hb d_M_withBounds_78 rfl (fun h_78 => ?_) (fun h_78 => ?_)
            · -- 78: taken
              refine lv_iload hx hb d_M_withBounds_95 (lv_at hl 2 rfl) ?_
              refine lv_aload_n hx hb d_M_withBounds_97 rfl (lv_at hl 5 rfl) ?_
              refine k_getN (v := .int (k_b (cK j2))) S hK hP (by first | assumption | exact and7_lt _) 1 (by decide) hN fn_M_168 rfl d_M_withBounds_98 ?_
              refine lv_icmp_lt (tgt := 113) hx hb d_M_withBounds_101 rfl (fun h_101 => ?_) (fun h_101 => ?_)
              · -- 101: taken
                refine lv_iconst (v := (4 : Int32)) hx hb d_M_withBounds_113 (by decide) ?_
                have hF : f_M_withBounds cK j1 j2 ln ex = ((4 : Int32), cK) := (if_pos h_4).trans ((if_pos h_13).trans ((if_neg h_29).trans ((if_neg h_40).trans ((if_pos h_51).trans ((if_pos h_78).trans ((if_pos h_101).trans (rfl)))))))
                exact e_wi S hr hlocks hP hS (congrArg (fun z => z.1) hF.symm) (congrArg (fun z => mW q xa ad sS sC fB gT z.2) hF.symm) d_M_withBounds_114
              · -- 101: not taken
                refine lv_iload hx hb d_M_withBounds_104 (lv_at hl 1 rfl) ?_
                refine lv_aload_n hx hb d_M_withBounds_106 rfl (lv_at hl 5 rfl) ?_
                refine k_getN (v := .int (k_t (cK j2))) S hK hP (by first | assumption | exact and7_lt _) 2 (by decide) hN fn_M_171 rfl d_M_withBounds_107 ?_
                refine lv_icmp_le (tgt := 115) hx hb d_M_withBounds_110 rfl (fun h_110 => ?_) (fun h_110 => ?_)
                · -- 110: taken
                  refine lv_iload_n hx hb d_M_withBounds_115 rfl (lv_at hl 7 rfl) ?_
                  refine zb_eq (tgt := 127) hx hb d_M_withBounds_116 rfl (fun h_116 => ?_) (fun h_116 => ?_)
                  · -- 116: taken
                    refine lv_aload_n hx hb d_M_withBounds_127 rfl (lv_at hl 4 rfl) ?_
                    refine lv_aload_n hx hb d_M_withBounds_128 rfl (lv_at hl 5 rfl) ?_
                    refine c_vN [] S (c_K_become l _ _ _ _ _ _ _ _ _ A (mW_D hD) j1 (by first | assumption | exact and7_lt _) j2 (by first | assumption | exact and7_lt _)) mf_K_become mn_M_79 hK hN hP hS (5 + j1) 0 (mW_get (by first | assumption | exact and7_lt _)) rfl ⟨rfl, rfl, Nat.le_of_ble_eq_true rfl, Nat.le_of_ble_eq_true rfl⟩ rfl hl.1 rfl (Nat.le_of_ble_eq_true rfl) d_M_withBounds_129 ⟨Nat.zero_le _, Nat.zero_le _⟩ (fun H locs hP hS => ?_)
                    refine lv_aload_n hx hb d_M_withBounds_132 rfl (lv_at hl 4 rfl) ?_
                    refine lv_iload hx hb d_M_withBounds_133 (lv_at hl 2 rfl) ?_
                    refine k_putN S hK hP (mW_D hD) hS (by first | assumption | exact and7_lt _) 1 (by decide) hN fn_M_168 (s_b ((f_K_become cK j1 j2) j1) (k_a (cK j2))) rfl rfl rfl d_M_withBounds_135 (fun H locs hP hS => ?_)
                    refine lv_aload_n hx hb d_M_withBounds_138 rfl (lv_at hl 4 rfl) ?_
                    refine lv_iload hx hb d_M_withBounds_139 (lv_at hl 1 rfl) ?_
                    refine k_putON S hK hP (mW_D hD) hS (by first | assumption | exact and7_lt _) 2 (by decide) hN fn_M_171 (s_t (s_b ((f_K_become cK j1 j2) j1) (k_a (cK j2))) ((((k_a (cK j2)).toInt64) + ln.toInt64).toInt32)) rfl rfl rfl d_M_withBounds_141 (fun H locs hP hS => ?_)
                    refine lv_iconst (v := (0 : Int32)) hx hb d_M_withBounds_144 (by decide) ?_
                    have hF : f_M_withBounds cK j1 j2 ln ex = ((0 : Int32), va_up (f_K_become cK j1 j2) j1 (s_t (s_b ((f_K_become cK j1 j2) j1) (k_a (cK j2))) ((((k_a (cK j2)).toInt64) + ln.toInt64).toInt32))) := (if_pos h_4).trans ((if_pos h_13).trans ((if_neg h_29).trans ((if_neg h_40).trans ((if_pos h_51).trans ((if_pos h_78).trans ((if_neg h_101).trans ((if_pos h_110).trans ((if_neg (bn_f h_116)).trans (rfl)))))))))
                    exact e_wi S hr hlocks hP hS (congrArg (fun z => z.1) hF.symm) (congrArg (fun z => mW q xa ad sS sC fB gT z.2) hF.symm) d_M_withBounds_145
                  · -- 116: not taken
                    refine lv_iload hx hb d_M_withBounds_119 (lv_at hl 0 rfl) ?_
                    refine zb_ne (tgt := 127) hx hb d_M_withBounds_121 rfl (fun h_121 => ?_) (fun h_121 => ?_)
                    · -- 121: taken
                      refine lv_aload_n hx hb d_M_withBounds_127 rfl (lv_at hl 4 rfl) ?_
                      refine lv_aload_n hx hb d_M_withBounds_128 rfl (lv_at hl 5 rfl) ?_
                      refine c_vN [] S (c_K_become l _ _ _ _ _ _ _ _ _ A (mW_D hD) j1 (by first | assumption | exact and7_lt _) j2 (by first | assumption | exact and7_lt _)) mf_K_become mn_M_79 hK hN hP hS (5 + j1) 0 (mW_get (by first | assumption | exact and7_lt _)) rfl ⟨rfl, rfl, Nat.le_of_ble_eq_true rfl, Nat.le_of_ble_eq_true rfl⟩ rfl hl.1 rfl (Nat.le_of_ble_eq_true rfl) d_M_withBounds_129 ⟨Nat.zero_le _, Nat.zero_le _⟩ (fun H locs hP hS => ?_)
                      refine lv_aload_n hx hb d_M_withBounds_132 rfl (lv_at hl 4 rfl) ?_
                      refine lv_iload hx hb d_M_withBounds_133 (lv_at hl 2 rfl) ?_
                      refine k_putN S hK hP (mW_D hD) hS (by first | assumption | exact and7_lt _) 1 (by decide) hN fn_M_168 (s_b ((f_K_become cK j1 j2) j1) (k_a (cK j2))) rfl rfl rfl d_M_withBounds_135 (fun H locs hP hS => ?_)
                      refine lv_aload_n hx hb d_M_withBounds_138 rfl (lv_at hl 4 rfl) ?_
                      refine lv_iload hx hb d_M_withBounds_139 (lv_at hl 1 rfl) ?_
                      refine k_putON S hK hP (mW_D hD) hS (by first | assumption | exact and7_lt _) 2 (by decide) hN fn_M_171 (s_t (s_b ((f_K_become cK j1 j2) j1) (k_a (cK j2))) ((((k_a (cK j2)).toInt64) + ln.toInt64).toInt32)) rfl rfl rfl d_M_withBounds_141 (fun H locs hP hS => ?_)
                      refine lv_iconst (v := (0 : Int32)) hx hb d_M_withBounds_144 (by decide) ?_
                      have hF : f_M_withBounds cK j1 j2 ln ex = ((0 : Int32), va_up (f_K_become cK j1 j2) j1 (s_t (s_b ((f_K_become cK j1 j2) j1) (k_a (cK j2))) ((((k_a (cK j2)).toInt64) + ln.toInt64).toInt32))) := (if_pos h_4).trans ((if_pos h_13).trans ((if_neg h_29).trans ((if_neg h_40).trans ((if_pos h_51).trans ((if_pos h_78).trans ((if_neg h_101).trans ((if_pos h_110).trans ((if_pos h_116).trans ((if_pos h_121).trans (rfl))))))))))
                      exact e_wi S hr hlocks hP hS (congrArg (fun z => z.1) hF.symm) (congrArg (fun z => mW q xa ad sS sC fB gT z.2) hF.symm) d_M_withBounds_145
                    · -- 121: not taken
                      refine lv_bipush (v := (6 : Int32)) hx hb d_M_withBounds_124 (by decide) ?_
                      have hF : f_M_withBounds cK j1 j2 ln ex = ((6 : Int32), cK) := (if_pos h_4).trans ((if_pos h_13).trans ((if_neg h_29).trans ((if_neg h_40).trans ((if_pos h_51).trans ((if_pos h_78).trans ((if_neg h_101).trans ((if_pos h_110).trans ((if_pos h_116).trans ((if_neg (bn_f h_121)).trans (rfl))))))))))
                      exact e_wi S hr hlocks hP hS (congrArg (fun z => z.1) hF.symm) (congrArg (fun z => mW q xa ad sS sC fB gT z.2) hF.symm) d_M_withBounds_126
                · -- 110: not taken
                  refine lv_iconst (v := (4 : Int32)) hx hb d_M_withBounds_113 (by decide) ?_
                  have hF : f_M_withBounds cK j1 j2 ln ex = ((4 : Int32), cK) := (if_pos h_4).trans ((if_pos h_13).trans ((if_neg h_29).trans ((if_neg h_40).trans ((if_pos h_51).trans ((if_pos h_78).trans ((if_neg h_101).trans ((if_neg h_110).trans (rfl))))))))
                  exact e_wi S hr hlocks hP hS (congrArg (fun z => z.1) hF.symm) (congrArg (fun z => mW q xa ad sS sC fB gT z.2) hF.symm) d_M_withBounds_114
            · -- 78: not taken
              refine lv_iload hx hb d_M_withBounds_81 (lv_at hl 2 rfl) ?_
              refine c_pS [] S (c_M_multipleNotAbove l _ _ _ _ _ _ _ _ _ (k_a (cK j2))) mf_M_multipleNotAbove ml_M_178 hK hN hP ⟨rfl, rfl, Nat.le_of_ble_eq_true rfl, Nat.le_of_ble_eq_true rfl⟩ rfl hl.1 rfl (Nat.le_of_ble_eq_true rfl) d_M_withBounds_83 ⟨Nat.zero_le _, Nat.zero_le _⟩ ?_
              refine lv_istore (lv' := [(6, .int _), (8, .int _), (7, .int _), (4, .long _), (0, .ref _), (1, .ref _), (2, .int _), (3, .int _)]) hx hb d_M_withBounds_86 hl (by decide) rfl (fun ls hl => ?_)
              refine lv_iload hx hb d_M_withBounds_88 (lv_at hl 2 rfl) ?_
              refine c_pS [] S (c_M_multipleNotBelow l _ _ _ _ _ _ _ _ _ ((((k_a (cK j2)).toInt64) + ln.toInt64).toInt32)) mf_M_multipleNotBelow ml_M_181 hK hN hP ⟨rfl, rfl, Nat.le_of_ble_eq_true rfl, Nat.le_of_ble_eq_true rfl⟩ rfl hl.1 rfl (Nat.le_of_ble_eq_true rfl) d_M_withBounds_90 ⟨Nat.zero_le _, Nat.zero_le _⟩ ?_
              refine lv_istore (lv' := [(7, .int _), (6, .int _), (8, .int _), (4, .long _), (0, .ref _), (1, .ref _), (2, .int _), (3, .int _)]) hx hb d_M_withBounds_93 hl (by decide) rfl (fun ls hl => ?_)
              refine lv_iload hx hb d_M_withBounds_95 (lv_at hl 1 rfl) ?_
              refine lv_aload_n hx hb d_M_withBounds_97 rfl (lv_at hl 5 rfl) ?_
              refine k_getN (v := .int (k_b (cK j2))) S hK hP (by first | assumption | exact and7_lt _) 1 (by decide) hN fn_M_168 rfl d_M_withBounds_98 ?_
              refine lv_icmp_lt (tgt := 113) hx hb d_M_withBounds_101 rfl (fun h_101 => ?_) (fun h_101 => ?_)
              · -- 101: taken
                refine lv_iconst (v := (4 : Int32)) hx hb d_M_withBounds_113 (by decide) ?_
                have hF : f_M_withBounds cK j1 j2 ln ex = ((4 : Int32), cK) := (if_pos h_4).trans ((if_pos h_13).trans ((if_neg h_29).trans ((if_neg h_40).trans ((if_pos h_51).trans ((if_neg (bn_f h_78)).trans ((if_pos h_101).trans (rfl)))))))
                exact e_wi S hr hlocks hP hS (congrArg (fun z => z.1) hF.symm) (congrArg (fun z => mW q xa ad sS sC fB gT z.2) hF.symm) d_M_withBounds_114
              · -- 101: not taken
                refine lv_iload hx hb d_M_withBounds_104 (lv_at hl 0 rfl) ?_
                refine lv_aload_n hx hb d_M_withBounds_106 rfl (lv_at hl 5 rfl) ?_
                refine k_getN (v := .int (k_t (cK j2))) S hK hP (by first | assumption | exact and7_lt _) 2 (by decide) hN fn_M_171 rfl d_M_withBounds_107 ?_
                refine lv_icmp_le (tgt := 115) hx hb d_M_withBounds_110 rfl (fun h_110 => ?_) (fun h_110 => ?_)
                · -- 110: taken
                  refine lv_iload_n hx hb d_M_withBounds_115 rfl (lv_at hl 7 rfl) ?_
                  refine zb_eq (tgt := 127) hx hb d_M_withBounds_116 rfl (fun h_116 => ?_) (fun h_116 => ?_)
                  · -- 116: taken
                    refine lv_aload_n hx hb d_M_withBounds_127 rfl (lv_at hl 4 rfl) ?_
                    refine lv_aload_n hx hb d_M_withBounds_128 rfl (lv_at hl 5 rfl) ?_
                    refine c_vN [] S (c_K_become l _ _ _ _ _ _ _ _ _ A (mW_D hD) j1 (by first | assumption | exact and7_lt _) j2 (by first | assumption | exact and7_lt _)) mf_K_become mn_M_79 hK hN hP hS (5 + j1) 0 (mW_get (by first | assumption | exact and7_lt _)) rfl ⟨rfl, rfl, Nat.le_of_ble_eq_true rfl, Nat.le_of_ble_eq_true rfl⟩ rfl hl.1 rfl (Nat.le_of_ble_eq_true rfl) d_M_withBounds_129 ⟨Nat.zero_le _, Nat.zero_le _⟩ (fun H locs hP hS => ?_)
                    refine lv_aload_n hx hb d_M_withBounds_132 rfl (lv_at hl 4 rfl) ?_
                    refine lv_iload hx hb d_M_withBounds_133 (lv_at hl 1 rfl) ?_
                    refine k_putN S hK hP (mW_D hD) hS (by first | assumption | exact and7_lt _) 1 (by decide) hN fn_M_168 (s_b ((f_K_become cK j1 j2) j1) (f_M_multipleNotAbove (k_a (cK j2)))) rfl rfl rfl d_M_withBounds_135 (fun H locs hP hS => ?_)
                    refine lv_aload_n hx hb d_M_withBounds_138 rfl (lv_at hl 4 rfl) ?_
                    refine lv_iload hx hb d_M_withBounds_139 (lv_at hl 0 rfl) ?_
                    refine k_putON S hK hP (mW_D hD) hS (by first | assumption | exact and7_lt _) 2 (by decide) hN fn_M_171 (s_t (s_b ((f_K_become cK j1 j2) j1) (f_M_multipleNotAbove (k_a (cK j2)))) (f_M_multipleNotBelow ((((k_a (cK j2)).toInt64) + ln.toInt64).toInt32))) rfl rfl rfl d_M_withBounds_141 (fun H locs hP hS => ?_)
                    refine lv_iconst (v := (0 : Int32)) hx hb d_M_withBounds_144 (by decide) ?_
                    have hF : f_M_withBounds cK j1 j2 ln ex = ((0 : Int32), va_up (f_K_become cK j1 j2) j1 (s_t (s_b ((f_K_become cK j1 j2) j1) (f_M_multipleNotAbove (k_a (cK j2)))) (f_M_multipleNotBelow ((((k_a (cK j2)).toInt64) + ln.toInt64).toInt32)))) := (if_pos h_4).trans ((if_pos h_13).trans ((if_neg h_29).trans ((if_neg h_40).trans ((if_pos h_51).trans ((if_neg (bn_f h_78)).trans ((if_neg h_101).trans ((if_pos h_110).trans ((if_neg (bn_f h_116)).trans (rfl)))))))))
                    exact e_wi S hr hlocks hP hS (congrArg (fun z => z.1) hF.symm) (congrArg (fun z => mW q xa ad sS sC fB gT z.2) hF.symm) d_M_withBounds_145
                  · -- 116: not taken
                    refine lv_iload hx hb d_M_withBounds_119 (lv_at hl 2 rfl) ?_
                    refine zb_ne (tgt := 127) hx hb d_M_withBounds_121 rfl (fun h_121 => ?_) (fun h_121 => ?_)
                    · -- 121: taken
                      refine lv_aload_n hx hb d_M_withBounds_127 rfl (lv_at hl 4 rfl) ?_
                      refine lv_aload_n hx hb d_M_withBounds_128 rfl (lv_at hl 5 rfl) ?_
                      refine c_vN [] S (c_K_become l _ _ _ _ _ _ _ _ _ A (mW_D hD) j1 (by first | assumption | exact and7_lt _) j2 (by first | assumption | exact and7_lt _)) mf_K_become mn_M_79 hK hN hP hS (5 + j1) 0 (mW_get (by first | assumption | exact and7_lt _)) rfl ⟨rfl, rfl, Nat.le_of_ble_eq_true rfl, Nat.le_of_ble_eq_true rfl⟩ rfl hl.1 rfl (Nat.le_of_ble_eq_true rfl) d_M_withBounds_129 ⟨Nat.zero_le _, Nat.zero_le _⟩ (fun H locs hP hS => ?_)
                      refine lv_aload_n hx hb d_M_withBounds_132 rfl (lv_at hl 4 rfl) ?_
                      refine lv_iload hx hb d_M_withBounds_133 (lv_at hl 1 rfl) ?_
                      refine k_putN S hK hP (mW_D hD) hS (by first | assumption | exact and7_lt _) 1 (by decide) hN fn_M_168 (s_b ((f_K_become cK j1 j2) j1) (f_M_multipleNotAbove (k_a (cK j2)))) rfl rfl rfl d_M_withBounds_135 (fun H locs hP hS => ?_)
                      refine lv_aload_n hx hb d_M_withBounds_138 rfl (lv_at hl 4 rfl) ?_
                      refine lv_iload hx hb d_M_withBounds_139 (lv_at hl 0 rfl) ?_
                      refine k_putON S hK hP (mW_D hD) hS (by first | assumption | exact and7_lt _) 2 (by decide) hN fn_M_171 (s_t (s_b ((f_K_become cK j1 j2) j1) (f_M_multipleNotAbove (k_a (cK j2)))) (f_M_multipleNotBelow ((((k_a (cK j2)).toInt64) + ln.toInt64).toInt32))) rfl rfl rfl d_M_withBounds_141 (fun H locs hP hS => ?_)
                      refine lv_iconst (v := (0 : Int32)) hx hb d_M_withBounds_144 (by decide) ?_
                      have hF : f_M_withBounds cK j1 j2 ln ex = ((0 : Int32), va_up (f_K_become cK j1 j2) j1 (s_t (s_b ((f_K_become cK j1 j2) j1) (f_M_multipleNotAbove (k_a (cK j2)))) (f_M_multipleNotBelow ((((k_a (cK j2)).toInt64) + ln.toInt64).toInt32)))) := (if_pos h_4).trans ((if_pos h_13).trans ((if_neg h_29).trans ((if_neg h_40).trans ((if_pos h_51).trans ((if_neg (bn_f h_78)).trans ((if_neg h_101).trans ((if_pos h_110).trans ((if_pos h_116).trans ((if_pos h_121).trans (rfl))))))))))
                      exact e_wi S hr hlocks hP hS (congrArg (fun z => z.1) hF.symm) (congrArg (fun z => mW q xa ad sS sC fB gT z.2) hF.symm) d_M_withBounds_145
                    · -- 121: not taken
                      refine lv_bipush (v := (6 : Int32)) hx hb d_M_withBounds_124 (by decide) ?_
                      have hF : f_M_withBounds cK j1 j2 ln ex = ((6 : Int32), cK) := (if_pos h_4).trans ((if_pos h_13).trans ((if_neg h_29).trans ((if_neg h_40).trans ((if_pos h_51).trans ((if_neg (bn_f h_78)).trans ((if_neg h_101).trans ((if_pos h_110).trans ((if_pos h_116).trans ((if_neg (bn_f h_121)).trans (rfl))))))))))
                      exact e_wi S hr hlocks hP hS (congrArg (fun z => z.1) hF.symm) (congrArg (fun z => mW q xa ad sS sC fB gT z.2) hF.symm) d_M_withBounds_126
                · -- 110: not taken
                  refine lv_iconst (v := (4 : Int32)) hx hb d_M_withBounds_113 (by decide) ?_
                  have hF : f_M_withBounds cK j1 j2 ln ex = ((4 : Int32), cK) := (if_pos h_4).trans ((if_pos h_13).trans ((if_neg h_29).trans ((if_neg h_40).trans ((if_pos h_51).trans ((if_neg (bn_f h_78)).trans ((if_neg h_101).trans ((if_neg h_110).trans (rfl))))))))
                  exact e_wi S hr hlocks hP hS (congrArg (fun z => z.1) hF.symm) (congrArg (fun z => mW q xa ad sS sC fB gT z.2) hF.symm) d_M_withBounds_114
          · -- 51: not taken
            refine lv_iconst (v := (4 : Int32)) hx hb d_M_withBounds_54 (by decide) ?_
            have hF : f_M_withBounds cK j1 j2 ln ex = ((4 : Int32), cK) := (if_pos h_4).trans ((if_pos h_13).trans ((if_neg h_29).trans ((if_neg h_40).trans ((if_neg h_51).trans (rfl)))))
            exact e_wi S hr hlocks hP hS (congrArg (fun z => z.1) hF.symm) (congrArg (fun z => mW q xa ad sS sC fB gT z.2) hF.symm) d_M_withBounds_55
    · -- 13: not taken
      refine lv_iconst (v := (2 : Int32)) hx hb d_M_withBounds_16 (by decide) ?_
      have hF : f_M_withBounds cK j1 j2 ln ex = ((2 : Int32), cK) := (if_pos h_4).trans ((if_neg h_13).trans (rfl))
      exact e_wi S hr hlocks hP hS (congrArg (fun z => z.1) hF.symm) (congrArg (fun z => mW q xa ad sS sC fB gT z.2) hF.symm) d_M_withBounds_17
  · -- 4: not taken
    refine lv_iconst (v := (1 : Int32)) hx hb d_M_withBounds_7 (by decide) ?_
    have hF : f_M_withBounds cK j1 j2 ln ex = ((1 : Int32), cK) := (if_neg (bn_f h_4)).trans (rfl)
    exact e_wi S hr hlocks hP hS (congrArg (fun z => z.1) hF.symm) (congrArg (fun z => mW q xa ad sS sC fB gT z.2) hF.symm) d_M_withBounds_8
def f_M_seal (cK : Nat → Cp) (j1 : Nat) (j2 : Nat) (j3 : Nat) : Int32 × (Nat → Cp) :=
  if (k_v (cK j2)) = true then (if (k_v (cK j3)) = true then (if (k_y (cK j2)) = (0 : Int32) then (if (k_y (cK j3)) = (0 : Int32) then (if (f_K_permits cK j3 (32 : Int32)) = true then (if (f_K_hasAddressInBounds cK j3) = true then (if (k_a (cK j3)) ≤ (1 : Int32) then ((7 : Int32), cK)
              else if (k_a (cK j3)) ≤ (15 : Int32) then ((0 : Int32), va_up (f_K_become cK j1 j2) j1 (s_y ((f_K_become cK j1 j2) j1) (k_a (cK j3))))
              else ((7 : Int32), cK))
            else ((4 : Int32), cK))
          else ((3 : Int32), cK))
        else ((2 : Int32), cK))
      else ((2 : Int32), cK))
    else ((1 : Int32), cK))
  else ((1 : Int32), cK)
set_option maxHeartbeats 4000000 in
set_option maxRecDepth 100000 in
theorem c_M_seal (l : Launch) (D : va_G) (q : Nat → ClassId) (xa ad : Nat → Nat) (sS : Int32) (sC : Int32) (fB : Nat → Int32) (gT : Nat → Bool) (cK : Nat → Cp) (A : Nat → Prop) (hD : va_D A (mW q xa ad sS sC fB gT cK)) (j1 : Nat) (hj1 : j1 < 12) (j2 : Nat) (hj2 : j2 < 12) (j3 : Nat) (hj3 : j3 < 12) : WMi l y_M_seal b_M_seal 4 (some .int) ({ frames := 1, cells := 0, slots := 0, locals := 21 }) [.ref (ad j1), .ref (ad j2), .ref (ad j3)] D (tyM q) (mW q xa ad sS sC fB gT cK) (mW q xa ad sS sC fB gT ((f_M_seal cK j1 j2 j3).2)) A (((f_M_seal cK j1 j2 j3).1)) := by
  refine ofI (by decide) (Nat.le_of_ble_eq_true rfl) ?_
  intro p e s m below meth c ls S hr hlocks hK hN hP hl
  have hx := S.1
  have hb := S.2.1
  have hS : va_S A s.heap s.heap [] := va_S.rf
  have hl : lv_has ls 4 [(0, .ref (ad j1)), (1, .ref (ad j2)), (2, .ref (ad j3))] := hl
  refine lv_aload_n hx hb d_M_seal_0 rfl (lv_at hl 1 rfl) ?_
  refine k_getN (v := .int (b2i (k_v (cK j2)))) S hK hP (by first | assumption | exact and7_lt _) 0 (by decide) hN fn_M_83 rfl d_M_seal_1 ?_
  refine zb_eq (tgt := 14) hx hb d_M_seal_4 rfl (fun h_4 => ?_) (fun h_4 => ?_)
  · -- 4: taken
    refine lv_iconst (v := (1 : Int32)) hx hb d_M_seal_14 (by decide) ?_
    have hF : f_M_seal cK j1 j2 j3 = ((1 : Int32), cK) := (if_neg (bn_f h_4)).trans (rfl)
    exact e_wi S hr hlocks hP hS (congrArg (fun z => z.1) hF.symm) (congrArg (fun z => mW q xa ad sS sC fB gT z.2) hF.symm) d_M_seal_15
  · -- 4: not taken
    refine lv_aload_n hx hb d_M_seal_7 rfl (lv_at hl 2 rfl) ?_
    refine k_getN (v := .int (b2i (k_v (cK j3)))) S hK hP (by first | assumption | exact and7_lt _) 0 (by decide) hN fn_M_83 rfl d_M_seal_8 ?_
    refine zb_ne (tgt := 16) hx hb d_M_seal_11 rfl (fun h_11 => ?_) (fun h_11 => ?_)
    · -- 11: taken
      refine lv_aload_n hx hb d_M_seal_16 rfl (lv_at hl 1 rfl) ?_
      refine k_getN (v := .int (k_y (cK j2))) S hK hP (by first | assumption | exact and7_lt _) 4 (by decide) hN fn_M_115 rfl d_M_seal_17 ?_
      refine lv_if_ne (tgt := 30) hx hb d_M_seal_20 rfl (fun h_20 => ?_) (fun h_20 => ?_)
      · -- 20: taken
        refine lv_iconst (v := (2 : Int32)) hx hb d_M_seal_30 (by decide) ?_
        have hF : f_M_seal cK j1 j2 j3 = ((2 : Int32), cK) := (if_pos h_4).trans ((if_pos h_11).trans ((if_neg h_20).trans (rfl)))
        exact e_wi S hr hlocks hP hS (congrArg (fun z => z.1) hF.symm) (congrArg (fun z => mW q xa ad sS sC fB gT z.2) hF.symm) d_M_seal_31
      · -- 20: not taken
        refine lv_aload_n hx hb d_M_seal_23 rfl (lv_at hl 2 rfl) ?_
        refine k_getN (v := .int (k_y (cK j3))) S hK hP (by first | assumption | exact and7_lt _) 4 (by decide) hN fn_M_115 rfl d_M_seal_24 ?_
        refine lv_if_eq (tgt := 32) hx hb d_M_seal_27 rfl (fun h_27 => ?_) (fun h_27 => ?_)
        · -- 27: taken
          refine lv_aload_n hx hb d_M_seal_32 rfl (lv_at hl 2 rfl) ?_
          refine lv_bipush (v := (32 : Int32)) hx hb d_M_seal_33 (by decide) ?_
          refine c_pN [] S (c_K_permits l _ _ _ _ _ _ _ _ _ j3 (by first | assumption | exact and7_lt _) (32 : Int32)) mf_K_permits mn_M_118 hK hN hP (5 + j3) 0 (mW_get (by first | assumption | exact and7_lt _)) rfl ⟨rfl, rfl, Nat.le_of_ble_eq_true rfl, Nat.le_of_ble_eq_true rfl⟩ rfl hl.1 rfl (Nat.le_of_ble_eq_true rfl) d_M_seal_35 ⟨Nat.zero_le _, Nat.zero_le _⟩ ?_
          refine zb_ne (tgt := 43) hx hb d_M_seal_38 rfl (fun h_38 => ?_) (fun h_38 => ?_)
          · -- 38: taken
            refine lv_aload_n hx hb d_M_seal_43 rfl (lv_at hl 2 rfl) ?_
            refine c_pN [] S (c_K_hasAddressInBounds l _ _ _ _ _ _ _ _ _ j3 (by first | assumption | exact and7_lt _)) mf_K_hasAddressInBounds mn_M_184 hK hN hP (5 + j3) 0 (mW_get (by first | assumption | exact and7_lt _)) rfl ⟨rfl, rfl, Nat.le_of_ble_eq_true rfl, Nat.le_of_ble_eq_true rfl⟩ rfl hl.1 rfl (Nat.le_of_ble_eq_true rfl) d_M_seal_44 ⟨Nat.zero_le _, Nat.zero_le _⟩ ?_
            refine zb_ne (tgt := 52) hx hb d_M_seal_47 rfl (fun h_47 => ?_) (fun h_47 => ?_)
            · -- 47: taken
              refine lv_aload_n hx hb d_M_seal_52 rfl (lv_at hl 2 rfl) ?_
              refine k_getN (v := .int (k_a (cK j3))) S hK hP (by first | assumption | exact and7_lt _) 5 (by decide) hN fn_M_87 rfl d_M_seal_53 ?_
              refine lv_istore_n (lv' := [(3, .int _), (0, .ref _), (1, .ref _), (2, .ref _)]) hx hb d_M_seal_56 rfl hl (by decide) rfl (fun ls hl => ?_)
              refine lv_iload_n hx hb d_M_seal_57 rfl (lv_at hl 0 rfl) ?_
              refine lv_iconst (v := (1 : Int32)) hx hb d_M_seal_58 (by decide) ?_
              refine lv_icmp_le (tgt := 68) hx hb d_M_seal_59 rfl (fun h_59 => ?_) (fun h_59 => ?_)
              · -- 59: taken
                refine lv_bipush (v := (7 : Int32)) hx hb d_M_seal_68 (by decide) ?_
                have hF : f_M_seal cK j1 j2 j3 = ((7 : Int32), cK) := (if_pos h_4).trans ((if_pos h_11).trans ((if_pos h_20).trans ((if_pos h_27).trans ((if_pos h_38).trans ((if_pos h_47).trans ((if_pos h_59).trans (rfl)))))))
                exact e_wi S hr hlocks hP hS (congrArg (fun z => z.1) hF.symm) (congrArg (fun z => mW q xa ad sS sC fB gT z.2) hF.symm) d_M_seal_70
              · -- 59: not taken
                refine lv_iload_n hx hb d_M_seal_62 rfl (lv_at hl 0 rfl) ?_
                refine lv_bipush (v := (15 : Int32)) hx hb d_M_seal_63 (by decide) ?_
                refine lv_icmp_le (tgt := 71) hx hb d_M_seal_65 rfl (fun h_65 => ?_) (fun h_65 => ?_)
                · -- 65: taken
                  refine lv_aload_n hx hb d_M_seal_71 rfl (lv_at hl 1 rfl) ?_
                  refine lv_aload_n hx hb d_M_seal_72 rfl (lv_at hl 2 rfl) ?_
                  refine c_vN [] S (c_K_become l _ _ _ _ _ _ _ _ _ A (mW_D hD) j1 (by first | assumption | exact and7_lt _) j2 (by first | assumption | exact and7_lt _)) mf_K_become mn_M_79 hK hN hP hS (5 + j1) 0 (mW_get (by first | assumption | exact and7_lt _)) rfl ⟨rfl, rfl, Nat.le_of_ble_eq_true rfl, Nat.le_of_ble_eq_true rfl⟩ rfl hl.1 rfl (Nat.le_of_ble_eq_true rfl) d_M_seal_73 ⟨Nat.zero_le _, Nat.zero_le _⟩ (fun H locs hP hS => ?_)
                  refine lv_aload_n hx hb d_M_seal_76 rfl (lv_at hl 1 rfl) ?_
                  refine lv_iload_n hx hb d_M_seal_77 rfl (lv_at hl 0 rfl) ?_
                  refine k_putN S hK hP (mW_D hD) hS (by first | assumption | exact and7_lt _) 4 (by decide) hN fn_M_115 (s_y ((f_K_become cK j1 j2) j1) (k_a (cK j3))) rfl rfl rfl d_M_seal_78 (fun H locs hP hS => ?_)
                  refine lv_iconst (v := (0 : Int32)) hx hb d_M_seal_81 (by decide) ?_
                  have hF : f_M_seal cK j1 j2 j3 = ((0 : Int32), va_up (f_K_become cK j1 j2) j1 (s_y ((f_K_become cK j1 j2) j1) (k_a (cK j3)))) := (if_pos h_4).trans ((if_pos h_11).trans ((if_pos h_20).trans ((if_pos h_27).trans ((if_pos h_38).trans ((if_pos h_47).trans ((if_neg h_59).trans ((if_pos h_65).trans (rfl))))))))
                  exact e_wi S hr hlocks hP hS (congrArg (fun z => z.1) hF.symm) (congrArg (fun z => mW q xa ad sS sC fB gT z.2) hF.symm) d_M_seal_82
                · -- 65: not taken
                  refine lv_bipush (v := (7 : Int32)) hx hb d_M_seal_68 (by decide) ?_
                  have hF : f_M_seal cK j1 j2 j3 = ((7 : Int32), cK) := (if_pos h_4).trans ((if_pos h_11).trans ((if_pos h_20).trans ((if_pos h_27).trans ((if_pos h_38).trans ((if_pos h_47).trans ((if_neg h_59).trans ((if_neg h_65).trans (rfl))))))))
                  exact e_wi S hr hlocks hP hS (congrArg (fun z => z.1) hF.symm) (congrArg (fun z => mW q xa ad sS sC fB gT z.2) hF.symm) d_M_seal_70
            · -- 47: not taken
              refine lv_iconst (v := (4 : Int32)) hx hb d_M_seal_50 (by decide) ?_
              have hF : f_M_seal cK j1 j2 j3 = ((4 : Int32), cK) := (if_pos h_4).trans ((if_pos h_11).trans ((if_pos h_20).trans ((if_pos h_27).trans ((if_pos h_38).trans ((if_neg (bn_f h_47)).trans (rfl))))))
              exact e_wi S hr hlocks hP hS (congrArg (fun z => z.1) hF.symm) (congrArg (fun z => mW q xa ad sS sC fB gT z.2) hF.symm) d_M_seal_51
          · -- 38: not taken
            refine lv_iconst (v := (3 : Int32)) hx hb d_M_seal_41 (by decide) ?_
            have hF : f_M_seal cK j1 j2 j3 = ((3 : Int32), cK) := (if_pos h_4).trans ((if_pos h_11).trans ((if_pos h_20).trans ((if_pos h_27).trans ((if_neg (bn_f h_38)).trans (rfl)))))
            exact e_wi S hr hlocks hP hS (congrArg (fun z => z.1) hF.symm) (congrArg (fun z => mW q xa ad sS sC fB gT z.2) hF.symm) d_M_seal_42
        · -- 27: not taken
          refine lv_iconst (v := (2 : Int32)) hx hb d_M_seal_30 (by decide) ?_
          have hF : f_M_seal cK j1 j2 j3 = ((2 : Int32), cK) := (if_pos h_4).trans ((if_pos h_11).trans ((if_pos h_20).trans ((if_neg h_27).trans (rfl))))
          exact e_wi S hr hlocks hP hS (congrArg (fun z => z.1) hF.symm) (congrArg (fun z => mW q xa ad sS sC fB gT z.2) hF.symm) d_M_seal_31
    · -- 11: not taken
      refine lv_iconst (v := (1 : Int32)) hx hb d_M_seal_14 (by decide) ?_
      have hF : f_M_seal cK j1 j2 j3 = ((1 : Int32), cK) := (if_pos h_4).trans ((if_neg (bn_f h_11)).trans (rfl))
      exact e_wi S hr hlocks hP hS (congrArg (fun z => z.1) hF.symm) (congrArg (fun z => mW q xa ad sS sC fB gT z.2) hF.symm) d_M_seal_15
def f_M_unseal (cK : Nat → Cp) (j1 : Nat) (j2 : Nat) (j3 : Nat) : Int32 × (Nat → Cp) :=
  if (k_v (cK j2)) = true then (if (k_v (cK j3)) = true then (if (k_y (cK j2)) ≤ (1 : Int32) then ((2 : Int32), cK)
      else if (k_y (cK j3)) = (0 : Int32) then (if (k_a (cK j3)) = (k_y (cK j2)) then (if (f_K_permits cK j3 (64 : Int32)) = true then (if (f_K_hasAddressInBounds cK j3) = true then ((0 : Int32), va_up (f_K_become cK j1 j2) j1 (s_y ((f_K_become cK j1 j2) j1) (0 : Int32)))
            else ((4 : Int32), cK))
          else ((3 : Int32), cK))
        else ((7 : Int32), cK))
      else ((2 : Int32), cK))
    else ((1 : Int32), cK))
  else ((1 : Int32), cK)
set_option maxHeartbeats 4000000 in
set_option maxRecDepth 100000 in
theorem c_M_unseal (l : Launch) (D : va_G) (q : Nat → ClassId) (xa ad : Nat → Nat) (sS : Int32) (sC : Int32) (fB : Nat → Int32) (gT : Nat → Bool) (cK : Nat → Cp) (A : Nat → Prop) (hD : va_D A (mW q xa ad sS sC fB gT cK)) (j1 : Nat) (hj1 : j1 < 12) (j2 : Nat) (hj2 : j2 < 12) (j3 : Nat) (hj3 : j3 < 12) : WMi l y_M_unseal b_M_unseal 3 (some .int) ({ frames := 1, cells := 0, slots := 0, locals := 21 }) [.ref (ad j1), .ref (ad j2), .ref (ad j3)] D (tyM q) (mW q xa ad sS sC fB gT cK) (mW q xa ad sS sC fB gT ((f_M_unseal cK j1 j2 j3).2)) A (((f_M_unseal cK j1 j2 j3).1)) := by
  refine ofI (by decide) (Nat.le_of_ble_eq_true rfl) ?_
  intro p e s m below meth c ls S hr hlocks hK hN hP hl
  have hx := S.1
  have hb := S.2.1
  have hS : va_S A s.heap s.heap [] := va_S.rf
  have hl : lv_has ls 3 [(0, .ref (ad j1)), (1, .ref (ad j2)), (2, .ref (ad j3))] := hl
  refine lv_aload_n hx hb d_M_unseal_0 rfl (lv_at hl 1 rfl) ?_
  refine k_getN (v := .int (b2i (k_v (cK j2)))) S hK hP (by first | assumption | exact and7_lt _) 0 (by decide) hN fn_M_83 rfl d_M_unseal_1 ?_
  refine zb_eq (tgt := 14) hx hb d_M_unseal_4 rfl (fun h_4 => ?_) (fun h_4 => ?_)
  · -- 4: taken
    refine lv_iconst (v := (1 : Int32)) hx hb d_M_unseal_14 (by decide) ?_
    have hF : f_M_unseal cK j1 j2 j3 = ((1 : Int32), cK) := (if_neg (bn_f h_4)).trans (rfl)
    exact e_wi S hr hlocks hP hS (congrArg (fun z => z.1) hF.symm) (congrArg (fun z => mW q xa ad sS sC fB gT z.2) hF.symm) d_M_unseal_15
  · -- 4: not taken
    refine lv_aload_n hx hb d_M_unseal_7 rfl (lv_at hl 2 rfl) ?_
    refine k_getN (v := .int (b2i (k_v (cK j3)))) S hK hP (by first | assumption | exact and7_lt _) 0 (by decide) hN fn_M_83 rfl d_M_unseal_8 ?_
    refine zb_ne (tgt := 16) hx hb d_M_unseal_11 rfl (fun h_11 => ?_) (fun h_11 => ?_)
    · -- 11: taken
      refine lv_aload_n hx hb d_M_unseal_16 rfl (lv_at hl 1 rfl) ?_
      refine k_getN (v := .int (k_y (cK j2))) S hK hP (by first | assumption | exact and7_lt _) 4 (by decide) hN fn_M_115 rfl d_M_unseal_17 ?_
      refine lv_iconst (v := (1 : Int32)) hx hb d_M_unseal_20 (by decide) ?_
      refine lv_icmp_le (tgt := 31) hx hb d_M_unseal_21 rfl (fun h_21 => ?_) (fun h_21 => ?_)
      · -- 21: taken
        refine lv_iconst (v := (2 : Int32)) hx hb d_M_unseal_31 (by decide) ?_
        have hF : f_M_unseal cK j1 j2 j3 = ((2 : Int32), cK) := (if_pos h_4).trans ((if_pos h_11).trans ((if_pos h_21).trans (rfl)))
        exact e_wi S hr hlocks hP hS (congrArg (fun z => z.1) hF.symm) (congrArg (fun z => mW q xa ad sS sC fB gT z.2) hF.symm) d_M_unseal_32
      · -- 21: not taken
        refine lv_aload_n hx hb d_M_unseal_24 rfl (lv_at hl 2 rfl) ?_
        refine k_getN (v := .int (k_y (cK j3))) S hK hP (by first | assumption | exact and7_lt _) 4 (by decide) hN fn_M_115 rfl d_M_unseal_25 ?_
        refine lv_if_eq (tgt := 33) hx hb d_M_unseal_28 rfl (fun h_28 => ?_) (fun h_28 => ?_)
        · -- 28: taken
          refine lv_aload_n hx hb d_M_unseal_33 rfl (lv_at hl 2 rfl) ?_
          refine k_getN (v := .int (k_a (cK j3))) S hK hP (by first | assumption | exact and7_lt _) 5 (by decide) hN fn_M_87 rfl d_M_unseal_34 ?_
          refine lv_aload_n hx hb d_M_unseal_37 rfl (lv_at hl 1 rfl) ?_
          refine k_getN (v := .int (k_y (cK j2))) S hK hP (by first | assumption | exact and7_lt _) 4 (by decide) hN fn_M_115 rfl d_M_unseal_38 ?_
          refine lv_icmp_eq (tgt := 47) hx hb d_M_unseal_41 rfl (fun h_41 => ?_) (fun h_41 => ?_)
          · -- 41: taken
            refine lv_aload_n hx hb d_M_unseal_47 rfl (lv_at hl 2 rfl) ?_
            refine lv_bipush (v := (64 : Int32)) hx hb d_M_unseal_48 (by decide) ?_
            refine c_pN [] S (c_K_permits l _ _ _ _ _ _ _ _ _ j3 (by first | assumption | exact and7_lt _) (64 : Int32)) mf_K_permits mn_M_118 hK hN hP (5 + j3) 0 (mW_get (by first | assumption | exact and7_lt _)) rfl ⟨rfl, rfl, Nat.le_of_ble_eq_true rfl, Nat.le_of_ble_eq_true rfl⟩ rfl hl.1 rfl (Nat.le_of_ble_eq_true rfl) d_M_unseal_50 ⟨Nat.zero_le _, Nat.zero_le _⟩ ?_
            refine zb_ne (tgt := 58) hx hb d_M_unseal_53 rfl (fun h_53 => ?_) (fun h_53 => ?_)
            · -- 53: taken
              refine lv_aload_n hx hb d_M_unseal_58 rfl (lv_at hl 2 rfl) ?_
              refine c_pN [] S (c_K_hasAddressInBounds l _ _ _ _ _ _ _ _ _ j3 (by first | assumption | exact and7_lt _)) mf_K_hasAddressInBounds mn_M_184 hK hN hP (5 + j3) 0 (mW_get (by first | assumption | exact and7_lt _)) rfl ⟨rfl, rfl, Nat.le_of_ble_eq_true rfl, Nat.le_of_ble_eq_true rfl⟩ rfl hl.1 rfl (Nat.le_of_ble_eq_true rfl) d_M_unseal_59 ⟨Nat.zero_le _, Nat.zero_le _⟩ ?_
              refine zb_ne (tgt := 67) hx hb d_M_unseal_62 rfl (fun h_62 => ?_) (fun h_62 => ?_)
              · -- 62: taken
                refine lv_aload_n hx hb d_M_unseal_67 rfl (lv_at hl 0 rfl) ?_
                refine lv_aload_n hx hb d_M_unseal_68 rfl (lv_at hl 1 rfl) ?_
                refine c_vN [] S (c_K_become l _ _ _ _ _ _ _ _ _ A (mW_D hD) j1 (by first | assumption | exact and7_lt _) j2 (by first | assumption | exact and7_lt _)) mf_K_become mn_M_79 hK hN hP hS (5 + j1) 0 (mW_get (by first | assumption | exact and7_lt _)) rfl ⟨rfl, rfl, Nat.le_of_ble_eq_true rfl, Nat.le_of_ble_eq_true rfl⟩ rfl hl.1 rfl (Nat.le_of_ble_eq_true rfl) d_M_unseal_69 ⟨Nat.zero_le _, Nat.zero_le _⟩ (fun H locs hP hS => ?_)
                refine lv_aload_n hx hb d_M_unseal_72 rfl (lv_at hl 0 rfl) ?_
                refine lv_iconst (v := (0 : Int32)) hx hb d_M_unseal_73 (by decide) ?_
                refine k_putN S hK hP (mW_D hD) hS (by first | assumption | exact and7_lt _) 4 (by decide) hN fn_M_115 (s_y ((f_K_become cK j1 j2) j1) (0 : Int32)) rfl rfl rfl d_M_unseal_74 (fun H locs hP hS => ?_)
                refine lv_iconst (v := (0 : Int32)) hx hb d_M_unseal_77 (by decide) ?_
                have hF : f_M_unseal cK j1 j2 j3 = ((0 : Int32), va_up (f_K_become cK j1 j2) j1 (s_y ((f_K_become cK j1 j2) j1) (0 : Int32))) := (if_pos h_4).trans ((if_pos h_11).trans ((if_neg h_21).trans ((if_pos h_28).trans ((if_pos h_41).trans ((if_pos h_53).trans ((if_pos h_62).trans (rfl)))))))
                exact e_wi S hr hlocks hP hS (congrArg (fun z => z.1) hF.symm) (congrArg (fun z => mW q xa ad sS sC fB gT z.2) hF.symm) d_M_unseal_78
              · -- 62: not taken
                refine lv_iconst (v := (4 : Int32)) hx hb d_M_unseal_65 (by decide) ?_
                have hF : f_M_unseal cK j1 j2 j3 = ((4 : Int32), cK) := (if_pos h_4).trans ((if_pos h_11).trans ((if_neg h_21).trans ((if_pos h_28).trans ((if_pos h_41).trans ((if_pos h_53).trans ((if_neg (bn_f h_62)).trans (rfl)))))))
                exact e_wi S hr hlocks hP hS (congrArg (fun z => z.1) hF.symm) (congrArg (fun z => mW q xa ad sS sC fB gT z.2) hF.symm) d_M_unseal_66
            · -- 53: not taken
              refine lv_iconst (v := (3 : Int32)) hx hb d_M_unseal_56 (by decide) ?_
              have hF : f_M_unseal cK j1 j2 j3 = ((3 : Int32), cK) := (if_pos h_4).trans ((if_pos h_11).trans ((if_neg h_21).trans ((if_pos h_28).trans ((if_pos h_41).trans ((if_neg (bn_f h_53)).trans (rfl))))))
              exact e_wi S hr hlocks hP hS (congrArg (fun z => z.1) hF.symm) (congrArg (fun z => mW q xa ad sS sC fB gT z.2) hF.symm) d_M_unseal_57
          · -- 41: not taken
            refine lv_bipush (v := (7 : Int32)) hx hb d_M_unseal_44 (by decide) ?_
            have hF : f_M_unseal cK j1 j2 j3 = ((7 : Int32), cK) := (if_pos h_4).trans ((if_pos h_11).trans ((if_neg h_21).trans ((if_pos h_28).trans ((if_neg h_41).trans (rfl)))))
            exact e_wi S hr hlocks hP hS (congrArg (fun z => z.1) hF.symm) (congrArg (fun z => mW q xa ad sS sC fB gT z.2) hF.symm) d_M_unseal_46
        · -- 28: not taken
          refine lv_iconst (v := (2 : Int32)) hx hb d_M_unseal_31 (by decide) ?_
          have hF : f_M_unseal cK j1 j2 j3 = ((2 : Int32), cK) := (if_pos h_4).trans ((if_pos h_11).trans ((if_neg h_21).trans ((if_neg h_28).trans (rfl))))
          exact e_wi S hr hlocks hP hS (congrArg (fun z => z.1) hF.symm) (congrArg (fun z => mW q xa ad sS sC fB gT z.2) hF.symm) d_M_unseal_32
    · -- 11: not taken
      refine lv_iconst (v := (1 : Int32)) hx hb d_M_unseal_14 (by decide) ?_
      have hF : f_M_unseal cK j1 j2 j3 = ((1 : Int32), cK) := (if_pos h_4).trans ((if_neg (bn_f h_11)).trans (rfl))
      exact e_wi S hr hlocks hP hS (congrArg (fun z => z.1) hF.symm) (congrArg (fun z => mW q xa ad sS sC fB gT z.2) hF.symm) d_M_unseal_15
def f_M_makeEntry (cK : Nat → Cp) (j1 : Nat) (j2 : Nat) : Int32 × (Nat → Cp) :=
  if (k_v (cK j2)) = true then (if (k_y (cK j2)) = (0 : Int32) then (if (f_K_permits cK j2 (4 : Int32)) = true then ((0 : Int32), va_up (f_K_become cK j1 j2) j1 (s_y ((f_K_become cK j1 j2) j1) (1 : Int32)))
      else ((3 : Int32), cK))
    else ((2 : Int32), cK))
  else ((1 : Int32), cK)
set_option maxHeartbeats 4000000 in
set_option maxRecDepth 100000 in
theorem c_M_makeEntry (l : Launch) (D : va_G) (q : Nat → ClassId) (xa ad : Nat → Nat) (sS : Int32) (sC : Int32) (fB : Nat → Int32) (gT : Nat → Bool) (cK : Nat → Cp) (A : Nat → Prop) (hD : va_D A (mW q xa ad sS sC fB gT cK)) (j1 : Nat) (hj1 : j1 < 12) (j2 : Nat) (hj2 : j2 < 12) : WMi l y_M_makeEntry b_M_makeEntry 2 (some .int) ({ frames := 1, cells := 0, slots := 0, locals := 21 }) [.ref (ad j1), .ref (ad j2)] D (tyM q) (mW q xa ad sS sC fB gT cK) (mW q xa ad sS sC fB gT ((f_M_makeEntry cK j1 j2).2)) A (((f_M_makeEntry cK j1 j2).1)) := by
  refine ofI (by decide) (Nat.le_of_ble_eq_true rfl) ?_
  intro p e s m below meth c ls S hr hlocks hK hN hP hl
  have hx := S.1
  have hb := S.2.1
  have hS : va_S A s.heap s.heap [] := va_S.rf
  have hl : lv_has ls 2 [(0, .ref (ad j1)), (1, .ref (ad j2))] := hl
  refine lv_aload_n hx hb d_M_makeEntry_0 rfl (lv_at hl 1 rfl) ?_
  refine k_getN (v := .int (b2i (k_v (cK j2)))) S hK hP (by first | assumption | exact and7_lt _) 0 (by decide) hN fn_M_83 rfl d_M_makeEntry_1 ?_
  refine zb_ne (tgt := 9) hx hb d_M_makeEntry_4 rfl (fun h_4 => ?_) (fun h_4 => ?_)
  · -- 4: taken
    refine lv_aload_n hx hb d_M_makeEntry_9 rfl (lv_at hl 1 rfl) ?_
    refine k_getN (v := .int (k_y (cK j2))) S hK hP (by first | assumption | exact and7_lt _) 4 (by decide) hN fn_M_115 rfl d_M_makeEntry_10 ?_
    refine lv_if_eq (tgt := 18) hx hb d_M_makeEntry_13 rfl (fun h_13 => ?_) (fun h_13 => ?_)
    · -- 13: taken
      refine lv_aload_n hx hb d_M_makeEntry_18 rfl (lv_at hl 1 rfl) ?_
      refine lv_iconst (v := (4 : Int32)) hx hb d_M_makeEntry_19 (by decide) ?_
      refine c_pN [] S (c_K_permits l _ _ _ _ _ _ _ _ _ j2 (by first | assumption | exact and7_lt _) (4 : Int32)) mf_K_permits mn_M_118 hK hN hP (5 + j2) 0 (mW_get (by first | assumption | exact and7_lt _)) rfl ⟨rfl, rfl, Nat.le_of_ble_eq_true rfl, Nat.le_of_ble_eq_true rfl⟩ rfl hl.1 rfl (Nat.le_of_ble_eq_true rfl) d_M_makeEntry_20 ⟨Nat.zero_le _, Nat.zero_le _⟩ ?_
      refine zb_ne (tgt := 28) hx hb d_M_makeEntry_23 rfl (fun h_23 => ?_) (fun h_23 => ?_)
      · -- 23: taken
        refine lv_aload_n hx hb d_M_makeEntry_28 rfl (lv_at hl 0 rfl) ?_
        refine lv_aload_n hx hb d_M_makeEntry_29 rfl (lv_at hl 1 rfl) ?_
        refine c_vN [] S (c_K_become l _ _ _ _ _ _ _ _ _ A (mW_D hD) j1 (by first | assumption | exact and7_lt _) j2 (by first | assumption | exact and7_lt _)) mf_K_become mn_M_79 hK hN hP hS (5 + j1) 0 (mW_get (by first | assumption | exact and7_lt _)) rfl ⟨rfl, rfl, Nat.le_of_ble_eq_true rfl, Nat.le_of_ble_eq_true rfl⟩ rfl hl.1 rfl (Nat.le_of_ble_eq_true rfl) d_M_makeEntry_30 ⟨Nat.zero_le _, Nat.zero_le _⟩ (fun H locs hP hS => ?_)
        refine lv_aload_n hx hb d_M_makeEntry_33 rfl (lv_at hl 0 rfl) ?_
        refine lv_iconst (v := (1 : Int32)) hx hb d_M_makeEntry_34 (by decide) ?_
        refine k_putN S hK hP (mW_D hD) hS (by first | assumption | exact and7_lt _) 4 (by decide) hN fn_M_115 (s_y ((f_K_become cK j1 j2) j1) (1 : Int32)) rfl rfl rfl d_M_makeEntry_35 (fun H locs hP hS => ?_)
        refine lv_iconst (v := (0 : Int32)) hx hb d_M_makeEntry_38 (by decide) ?_
        have hF : f_M_makeEntry cK j1 j2 = ((0 : Int32), va_up (f_K_become cK j1 j2) j1 (s_y ((f_K_become cK j1 j2) j1) (1 : Int32))) := (if_pos h_4).trans ((if_pos h_13).trans ((if_pos h_23).trans (rfl)))
        exact e_wi S hr hlocks hP hS (congrArg (fun z => z.1) hF.symm) (congrArg (fun z => mW q xa ad sS sC fB gT z.2) hF.symm) d_M_makeEntry_39
      · -- 23: not taken
        refine lv_iconst (v := (3 : Int32)) hx hb d_M_makeEntry_26 (by decide) ?_
        have hF : f_M_makeEntry cK j1 j2 = ((3 : Int32), cK) := (if_pos h_4).trans ((if_pos h_13).trans ((if_neg (bn_f h_23)).trans (rfl)))
        exact e_wi S hr hlocks hP hS (congrArg (fun z => z.1) hF.symm) (congrArg (fun z => mW q xa ad sS sC fB gT z.2) hF.symm) d_M_makeEntry_27
    · -- 13: not taken
      refine lv_iconst (v := (2 : Int32)) hx hb d_M_makeEntry_16 (by decide) ?_
      have hF : f_M_makeEntry cK j1 j2 = ((2 : Int32), cK) := (if_pos h_4).trans ((if_neg h_13).trans (rfl))
      exact e_wi S hr hlocks hP hS (congrArg (fun z => z.1) hF.symm) (congrArg (fun z => mW q xa ad sS sC fB gT z.2) hF.symm) d_M_makeEntry_17
  · -- 4: not taken
    refine lv_iconst (v := (1 : Int32)) hx hb d_M_makeEntry_7 (by decide) ?_
    have hF : f_M_makeEntry cK j1 j2 = ((1 : Int32), cK) := (if_neg (bn_f h_4)).trans (rfl)
    exact e_wi S hr hlocks hP hS (congrArg (fun z => z.1) hF.symm) (congrArg (fun z => mW q xa ad sS sC fB gT z.2) hF.symm) d_M_makeEntry_8
def f_M_setHandler (cK : Nat → Cp) (j1 : Nat) : Int32 × (Nat → Cp) :=
  if (k_v (cK j1)) = true then (if (k_y (cK j1)) = (0 : Int32) then (if (f_K_permits cK j1 (4 : Int32)) = true then ((0 : Int32), (f_K_become cK 9 j1))
      else ((0 : Int32), cK))
    else ((0 : Int32), cK))
  else ((0 : Int32), cK)
set_option maxHeartbeats 4000000 in
set_option maxRecDepth 100000 in
theorem c_M_setHandler (l : Launch) (D : va_G) (q : Nat → ClassId) (xa ad : Nat → Nat) (sS : Int32) (sC : Int32) (fB : Nat → Int32) (gT : Nat → Bool) (cK : Nat → Cp) (A : Nat → Prop) (hD : va_D A (mW q xa ad sS sC fB gT cK)) (j1 : Nat) (hj1 : j1 < 12) : WMi l y_M_setHandler b_M_setHandler 2 (some .int) ({ frames := 1, cells := 0, slots := 0, locals := 21 }) [.ref (xa 0), .ref (ad j1)] D (tyM q) (mW q xa ad sS sC fB gT cK) (mW q xa ad sS sC fB gT ((f_M_setHandler cK j1).2)) A (((f_M_setHandler cK j1).1)) := by
  refine ofI (by decide) (Nat.le_of_ble_eq_true rfl) ?_
  intro p e s m below meth c ls S hr hlocks hK hN hP hl
  have hx := S.1
  have hb := S.2.1
  have hS : va_S A s.heap s.heap [] := va_S.rf
  have hl : lv_has ls 2 [(0, .ref (xa 0)), (1, .ref (ad j1))] := hl
  refine lv_aload_n hx hb d_M_setHandler_0 rfl (lv_at hl 1 rfl) ?_
  refine k_getN (v := .int (b2i (k_v (cK j1)))) S hK hP (by first | assumption | exact and7_lt _) 0 (by decide) hN fn_M_83 rfl d_M_setHandler_1 ?_
  refine zb_eq (tgt := 30) hx hb d_M_setHandler_4 rfl (fun h_4 => ?_) (fun h_4 => ?_)
  · -- 4: taken
    refine lv_iconst (v := (0 : Int32)) hx hb d_M_setHandler_30 (by decide) ?_
    have hF : f_M_setHandler cK j1 = ((0 : Int32), cK) := (if_neg (bn_f h_4)).trans (rfl)
    exact e_wi S hr hlocks hP hS (congrArg (fun z => z.1) hF.symm) (congrArg (fun z => mW q xa ad sS sC fB gT z.2) hF.symm) d_M_setHandler_31
  · -- 4: not taken
    refine lv_aload_n hx hb d_M_setHandler_7 rfl (lv_at hl 1 rfl) ?_
    refine k_getN (v := .int (k_y (cK j1))) S hK hP (by first | assumption | exact and7_lt _) 4 (by decide) hN fn_M_115 rfl d_M_setHandler_8 ?_
    refine lv_if_ne (tgt := 30) hx hb d_M_setHandler_11 rfl (fun h_11 => ?_) (fun h_11 => ?_)
    · -- 11: taken
      refine lv_iconst (v := (0 : Int32)) hx hb d_M_setHandler_30 (by decide) ?_
      have hF : f_M_setHandler cK j1 = ((0 : Int32), cK) := (if_pos h_4).trans ((if_neg h_11).trans (rfl))
      exact e_wi S hr hlocks hP hS (congrArg (fun z => z.1) hF.symm) (congrArg (fun z => mW q xa ad sS sC fB gT z.2) hF.symm) d_M_setHandler_31
    · -- 11: not taken
      refine lv_aload_n hx hb d_M_setHandler_14 rfl (lv_at hl 1 rfl) ?_
      refine lv_iconst (v := (4 : Int32)) hx hb d_M_setHandler_15 (by decide) ?_
      refine c_pN [] S (c_K_permits l _ _ _ _ _ _ _ _ _ j1 (by first | assumption | exact and7_lt _) (4 : Int32)) mf_K_permits mn_M_118 hK hN hP (5 + j1) 0 (mW_get (by first | assumption | exact and7_lt _)) rfl ⟨rfl, rfl, Nat.le_of_ble_eq_true rfl, Nat.le_of_ble_eq_true rfl⟩ rfl hl.1 rfl (Nat.le_of_ble_eq_true rfl) d_M_setHandler_16 ⟨Nat.zero_le _, Nat.zero_le _⟩ ?_
      refine zb_eq (tgt := 30) hx hb d_M_setHandler_19 rfl (fun h_19 => ?_) (fun h_19 => ?_)
      · -- 19: taken
        refine lv_iconst (v := (0 : Int32)) hx hb d_M_setHandler_30 (by decide) ?_
        have hF : f_M_setHandler cK j1 = ((0 : Int32), cK) := (if_pos h_4).trans ((if_pos h_11).trans ((if_neg (bn_f h_19)).trans (rfl)))
        exact e_wi S hr hlocks hP hS (congrArg (fun z => z.1) hF.symm) (congrArg (fun z => mW q xa ad sS sC fB gT z.2) hF.symm) d_M_setHandler_31
      · -- 19: not taken
        refine lv_aload_n hx hb d_M_setHandler_22 rfl (lv_at hl 0 rfl) ?_
        refine m_get S hK hP 2 (by decide) fl_M_20 rfl d_M_setHandler_23 ?_
        refine lv_aload_n hx hb d_M_setHandler_26 rfl (lv_at hl 1 rfl) ?_
        refine c_vN [] S (c_K_become l _ _ _ _ _ _ _ _ _ A (mW_D hD) 9 (by decide) j1 (by first | assumption | exact and7_lt _)) mf_K_become mn_M_79 hK hN hP hS (5 + 9) 0 (mW_get (by decide)) rfl ⟨rfl, rfl, Nat.le_of_ble_eq_true rfl, Nat.le_of_ble_eq_true rfl⟩ rfl hl.1 rfl (Nat.le_of_ble_eq_true rfl) d_M_setHandler_27 ⟨Nat.zero_le _, Nat.zero_le _⟩ (fun H locs hP hS => ?_)
        refine lv_iconst (v := (0 : Int32)) hx hb d_M_setHandler_30 (by decide) ?_
        have hF : f_M_setHandler cK j1 = ((0 : Int32), (f_K_become cK 9 j1)) := (if_pos h_4).trans ((if_pos h_11).trans ((if_pos h_19).trans (rfl)))
        exact e_wi S hr hlocks hP hS (congrArg (fun z => z.1) hF.symm) (congrArg (fun z => mW q xa ad sS sC fB gT z.2) hF.symm) d_M_setHandler_31
def f_M_permissionsFor (cK : Nat → Cp) (cd : Int32) (j1 : Nat) : Int32 :=
  if cd = (17 : Int32) then (1 : Int32)
  else if cd = (18 : Int32) then (1 : Int32)
  else if cd = (19 : Int32) then (9 : Int32)
  else if cd = (22 : Int32) then (if (k_v (cK j1)) = true then (18 : Int32) else (2 : Int32))
  else (2 : Int32)
set_option maxHeartbeats 4000000 in
set_option maxRecDepth 100000 in
theorem c_M_permissionsFor (l : Launch) (D : va_G) (q : Nat → ClassId) (xa ad : Nat → Nat) (sS : Int32) (sC : Int32) (fB : Nat → Int32) (gT : Nat → Bool) (cK : Nat → Cp) (cd : Int32) (j1 : Nat) (hj1 : j1 < 12) : PMi l y_M_permissionsFor b_M_permissionsFor 2 (some .int) ({ frames := 0, cells := 0, slots := 0, locals := 0 }) [.int cd, .ref (ad j1)] D (tyM q) (mW q xa ad sS sC fB gT cK) ((f_M_permissionsFor cK cd j1)) := by
  refine ofP (by decide) (Nat.le_of_ble_eq_true rfl) ?_
  intro p e s m below meth c ls S hr hlocks hK hN hP hl
  have hx := S.1
  have hb := S.2.1
  have hl : lv_has ls 2 [(0, .int cd), (1, .ref (ad j1))] := hl
  refine lv_iload_n hx hb d_M_permissionsFor_0 rfl (lv_at hl 0 rfl) ?_
  by_cases h_1_17 : cd = (17 : Int32)
  · -- 1: case 17
    refine t_in (17 : Int32) (off := 39) (tgt := 40) hx hb d_M_permissionsFor_1 h_1_17 (by decide) (by decide) (by decide) rfl ?_
    refine lv_iconst (v := (1 : Int32)) hx hb d_M_permissionsFor_40 (by decide) ?_
    exact e_pi S hr hlocks ((if_pos h_1_17).trans (rfl) : f_M_permissionsFor cK cd j1 = (1 : Int32)).symm d_M_permissionsFor_41
  by_cases h_1_18 : cd = (18 : Int32)
  · -- 1: case 18
    refine t_in (18 : Int32) (off := 39) (tgt := 40) hx hb d_M_permissionsFor_1 h_1_18 (by decide) (by decide) (by decide) rfl ?_
    refine lv_iconst (v := (1 : Int32)) hx hb d_M_permissionsFor_40 (by decide) ?_
    exact e_pi S hr hlocks ((if_neg h_1_17).trans ((if_pos h_1_18).trans (rfl)) : f_M_permissionsFor cK cd j1 = (1 : Int32)).symm d_M_permissionsFor_41
  by_cases h_1_19 : cd = (19 : Int32)
  · -- 1: case 19
    refine t_in (19 : Int32) (off := 41) (tgt := 42) hx hb d_M_permissionsFor_1 h_1_19 (by decide) (by decide) (by decide) rfl ?_
    refine lv_bipush (v := (9 : Int32)) hx hb d_M_permissionsFor_42 (by decide) ?_
    exact e_pi S hr hlocks ((if_neg h_1_17).trans ((if_neg h_1_18).trans ((if_pos h_1_19).trans (rfl))) : f_M_permissionsFor cK cd j1 = (9 : Int32)).symm d_M_permissionsFor_44
  by_cases h_1_22 : cd = (22 : Int32)
  · -- 1: case 22
    refine t_in (22 : Int32) (off := 44) (tgt := 45) hx hb d_M_permissionsFor_1 h_1_22 (by decide) (by decide) (by decide) rfl ?_
    refine lv_aload_n hx hb d_M_permissionsFor_45 rfl (lv_at hl 1 rfl) ?_
    refine k_getN (v := .int (b2i (k_v (cK j1)))) S hK hP (by first | assumption | exact and7_lt _) 0 (by decide) hN fn_M_83 rfl d_M_permissionsFor_46 ?_
    refine jn 58 ls [] (if (k_v (cK j1)) = true then (18 : Int32) else (2 : Int32)) ?_ (fun k_58 => ?_)
    · -- from 58 on
      exact e_pi S hr hlocks ((if_neg h_1_17).trans ((if_neg h_1_18).trans ((if_neg h_1_19).trans ((if_pos h_1_22).trans (rfl)))) : f_M_permissionsFor cK cd j1 = if (k_v (cK j1)) = true then (18 : Int32) else (2 : Int32)).symm d_M_permissionsFor_58
    · -- to 58
      refine zb_eq (tgt := 57) hx hb d_M_permissionsFor_49 rfl (fun h_49 => ?_) (fun h_49 => ?_)
      · -- 49: taken
        refine lv_iconst (v := (2 : Int32)) hx hb d_M_permissionsFor_57 (by decide) ?_
        exact k_58 _ ((if_neg (bn_f h_49)).trans (rfl) : (if (k_v (cK j1)) = true then (18 : Int32) else (2 : Int32)) = (2 : Int32)).symm
      · -- 49: not taken
        refine lv_bipush (v := (18 : Int32)) hx hb d_M_permissionsFor_52 (by decide) ?_
        refine lv_goto (tgt := 58) hx hb d_M_permissionsFor_54 rfl ?_
        exact k_58 _ ((if_pos h_49).trans (rfl) : (if (k_v (cK j1)) = true then (18 : Int32) else (2 : Int32)) = (18 : Int32)).symm
  refine t_no [17, 18, 19, 22] (tgt := 59) hx hb d_M_permissionsFor_1 (List.forall_mem_cons.mpr ⟨lv_neT h_1_17 (by decide), List.forall_mem_cons.mpr ⟨lv_neT h_1_18 (by decide), List.forall_mem_cons.mpr ⟨lv_neT h_1_19 (by decide), List.forall_mem_cons.mpr ⟨lv_neT h_1_22 (by decide), fun _ h => absurd h List.not_mem_nil⟩⟩⟩⟩) (by decide) rfl ?_
  refine lv_iconst (v := (2 : Int32)) hx hb d_M_permissionsFor_59 (by decide) ?_
  exact e_pi S hr hlocks ((if_neg h_1_17).trans ((if_neg h_1_18).trans ((if_neg h_1_19).trans ((if_neg h_1_22).trans (rfl)))) : f_M_permissionsFor cK cd j1 = (2 : Int32)).symm d_M_permissionsFor_60
def f_M_bytesOf (cd : Int32) : Int32 :=
  if cd = (17 : Int32) then (1 : Int32)
  else if cd = (18 : Int32) then (4 : Int32)
  else if cd = (20 : Int32) then (1 : Int32)
  else if cd = (21 : Int32) then (4 : Int32)
  else (8 : Int32)
set_option maxHeartbeats 4000000 in
set_option maxRecDepth 100000 in
theorem c_M_bytesOf (l : Launch) (D : va_G) (q : Nat → ClassId) (xa ad : Nat → Nat) (sS : Int32) (sC : Int32) (fB : Nat → Int32) (gT : Nat → Bool) (cK : Nat → Cp) (cd : Int32) : PMi l y_M_bytesOf b_M_bytesOf 1 (some .int) ({ frames := 0, cells := 0, slots := 0, locals := 0 }) [.int cd] D (tyM q) (mW q xa ad sS sC fB gT cK) ((f_M_bytesOf cd)) := by
  refine ofP (by decide) (Nat.le_of_ble_eq_true rfl) ?_
  intro p e s m below meth c ls S hr hlocks hK hN hP hl
  have hx := S.1
  have hb := S.2.1
  have hl : lv_has ls 1 [(0, .int cd)] := hl
  refine lv_iload_n hx hb d_M_bytesOf_0 rfl (lv_at hl 0 rfl) ?_
  by_cases h_1_17 : cd = (17 : Int32)
  · -- 1: case 17
    refine t_in (17 : Int32) (off := 35) (tgt := 36) hx hb d_M_bytesOf_1 h_1_17 (by decide) (by decide) (by decide) rfl ?_
    refine lv_iconst (v := (1 : Int32)) hx hb d_M_bytesOf_36 (by decide) ?_
    exact e_pi S hr hlocks ((if_pos h_1_17).trans (rfl) : f_M_bytesOf cd = (1 : Int32)).symm d_M_bytesOf_37
  by_cases h_1_18 : cd = (18 : Int32)
  · -- 1: case 18
    refine t_in (18 : Int32) (off := 37) (tgt := 38) hx hb d_M_bytesOf_1 h_1_18 (by decide) (by decide) (by decide) rfl ?_
    refine lv_iconst (v := (4 : Int32)) hx hb d_M_bytesOf_38 (by decide) ?_
    exact e_pi S hr hlocks ((if_neg h_1_17).trans ((if_pos h_1_18).trans (rfl)) : f_M_bytesOf cd = (4 : Int32)).symm d_M_bytesOf_39
  by_cases h_1_20 : cd = (20 : Int32)
  · -- 1: case 20
    refine t_in (20 : Int32) (off := 35) (tgt := 36) hx hb d_M_bytesOf_1 h_1_20 (by decide) (by decide) (by decide) rfl ?_
    refine lv_iconst (v := (1 : Int32)) hx hb d_M_bytesOf_36 (by decide) ?_
    exact e_pi S hr hlocks ((if_neg h_1_17).trans ((if_neg h_1_18).trans ((if_pos h_1_20).trans (rfl))) : f_M_bytesOf cd = (1 : Int32)).symm d_M_bytesOf_37
  by_cases h_1_21 : cd = (21 : Int32)
  · -- 1: case 21
    refine t_in (21 : Int32) (off := 37) (tgt := 38) hx hb d_M_bytesOf_1 h_1_21 (by decide) (by decide) (by decide) rfl ?_
    refine lv_iconst (v := (4 : Int32)) hx hb d_M_bytesOf_38 (by decide) ?_
    exact e_pi S hr hlocks ((if_neg h_1_17).trans ((if_neg h_1_18).trans ((if_neg h_1_20).trans ((if_pos h_1_21).trans (rfl)))) : f_M_bytesOf cd = (4 : Int32)).symm d_M_bytesOf_39
  refine t_no [17, 18, 20, 21] (tgt := 40) hx hb d_M_bytesOf_1 (List.forall_mem_cons.mpr ⟨lv_neT h_1_17 (by decide), List.forall_mem_cons.mpr ⟨lv_neT h_1_18 (by decide), List.forall_mem_cons.mpr ⟨lv_neT h_1_20 (by decide), List.forall_mem_cons.mpr ⟨lv_neT h_1_21 (by decide), fun _ h => absurd h List.not_mem_nil⟩⟩⟩⟩) (by decide) rfl ?_
  refine lv_bipush (v := (8 : Int32)) hx hb d_M_bytesOf_40 (by decide) ?_
  exact e_pi S hr hlocks ((if_neg h_1_17).trans ((if_neg h_1_18).trans ((if_neg h_1_20).trans ((if_neg h_1_21).trans (rfl)))) : f_M_bytesOf cd = (8 : Int32)).symm d_M_bytesOf_42
