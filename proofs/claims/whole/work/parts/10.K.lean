def f_K_becomeNumber (cK : Nat → Cp) (i0 : Nat) (nu : Int32) : (Nat → Cp) :=
  va_up cK i0 (s_a (s_y (s_p (s_t (s_b (s_v (cK i0) false) (0 : Int32)) (0 : Int32)) (0 : Int32)) (0 : Int32)) nu)
set_option maxHeartbeats 4000000 in
set_option maxRecDepth 100000 in
theorem c_K_becomeNumber (l : Launch) (D : va_G) (q : Nat → ClassId) (xa ad : Nat → Nat) (sS : Int32) (sC : Int32) (fB : Nat → Int32) (gT : Nat → Bool) (cK : Nat → Cp) (A : Nat → Prop) (hD : va_D A (mW q xa ad sS sC fB gT cK)) (i0 : Nat) (hi0 : i0 < 12) (nu : Int32) : WMv l y_K_becomeNumber b_K_becomeNumber 2 none ({ frames := 0, cells := 0, slots := 0, locals := 0 }) [.ref (ad i0), .int nu] D (tyM q) (mW q xa ad sS sC fB gT cK) (mW q xa ad sS sC fB gT (f_K_becomeNumber cK i0 nu)) A := by
  refine ofV (by decide) (Nat.le_of_ble_eq_true rfl) ?_
  intro p e s m below meth c ls S hr hlocks hK hN hP hl
  have hx := S.1
  have hb := S.2.1
  have hS : va_S A s.heap s.heap [] := va_S.rf
  have hl : lv_has ls 2 [(0, .ref (ad i0)), (1, .int nu)] := hl
  refine lv_aload_n hx hb d_K_becomeNumber_0 rfl (lv_at hl 0 rfl) ?_
  refine lv_iconst (v := (0 : Int32)) hx hb d_K_becomeNumber_1 (by decide) ?_
  refine k_put S hK hP (mW_D hD) hS (by first | assumption | exact and7_lt _) 0 (by decide) fl_K_9 (s_v (cK i0) false) rfl (b2i_nar false) (b2i_fit false) d_K_becomeNumber_2 (fun H locs hP hS => ?_)
  refine lv_aload_n hx hb d_K_becomeNumber_5 rfl (lv_at hl 0 rfl) ?_
  refine lv_iconst (v := (0 : Int32)) hx hb d_K_becomeNumber_6 (by decide) ?_
  refine k_putO S hK hP (mW_D hD) hS (by first | assumption | exact and7_lt _) 1 (by decide) fl_K_15 (s_b (s_v (cK i0) false) (0 : Int32)) rfl rfl rfl d_K_becomeNumber_7 (fun H locs hP hS => ?_)
  refine lv_aload_n hx hb d_K_becomeNumber_10 rfl (lv_at hl 0 rfl) ?_
  refine lv_iconst (v := (0 : Int32)) hx hb d_K_becomeNumber_11 (by decide) ?_
  refine k_putO S hK hP (mW_D hD) hS (by first | assumption | exact and7_lt _) 2 (by decide) fl_K_19 (s_t (s_b (s_v (cK i0) false) (0 : Int32)) (0 : Int32)) rfl rfl rfl d_K_becomeNumber_12 (fun H locs hP hS => ?_)
  refine lv_aload_n hx hb d_K_becomeNumber_15 rfl (lv_at hl 0 rfl) ?_
  refine lv_iconst (v := (0 : Int32)) hx hb d_K_becomeNumber_16 (by decide) ?_
  refine k_putO S hK hP (mW_D hD) hS (by first | assumption | exact and7_lt _) 3 (by decide) fl_K_22 (s_p (s_t (s_b (s_v (cK i0) false) (0 : Int32)) (0 : Int32)) (0 : Int32)) rfl rfl rfl d_K_becomeNumber_17 (fun H locs hP hS => ?_)
  refine lv_aload_n hx hb d_K_becomeNumber_20 rfl (lv_at hl 0 rfl) ?_
  refine lv_iconst (v := (0 : Int32)) hx hb d_K_becomeNumber_21 (by decide) ?_
  refine k_putO S hK hP (mW_D hD) hS (by first | assumption | exact and7_lt _) 4 (by decide) fl_K_25 (s_y (s_p (s_t (s_b (s_v (cK i0) false) (0 : Int32)) (0 : Int32)) (0 : Int32)) (0 : Int32)) rfl rfl rfl d_K_becomeNumber_22 (fun H locs hP hS => ?_)
  refine lv_aload_n hx hb d_K_becomeNumber_25 rfl (lv_at hl 0 rfl) ?_
  refine lv_iload_n hx hb d_K_becomeNumber_26 rfl (lv_at hl 1 rfl) ?_
  refine k_putO S hK hP (mW_D hD) hS (by first | assumption | exact and7_lt _) 5 (by decide) fl_K_28 (s_a (s_y (s_p (s_t (s_b (s_v (cK i0) false) (0 : Int32)) (0 : Int32)) (0 : Int32)) (0 : Int32)) nu) rfl rfl rfl d_K_becomeNumber_27 (fun H locs hP hS => ?_)
  have hF : f_K_becomeNumber cK i0 nu = va_up cK i0 (s_a (s_y (s_p (s_t (s_b (s_v (cK i0) false) (0 : Int32)) (0 : Int32)) (0 : Int32)) (0 : Int32)) nu) := rfl
  exact e_wv S hr hlocks hP hS (congrArg (fun z => mW q xa ad sS sC fB gT z) hF.symm) d_K_becomeNumber_30
def f_K_becomeGranted (cK : Nat → Cp) (i0 : Nat) (nb : Int32) (nt : Int32) (na : Int32) (np : Int32) : (Nat → Cp) :=
  va_up cK i0 (s_a (s_y (s_p (s_t (s_b (s_v (cK i0) true) nb) nt) np) (0 : Int32)) na)
set_option maxHeartbeats 4000000 in
set_option maxRecDepth 100000 in
theorem c_K_becomeGranted (l : Launch) (D : va_G) (q : Nat → ClassId) (xa ad : Nat → Nat) (sS : Int32) (sC : Int32) (fB : Nat → Int32) (gT : Nat → Bool) (cK : Nat → Cp) (A : Nat → Prop) (hD : va_D A (mW q xa ad sS sC fB gT cK)) (i0 : Nat) (hi0 : i0 < 12) (nb : Int32) (nt : Int32) (na : Int32) (np : Int32) : WMv l y_K_becomeGranted b_K_becomeGranted 5 none ({ frames := 0, cells := 0, slots := 0, locals := 0 }) [.ref (ad i0), .int nb, .int nt, .int na, .int np] D (tyM q) (mW q xa ad sS sC fB gT cK) (mW q xa ad sS sC fB gT (f_K_becomeGranted cK i0 nb nt na np)) A := by
  refine ofV (by decide) (Nat.le_of_ble_eq_true rfl) ?_
  intro p e s m below meth c ls S hr hlocks hK hN hP hl
  have hx := S.1
  have hb := S.2.1
  have hS : va_S A s.heap s.heap [] := va_S.rf
  have hl : lv_has ls 5 [(0, .ref (ad i0)), (1, .int nb), (2, .int nt), (3, .int na), (4, .int np)] := hl
  refine lv_aload_n hx hb d_K_becomeGranted_0 rfl (lv_at hl 0 rfl) ?_
  refine lv_iconst (v := (1 : Int32)) hx hb d_K_becomeGranted_1 (by decide) ?_
  refine k_put S hK hP (mW_D hD) hS (by first | assumption | exact and7_lt _) 0 (by decide) fl_K_9 (s_v (cK i0) true) rfl (b2i_nar true) (b2i_fit true) d_K_becomeGranted_2 (fun H locs hP hS => ?_)
  refine lv_aload_n hx hb d_K_becomeGranted_5 rfl (lv_at hl 0 rfl) ?_
  refine lv_iload_n hx hb d_K_becomeGranted_6 rfl (lv_at hl 1 rfl) ?_
  refine k_putO S hK hP (mW_D hD) hS (by first | assumption | exact and7_lt _) 1 (by decide) fl_K_15 (s_b (s_v (cK i0) true) nb) rfl rfl rfl d_K_becomeGranted_7 (fun H locs hP hS => ?_)
  refine lv_aload_n hx hb d_K_becomeGranted_10 rfl (lv_at hl 0 rfl) ?_
  refine lv_iload_n hx hb d_K_becomeGranted_11 rfl (lv_at hl 2 rfl) ?_
  refine k_putO S hK hP (mW_D hD) hS (by first | assumption | exact and7_lt _) 2 (by decide) fl_K_19 (s_t (s_b (s_v (cK i0) true) nb) nt) rfl rfl rfl d_K_becomeGranted_12 (fun H locs hP hS => ?_)
  refine lv_aload_n hx hb d_K_becomeGranted_15 rfl (lv_at hl 0 rfl) ?_
  refine lv_iload hx hb d_K_becomeGranted_16 (lv_at hl 4 rfl) ?_
  refine k_putO S hK hP (mW_D hD) hS (by first | assumption | exact and7_lt _) 3 (by decide) fl_K_22 (s_p (s_t (s_b (s_v (cK i0) true) nb) nt) np) rfl rfl rfl d_K_becomeGranted_18 (fun H locs hP hS => ?_)
  refine lv_aload_n hx hb d_K_becomeGranted_21 rfl (lv_at hl 0 rfl) ?_
  refine lv_iconst (v := (0 : Int32)) hx hb d_K_becomeGranted_22 (by decide) ?_
  refine k_putO S hK hP (mW_D hD) hS (by first | assumption | exact and7_lt _) 4 (by decide) fl_K_25 (s_y (s_p (s_t (s_b (s_v (cK i0) true) nb) nt) np) (0 : Int32)) rfl rfl rfl d_K_becomeGranted_23 (fun H locs hP hS => ?_)
  refine lv_aload_n hx hb d_K_becomeGranted_26 rfl (lv_at hl 0 rfl) ?_
  refine lv_iload_n hx hb d_K_becomeGranted_27 rfl (lv_at hl 3 rfl) ?_
  refine k_putO S hK hP (mW_D hD) hS (by first | assumption | exact and7_lt _) 5 (by decide) fl_K_28 (s_a (s_y (s_p (s_t (s_b (s_v (cK i0) true) nb) nt) np) (0 : Int32)) na) rfl rfl rfl d_K_becomeGranted_28 (fun H locs hP hS => ?_)
  have hF : f_K_becomeGranted cK i0 nb nt na np = va_up cK i0 (s_a (s_y (s_p (s_t (s_b (s_v (cK i0) true) nb) nt) np) (0 : Int32)) na) := rfl
  exact e_wv S hr hlocks hP hS (congrArg (fun z => mW q xa ad sS sC fB gT z) hF.symm) d_K_becomeGranted_31
def f_K_become (cK : Nat → Cp) (i0 : Nat) (j0 : Nat) : (Nat → Cp) :=
  va_up cK i0 (s_a (s_y (s_p (s_t (s_b (s_v (cK i0) (k_v (cK j0))) (k_b (cK j0))) (k_t (cK j0))) (k_p (cK j0))) (k_y (cK j0))) (k_a (cK j0)))
set_option maxHeartbeats 4000000 in
set_option maxRecDepth 100000 in
theorem c_K_become (l : Launch) (D : va_G) (q : Nat → ClassId) (xa ad : Nat → Nat) (sS : Int32) (sC : Int32) (fB : Nat → Int32) (gT : Nat → Bool) (cK : Nat → Cp) (A : Nat → Prop) (hD : va_D A (mW q xa ad sS sC fB gT cK)) (i0 : Nat) (hi0 : i0 < 12) (j0 : Nat) (hj0 : j0 < 12) : WMv l y_K_become b_K_become 2 none ({ frames := 0, cells := 0, slots := 0, locals := 0 }) [.ref (ad i0), .ref (ad j0)] D (tyM q) (mW q xa ad sS sC fB gT cK) (mW q xa ad sS sC fB gT (f_K_become cK i0 j0)) A := by
  refine ofV (by decide) (Nat.le_of_ble_eq_true rfl) ?_
  intro p e s m below meth c ls S hr hlocks hK hN hP hl
  have hx := S.1
  have hb := S.2.1
  have hS : va_S A s.heap s.heap [] := va_S.rf
  have hl : lv_has ls 2 [(0, .ref (ad i0)), (1, .ref (ad j0))] := hl
  refine lv_aload_n hx hb d_K_become_0 rfl (lv_at hl 0 rfl) ?_
  refine lv_aload_n hx hb d_K_become_1 rfl (lv_at hl 1 rfl) ?_
  refine k_get (v := .int (b2i (k_v (cK j0)))) S hK hP (by first | assumption | exact and7_lt _) 0 (by decide) fl_K_9 rfl d_K_become_2 ?_
  refine k_put S hK hP (mW_D hD) hS (by first | assumption | exact and7_lt _) 0 (by decide) fl_K_9 (s_v (cK i0) (k_v (cK j0))) rfl (b2i_nar (k_v (cK j0))) (b2i_fit (k_v (cK j0))) d_K_become_5 (fun H locs hP hS => ?_)
  refine lv_aload_n hx hb d_K_become_8 rfl (lv_at hl 0 rfl) ?_
  refine lv_aload_n hx hb d_K_become_9 rfl (lv_at hl 1 rfl) ?_
  refine k_getX (v := .int (k_b (cK j0))) S hK hP (by first | assumption | exact and7_lt _) 1 (by decide) fl_K_15 rfl rfl d_K_become_10 ?_
  refine k_putO S hK hP (mW_D hD) hS (by first | assumption | exact and7_lt _) 1 (by decide) fl_K_15 (s_b (s_v (cK i0) (k_v (cK j0))) (k_b (cK j0))) rfl rfl rfl d_K_become_13 (fun H locs hP hS => ?_)
  refine lv_aload_n hx hb d_K_become_16 rfl (lv_at hl 0 rfl) ?_
  refine lv_aload_n hx hb d_K_become_17 rfl (lv_at hl 1 rfl) ?_
  refine k_getX (v := .int (k_t (cK j0))) S hK hP (by first | assumption | exact and7_lt _) 2 (by decide) fl_K_19 rfl rfl d_K_become_18 ?_
  refine k_putO S hK hP (mW_D hD) hS (by first | assumption | exact and7_lt _) 2 (by decide) fl_K_19 (s_t (s_b (s_v (cK i0) (k_v (cK j0))) (k_b (cK j0))) (k_t (cK j0))) rfl rfl rfl d_K_become_21 (fun H locs hP hS => ?_)
  refine lv_aload_n hx hb d_K_become_24 rfl (lv_at hl 0 rfl) ?_
  refine lv_aload_n hx hb d_K_become_25 rfl (lv_at hl 1 rfl) ?_
  refine k_getX (v := .int (k_p (cK j0))) S hK hP (by first | assumption | exact and7_lt _) 3 (by decide) fl_K_22 rfl rfl d_K_become_26 ?_
  refine k_putO S hK hP (mW_D hD) hS (by first | assumption | exact and7_lt _) 3 (by decide) fl_K_22 (s_p (s_t (s_b (s_v (cK i0) (k_v (cK j0))) (k_b (cK j0))) (k_t (cK j0))) (k_p (cK j0))) rfl rfl rfl d_K_become_29 (fun H locs hP hS => ?_)
  refine lv_aload_n hx hb d_K_become_32 rfl (lv_at hl 0 rfl) ?_
  refine lv_aload_n hx hb d_K_become_33 rfl (lv_at hl 1 rfl) ?_
  refine k_getX (v := .int (k_y (cK j0))) S hK hP (by first | assumption | exact and7_lt _) 4 (by decide) fl_K_25 rfl rfl d_K_become_34 ?_
  refine k_putO S hK hP (mW_D hD) hS (by first | assumption | exact and7_lt _) 4 (by decide) fl_K_25 (s_y (s_p (s_t (s_b (s_v (cK i0) (k_v (cK j0))) (k_b (cK j0))) (k_t (cK j0))) (k_p (cK j0))) (k_y (cK j0))) rfl rfl rfl d_K_become_37 (fun H locs hP hS => ?_)
  refine lv_aload_n hx hb d_K_become_40 rfl (lv_at hl 0 rfl) ?_
  refine lv_aload_n hx hb d_K_become_41 rfl (lv_at hl 1 rfl) ?_
  refine k_getX (v := .int (k_a (cK j0))) S hK hP (by first | assumption | exact and7_lt _) 5 (by decide) fl_K_28 rfl rfl d_K_become_42 ?_
  refine k_putO S hK hP (mW_D hD) hS (by first | assumption | exact and7_lt _) 5 (by decide) fl_K_28 (s_a (s_y (s_p (s_t (s_b (s_v (cK i0) (k_v (cK j0))) (k_b (cK j0))) (k_t (cK j0))) (k_p (cK j0))) (k_y (cK j0))) (k_a (cK j0))) rfl rfl rfl d_K_become_45 (fun H locs hP hS => ?_)
  have hF : f_K_become cK i0 j0 = va_up cK i0 (s_a (s_y (s_p (s_t (s_b (s_v (cK i0) (k_v (cK j0))) (k_b (cK j0))) (k_t (cK j0))) (k_p (cK j0))) (k_y (cK j0))) (k_a (cK j0))) := rfl
  exact e_wv S hr hlocks hP hS (congrArg (fun z => mW q xa ad sS sC fB gT z) hF.symm) d_K_become_48
def f_K_becomeUnpacked (cK : Nat → Cp) (i0 : Nat) (tg : Bool) (na : Int32) (pk : Int32) : (Nat → Cp) :=
  va_up cK i0 (s_a (s_p (s_y (s_t (s_b (s_v (cK i0) tg) (pk &&& (1023 : Int32))) (((pk.toUInt32 >>> ((10 : Int32).toUInt32 &&& Int32.toUInt32 31)).toInt32) &&& (1023 : Int32))) (((pk.toUInt32 >>> ((20 : Int32).toUInt32 &&& Int32.toUInt32 31)).toInt32) &&& (15 : Int32))) (((pk.toUInt32 >>> ((24 : Int32).toUInt32 &&& Int32.toUInt32 31)).toInt32) &&& (255 : Int32))) na)
set_option maxHeartbeats 4000000 in
set_option maxRecDepth 100000 in
theorem c_K_becomeUnpacked (l : Launch) (D : va_G) (q : Nat → ClassId) (xa ad : Nat → Nat) (sS : Int32) (sC : Int32) (fB : Nat → Int32) (gT : Nat → Bool) (cK : Nat → Cp) (A : Nat → Prop) (hD : va_D A (mW q xa ad sS sC fB gT cK)) (i0 : Nat) (hi0 : i0 < 12) (tg : Bool) (na : Int32) (pk : Int32) : WMv l y_K_becomeUnpacked b_K_becomeUnpacked 4 none ({ frames := 0, cells := 0, slots := 0, locals := 0 }) [.ref (ad i0), .int (b2i tg), .int na, .int pk] D (tyM q) (mW q xa ad sS sC fB gT cK) (mW q xa ad sS sC fB gT (f_K_becomeUnpacked cK i0 tg na pk)) A := by
  refine ofV (by decide) (Nat.le_of_ble_eq_true rfl) ?_
  intro p e s m below meth c ls S hr hlocks hK hN hP hl
  have hx := S.1
  have hb := S.2.1
  have hS : va_S A s.heap s.heap [] := va_S.rf
  have hl : lv_has ls 4 [(0, .ref (ad i0)), (1, .int (b2i tg)), (2, .int na), (3, .int pk)] := hl
  refine lv_aload_n hx hb d_K_becomeUnpacked_0 rfl (lv_at hl 0 rfl) ?_
  refine lv_iload_n hx hb d_K_becomeUnpacked_1 rfl (lv_at hl 1 rfl) ?_
  refine k_put S hK hP (mW_D hD) hS (by first | assumption | exact and7_lt _) 0 (by decide) fl_K_9 (s_v (cK i0) tg) rfl (b2i_nar tg) (b2i_fit tg) d_K_becomeUnpacked_2 (fun H locs hP hS => ?_)
  refine lv_aload_n hx hb d_K_becomeUnpacked_5 rfl (lv_at hl 0 rfl) ?_
  refine lv_iload_n hx hb d_K_becomeUnpacked_6 rfl (lv_at hl 3 rfl) ?_
  refine lv_sipush (v := (1023 : Int32)) hx hb d_K_becomeUnpacked_7 (by decide) ?_
  refine lv_iand hx hb d_K_becomeUnpacked_10 ?_
  refine k_putO S hK hP (mW_D hD) hS (by first | assumption | exact and7_lt _) 1 (by decide) fl_K_15 (s_b (s_v (cK i0) tg) (pk &&& (1023 : Int32))) rfl rfl rfl d_K_becomeUnpacked_11 (fun H locs hP hS => ?_)
  refine lv_aload_n hx hb d_K_becomeUnpacked_14 rfl (lv_at hl 0 rfl) ?_
  refine lv_iload_n hx hb d_K_becomeUnpacked_15 rfl (lv_at hl 3 rfl) ?_
  refine lv_bipush (v := (10 : Int32)) hx hb d_K_becomeUnpacked_16 (by decide) ?_
  refine lv_iushr (v := (pk.toUInt32 >>> ((10 : Int32).toUInt32 &&& Int32.toUInt32 31)).toInt32) hx hb d_K_becomeUnpacked_18 rfl ?_
  refine lv_sipush (v := (1023 : Int32)) hx hb d_K_becomeUnpacked_19 (by decide) ?_
  refine lv_iand hx hb d_K_becomeUnpacked_22 ?_
  refine k_putO S hK hP (mW_D hD) hS (by first | assumption | exact and7_lt _) 2 (by decide) fl_K_19 (s_t (s_b (s_v (cK i0) tg) (pk &&& (1023 : Int32))) (((pk.toUInt32 >>> ((10 : Int32).toUInt32 &&& Int32.toUInt32 31)).toInt32) &&& (1023 : Int32))) rfl rfl rfl d_K_becomeUnpacked_23 (fun H locs hP hS => ?_)
  refine lv_aload_n hx hb d_K_becomeUnpacked_26 rfl (lv_at hl 0 rfl) ?_
  refine lv_iload_n hx hb d_K_becomeUnpacked_27 rfl (lv_at hl 3 rfl) ?_
  refine lv_bipush (v := (20 : Int32)) hx hb d_K_becomeUnpacked_28 (by decide) ?_
  refine lv_iushr (v := (pk.toUInt32 >>> ((20 : Int32).toUInt32 &&& Int32.toUInt32 31)).toInt32) hx hb d_K_becomeUnpacked_30 rfl ?_
  refine lv_bipush (v := (15 : Int32)) hx hb d_K_becomeUnpacked_31 (by decide) ?_
  refine lv_iand hx hb d_K_becomeUnpacked_33 ?_
  refine k_putO S hK hP (mW_D hD) hS (by first | assumption | exact and7_lt _) 4 (by decide) fl_K_25 (s_y (s_t (s_b (s_v (cK i0) tg) (pk &&& (1023 : Int32))) (((pk.toUInt32 >>> ((10 : Int32).toUInt32 &&& Int32.toUInt32 31)).toInt32) &&& (1023 : Int32))) (((pk.toUInt32 >>> ((20 : Int32).toUInt32 &&& Int32.toUInt32 31)).toInt32) &&& (15 : Int32))) rfl rfl rfl d_K_becomeUnpacked_34 (fun H locs hP hS => ?_)
  refine lv_aload_n hx hb d_K_becomeUnpacked_37 rfl (lv_at hl 0 rfl) ?_
  refine lv_iload_n hx hb d_K_becomeUnpacked_38 rfl (lv_at hl 3 rfl) ?_
  refine lv_bipush (v := (24 : Int32)) hx hb d_K_becomeUnpacked_39 (by decide) ?_
  refine lv_iushr (v := (pk.toUInt32 >>> ((24 : Int32).toUInt32 &&& Int32.toUInt32 31)).toInt32) hx hb d_K_becomeUnpacked_41 rfl ?_
  refine lv_sipush (v := (255 : Int32)) hx hb d_K_becomeUnpacked_42 (by decide) ?_
  refine lv_iand hx hb d_K_becomeUnpacked_45 ?_
  refine k_putO S hK hP (mW_D hD) hS (by first | assumption | exact and7_lt _) 3 (by decide) fl_K_22 (s_p (s_y (s_t (s_b (s_v (cK i0) tg) (pk &&& (1023 : Int32))) (((pk.toUInt32 >>> ((10 : Int32).toUInt32 &&& Int32.toUInt32 31)).toInt32) &&& (1023 : Int32))) (((pk.toUInt32 >>> ((20 : Int32).toUInt32 &&& Int32.toUInt32 31)).toInt32) &&& (15 : Int32))) (((pk.toUInt32 >>> ((24 : Int32).toUInt32 &&& Int32.toUInt32 31)).toInt32) &&& (255 : Int32))) rfl rfl rfl d_K_becomeUnpacked_46 (fun H locs hP hS => ?_)
  refine lv_aload_n hx hb d_K_becomeUnpacked_49 rfl (lv_at hl 0 rfl) ?_
  refine lv_iload_n hx hb d_K_becomeUnpacked_50 rfl (lv_at hl 2 rfl) ?_
  refine k_putO S hK hP (mW_D hD) hS (by first | assumption | exact and7_lt _) 5 (by decide) fl_K_28 (s_a (s_p (s_y (s_t (s_b (s_v (cK i0) tg) (pk &&& (1023 : Int32))) (((pk.toUInt32 >>> ((10 : Int32).toUInt32 &&& Int32.toUInt32 31)).toInt32) &&& (1023 : Int32))) (((pk.toUInt32 >>> ((20 : Int32).toUInt32 &&& Int32.toUInt32 31)).toInt32) &&& (15 : Int32))) (((pk.toUInt32 >>> ((24 : Int32).toUInt32 &&& Int32.toUInt32 31)).toInt32) &&& (255 : Int32))) na) rfl rfl rfl d_K_becomeUnpacked_51 (fun H locs hP hS => ?_)
  have hF : f_K_becomeUnpacked cK i0 tg na pk = va_up cK i0 (s_a (s_p (s_y (s_t (s_b (s_v (cK i0) tg) (pk &&& (1023 : Int32))) (((pk.toUInt32 >>> ((10 : Int32).toUInt32 &&& Int32.toUInt32 31)).toInt32) &&& (1023 : Int32))) (((pk.toUInt32 >>> ((20 : Int32).toUInt32 &&& Int32.toUInt32 31)).toInt32) &&& (15 : Int32))) (((pk.toUInt32 >>> ((24 : Int32).toUInt32 &&& Int32.toUInt32 31)).toInt32) &&& (255 : Int32))) na) := rfl
  exact e_wv S hr hlocks hP hS (congrArg (fun z => mW q xa ad sS sC fB gT z) hF.symm) d_K_becomeUnpacked_54
def f_K_packed (cK : Nat → Cp) (i0 : Nat) : Int32 :=
  (((k_b (cK i0)) ||| ((k_t (cK i0)) <<< ((10 : Int32) &&& 31))) ||| ((k_y (cK i0)) <<< ((20 : Int32) &&& 31))) ||| ((k_p (cK i0)) <<< ((24 : Int32) &&& 31))
set_option maxHeartbeats 4000000 in
set_option maxRecDepth 100000 in
theorem c_K_packed (l : Launch) (D : va_G) (q : Nat → ClassId) (xa ad : Nat → Nat) (sS : Int32) (sC : Int32) (fB : Nat → Int32) (gT : Nat → Bool) (cK : Nat → Cp) (i0 : Nat) (hi0 : i0 < 12) : PMi l y_K_packed b_K_packed 1 (some .int) ({ frames := 0, cells := 0, slots := 0, locals := 0 }) [.ref (ad i0)] D (tyM q) (mW q xa ad sS sC fB gT cK) ((f_K_packed cK i0)) := by
  refine ofP (by decide) (Nat.le_of_ble_eq_true rfl) ?_
  intro p e s m below meth c ls S hr hlocks hK hN hP hl
  have hx := S.1
  have hb := S.2.1
  have hl : lv_has ls 1 [(0, .ref (ad i0))] := hl
  refine lv_aload_n hx hb d_K_packed_0 rfl (lv_at hl 0 rfl) ?_
  refine k_get (v := .int (k_b (cK i0))) S hK hP (by first | assumption | exact and7_lt _) 1 (by decide) fl_K_15 rfl d_K_packed_1 ?_
  refine lv_aload_n hx hb d_K_packed_4 rfl (lv_at hl 0 rfl) ?_
  refine k_get (v := .int (k_t (cK i0))) S hK hP (by first | assumption | exact and7_lt _) 2 (by decide) fl_K_19 rfl d_K_packed_5 ?_
  refine lv_bipush (v := (10 : Int32)) hx hb d_K_packed_8 (by decide) ?_
  refine lv_ishl hx hb d_K_packed_10 ?_
  refine lv_ior hx hb d_K_packed_11 ?_
  refine lv_aload_n hx hb d_K_packed_12 rfl (lv_at hl 0 rfl) ?_
  refine k_get (v := .int (k_y (cK i0))) S hK hP (by first | assumption | exact and7_lt _) 4 (by decide) fl_K_25 rfl d_K_packed_13 ?_
  refine lv_bipush (v := (20 : Int32)) hx hb d_K_packed_16 (by decide) ?_
  refine lv_ishl hx hb d_K_packed_18 ?_
  refine lv_ior hx hb d_K_packed_19 ?_
  refine lv_aload_n hx hb d_K_packed_20 rfl (lv_at hl 0 rfl) ?_
  refine k_get (v := .int (k_p (cK i0))) S hK hP (by first | assumption | exact and7_lt _) 3 (by decide) fl_K_22 rfl d_K_packed_21 ?_
  refine lv_bipush (v := (24 : Int32)) hx hb d_K_packed_24 (by decide) ?_
  refine lv_ishl hx hb d_K_packed_26 ?_
  refine lv_ior hx hb d_K_packed_27 ?_
  exact e_pi S hr hlocks (rfl : f_K_packed cK i0 = (((k_b (cK i0)) ||| ((k_t (cK i0)) <<< ((10 : Int32) &&& 31))) ||| ((k_y (cK i0)) <<< ((20 : Int32) &&& 31))) ||| ((k_p (cK i0)) <<< ((24 : Int32) &&& 31))).symm d_K_packed_28
def f_K_moveTo (cK : Nat → Cp) (i0 : Nat) (na : Int32) : (Nat → Cp) :=
  va_up cK i0 (s_v (s_a (cK i0) na) (if (k_v (cK i0)) = true then (if (if na < ((k_b (cK i0)) - (64 : Int32)) then false else (if ((k_t (cK i0)) + (64 : Int32)) ≤ na then false else true)) = true then true else false) else false))
set_option maxHeartbeats 4000000 in
set_option maxRecDepth 100000 in
theorem c_K_moveTo (l : Launch) (D : va_G) (q : Nat → ClassId) (xa ad : Nat → Nat) (sS : Int32) (sC : Int32) (fB : Nat → Int32) (gT : Nat → Bool) (cK : Nat → Cp) (A : Nat → Prop) (hD : va_D A (mW q xa ad sS sC fB gT cK)) (i0 : Nat) (hi0 : i0 < 12) (na : Int32) : WMv l y_K_moveTo b_K_moveTo 3 none ({ frames := 0, cells := 0, slots := 0, locals := 0 }) [.ref (ad i0), .int na] D (tyM q) (mW q xa ad sS sC fB gT cK) (mW q xa ad sS sC fB gT (f_K_moveTo cK i0 na)) A := by
  refine ofV (by decide) (Nat.le_of_ble_eq_true rfl) ?_
  intro p e s m below meth c ls S hr hlocks hK hN hP hl
  have hx := S.1
  have hb := S.2.1
  have hS : va_S A s.heap s.heap [] := va_S.rf
  have hl : lv_has ls 3 [(0, .ref (ad i0)), (1, .int na)] := hl
  refine lv_aload_n hx hb d_K_moveTo_0 rfl (lv_at hl 0 rfl) ?_
  refine lv_iload_n hx hb d_K_moveTo_1 rfl (lv_at hl 1 rfl) ?_
  refine k_put S hK hP (mW_D hD) hS (by first | assumption | exact and7_lt _) 5 (by decide) fl_K_28 (s_a (cK i0) na) rfl rfl rfl d_K_moveTo_2 (fun H locs hP hS => ?_)
  refine lv_iload_n hx hb d_K_moveTo_5 rfl (lv_at hl 1 rfl) ?_
  refine lv_aload_n hx hb d_K_moveTo_6 rfl (lv_at hl 0 rfl) ?_
  refine k_getO (v := .int (k_b (cK i0))) S hK hP (by first | assumption | exact and7_lt _) 1 (by decide) fl_K_15 rfl d_K_moveTo_7 ?_
  refine lv_bipush (v := (64 : Int32)) hx hb d_K_moveTo_10 (by decide) ?_
  refine lv_isub hx hb d_K_moveTo_12 ?_
  refine jn 32 ls [] (b2i (if na < ((k_b (cK i0)) - (64 : Int32)) then false else (if ((k_t (cK i0)) + (64 : Int32)) ≤ na then false else true))) ?_ (fun k_32 => ?_)
  · -- from 32 on
    refine lv_istore_n (lv' := [(2, .int _), (0, .ref _), (1, .int _)]) hx hb d_K_moveTo_32 rfl hl (by decide) rfl (fun ls hl => ?_)
    refine lv_aload_n hx hb d_K_moveTo_33 rfl (lv_at hl 1 rfl) ?_
    refine lv_aload_n hx hb d_K_moveTo_34 rfl (lv_at hl 1 rfl) ?_
    refine k_getO (v := .int (b2i (k_v (cK i0)))) S hK hP (by first | assumption | exact and7_lt _) 0 (by decide) fl_K_9 rfl d_K_moveTo_35 ?_
    refine jn 50 ls [.ref (ad i0)] (b2i (if (k_v (cK i0)) = true then (if (if na < ((k_b (cK i0)) - (64 : Int32)) then false else (if ((k_t (cK i0)) + (64 : Int32)) ≤ na then false else true)) = true then true else false) else false)) ?_ (fun k_50 => ?_)
    · -- from 50 on
      refine k_putO S hK hP (mW_D hD) hS (by first | assumption | exact and7_lt _) 0 (by decide) fl_K_9 (s_v (s_a (cK i0) na) (if (k_v (cK i0)) = true then (if (if na < ((k_b (cK i0)) - (64 : Int32)) then false else (if ((k_t (cK i0)) + (64 : Int32)) ≤ na then false else true)) = true then true else false) else false)) rfl (b2i_nar (if (k_v (cK i0)) = true then (if (if na < ((k_b (cK i0)) - (64 : Int32)) then false else (if ((k_t (cK i0)) + (64 : Int32)) ≤ na then false else true)) = true then true else false) else false)) (b2i_fit (if (k_v (cK i0)) = true then (if (if na < ((k_b (cK i0)) - (64 : Int32)) then false else (if ((k_t (cK i0)) + (64 : Int32)) ≤ na then false else true)) = true then true else false) else false)) d_K_moveTo_50 (fun H locs hP hS => ?_)
      have hF : f_K_moveTo cK i0 na = va_up cK i0 (s_v (s_a (cK i0) na) (if (k_v (cK i0)) = true then (if (if na < ((k_b (cK i0)) - (64 : Int32)) then false else (if ((k_t (cK i0)) + (64 : Int32)) ≤ na then false else true)) = true then true else false) else false)) := rfl
      exact e_wv S hr hlocks hP hS (congrArg (fun z => mW q xa ad sS sC fB gT z) hF.symm) d_K_moveTo_53
    · -- to 50
      refine zb_eq (tgt := 49) hx hb d_K_moveTo_38 rfl (fun h_38 => ?_) (fun h_38 => ?_)
      · -- 38: taken
        refine lv_iconst (v := (0 : Int32)) hx hb d_K_moveTo_49 (by decide) ?_
        exact k_50 _ (congrArg b2i ((if_neg (bn_f h_38)).trans (rfl) : (if (k_v (cK i0)) = true then (if (if na < ((k_b (cK i0)) - (64 : Int32)) then false else (if ((k_t (cK i0)) + (64 : Int32)) ≤ na then false else true)) = true then true else false) else false) = false).symm)
      · -- 38: not taken
        refine lv_iload_n hx hb d_K_moveTo_41 rfl (lv_at hl 0 rfl) ?_
        refine zb_eq (tgt := 49) hx hb d_K_moveTo_42 rfl (fun h_42 => ?_) (fun h_42 => ?_)
        · -- 42: taken
          refine lv_iconst (v := (0 : Int32)) hx hb d_K_moveTo_49 (by decide) ?_
          exact k_50 _ (congrArg b2i ((if_pos h_38).trans ((if_neg (bn_f h_42)).trans (rfl)) : (if (k_v (cK i0)) = true then (if (if na < ((k_b (cK i0)) - (64 : Int32)) then false else (if ((k_t (cK i0)) + (64 : Int32)) ≤ na then false else true)) = true then true else false) else false) = false).symm)
        · -- 42: not taken
          refine lv_iconst (v := (1 : Int32)) hx hb d_K_moveTo_45 (by decide) ?_
          refine lv_goto (tgt := 50) hx hb d_K_moveTo_46 rfl ?_
          exact k_50 _ (congrArg b2i ((if_pos h_38).trans ((if_pos h_42).trans (rfl)) : (if (k_v (cK i0)) = true then (if (if na < ((k_b (cK i0)) - (64 : Int32)) then false else (if ((k_t (cK i0)) + (64 : Int32)) ≤ na then false else true)) = true then true else false) else false) = true).symm)
  · -- to 32
    refine lv_icmp_lt (tgt := 31) hx hb d_K_moveTo_13 rfl (fun h_13 => ?_) (fun h_13 => ?_)
    · -- 13: taken
      refine lv_iconst (v := (0 : Int32)) hx hb d_K_moveTo_31 (by decide) ?_
      exact k_32 _ (congrArg b2i ((if_pos h_13).trans (rfl) : (if na < ((k_b (cK i0)) - (64 : Int32)) then false else (if ((k_t (cK i0)) + (64 : Int32)) ≤ na then false else true)) = false).symm)
    · -- 13: not taken
      refine lv_iload_n hx hb d_K_moveTo_16 rfl (lv_at hl 1 rfl) ?_
      refine lv_aload_n hx hb d_K_moveTo_17 rfl (lv_at hl 0 rfl) ?_
      refine k_getO (v := .int (k_t (cK i0))) S hK hP (by first | assumption | exact and7_lt _) 2 (by decide) fl_K_19 rfl d_K_moveTo_18 ?_
      refine lv_bipush (v := (64 : Int32)) hx hb d_K_moveTo_21 (by decide) ?_
      refine lv_iadd hx hb d_K_moveTo_23 ?_
      refine lv_icmp_ge (tgt := 31) hx hb d_K_moveTo_24 rfl (fun h_24 => ?_) (fun h_24 => ?_)
      · -- 24: taken
        refine lv_iconst (v := (0 : Int32)) hx hb d_K_moveTo_31 (by decide) ?_
        exact k_32 _ (congrArg b2i ((if_neg h_13).trans ((if_pos h_24).trans (rfl)) : (if na < ((k_b (cK i0)) - (64 : Int32)) then false else (if ((k_t (cK i0)) + (64 : Int32)) ≤ na then false else true)) = false).symm)
      · -- 24: not taken
        refine lv_iconst (v := (1 : Int32)) hx hb d_K_moveTo_27 (by decide) ?_
        refine lv_goto (tgt := 32) hx hb d_K_moveTo_28 rfl ?_
        exact k_32 _ (congrArg b2i ((if_neg h_13).trans ((if_neg h_24).trans (rfl)) : (if na < ((k_b (cK i0)) - (64 : Int32)) then false else (if ((k_t (cK i0)) + (64 : Int32)) ≤ na then false else true)) = true).symm)
def f_K_part (cK : Nat → Cp) (i0 : Nat) (wh : Int32) : Int32 :=
  if wh = (0 : Int32) then (b2i (if (k_v (cK i0)) = true then true else false))
  else if wh = (1 : Int32) then (k_b (cK i0))
  else if wh = (2 : Int32) then (k_t (cK i0))
  else if wh = (3 : Int32) then (k_p (cK i0))
  else if wh = (4 : Int32) then (k_y (cK i0))
  else (k_a (cK i0))
set_option maxHeartbeats 4000000 in
set_option maxRecDepth 100000 in
theorem c_K_part (l : Launch) (D : va_G) (q : Nat → ClassId) (xa ad : Nat → Nat) (sS : Int32) (sC : Int32) (fB : Nat → Int32) (gT : Nat → Bool) (cK : Nat → Cp) (i0 : Nat) (hi0 : i0 < 12) (wh : Int32) : PMi l y_K_part b_K_part 2 (some .int) ({ frames := 0, cells := 0, slots := 0, locals := 0 }) [.ref (ad i0), .int wh] D (tyM q) (mW q xa ad sS sC fB gT cK) ((f_K_part cK i0 wh)) := by
  refine ofP (by decide) (Nat.le_of_ble_eq_true rfl) ?_
  intro p e s m below meth c ls S hr hlocks hK hN hP hl
  have hx := S.1
  have hb := S.2.1
  have hl : lv_has ls 2 [(0, .ref (ad i0)), (1, .int wh)] := hl
  refine lv_iload_n hx hb d_K_part_0 rfl (lv_at hl 1 rfl) ?_
  by_cases h_1_0 : wh = (0 : Int32)
  · -- 1: case 0
    refine t_in (0 : Int32) (off := 35) (tgt := 36) hx hb d_K_part_1 h_1_0 (by decide) (by decide) (by decide) rfl ?_
    refine lv_aload_n hx hb d_K_part_36 rfl (lv_at hl 0 rfl) ?_
    refine k_get (v := .int (b2i (k_v (cK i0)))) S hK hP (by first | assumption | exact and7_lt _) 0 (by decide) fl_K_9 rfl d_K_part_37 ?_
    refine jn 48 ls [] (b2i (if (k_v (cK i0)) = true then true else false)) ?_ (fun k_48 => ?_)
    · -- from 48 on
      exact e_pi S hr hlocks ((if_pos h_1_0).trans (rfl) : f_K_part cK i0 wh = b2i (if (k_v (cK i0)) = true then true else false)).symm d_K_part_48
    · -- to 48
      refine zb_eq (tgt := 47) hx hb d_K_part_40 rfl (fun h_40 => ?_) (fun h_40 => ?_)
      · -- 40: taken
        refine lv_iconst (v := (0 : Int32)) hx hb d_K_part_47 (by decide) ?_
        exact k_48 _ (congrArg b2i ((if_neg (bn_f h_40)).trans (rfl) : (if (k_v (cK i0)) = true then true else false) = false).symm)
      · -- 40: not taken
        refine lv_iconst (v := (1 : Int32)) hx hb d_K_part_43 (by decide) ?_
        refine lv_goto (tgt := 48) hx hb d_K_part_44 rfl ?_
        exact k_48 _ (congrArg b2i ((if_pos h_40).trans (rfl) : (if (k_v (cK i0)) = true then true else false) = true).symm)
  by_cases h_1_1 : wh = (1 : Int32)
  · -- 1: case 1
    refine t_in (1 : Int32) (off := 48) (tgt := 49) hx hb d_K_part_1 h_1_1 (by decide) (by decide) (by decide) rfl ?_
    refine lv_aload_n hx hb d_K_part_49 rfl (lv_at hl 0 rfl) ?_
    refine k_get (v := .int (k_b (cK i0))) S hK hP (by first | assumption | exact and7_lt _) 1 (by decide) fl_K_15 rfl d_K_part_50 ?_
    exact e_pi S hr hlocks ((if_neg h_1_0).trans ((if_pos h_1_1).trans (rfl)) : f_K_part cK i0 wh = k_b (cK i0)).symm d_K_part_53
  by_cases h_1_2 : wh = (2 : Int32)
  · -- 1: case 2
    refine t_in (2 : Int32) (off := 53) (tgt := 54) hx hb d_K_part_1 h_1_2 (by decide) (by decide) (by decide) rfl ?_
    refine lv_aload_n hx hb d_K_part_54 rfl (lv_at hl 0 rfl) ?_
    refine k_get (v := .int (k_t (cK i0))) S hK hP (by first | assumption | exact and7_lt _) 2 (by decide) fl_K_19 rfl d_K_part_55 ?_
    exact e_pi S hr hlocks ((if_neg h_1_0).trans ((if_neg h_1_1).trans ((if_pos h_1_2).trans (rfl))) : f_K_part cK i0 wh = k_t (cK i0)).symm d_K_part_58
  by_cases h_1_3 : wh = (3 : Int32)
  · -- 1: case 3
    refine t_in (3 : Int32) (off := 58) (tgt := 59) hx hb d_K_part_1 h_1_3 (by decide) (by decide) (by decide) rfl ?_
    refine lv_aload_n hx hb d_K_part_59 rfl (lv_at hl 0 rfl) ?_
    refine k_get (v := .int (k_p (cK i0))) S hK hP (by first | assumption | exact and7_lt _) 3 (by decide) fl_K_22 rfl d_K_part_60 ?_
    exact e_pi S hr hlocks ((if_neg h_1_0).trans ((if_neg h_1_1).trans ((if_neg h_1_2).trans ((if_pos h_1_3).trans (rfl)))) : f_K_part cK i0 wh = k_p (cK i0)).symm d_K_part_63
  by_cases h_1_4 : wh = (4 : Int32)
  · -- 1: case 4
    refine t_in (4 : Int32) (off := 63) (tgt := 64) hx hb d_K_part_1 h_1_4 (by decide) (by decide) (by decide) rfl ?_
    refine lv_aload_n hx hb d_K_part_64 rfl (lv_at hl 0 rfl) ?_
    refine k_get (v := .int (k_y (cK i0))) S hK hP (by first | assumption | exact and7_lt _) 4 (by decide) fl_K_25 rfl d_K_part_65 ?_
    exact e_pi S hr hlocks ((if_neg h_1_0).trans ((if_neg h_1_1).trans ((if_neg h_1_2).trans ((if_neg h_1_3).trans ((if_pos h_1_4).trans (rfl))))) : f_K_part cK i0 wh = k_y (cK i0)).symm d_K_part_68
  refine t_no [0, 1, 2, 3, 4] (tgt := 69) hx hb d_K_part_1 (List.forall_mem_cons.mpr ⟨lv_neT h_1_0 (by decide), List.forall_mem_cons.mpr ⟨lv_neT h_1_1 (by decide), List.forall_mem_cons.mpr ⟨lv_neT h_1_2 (by decide), List.forall_mem_cons.mpr ⟨lv_neT h_1_3 (by decide), List.forall_mem_cons.mpr ⟨lv_neT h_1_4 (by decide), fun _ h => absurd h List.not_mem_nil⟩⟩⟩⟩⟩) (by decide) rfl ?_
  refine lv_aload_n hx hb d_K_part_69 rfl (lv_at hl 0 rfl) ?_
  refine k_get (v := .int (k_a (cK i0))) S hK hP (by first | assumption | exact and7_lt _) 5 (by decide) fl_K_28 rfl d_K_part_70 ?_
  exact e_pi S hr hlocks ((if_neg h_1_0).trans ((if_neg h_1_1).trans ((if_neg h_1_2).trans ((if_neg h_1_3).trans ((if_neg h_1_4).trans (rfl))))) : f_K_part cK i0 wh = k_a (cK i0)).symm d_K_part_73
def f_K_permits (cK : Nat → Cp) (i0 : Nat) (nd : Int32) : Bool :=
  if ((k_p (cK i0)) &&& nd) = nd then true else false
set_option maxHeartbeats 4000000 in
set_option maxRecDepth 100000 in
theorem c_K_permits (l : Launch) (D : va_G) (q : Nat → ClassId) (xa ad : Nat → Nat) (sS : Int32) (sC : Int32) (fB : Nat → Int32) (gT : Nat → Bool) (cK : Nat → Cp) (i0 : Nat) (hi0 : i0 < 12) (nd : Int32) : PMi l y_K_permits b_K_permits 2 (some .boolean) ({ frames := 0, cells := 0, slots := 0, locals := 0 }) [.ref (ad i0), .int nd] D (tyM q) (mW q xa ad sS sC fB gT cK) (b2i (f_K_permits cK i0 nd)) := by
  refine ofP (by decide) (Nat.le_of_ble_eq_true rfl) ?_
  intro p e s m below meth c ls S hr hlocks hK hN hP hl
  have hx := S.1
  have hb := S.2.1
  have hl : lv_has ls 2 [(0, .ref (ad i0)), (1, .int nd)] := hl
  refine lv_aload_n hx hb d_K_permits_0 rfl (lv_at hl 0 rfl) ?_
  refine k_get (v := .int (k_p (cK i0))) S hK hP (by first | assumption | exact and7_lt _) 3 (by decide) fl_K_22 rfl d_K_permits_1 ?_
  refine lv_iload_n hx hb d_K_permits_4 rfl (lv_at hl 1 rfl) ?_
  refine lv_iand hx hb d_K_permits_5 ?_
  refine lv_iload_n hx hb d_K_permits_6 rfl (lv_at hl 1 rfl) ?_
  refine jn 15 ls [] (b2i (if ((k_p (cK i0)) &&& nd) = nd then true else false)) ?_ (fun k_15 => ?_)
  · -- from 15 on
    exact e_pz (z := if ((k_p (cK i0)) &&& nd) = nd then true else false) S hr hlocks (congrArg b2i (rfl : f_K_permits cK i0 nd = if ((k_p (cK i0)) &&& nd) = nd then true else false).symm) d_K_permits_15
  · -- to 15
    refine lv_icmp_ne (tgt := 14) hx hb d_K_permits_7 rfl (fun h_7 => ?_) (fun h_7 => ?_)
    · -- 7: taken
      refine lv_iconst (v := (0 : Int32)) hx hb d_K_permits_14 (by decide) ?_
      exact k_15 _ (congrArg b2i ((if_neg h_7).trans (rfl) : (if ((k_p (cK i0)) &&& nd) = nd then true else false) = false).symm)
    · -- 7: not taken
      refine lv_iconst (v := (1 : Int32)) hx hb d_K_permits_10 (by decide) ?_
      refine lv_goto (tgt := 15) hx hb d_K_permits_11 rfl ?_
      exact k_15 _ (congrArg b2i ((if_pos h_7).trans (rfl) : (if ((k_p (cK i0)) &&& nd) = nd then true else false) = true).symm)
def f_K_hasAddressInBounds (cK : Nat → Cp) (i0 : Nat) : Bool :=
  if (k_a (cK i0)) < (k_b (cK i0)) then false else (if (k_t (cK i0)) ≤ (k_a (cK i0)) then false else true)
set_option maxHeartbeats 4000000 in
set_option maxRecDepth 100000 in
theorem c_K_hasAddressInBounds (l : Launch) (D : va_G) (q : Nat → ClassId) (xa ad : Nat → Nat) (sS : Int32) (sC : Int32) (fB : Nat → Int32) (gT : Nat → Bool) (cK : Nat → Cp) (i0 : Nat) (hi0 : i0 < 12) : PMi l y_K_hasAddressInBounds b_K_hasAddressInBounds 1 (some .boolean) ({ frames := 0, cells := 0, slots := 0, locals := 0 }) [.ref (ad i0)] D (tyM q) (mW q xa ad sS sC fB gT cK) (b2i (f_K_hasAddressInBounds cK i0)) := by
  refine ofP (by decide) (Nat.le_of_ble_eq_true rfl) ?_
  intro p e s m below meth c ls S hr hlocks hK hN hP hl
  have hx := S.1
  have hb := S.2.1
  have hl : lv_has ls 1 [(0, .ref (ad i0))] := hl
  refine lv_aload_n hx hb d_K_hasAddressInBounds_0 rfl (lv_at hl 0 rfl) ?_
  refine k_get (v := .int (k_a (cK i0))) S hK hP (by first | assumption | exact and7_lt _) 5 (by decide) fl_K_28 rfl d_K_hasAddressInBounds_1 ?_
  refine lv_aload_n hx hb d_K_hasAddressInBounds_4 rfl (lv_at hl 0 rfl) ?_
  refine k_get (v := .int (k_b (cK i0))) S hK hP (by first | assumption | exact and7_lt _) 1 (by decide) fl_K_15 rfl d_K_hasAddressInBounds_5 ?_
  refine jn 27 ls [] (b2i (if (k_a (cK i0)) < (k_b (cK i0)) then false else (if (k_t (cK i0)) ≤ (k_a (cK i0)) then false else true))) ?_ (fun k_27 => ?_)
  · -- from 27 on
    exact e_pz (z := if (k_a (cK i0)) < (k_b (cK i0)) then false else (if (k_t (cK i0)) ≤ (k_a (cK i0)) then false else true)) S hr hlocks (congrArg b2i (rfl : f_K_hasAddressInBounds cK i0 = if (k_a (cK i0)) < (k_b (cK i0)) then false else (if (k_t (cK i0)) ≤ (k_a (cK i0)) then false else true)).symm) d_K_hasAddressInBounds_27
  · -- to 27
    refine lv_icmp_lt (tgt := 26) hx hb d_K_hasAddressInBounds_8 rfl (fun h_8 => ?_) (fun h_8 => ?_)
    · -- 8: taken
      refine lv_iconst (v := (0 : Int32)) hx hb d_K_hasAddressInBounds_26 (by decide) ?_
      exact k_27 _ (congrArg b2i ((if_pos h_8).trans (rfl) : (if (k_a (cK i0)) < (k_b (cK i0)) then false else (if (k_t (cK i0)) ≤ (k_a (cK i0)) then false else true)) = false).symm)
    · -- 8: not taken
      refine lv_aload_n hx hb d_K_hasAddressInBounds_11 rfl (lv_at hl 0 rfl) ?_
      refine k_get (v := .int (k_a (cK i0))) S hK hP (by first | assumption | exact and7_lt _) 5 (by decide) fl_K_28 rfl d_K_hasAddressInBounds_12 ?_
      refine lv_aload_n hx hb d_K_hasAddressInBounds_15 rfl (lv_at hl 0 rfl) ?_
      refine k_get (v := .int (k_t (cK i0))) S hK hP (by first | assumption | exact and7_lt _) 2 (by decide) fl_K_19 rfl d_K_hasAddressInBounds_16 ?_
      refine lv_icmp_ge (tgt := 26) hx hb d_K_hasAddressInBounds_19 rfl (fun h_19 => ?_) (fun h_19 => ?_)
      · -- 19: taken
        refine lv_iconst (v := (0 : Int32)) hx hb d_K_hasAddressInBounds_26 (by decide) ?_
        exact k_27 _ (congrArg b2i ((if_neg h_8).trans ((if_pos h_19).trans (rfl)) : (if (k_a (cK i0)) < (k_b (cK i0)) then false else (if (k_t (cK i0)) ≤ (k_a (cK i0)) then false else true)) = false).symm)
      · -- 19: not taken
        refine lv_iconst (v := (1 : Int32)) hx hb d_K_hasAddressInBounds_22 (by decide) ?_
        refine lv_goto (tgt := 27) hx hb d_K_hasAddressInBounds_23 rfl ?_
        exact k_27 _ (congrArg b2i ((if_neg h_8).trans ((if_neg h_19).trans (rfl)) : (if (k_a (cK i0)) < (k_b (cK i0)) then false else (if (k_t (cK i0)) ≤ (k_a (cK i0)) then false else true)) = true).symm)
def f_K_isWithin (cK : Nat → Cp) (i0 : Nat) (j0 : Nat) : Bool :=
  if (k_v (cK i0)) = (k_v (cK j0)) then (if (k_b (cK i0)) < (k_b (cK j0)) then false else (if (k_t (cK j0)) < (k_t (cK i0)) then false else (if (f_K_permits cK j0 (k_p (cK i0))) = true then true else false))) else false
set_option maxHeartbeats 4000000 in
set_option maxRecDepth 100000 in
theorem c_K_isWithin (l : Launch) (D : va_G) (q : Nat → ClassId) (xa ad : Nat → Nat) (sS : Int32) (sC : Int32) (fB : Nat → Int32) (gT : Nat → Bool) (cK : Nat → Cp) (i0 : Nat) (hi0 : i0 < 12) (j0 : Nat) (hj0 : j0 < 12) : PMi l y_K_isWithin b_K_isWithin 2 (some .boolean) ({ frames := 1, cells := 0, slots := 0, locals := 21 }) [.ref (ad i0), .ref (ad j0)] D (tyM q) (mW q xa ad sS sC fB gT cK) (b2i (f_K_isWithin cK i0 j0)) := by
  refine ofP (by decide) (Nat.le_of_ble_eq_true rfl) ?_
  intro p e s m below meth c ls S hr hlocks hK hN hP hl
  have hx := S.1
  have hb := S.2.1
  have hl : lv_has ls 2 [(0, .ref (ad i0)), (1, .ref (ad j0))] := hl
  refine lv_aload_n hx hb d_K_isWithin_0 rfl (lv_at hl 0 rfl) ?_
  refine k_get (v := .int (b2i (k_v (cK i0)))) S hK hP (by first | assumption | exact and7_lt _) 0 (by decide) fl_K_9 rfl d_K_isWithin_1 ?_
  refine lv_aload_n hx hb d_K_isWithin_4 rfl (lv_at hl 1 rfl) ?_
  refine k_get (v := .int (b2i (k_v (cK j0)))) S hK hP (by first | assumption | exact and7_lt _) 0 (by decide) fl_K_9 rfl d_K_isWithin_5 ?_
  refine jn 49 ls [] (b2i (if (k_v (cK i0)) = (k_v (cK j0)) then (if (k_b (cK i0)) < (k_b (cK j0)) then false else (if (k_t (cK j0)) < (k_t (cK i0)) then false else (if (f_K_permits cK j0 (k_p (cK i0))) = true then true else false))) else false)) ?_ (fun k_49 => ?_)
  · -- from 49 on
    exact e_pz (z := if (k_v (cK i0)) = (k_v (cK j0)) then (if (k_b (cK i0)) < (k_b (cK j0)) then false else (if (k_t (cK j0)) < (k_t (cK i0)) then false else (if (f_K_permits cK j0 (k_p (cK i0))) = true then true else false))) else false) S hr hlocks (congrArg b2i (rfl : f_K_isWithin cK i0 j0 = if (k_v (cK i0)) = (k_v (cK j0)) then (if (k_b (cK i0)) < (k_b (cK j0)) then false else (if (k_t (cK j0)) < (k_t (cK i0)) then false else (if (f_K_permits cK j0 (k_p (cK i0))) = true then true else false))) else false).symm) d_K_isWithin_49
  · -- to 49
    refine zc_ne (tgt := 48) hx hb d_K_isWithin_8 rfl (fun h_8 => ?_) (fun h_8 => ?_)
    · -- 8: taken
      refine lv_iconst (v := (0 : Int32)) hx hb d_K_isWithin_48 (by decide) ?_
      exact k_49 _ (congrArg b2i ((if_neg h_8).trans (rfl) : (if (k_v (cK i0)) = (k_v (cK j0)) then (if (k_b (cK i0)) < (k_b (cK j0)) then false else (if (k_t (cK j0)) < (k_t (cK i0)) then false else (if (f_K_permits cK j0 (k_p (cK i0))) = true then true else false))) else false) = false).symm)
    · -- 8: not taken
      refine lv_aload_n hx hb d_K_isWithin_11 rfl (lv_at hl 0 rfl) ?_
      refine k_get (v := .int (k_b (cK i0))) S hK hP (by first | assumption | exact and7_lt _) 1 (by decide) fl_K_15 rfl d_K_isWithin_12 ?_
      refine lv_aload_n hx hb d_K_isWithin_15 rfl (lv_at hl 1 rfl) ?_
      refine k_get (v := .int (k_b (cK j0))) S hK hP (by first | assumption | exact and7_lt _) 1 (by decide) fl_K_15 rfl d_K_isWithin_16 ?_
      refine lv_icmp_lt (tgt := 48) hx hb d_K_isWithin_19 rfl (fun h_19 => ?_) (fun h_19 => ?_)
      · -- 19: taken
        refine lv_iconst (v := (0 : Int32)) hx hb d_K_isWithin_48 (by decide) ?_
        exact k_49 _ (congrArg b2i ((if_pos h_8).trans ((if_pos h_19).trans (rfl)) : (if (k_v (cK i0)) = (k_v (cK j0)) then (if (k_b (cK i0)) < (k_b (cK j0)) then false else (if (k_t (cK j0)) < (k_t (cK i0)) then false else (if (f_K_permits cK j0 (k_p (cK i0))) = true then true else false))) else false) = false).symm)
      · -- 19: not taken
        refine lv_aload_n hx hb d_K_isWithin_22 rfl (lv_at hl 0 rfl) ?_
        refine k_get (v := .int (k_t (cK i0))) S hK hP (by first | assumption | exact and7_lt _) 2 (by decide) fl_K_19 rfl d_K_isWithin_23 ?_
        refine lv_aload_n hx hb d_K_isWithin_26 rfl (lv_at hl 1 rfl) ?_
        refine k_get (v := .int (k_t (cK j0))) S hK hP (by first | assumption | exact and7_lt _) 2 (by decide) fl_K_19 rfl d_K_isWithin_27 ?_
        refine lv_icmp_gt (tgt := 48) hx hb d_K_isWithin_30 rfl (fun h_30 => ?_) (fun h_30 => ?_)
        · -- 30: taken
          refine lv_iconst (v := (0 : Int32)) hx hb d_K_isWithin_48 (by decide) ?_
          exact k_49 _ (congrArg b2i ((if_pos h_8).trans ((if_neg h_19).trans ((if_pos h_30).trans (rfl))) : (if (k_v (cK i0)) = (k_v (cK j0)) then (if (k_b (cK i0)) < (k_b (cK j0)) then false else (if (k_t (cK j0)) < (k_t (cK i0)) then false else (if (f_K_permits cK j0 (k_p (cK i0))) = true then true else false))) else false) = false).symm)
        · -- 30: not taken
          refine lv_aload_n hx hb d_K_isWithin_33 rfl (lv_at hl 1 rfl) ?_
          refine lv_aload_n hx hb d_K_isWithin_34 rfl (lv_at hl 0 rfl) ?_
          refine k_get (v := .int (k_p (cK i0))) S hK hP (by first | assumption | exact and7_lt _) 3 (by decide) fl_K_22 rfl d_K_isWithin_35 ?_
          refine c_pV [] S (c_K_permits l _ _ _ _ _ _ _ _ _ j0 (by first | assumption | exact and7_lt _) (k_p (cK i0))) mf_K_permits ml_K_31 hK hN hP (5 + j0) 0 (mW_get (by first | assumption | exact and7_lt _)) rfl ⟨rfl, rfl, Nat.le_of_ble_eq_true rfl, Nat.le_of_ble_eq_true rfl⟩ rfl hl.1 rfl (Nat.le_of_ble_eq_true rfl) d_K_isWithin_38 ⟨Nat.zero_le _, Nat.zero_le _⟩ ?_
          refine zb_eq (tgt := 48) hx hb d_K_isWithin_41 rfl (fun h_41 => ?_) (fun h_41 => ?_)
          · -- 41: taken
            refine lv_iconst (v := (0 : Int32)) hx hb d_K_isWithin_48 (by decide) ?_
            exact k_49 _ (congrArg b2i ((if_pos h_8).trans ((if_neg h_19).trans ((if_neg h_30).trans ((if_neg (bn_f h_41)).trans (rfl)))) : (if (k_v (cK i0)) = (k_v (cK j0)) then (if (k_b (cK i0)) < (k_b (cK j0)) then false else (if (k_t (cK j0)) < (k_t (cK i0)) then false else (if (f_K_permits cK j0 (k_p (cK i0))) = true then true else false))) else false) = false).symm)
          · -- 41: not taken
            refine lv_iconst (v := (1 : Int32)) hx hb d_K_isWithin_44 (by decide) ?_
            refine lv_goto (tgt := 49) hx hb d_K_isWithin_45 rfl ?_
            exact k_49 _ (congrArg b2i ((if_pos h_8).trans ((if_neg h_19).trans ((if_neg h_30).trans ((if_pos h_41).trans (rfl)))) : (if (k_v (cK i0)) = (k_v (cK j0)) then (if (k_b (cK i0)) < (k_b (cK j0)) then false else (if (k_t (cK j0)) < (k_t (cK i0)) then false else (if (f_K_permits cK j0 (k_p (cK i0))) = true then true else false))) else false) = true).symm)
def f_K_refusal (cK : Nat → Cp) (i0 : Nat) (nd : Int32) (xl : Int64) (bt : Int32) : Int32 :=
  if (k_v (cK i0)) = true then (if (k_y (cK i0)) = (0 : Int32) then (if (f_K_permits cK i0 nd) = true then (if (lg_cmp xl ((k_b (cK i0)).toInt64)) < (0 : Int32) then (4 : Int32)
        else if (0 : Int32) < (lg_cmp (xl + bt.toInt64) ((k_t (cK i0)).toInt64)) then (4 : Int32)
        else if (lg_cmp (xl + bt.toInt64) (512 : Int64)) ≤ (0 : Int32) then (if (lg_cmp (xl &&& ((bt - (1 : Int32)).toInt64)) (0 : Int64)) = (0 : Int32) then (0 : Int32) else (5 : Int32))
        else (4 : Int32))
      else (3 : Int32))
    else (2 : Int32))
  else (1 : Int32)
set_option maxHeartbeats 4000000 in
set_option maxRecDepth 100000 in
theorem c_K_refusal (l : Launch) (D : va_G) (q : Nat → ClassId) (xa ad : Nat → Nat) (sS : Int32) (sC : Int32) (fB : Nat → Int32) (gT : Nat → Bool) (cK : Nat → Cp) (i0 : Nat) (hi0 : i0 < 12) (nd : Int32) (xl : Int64) (bt : Int32) : PMi l y_K_refusal b_K_refusal 5 (some .int) ({ frames := 1, cells := 0, slots := 0, locals := 21 }) [.ref (ad i0), .int nd, .long xl, .int bt] D (tyM q) (mW q xa ad sS sC fB gT cK) ((f_K_refusal cK i0 nd xl bt)) := by
  refine ofP (by decide) (Nat.le_of_ble_eq_true rfl) ?_
  intro p e s m below meth c ls S hr hlocks hK hN hP hl
  have hx := S.1
  have hb := S.2.1
  have hl : lv_has ls 5 [(0, .ref (ad i0)), (1, .int nd), (2, .long xl), (4, .int bt)] := hl
  refine lv_aload_n hx hb d_K_refusal_0 rfl (lv_at hl 0 rfl) ?_
  refine k_get (v := .int (b2i (k_v (cK i0)))) S hK hP (by first | assumption | exact and7_lt _) 0 (by decide) fl_K_9 rfl d_K_refusal_1 ?_
  refine zb_ne (tgt := 9) hx hb d_K_refusal_4 rfl (fun h_4 => ?_) (fun h_4 => ?_)
  · -- 4: taken
    refine lv_aload_n hx hb d_K_refusal_9 rfl (lv_at hl 0 rfl) ?_
    refine k_get (v := .int (k_y (cK i0))) S hK hP (by first | assumption | exact and7_lt _) 4 (by decide) fl_K_25 rfl d_K_refusal_10 ?_
    refine lv_if_eq (tgt := 18) hx hb d_K_refusal_13 rfl (fun h_13 => ?_) (fun h_13 => ?_)
    · -- 13: taken
      refine lv_aload_n hx hb d_K_refusal_18 rfl (lv_at hl 0 rfl) ?_
      refine lv_iload_n hx hb d_K_refusal_19 rfl (lv_at hl 1 rfl) ?_
      refine c_pV [] S (c_K_permits l _ _ _ _ _ _ _ _ _ i0 (by first | assumption | exact and7_lt _) nd) mf_K_permits ml_K_31 hK hN hP (5 + i0) 0 (mW_get (by first | assumption | exact and7_lt _)) rfl ⟨rfl, rfl, Nat.le_of_ble_eq_true rfl, Nat.le_of_ble_eq_true rfl⟩ rfl hl.1 rfl (Nat.le_of_ble_eq_true rfl) d_K_refusal_20 ⟨Nat.zero_le _, Nat.zero_le _⟩ ?_
      refine zb_ne (tgt := 28) hx hb d_K_refusal_23 rfl (fun h_23 => ?_) (fun h_23 => ?_)
      · -- 23: taken
        refine lv_lload_n hx hb d_K_refusal_28 rfl (lv_at hl 2 rfl) ?_
        refine lv_aload_n hx hb d_K_refusal_29 rfl (lv_at hl 0 rfl) ?_
        refine k_get (v := .int (k_b (cK i0))) S hK hP (by first | assumption | exact and7_lt _) 1 (by decide) fl_K_15 rfl d_K_refusal_30 ?_
        refine lv_i2l (v := (k_b (cK i0)).toInt64) hx hb d_K_refusal_33 rfl ?_
        refine W.lcmp hx hb d_K_refusal_34 ?_
        refine lv_if_lt (tgt := 64) hx hb d_K_refusal_35 rfl (fun h_35 => ?_) (fun h_35 => ?_)
        · -- 35: taken
          refine lv_iconst (v := (4 : Int32)) hx hb d_K_refusal_64 (by decide) ?_
          exact e_pi S hr hlocks ((if_pos h_4).trans ((if_pos h_13).trans ((if_pos h_23).trans ((if_pos h_35).trans (rfl)))) : f_K_refusal cK i0 nd xl bt = (4 : Int32)).symm d_K_refusal_65
        · -- 35: not taken
          refine lv_lload_n hx hb d_K_refusal_38 rfl (lv_at hl 2 rfl) ?_
          refine lv_iload hx hb d_K_refusal_39 (lv_at hl 3 rfl) ?_
          refine lv_i2l (v := bt.toInt64) hx hb d_K_refusal_41 rfl ?_
          refine lv_ladd hx hb d_K_refusal_42 ?_
          refine lv_aload_n hx hb d_K_refusal_43 rfl (lv_at hl 0 rfl) ?_
          refine k_get (v := .int (k_t (cK i0))) S hK hP (by first | assumption | exact and7_lt _) 2 (by decide) fl_K_19 rfl d_K_refusal_44 ?_
          refine lv_i2l (v := (k_t (cK i0)).toInt64) hx hb d_K_refusal_47 rfl ?_
          refine W.lcmp hx hb d_K_refusal_48 ?_
          refine lv_if_gt (tgt := 64) hx hb d_K_refusal_49 rfl (fun h_49 => ?_) (fun h_49 => ?_)
          · -- 49: taken
            refine lv_iconst (v := (4 : Int32)) hx hb d_K_refusal_64 (by decide) ?_
            exact e_pi S hr hlocks ((if_pos h_4).trans ((if_pos h_13).trans ((if_pos h_23).trans ((if_neg h_35).trans ((if_pos h_49).trans (rfl))))) : f_K_refusal cK i0 nd xl bt = (4 : Int32)).symm d_K_refusal_65
          · -- 49: not taken
            refine lv_lload_n hx hb d_K_refusal_52 rfl (lv_at hl 2 rfl) ?_
            refine lv_iload hx hb d_K_refusal_53 (lv_at hl 3 rfl) ?_
            refine lv_i2l (v := bt.toInt64) hx hb d_K_refusal_55 rfl ?_
            refine lv_ladd hx hb d_K_refusal_56 ?_
            refine lv_ldc2 (v := (512 : Int64)) hx hb S.2.2.2.1 (S.2.2.2.2 _ kl_K_35) d_K_refusal_57 ?_
            refine W.lcmp hx hb d_K_refusal_60 ?_
            refine lv_if_le (tgt := 66) hx hb d_K_refusal_61 rfl (fun h_61 => ?_) (fun h_61 => ?_)
            · -- 61: taken
              refine lv_lload_n hx hb d_K_refusal_66 rfl (lv_at hl 2 rfl) ?_
              refine lv_iload hx hb d_K_refusal_67 (lv_at hl 3 rfl) ?_
              refine lv_iconst (v := (1 : Int32)) hx hb d_K_refusal_69 (by decide) ?_
              refine lv_isub hx hb d_K_refusal_70 ?_
              refine lv_i2l (v := (bt - (1 : Int32)).toInt64) hx hb d_K_refusal_71 rfl ?_
              refine lv_land hx hb d_K_refusal_72 ?_
              refine lv_lconst (v := (0 : Int64)) hx hb d_K_refusal_73 (by decide) ?_
              refine W.lcmp hx hb d_K_refusal_74 ?_
              refine jn 83 ls [] (if (lg_cmp (xl &&& ((bt - (1 : Int32)).toInt64)) (0 : Int64)) = (0 : Int32) then (0 : Int32) else (5 : Int32)) ?_ (fun k_83 => ?_)
              · -- from 83 on
                exact e_pi S hr hlocks ((if_pos h_4).trans ((if_pos h_13).trans ((if_pos h_23).trans ((if_neg h_35).trans ((if_neg h_49).trans ((if_pos h_61).trans (rfl)))))) : f_K_refusal cK i0 nd xl bt = if (lg_cmp (xl &&& ((bt - (1 : Int32)).toInt64)) (0 : Int64)) = (0 : Int32) then (0 : Int32) else (5 : Int32)).symm d_K_refusal_83
              · -- to 83
                refine lv_if_ne (tgt := 82) hx hb d_K_refusal_75 rfl (fun h_75 => ?_) (fun h_75 => ?_)
                · -- 75: taken
                  refine lv_iconst (v := (5 : Int32)) hx hb d_K_refusal_82 (by decide) ?_
                  exact k_83 _ ((if_neg h_75).trans (rfl) : (if (lg_cmp (xl &&& ((bt - (1 : Int32)).toInt64)) (0 : Int64)) = (0 : Int32) then (0 : Int32) else (5 : Int32)) = (5 : Int32)).symm
                · -- 75: not taken
                  refine lv_iconst (v := (0 : Int32)) hx hb d_K_refusal_78 (by decide) ?_
                  refine lv_goto (tgt := 83) hx hb d_K_refusal_79 rfl ?_
                  exact k_83 _ ((if_pos h_75).trans (rfl) : (if (lg_cmp (xl &&& ((bt - (1 : Int32)).toInt64)) (0 : Int64)) = (0 : Int32) then (0 : Int32) else (5 : Int32)) = (0 : Int32)).symm
            · -- 61: not taken
              refine lv_iconst (v := (4 : Int32)) hx hb d_K_refusal_64 (by decide) ?_
              exact e_pi S hr hlocks ((if_pos h_4).trans ((if_pos h_13).trans ((if_pos h_23).trans ((if_neg h_35).trans ((if_neg h_49).trans ((if_neg h_61).trans (rfl)))))) : f_K_refusal cK i0 nd xl bt = (4 : Int32)).symm d_K_refusal_65
      · -- 23: not taken
        refine lv_iconst (v := (3 : Int32)) hx hb d_K_refusal_26 (by decide) ?_
        exact e_pi S hr hlocks ((if_pos h_4).trans ((if_pos h_13).trans ((if_neg (bn_f h_23)).trans (rfl))) : f_K_refusal cK i0 nd xl bt = (3 : Int32)).symm d_K_refusal_27
    · -- 13: not taken
      refine lv_iconst (v := (2 : Int32)) hx hb d_K_refusal_16 (by decide) ?_
      exact e_pi S hr hlocks ((if_pos h_4).trans ((if_neg h_13).trans (rfl)) : f_K_refusal cK i0 nd xl bt = (2 : Int32)).symm d_K_refusal_17
  · -- 4: not taken
    refine lv_iconst (v := (1 : Int32)) hx hb d_K_refusal_7 (by decide) ?_
    exact e_pi S hr hlocks ((if_neg (bn_f h_4)).trans (rfl) : f_K_refusal cK i0 nd xl bt = (1 : Int32)).symm d_K_refusal_8
